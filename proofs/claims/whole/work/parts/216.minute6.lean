/-! a minute in the reference -/
section ACT5
variable {M : Nat → Nat → Int32} {g : Nat → Nat → Nat}
theorem q_dn_dn (a b c : Nat) : q_dn (q_dn a b) c = q_dn a (b ||| c) := by
  apply Nat.eq_of_testBit_eq
  intro i
  rw [q_dn_bit, q_dn_bit, q_dn_bit, Nat.testBit_or]
  cases a.testBit i <;> cases b.testBit i <;> cases c.testBit i <;> rfl
theorem q_updd (r : Nat → Int32) (i : Nat) (x y : Int32) : upd (upd r i x) i y = upd r i y := by
  funext j
  unfold upd
  by_cases h : j = i
  · rw [if_pos h, if_pos h]
  · rw [if_neg h, if_neg h, if_neg h]
/-- the picture of 'now' while a minute goes, i candles done -/
def q_mn6 (g : Nat → Nat → Nat) (i : Nat) : Nat → Nat → Nat := q_up (q_mn g i) 11 0 (q_dn (g 11 0) (q_outs g i))
theorem q_mn6_k (g : Nat → Nat → Nat) (i : Nat) {a b : Nat} (h0 : a ≠ 0) (h5 : a ≠ 5) (h11 : a ≠ 11) : q_mn6 g i a b = g a b := by
  unfold q_mn6
  rw [q_up_k _ h11, q_mn_k _ _ h0 h5]
theorem q_mn6_at (g : Nat → Nat → Nat) (i : Nat) {a : Nat} (h11 : a ≠ 11) : q_mn6 g i a i = g a i := by
  unfold q_mn6
  rw [q_up_k _ h11, q_mn_at]
theorem q_mn6_lit (g : Nat → Nat → Nat) (i : Nat) : q_lit (q_mn6 g i) i = q_lit g i := by
  unfold q_lit q_mn6
  rw [q_up_s, q_dn_bit, q_outs_bit, decide_eq_false (Nat.lt_irrefl i)]
  simp
theorem q_mn6_ok (h : q_ok g) (i : Nat) : q_ok (q_mn6 g i) := by
  refine (q_mn_ok h i).up 11 0 ?_
  have := q_dn_lt (b := q_outs g i) (q_litl h)
  show _ ≤ 4095
  omega
theorem q_mn6_burn (g : Nat → Nat → Nat) (i c t : Nat) : q_burn (q_mn6 g i) c t = q_burn g c t := by
  unfold q_burn
  rw [q_mn6_k g i (by decide) (by decide) (by decide)]
theorem q_mn6_stay (g : Nat → Nat → Nat) {i : Nat} (hl : q_lit g i = true) (hw : q_w g i ≠ 0) : q_up (q_mn6 g i) 0 i (q_w g i) = q_mn6 g (i + 1) := by
  have hg : q_gone g i = false := by unfold q_gone; rw [hl, decide_eq_false hw]; rfl
  have ho : q_outs g (i + 1) = q_outs g i := by
    show (if q_gone g i then _ else _) = _
    rw [hg]; rfl
  unfold q_mn6
  rw [ho, ← q_mn_lit g hl, if_neg hw]
  funext a b
  simp only [q_up]
  by_cases h11 : a = 11
  · subst h11; simp
  · by_cases h5 : a = 5
    · subst h5
      by_cases hb : b = i
      · subst hb; simp [q_mn_at]
      · simp [hb]
    · simp [h11, h5]
theorem q_mn6_out (g : Nat → Nat → Nat) {i : Nat} (hl : q_lit g i = true) (hw : q_w g i = 0) : q_up (q_up (q_up (q_mn6 g i) 0 i 0) 5 i 0) 11 0 (q_dn (q_dn (g 11 0) (q_outs g i)) (2 ^ i)) = q_mn6 g (i + 1) := by
  have hg : q_gone g i = true := by unfold q_gone; rw [hl, hw]; rfl
  have ho : q_outs g (i + 1) = q_outs g i ||| 2 ^ i := by
    show (if q_gone g i then _ else _) = _
    rw [hg]; rfl
  unfold q_mn6
  rw [ho, ← q_mn_lit g hl, if_pos hw, hw, q_dn_dn]
  funext a b
  simp only [q_up]
  by_cases h11 : a = 11
  · subst h11
    by_cases hb : b = 0
    · subst hb; simp
    · simp [hb]
  · simp [h11]
theorem e6_minute (hB : q_B (M 1) g) (hg : q_ok g) : ∃ M', f_X6_minute M = some (nI (q_why7 g), M') ∧ (q_why7 g ≠ 0 → M' = M) ∧ (q_why7 g = 0 → q_B (M' 1) (q_do7 g) ∧ M' 11 0 = M 11 0 ||| nI (q_outs (q_nx g) 12) ∧ ∀ k, k ≠ 1 → k ≠ 11 → M' k = M k) := by
  have hm := q_min hg
  have h68 : cd_rd (M 1) 69 (nI 68) = some (nI (g 13 0)) := hB.rd 13 68 (j := 0) rfl (by decide) (by decide) (by decide)
  have hi68 : cd_ix 69 (nI 68) = some 68 := cd_ix_nI (by decide) (by decide)
  by_cases h : g 13 0 = 999
  · refine ⟨M, ?_, fun _ => rfl, fun q => ?_⟩
    · unfold f_X6_minute q_why7
      rw [q_l 68, h68, Option.bind_some, q_l 999, if_pos ((nI_eq (by omega) (by omega)).mpr h), if_pos h]
      rfl
    · unfold q_why7 at q
      rw [if_pos h] at q
      exact absurd q (by decide)
  · have hw : q_why7 g = 0 := by unfold q_why7; rw [if_neg h]
    have hn := q_nx_ok hg hw
    have b1 : q_B ((cd_set M 1 68 (nI (g 13 0 + 1))) 1) (q_nx g) := by
      rw [cd_set_s]
      exact hB.set 13 68 (j := 0) rfl (by decide) (by decide) (by decide) _
    have b1' : q_B ((cd_set M 1 68 (nI (g 13 0 + 1))) 1) (q_mn6 (q_nx g) 0) := by
      have e : q_mn6 (q_nx g) 0 = q_nx g := by
        unfold q_mn6
        rw [q_mn_0]
        have e2 : q_dn (q_nx g 11 0) (q_outs (q_nx g) 0) = q_nx g 11 0 := by
          apply Nat.eq_of_testBit_eq
          intro j
          rw [q_dn_bit]
          show (_ && !(Nat.testBit 0 j)) = _
          simp
        rw [e2, q_up_id]
      rw [e]
      exact b1
    obtain ⟨r, r1, r2, r3, r4⟩ := cd_upto (b := f_X6_minute_b29) 12 (fun i a => q_B (a 1) (q_mn6 (q_nx g) i) ∧ a 11 0 = M 11 0 ||| nI (q_outs (q_nx g) i) ∧ ∀ k, k ≠ 1 → k ≠ 11 → a k = M k) (fun r => q_B (r 1) (q_mn6 (q_nx g) 12) ∧ r 11 0 = M 11 0 ||| nI (q_outs (q_nx g) 12) ∧ ∀ k, k ≠ 1 → k ≠ 11 → r k = M k) (by decide) (fun i a hi ha => Or.inr (by
      obtain ⟨ha, hgo, hr⟩ := ha
      have hw0 : q_nx g 0 i ≤ 999 := hn 0 i (by decide) hi
      have hbl := q_burn_le hn hi (q_nx g 1 i)
      have hbp := q_burn_pos (q_nx g) i (q_nx g 1 i)
      have rd0 : cd_rd (a 1) 69 (nI i) = some (nI (q_nx g 0 i)) := by
        have := ha.rd 0 0 rfl (by decide) (by decide) hi
        rw [Nat.zero_add, q_mn6_at _ _ (by decide)] at this
        exact this
      have ix0 : cd_ix 69 (nI i) = some i := cd_ix_nI (by omega) (by decide)
      unfold f_X6_minute_b29
      dsimp only
      rw [q_l 12, if_neg (nI_ge hi (by decide)), e6_isLit ha (q_mn6_ok hn i) hi, Option.bind_some, q_mn6_lit, nI_1]
      cases hl : q_lit (q_nx g) i
      · have hgn : q_gone (q_nx g) i = false := by unfold q_gone; rw [hl]; rfl
        have ho : q_outs (q_nx g) (i + 1) = q_outs (q_nx g) i := by
          show (if q_gone (q_nx g) i then _ else _) = _
          rw [hgn]; rfl
        refine ⟨a, rfl, ?_, by rw [ho]; exact hgo, hr⟩
        unfold q_mn6
        rw [ho, q_mn_dark _ hl]
        exact ha
      · rw [if_neg (by decide), rd0, Option.bind_some, e6_burnOf ha (q_mn6_ok hn i) hi, Option.bind_some, q_mn6_burn, q_mn6_at _ _ (by decide), ix0, Option.bind_some, cd_rd_nI (by omega) (by decide), Option.bind_some, pk_us]
        by_cases hz : q_w (q_nx g) i = 0
        · have hz' : q_nx g 0 i ≤ q_burn (q_nx g) i (q_nx g 1 i) := by unfold q_w at hz; omega
          have hgn : q_gone (q_nx g) i = true := by unfold q_gone; rw [hl, hz]; rfl
          have ho : q_outs (q_nx g) (i + 1) = q_outs (q_nx g) i ||| 2 ^ i := by
            show (if q_gone (q_nx g) i then _ else _) = _
            rw [hgn]; rfl
          have c1 : q_B (upd (a 1) i (nI 0)) (q_up (q_mn6 (q_nx g) i) 0 i 0) := by
            have := ha.set 0 0 rfl (by decide) (by decide) hi 0
            rw [Nat.zero_add] at this
            exact this
          have c2 : q_B (upd (upd (a 1) i (nI 0)) (12 + i) (nI 0)) (q_up (q_up (q_mn6 (q_nx g) i) 0 i 0) 5 i 0) := c1.set 5 12 rfl (by decide) (by decide) hi 0
          have rl : cd_rd (upd (upd (a 1) i (nI 0)) (12 + i) (nI 0)) 69 (nI 66) = some (nI (q_dn (q_nx g 11 0) (q_outs (q_nx g) i))) := by
            have := c2.rd 11 66 (j := 0) rfl (by decide) (by decide) (by decide)
            rw [q_up_k _ (by decide), q_up_k _ (by decide)] at this
            exact this
          have c3 : q_B (upd (upd (upd (a 1) i (nI 0)) (12 + i) (nI 0)) 66 (nI (q_dn (q_dn (q_nx g 11 0) (q_outs (q_nx g) i)) (2 ^ i)))) (q_mn6 (q_nx g) (i + 1)) := by
            rw [← q_mn6_out _ hl hz]
            exact c2.set 11 66 (j := 0) rfl (by decide) (by decide) (by decide) _
          have hng : ¬ 0 < nI (q_nx g 0 i) - nI (q_burn (q_nx g) i (q_nx g 1 i)) := by
            rw [cd_lt, pk_sub_toInt (by omega) (by omega)]
            show ¬ (0 : Int) < _
            omega
          rw [if_neg hng, Option.bind_some, nI_add, cd_ix_nI (by omega) (by decide), Option.bind_some, q_updd, show (0 : Int32) = nI 0 from rfl, q_l 66, rl, Option.bind_some, cd_ix_nI (by decide) (by decide), Option.bind_some, q_shl (by omega), q_andn]
          refine ⟨_, rfl, ?_, ?_, fun k k1 k11 => ?_⟩
          · rw [cd_fld_n _ _ (by decide), cd_set_s, cd_set_s, cd_set_s, cd_set_s, q_updd]
            exact c3
          · rw [cd_fld_s, hgo, ho]
            have : ∀ x y z : Int32, (x ||| y) ||| z = x ||| (y ||| z) := fun x y z => by
              apply Int32.toBitVec_inj.1
              show (x.toBitVec ||| y.toBitVec) ||| z.toBitVec = x.toBitVec ||| (y.toBitVec ||| z.toBitVec)
              exact BitVec.or_assoc _ _ _
            rw [this, q_or]
          · rw [cd_fld_n _ _ k11, cd_set_n _ _ k1, cd_set_n _ _ k1, cd_set_n _ _ k1, cd_set_n _ _ k1]
            exact hr k k1 k11
        · have hz' : q_burn (q_nx g) i (q_nx g 1 i) < q_nx g 0 i := by unfold q_w at hz; omega
          have hgn : q_gone (q_nx g) i = false := by unfold q_gone; rw [hl, decide_eq_false hz]; rfl
          have ho : q_outs (q_nx g) (i + 1) = q_outs (q_nx g) i := by
            show (if q_gone (q_nx g) i then _ else _) = _
            rw [hgn]; rfl
          rw [pk_sub (by omega), if_pos (by rw [show (0 : Int32) = nI 0 from rfl]; exact nI_lt (by omega) (by omega))]
          refine ⟨_, rfl, ?_, ?_, fun k k1 k11 => ?_⟩
          · rw [cd_set_s, ← q_mn6_stay _ hl hz]
            have := ha.set 0 0 rfl (by decide) (by decide) hi (q_w (q_nx g) i)
            rw [Nat.zero_add] at this
            exact this
          · rw [cd_set_n _ _ (by decide), ho]; exact hgo
          · rw [cd_set_n _ _ k1]; exact hr k k1 k11)) (fun a ha => ⟨a, by
      unfold f_X6_minute_b29
      dsimp only
      rw [q_l 12, if_pos (nI_le (Nat.le_refl _) (by decide))], ha⟩) (a0 := cd_set M 1 68 (nI (g 13 0 + 1))) ⟨b1', by rw [cd_set_n _ _ (by decide)]; show _ = _ ||| 0; rw [q_or0], fun k k1 _ => cd_set_n _ _ k1⟩
    refine ⟨r, ?_, fun q => absurd hw q, fun _ => ⟨r2, r3, r4⟩⟩
    unfold f_X6_minute
    rw [q_l 68, h68, Option.bind_some, q_l 999, if_neg (fun q => h ((nI_eq (by omega) (by omega)).mp q)), Option.bind_some, hi68, Option.bind_some, nI_1, show (0 : Int32) = nI 0 from rfl, r1, Option.bind_some, hw]
end ACT5
