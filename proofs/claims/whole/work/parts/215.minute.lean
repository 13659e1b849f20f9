/-! a minute -/
section ACT4
variable {T M : Nat → Nat → Int32} {g : Nat → Nat → Nat} {c : Nat}
def q_w (g : Nat → Nat → Nat) (b : Nat) : Nat := g 0 b - q_burn g b (g 1 b)
def q_gone (g : Nat → Nat → Nat) (b : Nat) : Bool := q_lit g b && decide (q_w g b = 0)
def q_outs (g : Nat → Nat → Nat) : Nat → Nat
  | 0 => 0
  | i + 1 => if q_gone g i then q_outs g i ||| 2 ^ i else q_outs g i
theorem q_outs_bit (g : Nat → Nat → Nat) : ∀ i j, (q_outs g i).testBit j = (decide (j < i) && q_gone g j)
  | 0, j => by simp [q_outs]
  | i + 1, j => by
    unfold q_outs
    have ih := q_outs_bit g i j
    by_cases hj : j = i
    · subst hj
      cases hg : q_gone g j
      · simp [ih, hg]
      · simp [ih, hg, Nat.testBit_two_pow_self]
    · have e : decide (j < i + 1) = decide (j < i) := by
        by_cases h : j < i
        · rw [decide_eq_true h, decide_eq_true (show j < i + 1 by omega)]
        · rw [decide_eq_false h, decide_eq_false (show ¬ j < i + 1 by omega)]
      cases hg : q_gone g i
      · simp [ih, e]
      · simp [ih, e, Nat.testBit_two_pow_of_ne (Ne.symm hj)]
theorem q_outs_lt (g : Nat → Nat → Nat) {i : Nat} (hi : i ≤ 12) : q_outs g i < 2 ^ 12 := by
  apply Nat.lt_pow_two_of_testBit
  intro j hj
  rw [q_outs_bit, decide_eq_false (show ¬ j < i by omega)]
  rfl
def q_mn (g : Nat → Nat → Nat) (i : Nat) : Nat → Nat → Nat := fun a b => if a = 0 ∧ b < i ∧ q_lit g b = true then q_w g b else if a = 5 ∧ b < i ∧ q_gone g b = true then 0 else g a b
theorem q_mn_0 (g : Nat → Nat → Nat) : q_mn g 0 = g := by
  funext a b
  unfold q_mn
  rw [if_neg (by omega), if_neg (by omega)]
theorem q_mn_dark (g : Nat → Nat → Nat) {i : Nat} (h : q_lit g i = false) : q_mn g (i + 1) = q_mn g i := by
  funext a b
  unfold q_mn
  by_cases h2 : b = i
  · subst h2
    have hg : q_gone g b = false := by unfold q_gone; rw [h]; rfl
    simp [h, hg]
  · have e : (b < i + 1) ↔ (b < i) := by omega
    simp only [e]
theorem q_mn_lit (g : Nat → Nat → Nat) {i : Nat} (h : q_lit g i = true) : q_up (q_up (q_mn g i) 0 i (q_w g i)) 5 i (if q_w g i = 0 then 0 else g 5 i) = q_mn g (i + 1) := by
  funext a b
  unfold q_up q_mn
  by_cases h2 : b = i
  · subst h2
    by_cases h0 : a = 0
    · subst h0; simp [h]
    · by_cases h5 : a = 5
      · subst h5
        by_cases hw : q_w g b = 0
        · have hg : q_gone g b = true := by unfold q_gone; rw [h, hw]; rfl
          simp [hw, hg]
        · have hg : q_gone g b = false := by unfold q_gone; rw [h, decide_eq_false hw]; rfl
          simp [hw, hg]
      · simp [h0, h5]
  · have e : (b < i + 1) ↔ (b < i) := by omega
    simp [h2, e]
theorem q_mn_at (g : Nat → Nat → Nat) (i a : Nat) : q_mn g i a i = g a i := by
  unfold q_mn
  rw [if_neg (by omega), if_neg (by omega)]
theorem q_mn_k (g : Nat → Nat → Nat) (i : Nat) {a b : Nat} (h0 : a ≠ 0) (h5 : a ≠ 5) : q_mn g i a b = g a b := by
  unfold q_mn
  rw [if_neg (fun q => h0 q.1), if_neg (fun q => h5 q.1)]
theorem q_mn_ok (h : q_ok g) (i : Nat) : q_ok (q_mn g i) := by
  intro a b ha hb
  unfold q_mn
  by_cases q : a = 0 ∧ b < i ∧ q_lit g b = true
  · rw [if_pos q]
    obtain ⟨rfl, -⟩ := q
    have h1 : g 0 b ≤ 999 := h 0 b ha hb
    show _ ≤ 999
    unfold q_w
    omega
  · rw [if_neg q]
    by_cases q : a = 5 ∧ b < i ∧ q_gone g b = true
    · rw [if_pos q]; exact Nat.zero_le _
    · rw [if_neg q]; exact h a b ha hb
theorem q_mn_burn (g : Nat → Nat → Nat) (i c t : Nat) : q_burn (q_mn g i) c t = q_burn g c t := by
  unfold q_burn
  rw [q_mn_k g i (by decide) (by decide)]
def q_nx (g : Nat → Nat → Nat) : Nat → Nat → Nat := q_up g 13 0 (g 13 0 + 1)
def q_why7 (g : Nat → Nat → Nat) : Nat := if g 13 0 = 999 then 8 else 0
def q_do7 (g : Nat → Nat → Nat) : Nat → Nat → Nat := q_up (q_mn (q_nx g) 12) 11 0 (q_dn (g 11 0) (q_outs (q_nx g) 12))
theorem q_min (h : q_ok g) : g 13 0 ≤ 999 := h 13 0 (by decide) (by decide)
theorem q_nx_ok (h : q_ok g) (hw : q_why7 g = 0) : q_ok (q_nx g) := by
  refine h.up 13 0 ?_
  have := q_min h
  unfold q_why7 at hw
  show _ ≤ 999
  split at hw <;> omega
theorem q_do7_ok (h : q_ok g) (hw : q_why7 g = 0) : q_ok (q_do7 g) := by
  refine (q_mn_ok (q_nx_ok h hw) 12).up 11 0 ?_
  have := q_dn_lt (b := q_outs (q_nx g) 12) (q_litl h)
  show _ ≤ 4095
  omega
theorem e_why7 (hT : q_T T g) (hg : q_ok g) (a b : Int32) : f_X3_reasonAgainst 46 a b T = some (nI (q_why7 g)) := by
  have := q_min hg
  unfold f_X3_reasonAgainst q_why7
  rw [if_neg (by decide), if_neg (by decide), if_neg (by decide), if_neg (by decide), if_neg (by decide), if_neg (by decide), hT 13 0 (by decide) (by decide), q_bdd, q_l 999]
  by_cases h : g 13 0 = 999
  · rw [if_pos h, if_neg (nI_nlt (by omega) (by omega))]; rfl
  · rw [if_neg h, if_pos (nI_lt (by omega) (by omega))]; rfl
theorem q_max0 {a b : Nat} (ha : a < 2 ^ 30) (hb : b < 2 ^ 30) : cd_max 0 (nI a - nI b) = nI (a - b) := by
  unfold cd_max
  rcases Nat.le_total b a with h | h
  · rw [pk_sub h]
    by_cases e : a - b = 0
    · rw [e]; rfl
    · rw [if_pos (by rw [show (0 : Int32) = nI 0 from rfl]; exact nI_lt (by omega) (by omega))]
  · have h1 : ¬ (0 : Int32) < nI a - nI b := by
      rw [cd_lt, pk_sub_toInt ha hb]
      show ¬ (0 : Int) < _
      omega
    rw [if_neg h1, show a - b = 0 by omega]
    rfl
theorem e_passMinute (hT : q_T T g) (hg : q_ok g) (hw : q_why7 g = 0) : ∃ T', f_X3_passMinute T = some (nI (q_outs (q_nx g) 12), T') ∧ q_T T' (q_do7 g) := by
  have hn := q_nx_ok hg hw
  have t1 : q_T (cd_fld T 13 (nI (g 13 0 + 1))) (q_nx g) := hT.fld (by decide) _
  obtain ⟨r, h1, h2, h3⟩ := cd_hoare (b := f_X3_passMinute_b14) (fun n s => ∃ i a, n + i = 12 ∧ s = (nI (q_outs (q_nx g) i), nI i, a) ∧ q_T a (q_mn (q_nx g) i)) (fun r => r.1 = nI (q_outs (q_nx g) 12) ∧ q_T r.2 (q_mn (q_nx g) 12)) (by
    rintro n s ⟨i, a, hi, rfl, h⟩
    rcases Nat.lt_or_ge i 12 with q | q
    · right
      have hok := q_mn_ok hn i
      have hlt : q_lit (q_mn (q_nx g) i) i = q_lit (q_nx g) i := by unfold q_lit; rw [q_mn_k _ i (by decide) (by decide)]
      have hw0 : q_nx g 0 i ≤ 999 := hn 0 i (by decide) q
      have hbl := q_burn_le hn q (q_nx g 1 i)
      refine ⟨n - 1, ?_⟩
      unfold f_X3_passMinute_b14
      dsimp only
      rw [q_l 12, if_neg (nI_ge q (by decide)), e_isLit h hok q, Option.bind_some, hlt, nI_1]
      cases hl : q_lit (q_nx g) i
      · refine ⟨_, by omega, rfl, i + 1, a, by omega, ?_, by rw [q_mn_dark _ hl]; exact h⟩
        have hgn : q_gone (q_nx g) i = false := by unfold q_gone; rw [hl]; rfl
        show _ = (nI (if q_gone (q_nx g) i then _ else _), _, _)
        rw [hgn]
        rfl
      · have ha := h.set 0 i (q_w (q_nx g) i)
        have rr : ∀ f : Nat → Int32, cd_rd f 12 (nI i) = some (f i) := fun f => cd_rd_nI q (by decide)
        have e0 : a 0 i = nI (q_nx g 0 i) := by rw [h 0 i (by decide) q, q_mn_at]
        have e5 : a 5 i = nI (q_nx g 5 i) := by rw [h 5 i (by decide) q, q_mn_at]
        rw [if_neg (by decide), rr, Option.bind_some, e_burnOf h hok q, Option.bind_some, cd_ix_nI q (by decide), Option.bind_some, q_mn_at, q_mn_burn, e0, q_max0 (by omega) (by omega)]
        simp only [rr, Option.bind_some, pk_us, e5, e_bit (show i < 31 by omega)]
        have eq : nI (q_nx g 0 i - q_burn (q_nx g) i (q_nx g 1 i)) = nI (q_w (q_nx g) i) := rfl
        rw [eq]
        have hww : q_w (q_nx g) i < 2 ^ 31 := by unfold q_w; omega
        by_cases hz : q_w (q_nx g) i = 0
        · have hgn : q_gone (q_nx g) i = true := by unfold q_gone; rw [hl, hz]; rfl
          rw [if_pos ((q_eq0 hww).mpr hz), if_pos ((q_eq0 hww).mpr hz), Option.bind_some, Option.bind_some, q_or]
          refine ⟨_, by omega, rfl, i + 1, cd_set (cd_set a 0 i (nI (q_w (q_nx g) i))) 5 i (nI 0), by omega, ?_, ?_⟩
          · show _ = (nI (if q_gone (q_nx g) i then _ else _), _, _)
            rw [hgn]
            rfl
          · have := ha.set 5 i (if q_w (q_nx g) i = 0 then 0 else q_nx g 5 i)
            rw [q_mn_lit _ hl, if_pos hz] at this
            exact this
        · have hgn : q_gone (q_nx g) i = false := by unfold q_gone; rw [hl, decide_eq_false hz]; rfl
          rw [if_neg (fun e => hz ((q_eq0 hww).mp e)), if_neg (fun e => hz ((q_eq0 hww).mp e)), Option.bind_some, Option.bind_some, q_or0]
          refine ⟨_, by omega, rfl, i + 1, cd_set (cd_set a 0 i (nI (q_w (q_nx g) i))) 5 i (nI (q_nx g 5 i)), by omega, ?_, ?_⟩
          · show _ = (nI (if q_gone (q_nx g) i then _ else _), _, _)
            rw [hgn]
            rfl
          · have := ha.set 5 i (if q_w (q_nx g) i = 0 then 0 else q_nx g 5 i)
            rw [q_mn_lit _ hl, if_neg hz] at this
            exact this
    · left
      have e : i = 12 := by omega
      subst e
      refine ⟨(nI (q_outs (q_nx g) 12), a), ?_, rfl, h⟩
      unfold f_X3_passMinute_b14
      dsimp only
      rw [q_l 12, if_pos (nI_le (Nat.le_refl _) (by decide))]) cd_N 12 (nI 0, nI 0, cd_fld T 13 (nI (g 13 0 + 1))) (by decide) ⟨0, _, rfl, rfl, by rw [q_mn_0]; exact t1⟩
  have e11 : r.2 11 0 = nI (g 11 0) := by
    rw [h3 11 0 (by decide) (by decide), q_mn_k _ _ (by decide) (by decide)]
    rfl
  refine ⟨cd_fld r.2 11 (nI (q_dn (g 11 0) (q_outs (q_nx g) 12))), ?_, h3.fld (by decide) _⟩
  unfold f_X3_passMinute
  rw [hT 13 0 (by decide) (by decide), nI_1, show ((0 : Int32), (0 : Int32), cd_fld T 13 (nI (g 13 0 + 1))) = (nI 0, nI 0, cd_fld T 13 (nI (g 13 0 + 1))) from rfl, h1, Option.bind_some, h2, e11, q_andn]
end ACT4
