/-! two loops that go alike; may, net, trims, seen, say, wipe -/
theorem cd_simR {σ ρ : Type} {b b' : σ × Int32 → Option (ρ ⊕ (σ × Int32))} (N : Nat) (hN : N < cd_N) (I : Nat → σ → Prop)
    (hs : ∀ i a, i < N → I i a → (∃ a', b (a, nI i) = some (.inr (a', nI (i + 1))) ∧ b' (a, nI i) = some (.inr (a', nI (i + 1))) ∧ I (i + 1) a') ∨ ∃ r, b (a, nI i) = some (.inl r) ∧ b' (a, nI i) = some (.inl r))
    (he : ∀ a, I N a → ∃ r, b (a, nI N) = some (.inl r) ∧ b' (a, nI N) = some (.inl r)) (a0 : σ) (h0 : I 0 a0) : ∃ r, cd_iter cd_N b (a0, nI 0) = some r ∧ cd_iter cd_N b' (a0, nI 0) = some r := by
  have key : ∀ (m i : Nat) (a : σ) (F : Nat), i + m = N → m < F → I i a → ∃ r, cd_iter F b (a, nI i) = some r ∧ cd_iter F b' (a, nI i) = some r := by
    intro m
    induction m with
    | zero =>
      intro i a F h1 h2 h3
      have e : i = N := by omega
      subst e
      obtain ⟨F', rfl⟩ : ∃ q, F = q + 1 := ⟨F - 1, by omega⟩
      obtain ⟨r, h4, h5⟩ := he a h3
      exact ⟨r, by show (b _).bind _ = _; rw [h4]; rfl, by show (b' _).bind _ = _; rw [h5]; rfl⟩
    | succ m ih =>
      intro i a F h1 h2 h3
      obtain ⟨F', rfl⟩ : ∃ q, F = q + 1 := ⟨F - 1, by omega⟩
      rcases hs i a (by omega) h3 with ⟨a', h4, h5, h6⟩ | ⟨r, h4, h5⟩
      · obtain ⟨r, h7, h8⟩ := ih (i + 1) a' F' (by omega) (by omega) h6
        exact ⟨r, by show (b _).bind _ = _; rw [h4]; exact h7, by show (b' _).bind _ = _; rw [h5]; exact h8⟩
      · exact ⟨r, by show (b _).bind _ = _; rw [h4]; rfl, by show (b' _).bind _ = _; rw [h5]; rfl⟩
  exact key N 0 a0 cd_N (by omega) hN h0
def q_ask (g : Nat → Nat → Nat) (c : Nat) : Bool := q_lit g c && decide (0 < g 5 c)
theorem q_pos0 {n : Nat} (hn : n < 2 ^ 31) : (nI n ≤ 0) ↔ n = 0 := by
  rw [show (0 : Int32) = nI 0 from rfl, nI_leI hn (by decide)]
  omega
theorem q_T.sum_lt {T : Nat → Nat → Int32} {g : Nat → Nat → Nat} (hg : q_ok g) {c : Nat} (hc : c < 12) : g 5 c < 2 ^ 31 := by
  have := hg 5 c (by decide) hc
  have e : q_bd 5 = 999 := rfl
  omega
theorem q_sum_lt {g : Nat → Nat → Nat} (hg : q_ok g) {c : Nat} (hc : c < 12) : g 5 c < 2 ^ 31 := by
  have := hg 5 c (by decide) hc
  have e : q_bd 5 = 999 := rfl
  omega
theorem e_canBeAsked {T : Nat → Nat → Int32} {g : Nat → Nat → Nat} {c : Nat} (hT : q_T T g) (hg : q_ok g) (hc : c < 12) : f_X3_canBeAsked (nI c) T = some (q_bi (q_ask g c)) := by
  unfold f_X3_canBeAsked
  rw [e_isLit hT hg hc, Option.bind_some]
  unfold q_ask
  cases q_lit g c
  · rfl
  · rw [if_neg (by decide), hT.rd 5 12 (by decide) rfl hc, Option.bind_some]
    by_cases h : g 5 c = 0
    · rw [if_pos ((q_pos0 (q_sum_lt hg hc)).mpr h), h]; rfl
    · rw [if_neg (fun q => h ((q_pos0 (q_sum_lt hg hc)).mp q)), decide_eq_true (by omega)]; rfl
section MMORE
variable {T M : Nat → Nat → Int32} {g : Nat → Nat → Nat}
theorem q_X.lit66 (h : q_X T M g) : cd_rd (M 0) 69 66 = some (nI (g 11 0)) := by
  rw [q_l 66, show nI 66 = nI (66 + 0) from rfl, h.2.1.rd 11 66 rfl (by decide) (by decide) (by decide)]
theorem q_or0 (x : Int32) : x ||| 0 = x := by
  apply Int32.toBitVec_inj.1
  show x.toBitVec ||| 0#32 = x.toBitVec
  exact BitVec.or_zero
theorem m_may (h : q_X T M g) (K : Nat → Nat → Int32) (a0 : Int32) : ∃ v, f_X5_may a0 K T = some v ∧ f_X6_may a0 M = some v := by
  unfold f_X5_may f_X6_may
  rw [e_isOne, e6_isOne, q_br, q_br]
  by_cases h1 : 0 ≤ a0 ∧ a0 ≤ 5
  · rw [if_pos h1, if_pos h1, q_bdd, q_bdd]
    refine cd_simR (b := f_X5_may_b13 a0 T) (b' := f_X6_may_b13 a0 M) 12 (by decide) (fun _ _ => True) (fun i a hi _ => Or.inl ?_) (fun a _ => ⟨a, ?_, ?_⟩) 0 trivial
    · unfold f_X5_may_b13 f_X6_may_b13
      dsimp only
      rw [q_l 12, if_neg (nI_ge hi (by decide)), if_neg (nI_ge hi (by decide)), e_canBeAsked h.1 h.2.2.2.2 hi, h.lit66, Option.bind_some, Option.bind_some, e_isIn (q_lit_lt h.2.2.2.2) (by omega), Option.bind_some, nI_1]
      unfold q_ask
      show ∃ a', _ ∧ _ ∧ _
      unfold q_lit
      cases (g 11 0).testBit i
      · exact ⟨a, rfl, by rw [if_pos (by decide), Option.bind_some, q_or0], trivial⟩
      · have hz : ¬ q_bi true = 0 := by decide
        have hr : ∀ f, cd_rd f 12 (nI i) = some (f i) := fun f => cd_rd_nI hi (by decide)
        have hm : cd_rd (M 0) 69 (nI 12 + nI i) = some (nI (g 5 i)) := by rw [nI_add, h.2.1.rd 5 12 rfl (by decide) (by decide) hi]
        simp only [hr, hm, Option.bind_some, h.1 3 i (by decide) hi, h.2.2.1.1 i hi, if_neg hz, e_bit (show i < 31 by omega), q_shl (show i < 31 by omega)]
        by_cases h3 : g 5 i = 0
        · have hs : (true && decide (0 < g 5 i)) = false := by rw [decide_eq_false (by omega)]; rfl
          rw [hs, if_pos (show q_bi false = 0 from rfl)]
          refine ⟨a, rfl, ?_, trivial⟩
          by_cases h2 : nI (g 3 i) = a0
          · rw [if_pos h2, if_pos ((q_pos0 (q_sum_lt h.2.2.2.2 hi)).mpr h3), Option.bind_some, q_or0]
          · rw [if_neg h2, Option.bind_some, q_or0]
        · have hs : (true && decide (0 < g 5 i)) = true := by rw [decide_eq_true (by omega)]; rfl
          rw [hs, if_neg hz]
          by_cases h2 : nI (g 3 i) = a0
          · rw [if_pos h2, if_pos h2, if_neg (fun q => h3 ((q_pos0 (q_sum_lt h.2.2.2.2 hi)).mp q))]
            exact ⟨_, rfl, rfl, trivial⟩
          · rw [if_neg h2, if_neg h2]
            exact ⟨a, rfl, by rw [Option.bind_some, q_or0], trivial⟩
    · unfold f_X5_may_b13
      dsimp only
      rw [q_l 12, if_pos (nI_le (Nat.le_refl _) (by decide))]
    · unfold f_X6_may_b13
      dsimp only
      rw [q_l 12, if_pos (nI_le (Nat.le_refl _) (by decide))]
  · rw [if_neg h1, if_neg h1]
    exact ⟨_, rfl, rfl⟩
theorem m_net (h : q_X T M g) (K : Nat → Nat → Int32) (a0 : Int32) : ∃ v, f_X5_net a0 K T = some v ∧ f_X6_net a0 M = some v := by
  unfold f_X5_net f_X6_net
  rw [e_isOne, e6_isOne, q_br, q_br]
  by_cases h1 : 0 ≤ a0 ∧ a0 ≤ 5
  · rw [if_pos h1, if_pos h1, q_bdd, q_bdd]
    refine cd_simR (b := f_X5_net_b14 a0 T) (b' := f_X6_net_b14 a0 M) 12 (by decide) (fun _ _ => True) (fun i a hi _ => Or.inl ?_) (fun a _ => ⟨a, ?_, ?_⟩) 100000 trivial
    · unfold f_X5_net_b14 f_X6_net_b14
      dsimp only
      have hr : ∀ f, cd_rd f 12 (nI i) = some (f i) := fun f => cd_rd_nI hi (by decide)
      have hm : cd_rd (M 0) 69 (nI 12 + nI i) = some (nI (g 5 i)) := by rw [nI_add, h.2.1.rd 5 12 rfl (by decide) (by decide) hi]
      have hz : ¬ q_bi true = 0 := by decide
      rw [q_l 12, if_neg (nI_ge hi (by decide)), if_neg (nI_ge hi (by decide)), e_isLit h.1 h.2.2.2.2 hi, h.lit66, Option.bind_some, Option.bind_some, e_isIn (q_lit_lt h.2.2.2.2) (by omega), Option.bind_some, nI_1]
      unfold q_lit
      cases (g 11 0).testBit i
      · exact ⟨a, rfl, rfl, trivial⟩
      · simp only [hr, hm, Option.bind_some, h.1 3 i (by decide) hi, h.1 4 i (by decide) hi, h.1 5 i (by decide) hi, h.2.2.1.1 i hi, h.2.2.1.2 i hi, if_neg hz]
        by_cases h3 : nI (g 3 i) = a0
        · by_cases h4 : nI (g 4 i) = a0
          · simp only [if_pos h3, if_pos h4, Option.bind_some]
            exact ⟨_, rfl, rfl, trivial⟩
          · simp only [if_pos h3, if_neg h4, Option.bind_some, Int32.sub_zero]
            exact ⟨_, rfl, rfl, trivial⟩
        · by_cases h4 : nI (g 4 i) = a0
          · simp only [if_neg h3, if_pos h4, Option.bind_some, Int32.add_zero]
            exact ⟨_, rfl, rfl, trivial⟩
          · simp only [if_neg h3, if_neg h4, Option.bind_some, Int32.add_zero, Int32.sub_zero]
            exact ⟨_, rfl, rfl, trivial⟩
    · unfold f_X5_net_b14
      dsimp only
      rw [q_l 12, if_pos (nI_le (Nat.le_refl _) (by decide))]
    · unfold f_X6_net_b14
      dsimp only
      rw [q_l 12, if_pos (nI_le (Nat.le_refl _) (by decide))]
  · rw [if_neg h1, if_neg h1]
    exact ⟨_, rfl, rfl⟩
theorem cd_sim1 {ρ : Type} {b b' : Int32 → Option (ρ ⊕ Int32)} (N : Nat) (hN : N < cd_N)
    (hs : ∀ i, i < N → (b (nI i) = some (.inr (nI (i + 1))) ∧ b' (nI i) = some (.inr (nI (i + 1)))) ∨ ∃ r, b (nI i) = some (.inl r) ∧ b' (nI i) = some (.inl r))
    (he : ∃ r, b (nI N) = some (.inl r) ∧ b' (nI N) = some (.inl r)) : ∃ r, cd_iter cd_N b (nI 0) = some r ∧ cd_iter cd_N b' (nI 0) = some r := by
  have key : ∀ (m i F : Nat), i + m = N → m < F → ∃ r, cd_iter F b (nI i) = some r ∧ cd_iter F b' (nI i) = some r := by
    intro m
    induction m with
    | zero =>
      intro i F h1 h2
      have e : i = N := by omega
      subst e
      obtain ⟨F', rfl⟩ : ∃ q, F = q + 1 := ⟨F - 1, by omega⟩
      obtain ⟨r, h4, h5⟩ := he
      exact ⟨r, by show (b _).bind _ = _; rw [h4]; rfl, by show (b' _).bind _ = _; rw [h5]; rfl⟩
    | succ m ih =>
      intro i F h1 h2
      obtain ⟨F', rfl⟩ : ∃ q, F = q + 1 := ⟨F - 1, by omega⟩
      rcases hs i (by omega) with ⟨h4, h5⟩ | ⟨r, h4, h5⟩
      · obtain ⟨r, h7, h8⟩ := ih (i + 1) F' (by omega) (by omega)
        exact ⟨r, by show (b _).bind _ = _; rw [h4]; exact h7, by show (b' _).bind _ = _; rw [h5]; exact h8⟩
      · exact ⟨r, by show (b _).bind _ = _; rw [h4]; rfl, by show (b' _).bind _ = _; rw [h5]; rfl⟩
  exact key N 0 cd_N (by omega) hN
theorem m_trims (h : q_X T M g) (K : Nat → Nat → Int32) (a0 a1 : Int32) : ∃ v, f_X5_trims a0 a1 K T = some v ∧ f_X6_trims a0 a1 M = some v := by
  unfold f_X5_trims f_X6_trims
  rw [e_isCandle, e6_isCandle, q_br, q_br]
  by_cases h1 : 0 ≤ a0 ∧ a0 ≤ 11
  · rw [if_pos h1, if_pos h1, e_within, e_in, q_br, q_br]
    by_cases h2 : 1 ≤ a1 ∧ a1 ≤ 999
    · rw [if_pos h2, if_pos h2]
      obtain ⟨c, hc, rfl⟩ := q_rng 11 (by decide) h1
      have hc : c < 12 := by omega
      have ht := h.2.2.2.2 1 c (by decide) hc
      have et : q_bd 1 = 9 := rfl
      have hd := h.2.2.2.2 2 c (by decide) hc
      have ed : q_bd 2 = 9 := rfl
      have hwx := h.2.2.2.2 0 c (by decide) hc
      have ew : q_bd 0 = 999 := rfl
      rw [h.1.rd 1 12 (by decide) rfl hc, Option.bind_some]
      have key : ∃ r, cd_iter cd_N (f_X5_trims_b36 (nI c) a1 T (nI (g 1 c))) (nI 0) = some r ∧ cd_iter cd_N (f_X6_trims_b25 (nI c) a1 M) (nI 0) = some r := by
        have h24 : cd_rd (M 0) 69 (nI 24 + nI c) = some (nI (g 1 c)) := by rw [nI_add, h.2.1.rd 1 24 rfl (by decide) (by decide) hc]
        have h36 : cd_rd (M 0) 69 (nI 36 + nI c) = some (nI (g 2 c)) := by rw [nI_add, h.2.1.rd 2 36 rfl (by decide) (by decide) hc]
        have h0 : cd_rd (M 0) 69 (nI c) = some (nI (g 0 c)) := by
          have hr := h.2.1.rd 0 0 rfl (by decide) (by decide) hc
          rw [Nat.zero_add] at hr
          exact hr
        refine cd_sim1 (10 - g 1 c) (by have e : cd_N = 20000 := rfl; omega) (fun i hi => ?_) ⟨Sum.inr (), ?_, ?_⟩
        · have hp := q_burn_pos g c (g 1 c + i)
          have hb := q_burn_le h.2.2.2.2 hc (g 1 c + i)
          have hX : f_X5_trims_b36 (nI c) a1 T (nI (g 1 c)) (nI i) = if nI (q_lasts g c (g 1 c + i)) < a1 then some (Sum.inr (nI (i + 1))) else some (Sum.inl (Sum.inl (nI i))) := by
            unfold f_X5_trims_b36
            rw [nI_add, q_l 9, if_neg (nI_nlt (by omega) (by decide)), e_minutesLeftTrimmed h.1 h.2.2.2.2 hc (by omega), Option.bind_some, nI_1]
          have hM : f_X6_trims_b25 (nI c) a1 M (nI i) = if nI (q_lasts g c (g 1 c + i)) < a1 then some (Sum.inr (nI (i + 1))) else some (Sum.inl (Sum.inl (nI i))) := by
            unfold f_X6_trims_b25
            rw [q_l 24, q_l 36, q_l 10, h24, h36, Option.bind_some, nI_add, if_neg (nI_ge (by omega) (by decide)), Option.bind_some, Option.bind_some, q_1, nI_add, h0, nI_add i]
            have hbr : (if nI 1 ≤ nI (1 + g 2 c) - nI (g 1 c) - nI i then some (nI (1 + g 2 c) - nI (g 1 c) - nI i) else some (nI 1)) = some (nI (q_burn g c (g 1 c + i))) := by
              have e1 : nI (1 + g 2 c) - nI (g 1 c) - nI i = nI (1 + g 2 c) - nI (g 1 c + i) := by
                rw [← nI_add (g 1 c) i]
                apply Int32.toBitVec_inj.1
                show (nI (1 + g 2 c)).toBitVec - (nI (g 1 c)).toBitVec - (nI i).toBitVec = (nI (1 + g 2 c)).toBitVec - ((nI (g 1 c)).toBitVec + (nI i).toBitVec)
                rw [BitVec.sub_sub]
              rw [e1]
              unfold q_burn
              by_cases hq : g 1 c + i ≤ g 2 c
              · rw [if_pos hq, pk_sub (by omega), if_pos ((nI_leI (by omega) (by omega)).mpr (by omega))]
              · have hn : ¬ nI 1 ≤ nI (1 + g 2 c) - nI (g 1 c + i) := by
                  rw [cd_le, nI_toInt (by decide), pk_sub_toInt (by omega) (by omega)]
                  omega
                rw [if_neg hq, if_neg hn]
            rw [hbr, Option.bind_some, Option.bind_some, cd_nz_nI hp (by omega), Option.bind_some, nI_add (g 0 c), pk_sub (by omega), pk_div (by omega) hp (by omega)]
            rfl
          rw [hX, hM]
          by_cases hl : nI (q_lasts g c (g 1 c + i)) < a1
          · rw [if_pos hl]; exact Or.inl ⟨rfl, rfl⟩
          · rw [if_neg hl]; exact Or.inr ⟨_, rfl, rfl⟩
        · unfold f_X5_trims_b36
          rw [nI_add, q_l 9, if_pos (nI_lt (by omega) (by omega))]
        · unfold f_X6_trims_b25
          rw [q_l 24, h24, Option.bind_some, nI_add, q_l 10, if_pos (nI_le (by omega) (by omega))]
      obtain ⟨r, k1, k2⟩ := key
      rw [show (0 : Int32) = nI 0 from rfl, k1, k2, Option.bind_some]
      cases r with
      | inl r => exact ⟨r, rfl, rfl⟩
      | inr u => exact ⟨_, rfl, rfl⟩
    · rw [if_neg h2, if_neg h2]
      exact ⟨_, rfl, rfl⟩
  · rw [if_neg h1, if_neg h1]
    exact ⟨_, rfl, rfl⟩
end MMORE
