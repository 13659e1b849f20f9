/-! the calls that are alike: candle's neighbours, said signs, what is told of one candle -/
theorem q_br {α : Type} {p : Prop} [Decidable p] (a b : Option α) : (some (q_bi (decide p))).bind (fun r => if r = 0 then a else b) = if p then b else a := by
  by_cases h : p
  · rw [if_pos h, decide_eq_true h]; rfl
  · rw [if_neg h, decide_eq_false h]; rfl
theorem q_brB {α : Type} (p : Bool) (a b : Option α) : (some (q_bi p)).bind (fun r => if r = 0 then a else b) = if p = true then b else a := by
  cases p <;> rfl
theorem q_bdd {α : Type} (a : Option α) : a.bind (fun x => some x) = a := by cases a <;> rfl
def q_X (T M : Nat → Nat → Int32) (g : Nat → Nat → Nat) : Prop := q_T T g ∧ q_B (M 0) g ∧ q_C M g ∧ q_G M g ∧ q_ok g
theorem q_X.same {T M M' : Nat → Nat → Int32} {g : Nat → Nat → Nat} (h : q_X T M g) (hs : q_same M M') : q_X T M' g := by
  obtain ⟨h1, h2, h3, h4, h5⟩ := h
  obtain ⟨a0, a2, a3, a4, a5, a6, a7, a20, a21⟩ := hs
  refine ⟨h1, by rw [a0]; exact h2, ⟨fun j hj => by rw [a2]; exact h3.1 j hj, fun j hj => by rw [a3]; exact h3.2 j hj⟩, ⟨by rw [a4]; exact h4.1, fun i hi => by rw [a5]; exact h4.2 i hi⟩, h5⟩
/-- what of the reference is no town's -/
def q_oth (M M' : Nat → Nat → Int32) : Prop := M' 6 = M 6 ∧ M' 7 = M 7 ∧ M' 20 = M 20 ∧ M' 21 = M 21
theorem q_oth.rf (M : Nat → Nat → Int32) : q_oth M M := ⟨rfl, rfl, rfl, rfl⟩
theorem q_same.oth {M M' : Nat → Nat → Int32} (h : q_same M M') : q_oth M M' := ⟨h.2.2.2.2.2.1, h.2.2.2.2.2.2.1, h.2.2.2.2.2.2.2.1, h.2.2.2.2.2.2.2.2⟩
theorem q_oth.tr {M M1 M2 : Nat → Nat → Int32} (h : q_oth M M1) (h' : q_oth M1 M2) : q_oth M M2 := ⟨h'.1.trans h.1, h'.2.1.trans h.2.1, h'.2.2.1.trans h.2.2.1, h'.2.2.2.trans h.2.2.2⟩
theorem q_oth.set (M : Nat → Nat → Int32) {k : Nat} (j : Nat) (x : Int32) (h : k ≠ 6 ∧ k ≠ 7 ∧ k ≠ 20 ∧ k ≠ 21) : q_oth M (cd_set M k j x) := ⟨cd_set_n _ _ (Ne.symm h.1), cd_set_n _ _ (Ne.symm h.2.1), cd_set_n _ _ (Ne.symm h.2.2.1), cd_set_n _ _ (Ne.symm h.2.2.2)⟩
theorem q_oth.fld (M : Nat → Nat → Int32) {k : Nat} (x : Int32) (h : k ≠ 6 ∧ k ≠ 7 ∧ k ≠ 20 ∧ k ≠ 21) : q_oth M (cd_fld M k x) := ⟨cd_fld_n _ _ (Ne.symm h.1), cd_fld_n _ _ (Ne.symm h.2.1), cd_fld_n _ _ (Ne.symm h.2.2.1), cd_fld_n _ _ (Ne.symm h.2.2.2)⟩
theorem q_X.set {T M : Nat → Nat → Int32} {g : Nat → Nat → Nat} (h : q_X T M g) (k o : Nat) {j : Nat} (ho : q_of k = o) (hk : k < 14) (h69 : o < 69) (hj : j < q_len k) {v : Nat} (hv : v ≤ q_bd k) (h3 : k ≠ 3 ∧ k ≠ 4 ∧ k ≠ 8 ∧ k ≠ 9 ∧ k ≠ 10) : q_X (cd_set T k j (nI v)) (cd_set M 0 (o + j) (nI v)) (q_up g k j v) := by
  obtain ⟨g1, g2, g3, g4, g5⟩ := h
  refine ⟨g1.set k j v, by rw [cd_set_s]; exact g2.set k o ho hk h69 hj v, ⟨fun i hi => ?_, fun i hi => ?_⟩, ⟨?_, fun i hi => ⟨?_, ?_⟩⟩, g5.up k j hv⟩
  · rw [cd_set_n _ _ (by decide), q_up_k _ (Ne.symm h3.1)]; exact g3.1 i hi
  · rw [cd_set_n _ _ (by decide), q_up_k _ (Ne.symm h3.2.1)]; exact g3.2 i hi
  · rw [cd_set_n _ _ (by decide), q_up_k _ (Ne.symm h3.2.2.2.2)]; exact g4.1
  · rw [cd_set_n _ _ (by decide), q_up_k _ (Ne.symm h3.2.2.1)]; exact (g4.2 i hi).1
  · rw [cd_set_n _ _ (by decide), q_up_k _ (Ne.symm h3.2.2.2.1)]; exact (g4.2 i hi).2
section MSIMPLE
variable {T M : Nat → Nat → Int32} {g : Nat → Nat → Nat}
theorem m_draught (h : q_X T M g) (K : Nat → Nat → Int32) (a0 a1 : Int32) : ∃ v T' M' g', f_X5_draught a0 a1 K T = some (v, T') ∧ f_X6_draught a0 a1 M = some (v, M') ∧ q_X T' M' g' ∧ q_oth M M' := by
  unfold f_X5_draught f_X6_draught
  rw [e_isCandle, e6_isCandle, q_br, q_br]
  by_cases h1 : 0 ≤ a0 ∧ a0 ≤ 11
  · rw [if_pos h1, if_pos h1, e_within, e_in, q_br, q_br]
    by_cases h2 : 0 ≤ a1 ∧ a1 ≤ 9
    · rw [if_pos h2, if_pos h2]
      obtain ⟨c, hc, rfl⟩ := q_rng 11 (by decide) h1
      obtain ⟨v, hv, rfl⟩ := q_rng 9 (by decide) h2
      refine ⟨nI (g 2 c), _, _, q_up g 2 c v, ?_, ?_, h.set 2 36 rfl (by decide) (by decide) (show c < 12 by omega) hv (by decide), q_oth.set M _ _ (by decide)⟩
      · rw [h.1.rd 2 12 (by decide) rfl (by omega), Option.bind_some, cd_ix_nI (by omega) (by decide), Option.bind_some]
      · rw [q_l 36, nI_add, h.2.1.rd 2 36 rfl (by decide) (by decide) (show c < 12 by omega), Option.bind_some, cd_ix_nI (by omega) (by decide), Option.bind_some]
    · rw [if_neg h2, if_neg h2]
      exact ⟨_, T, M, g, rfl, rfl, h, q_oth.rf M⟩
  · rw [if_neg h1, if_neg h1]
    exact ⟨_, T, M, g, rfl, rfl, h, q_oth.rf M⟩
theorem m_purse (h : q_X T M g) (K : Nat → Nat → Int32) (a0 a1 : Int32) : ∃ v T' M' g', f_X5_purse a0 a1 K T = some (v, T') ∧ f_X6_purse a0 a1 M = some (v, M') ∧ q_X T' M' g' ∧ q_oth M M' := by
  unfold f_X5_purse f_X6_purse
  rw [e_isOne, e6_isOne, q_br, q_br]
  by_cases h1 : 0 ≤ a0 ∧ a0 ≤ 5
  · rw [if_pos h1, if_pos h1, e_within, e_in, q_br, q_br]
    by_cases h2 : 0 ≤ a1 ∧ a1 ≤ 9999
    · rw [if_pos h2, if_pos h2]
      obtain ⟨c, hc, rfl⟩ := q_rng 5 (by decide) h1
      obtain ⟨v, hv, rfl⟩ := q_rng 9999 (by decide) h2
      refine ⟨nI (g 7 c), _, _, q_up g 7 c v, ?_, ?_, h.set 7 60 rfl (by decide) (by decide) (show c < 6 by omega) hv (by decide), q_oth.set M _ _ (by decide)⟩
      · rw [h.1.rd 7 6 (by decide) rfl (by omega), Option.bind_some, cd_ix_nI (by omega) (by decide), Option.bind_some]
      · rw [q_l 60, nI_add, h.2.1.rd 7 60 rfl (by decide) (by decide) (show c < 6 by omega), Option.bind_some, cd_ix_nI (by omega) (by decide), Option.bind_some]
    · rw [if_neg h2, if_neg h2]
      exact ⟨_, T, M, g, rfl, rfl, h, q_oth.rf M⟩
  · rw [if_neg h1, if_neg h1]
    exact ⟨_, T, M, g, rfl, rfl, h, q_oth.rf M⟩
theorem q_T.fs {T : Nat → Nat → Int32} {g : Nat → Nat → Nat} (h : q_T T g) {k : Nat} (v : Nat) (hk : 9 < k) : q_T (cd_fld T k (nI v)) (q_up g k 0 v) := h.fld hk v
theorem m_matches (h : q_X T M g) (K : Nat → Nat → Int32) (a0 : Int32) : ∃ v T' M' g', f_X5_matches a0 K T = some (v, T') ∧ f_X6_matches a0 M = some (v, M') ∧ q_X T' M' g' ∧ q_oth M M' := by
  unfold f_X5_matches f_X6_matches
  rw [e_within, e_in, q_br, q_br]
  by_cases h1 : 0 ≤ a0 ∧ a0 ≤ 99
  · rw [if_pos h1, if_pos h1]
    obtain ⟨v, hv, rfl⟩ := q_rng 99 (by decide) h1
    have hs := h.set 12 67 (j := 0) rfl (by decide) (by decide) (by decide) hv (by decide)
    refine ⟨nI (g 12 0), cd_fld T 12 (nI v), _, q_up g 12 0 v, ?_, ?_, ⟨h.1.fld (by decide) v, hs.2⟩, q_oth.set M _ _ (by decide)⟩
    · rw [h.1 12 0 (by decide) (by decide)]
    · rw [q_l 67, show nI 67 = nI (67 + 0) from rfl, h.2.1.rd 12 67 rfl (by decide) (by decide) (by decide), Option.bind_some, cd_ix_nI (by decide) (by decide), Option.bind_some]
  · rw [if_neg h1, if_neg h1]
    exact ⟨_, T, M, g, rfl, rfl, h, q_oth.rf M⟩
theorem m_joined (h : q_X T M g) (K : Nat → Nat → Int32) (a0 : Int32) : ∃ v, f_X5_joined a0 K T = some v ∧ f_X6_joined a0 M = some v := by
  unfold f_X5_joined f_X6_joined
  rw [e_isCandle, e6_isCandle]
  by_cases h1 : 0 ≤ a0 ∧ a0 ≤ 11
  · rw [decide_eq_true h1]
    obtain ⟨c, hc, rfl⟩ := q_rng 11 (by decide) h1
    refine ⟨nI (q_dn (g 6 c) (2 ^ c)), ?_, ?_⟩
    · rw [Option.bind_some, if_neg (by decide), h.1.rd 6 12 (by decide) rfl (by omega), Option.bind_some, e_bit (by omega), Option.bind_some, q_andn, Option.bind_some]
    · rw [Option.bind_some, if_neg (by decide), q_l 48, nI_add, h.2.1.rd 6 48 rfl (by decide) (by decide) (show c < 12 by omega), Option.bind_some, q_shl (by omega), q_andn, Option.bind_some]
  · rw [decide_eq_false h1]
    exact ⟨_, rfl, rfl⟩
theorem m_lasts (h : q_X T M g) (K : Nat → Nat → Int32) (a0 : Int32) : ∃ v M', f_X5_lasts a0 K T = some v ∧ f_X6_lasts a0 M = some (v, M') ∧ q_same M M' := by
  unfold f_X5_lasts f_X6_lasts
  rw [e_isCandle, e6_isCandle]
  by_cases h1 : 0 ≤ a0 ∧ a0 ≤ 11
  · rw [decide_eq_true h1]
    obtain ⟨c, hc, rfl⟩ := q_rng 11 (by decide) h1
    obtain ⟨M', e1, e2, -, -⟩ := e6_lastsOf h.2.1 h.2.2.2.2 (show c < 12 by omega)
    refine ⟨nI (q_last g c), M', ?_, ?_, e2⟩
    · rw [Option.bind_some, if_neg (by decide), e_minutesLeft h.1 h.2.2.2.2 (show c < 12 by omega)]
      rfl
    · rw [Option.bind_some, if_neg (by decide), e1]
      rfl
  · rw [decide_eq_false h1]
    exact ⟨_, M, rfl, rfl, q_same.rf M⟩
theorem m_forget (h : q_X T M g) (K : Nat → Nat → Int32) : ∃ v T' M' g', f_X5_forget K T = some (v, T') ∧ f_X6_forget M = some (v, M') ∧ q_X T' M' g' ∧ q_oth M M' := by
  refine ⟨nI (g 10 0), cd_fld T 10 (nI 0), cd_fld M 4 (nI 0), q_up g 10 0 0, ?_, ?_, ⟨h.1.fld (by decide) 0, ?_, ⟨fun j hj => ?_, fun j hj => ?_⟩, ⟨?_, fun i hi => ?_⟩, h.2.2.2.2.up 10 0 (Nat.zero_le _)⟩, q_oth.fld M _ (by decide)⟩
  · unfold f_X5_forget
    rw [h.1 10 0 (by decide) (by decide)]
    rfl
  · unfold f_X6_forget
    rw [h.2.2.2.1.1]
    rfl
  · rw [cd_fld_n _ _ (by decide)]
    intro k j hk h69 hj
    rw [h.2.1 k j hk h69 hj, q_up_k]
    intro e
    subst e
    exact absurd h69 (by decide)
  · rw [cd_fld_n _ _ (by decide), q_up_k _ (by decide)]; exact h.2.2.1.1 j hj
  · rw [cd_fld_n _ _ (by decide), q_up_k _ (by decide)]; exact h.2.2.1.2 j hj
  · rw [cd_fld_s, q_up_s]
  · rw [cd_fld_n _ _ (by decide), q_up_k _ (by decide), q_up_k _ (by decide)]; exact h.2.2.2.1.2 i hi
end MSIMPLE
