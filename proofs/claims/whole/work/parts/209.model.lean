/-! the reference's rows: book and now -/
theorem q_l (n : Nat) : (OfNat.ofNat n : Int32) = nI n := rfl
def q_of (k : Nat) : Nat := ([0, 24, 36, 999, 999, 12, 48, 60, 999, 999, 999, 66, 67, 68] : List Nat).getD k 999
def q_B (r : Nat → Int32) (g : Nat → Nat → Nat) : Prop := ∀ k j, k < 14 → q_of k < 69 → j < q_len k → r (q_of k + j) = nI (g k j)
theorem q_of_lt : ∀ k, k < 14 → q_of k < 69 → q_of k + q_len k ≤ 69 := by decide +kernel
theorem q_len_le : ∀ k, k < 14 → q_len k ≤ 12 := by decide +kernel
theorem q_of_ap : ∀ k, k < 14 → ∀ k2, k2 < 14 → q_of k < 69 → q_of k2 < 69 → k = k2 ∨ q_of k + q_len k ≤ q_of k2 ∨ q_of k2 + q_len k2 ≤ q_of k := by decide +kernel
theorem q_B.rd {r : Nat → Int32} {g : Nat → Nat → Nat} (h : q_B r g) (k o : Nat) {j : Nat} (ho : q_of k = o) (hk : k < 14) (h69 : o < 69) (hj : j < q_len k) : cd_rd r 69 (nI (o + j)) = some (nI (g k j)) := by
  subst ho
  have := q_of_lt k hk h69
  rw [cd_rd_nI (by omega) (by decide), h k j hk h69 hj]
theorem q_B.set {r : Nat → Int32} {g : Nat → Nat → Nat} (h : q_B r g) (k o : Nat) {j : Nat} (ho : q_of k = o) (hk : k < 14) (h69 : o < 69) (hj : j < q_len k) (v : Nat) : q_B (upd r (o + j) (nI v)) (q_up g k j v) := by
  subst ho
  intro a b ha h2 hb
  unfold upd q_up
  by_cases e : a = k ∧ b = j
  · obtain ⟨rfl, rfl⟩ := e
    simp
  · rw [if_neg e]
    have ne : q_of a + b ≠ q_of k + j := by
      intro q
      rcases q_of_ap a ha k hk h2 h69 with h5 | h5 | h5
      · subst h5
        exact e ⟨rfl, by omega⟩
      · omega
      · omega
    rw [if_neg ne]
    exact h a b ha h2 hb
def q_C (M : Nat → Nat → Int32) (g : Nat → Nat → Nat) : Prop := (∀ j, j < 12 → M 2 j = nI (g 3 j)) ∧ ∀ j, j < 12 → M 3 j = nI (g 4 j)
def q_G (M : Nat → Nat → Int32) (g : Nat → Nat → Nat) : Prop := M 4 0 = nI (g 10 0) ∧ ∀ i, i < 8 → M 5 (2 * i) = nI (g 8 i) ∧ M 5 (2 * i + 1) = nI (g 9 i)
/-- the rows that last -/
def q_same (M M' : Nat → Nat → Int32) : Prop := M' 0 = M 0 ∧ M' 2 = M 2 ∧ M' 3 = M 3 ∧ M' 4 = M 4 ∧ M' 5 = M 5 ∧ M' 6 = M 6 ∧ M' 7 = M 7 ∧ M' 20 = M 20 ∧ M' 21 = M 21
theorem q_same.rf (M : Nat → Nat → Int32) : q_same M M := ⟨rfl, rfl, rfl, rfl, rfl, rfl, rfl, rfl, rfl⟩
theorem q_same.tr {M M1 M2 : Nat → Nat → Int32} (h : q_same M M1) (h' : q_same M1 M2) : q_same M M2 := by
  obtain ⟨a0, a2, a3, a4, a5, a6, a7, a20, a21⟩ := h
  obtain ⟨b0, b2, b3, b4, b5, b6, b7, b20, b21⟩ := h'
  exact ⟨b0.trans a0, b2.trans a2, b3.trans a3, b4.trans a4, b5.trans a5, b6.trans a6, b7.trans a7, b20.trans a20, b21.trans a21⟩
theorem q_same.of {M M' : Nat → Nat → Int32} (h : ∀ k, k = 0 ∨ k = 2 ∨ k = 3 ∨ k = 4 ∨ k = 5 ∨ k = 6 ∨ k = 7 ∨ k = 20 ∨ k = 21 → M' k = M k) : q_same M M' := ⟨h 0 (by omega), h 2 (by omega), h 3 (by omega), h 4 (by omega), h 5 (by omega), h 6 (by omega), h 7 (by omega), h 20 (by omega), h 21 (by omega)⟩
theorem cd_set_n (T : Nat → Nat → Int32) {k j a : Nat} (x : Int32) (h : a ≠ k) : cd_set T k j x a = T a := if_neg h
theorem cd_set_s (T : Nat → Nat → Int32) (k j : Nat) (x : Int32) : cd_set T k j x k = upd (T k) j x := if_pos rfl
theorem e6_asNow (M : Nat → Nat → Int32) : ∃ M', f_X6_asNow M = some M' ∧ (∀ j, j < 69 → M' 1 j = M 0 j) ∧ (∀ k, k ≠ 1 → k ≠ 8 → k ≠ 9 → k ≠ 10 → M' k = M k) ∧ M' 8 0 = 0 ∧ M' 9 0 = -6 ∧ M' 10 0 = -6 := by
  obtain ⟨r, h1, h2, h3⟩ := cd_upto (b := f_X6_asNow_b2) 69 (fun i a => (∀ j, j < i → a 1 j = M 0 j) ∧ ∀ k, k ≠ 1 → a k = M k) (fun r => (∀ j, j < 69 → r 1 j = M 0 j) ∧ ∀ k, k ≠ 1 → r k = M k) (by decide) (fun i a hi h => Or.inr ⟨cd_set a 1 i (a 0 i), by
      unfold f_X6_asNow_b2
      dsimp only
      rw [q_l 69, if_neg (nI_ge hi (by decide)), cd_rd_nI hi (by decide), Option.bind_some, cd_ix_nI hi (by decide), Option.bind_some, nI_1], by
      refine ⟨fun j hj => ?_, fun k hk => by rw [cd_set_n _ _ hk]; exact h.2 k hk⟩
      rw [cd_set_s]
      unfold upd
      by_cases e : j = i
      · rw [if_pos e, e, h.2 0 (by decide)]
      · rw [if_neg e]; exact h.1 j (by omega)⟩) (fun a h => ⟨a, by
      unfold f_X6_asNow_b2
      dsimp only
      rw [q_l 69, if_pos (nI_le (Nat.le_refl _) (by decide))], h⟩) (a0 := M) ⟨fun j hj => by omega, fun _ _ => rfl⟩
  refine ⟨cd_fld (cd_fld (cd_fld r 8 0) 9 (-6)) 10 (-6), ?_, ?_, ?_, ?_, ?_, ?_⟩
  · unfold f_X6_asNow
    rw [show ((0 : Int32), M) = (nI 0, M) from rfl, h1, Option.bind_some]
  · intro j hj
    rw [cd_fld_n _ _ (by decide), cd_fld_n _ _ (by decide), cd_fld_n _ _ (by decide)]
    exact h2 j hj
  · intro k k1 k2 k3 k4
    rw [cd_fld_n _ _ k4, cd_fld_n _ _ k3, cd_fld_n _ _ k2]
    exact h3 k k1
  · rw [cd_fld_n _ _ (by decide), cd_fld_n _ _ (by decide), cd_fld_s]
  · rw [cd_fld_n _ _ (by decide), cd_fld_s]
  · rw [cd_fld_s]
/-- the same, as it is used -/
theorem e6_now {M : Nat → Nat → Int32} {g : Nat → Nat → Nat} (hB : q_B (M 0) g) : ∃ M', f_X6_asNow M = some M' ∧ q_same M M' ∧ q_B (M' 1) g ∧ (∀ k, k ≠ 1 → k ≠ 8 → k ≠ 9 → k ≠ 10 → M' k = M k) ∧ M' 8 0 = 0 ∧ M' 9 0 = -6 ∧ M' 10 0 = -6 := by
  obtain ⟨M', h1, h2, h3, h4⟩ := e6_asNow M
  refine ⟨M', h1, q_same.of (fun k hk => h3 k (by omega) (by omega) (by omega) (by omega)), fun k j hk h69 hj => ?_, h3, h4⟩
  have := q_of_lt k hk h69
  rw [h2 _ (by omega)]
  exact hB k j hk h69 hj
section EVM
variable {M : Nat → Nat → Int32} {g : Nat → Nat → Nat} {c : Nat}
theorem e6_isLit (hB : q_B (M 1) g) (hg : q_ok g) (hc : c < 12) : f_X6_isLit (nI c) M = some (q_bi (q_lit g c)) := by
  unfold f_X6_isLit
  have h := hB 11 0 (by decide) (by decide) (by decide)
  rw [q_l 66, cd_rd_nI (by decide) (by decide), Option.bind_some, show M 1 66 = nI (g 11 0) from h, e_isIn (q_lit_lt hg) (by omega), Option.bind_some, q_bi_zb, Option.bind_some]
  rfl
theorem e6_burnOf (hB : q_B (M 1) g) (hg : q_ok g) (hc : c < 12) : f_X6_burnOf (nI c) M = some (nI (q_burn g c (g 1 c))) := by
  have h2 := hg 2 c (by decide) hc
  have h1 := hg 1 c (by decide) hc
  have e : q_bd 2 = 9 := rfl
  have e1 : q_bd 1 = 9 := rfl
  unfold f_X6_burnOf
  rw [q_l 36, q_l 24, nI_add, nI_add, hB.rd 2 36 rfl (by decide) (by decide) hc, Option.bind_some, hB.rd 1 24 rfl (by decide) (by decide) hc, Option.bind_some, q_1, nI_add]
  unfold q_burn
  by_cases h : g 1 c ≤ g 2 c
  · rw [if_pos h, pk_sub (by omega), if_pos ((nI_leI (by omega) (by omega)).mpr (by omega)), Option.bind_some]
  · have hn : ¬ nI 1 ≤ nI (1 + g 2 c) - nI (g 1 c) := by
      rw [cd_le, nI_toInt (by decide), pk_sub_toInt (by omega) (by omega)]
      omega
    rw [if_neg h, if_neg hn, Option.bind_some]
theorem e6_lastsOf (hB : q_B (M 0) g) (hg : q_ok g) (hc : c < 12) : ∃ M', f_X6_lastsOf (nI c) M = some (nI (q_last g c), M') ∧ q_same M M' ∧ q_B (M' 1) g ∧ ∀ k, k ≠ 1 → k ≠ 8 → k ≠ 9 → k ≠ 10 → M' k = M k := by
  obtain ⟨M', h1, h2, h3, h4, -⟩ := e6_now hB
  have h0 := hg 0 c (by decide) hc
  have e : q_bd 0 = 999 := rfl
  have hp := q_burn_pos g c (g 1 c)
  have hl := q_burn_le hg hc (g 1 c)
  refine ⟨M', ?_, h2, h3, h4⟩
  unfold f_X6_lastsOf
  have hr := hB.rd 0 0 rfl (by decide) (by decide) hc
  rw [Nat.zero_add] at hr
  rw [h1, Option.bind_some, e6_burnOf h3 hg hc, Option.bind_some, h2.1, hr, Option.bind_some, cd_nz_nI hp (by omega), Option.bind_some, nI_add, q_1, pk_sub (by omega), pk_div (by omega) hp (by omega)]
  rfl
end EVM
