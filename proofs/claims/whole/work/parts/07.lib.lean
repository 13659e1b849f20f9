/-! plain facts for the pure programs: loops, indices, bits -/
theorem cd_rd_nI {f : Nat → Int32} {n c : Nat} (h : c < n) (hn : n < 2 ^ 31) : cd_rd f n (nI c) = some (f c) := by
  unfold cd_rd
  rw [if_neg (nI_in h hn), nI_clamp (by omega)]
theorem cd_ix_nI {n c : Nat} (h : c < n) (hn : n < 2 ^ 31) : cd_ix n (nI c) = some c := by
  unfold cd_ix
  rw [if_neg (nI_in h hn), nI_clamp (by omega)]
theorem cd_nz_nI {n : Nat} (h0 : 0 < n) (h : n < 2 ^ 31) : cd_nz (nI n) = some () := by
  unfold cd_nz
  rw [if_neg (nI_ne0 h0 h)]
/-- a loop, by what holds at its head -/
theorem cd_hoare {σ ρ : Type} {b : σ → Option (ρ ⊕ σ)} (I : Nat → σ → Prop) (Q : ρ → Prop) (hs : ∀ n s, I n s → (∃ r, b s = some (.inl r) ∧ Q r) ∨ (∃ m t, m < n ∧ b s = some (.inr t) ∧ I m t)) : ∀ (F n : Nat) (s : σ), n < F → I n s → ∃ r, cd_iter F b s = some r ∧ Q r
  | 0, n, s, h, _ => absurd h (Nat.not_lt_zero n)
  | F + 1, n, s, h, hI => by
    rcases hs n s hI with ⟨r, h1, h2⟩ | ⟨m, t, h1, h2, h3⟩
    · exact ⟨r, by show (b s).bind _ = _; rw [h1]; rfl, h2⟩
    · obtain ⟨r, h4, h5⟩ := cd_hoare I Q hs F m t (by omega) h3
      exact ⟨r, by show (b s).bind _ = _; rw [h2]; exact h4, h5⟩
/-- a loop that counts up to N -/
theorem cd_upto {σ ρ : Type} {b : Int32 × σ → Option (ρ ⊕ (Int32 × σ))} (N : Nat) (I : Nat → σ → Prop) (Q : ρ → Prop) (hN : N < cd_N)
    (hs : ∀ i a, i < N → I i a → (∃ r, b (nI i, a) = some (.inl r) ∧ Q r) ∨ ∃ a', b (nI i, a) = some (.inr (nI (i + 1), a')) ∧ I (i + 1) a') (he : ∀ a, I N a → ∃ r, b (nI N, a) = some (.inl r) ∧ Q r) {a0 : σ} (h0 : I 0 a0) : ∃ r, cd_iter cd_N b (nI 0, a0) = some r ∧ Q r := by
  refine cd_hoare (fun n s => ∃ i a, n + i = N ∧ s = (nI i, a) ∧ I i a) Q ?_ cd_N N (nI 0, a0) hN ⟨0, a0, by omega, rfl, h0⟩
  rintro n s ⟨i, a, h1, rfl, h2⟩
  rcases Nat.lt_or_ge i N with h | h
  · rcases hs i a h h2 with h3 | ⟨a', h3, h4⟩
    · exact Or.inl h3
    · exact Or.inr ⟨n - 1, _, by omega, h3, i + 1, a', by omega, rfl, h4⟩
  · have e : i = N := by omega
    subst e
    exact Or.inl (he a h2)
/-- the same, the counter behind the state -/
theorem cd_uptoR {σ ρ : Type} {b : σ × Int32 → Option (ρ ⊕ (σ × Int32))} (N : Nat) (I : Nat → σ → Prop) (Q : ρ → Prop) (hN : N < cd_N)
    (hs : ∀ i a, i < N → I i a → (∃ r, b (a, nI i) = some (.inl r) ∧ Q r) ∨ ∃ a', b (a, nI i) = some (.inr (a', nI (i + 1))) ∧ I (i + 1) a') (he : ∀ a, I N a → ∃ r, b (a, nI N) = some (.inl r) ∧ Q r) {a0 : σ} (h0 : I 0 a0) : ∃ r, cd_iter cd_N b (a0, nI 0) = some r ∧ Q r := by
  refine cd_hoare (fun n s => ∃ i a, n + i = N ∧ s = (a, nI i) ∧ I i a) Q ?_ cd_N N (a0, nI 0) hN ⟨0, a0, by omega, rfl, h0⟩
  rintro n s ⟨i, a, h1, rfl, h2⟩
  rcases Nat.lt_or_ge i N with h | h
  · rcases hs i a h h2 with h3 | ⟨a', h3, h4⟩
    · exact Or.inl h3
    · exact Or.inr ⟨n - 1, _, by omega, h3, i + 1, a', by omega, rfl, h4⟩
  · have e : i = N := by omega
    subst e
    exact Or.inl (he a h2)
theorem cd_row_s (T : Nat → Nat → Int32) (k : Nat) (f : Nat → Int32) : cd_row T k f k = f := if_pos rfl
theorem cd_row_n (T : Nat → Nat → Int32) {k j : Nat} (f : Nat → Int32) (h : j ≠ k) : cd_row T k f j = T j := if_neg h
theorem cd_fld_s (T : Nat → Nat → Int32) (k : Nat) (x : Int32) (i : Nat) : cd_fld T k x k i = x := by unfold cd_fld; rw [if_pos rfl]
theorem cd_fld_n (T : Nat → Nat → Int32) {k j : Nat} (x : Int32) (h : j ≠ k) : cd_fld T k x j = T j := if_neg h
theorem cd_b_rng (v a b : Int32) : (a ≤ v ∧ v ≤ b) ↔ (a.toInt ≤ v.toInt ∧ v.toInt ≤ b.toInt) := by
  rw [Int32.le_iff_toInt_le, Int32.le_iff_toInt_le]
theorem cd_le {x y : Int32} : x ≤ y ↔ x.toInt ≤ y.toInt := Int32.le_iff_toInt_le
theorem cd_lt {x y : Int32} : x < y ↔ x.toInt < y.toInt := Int32.lt_iff_toInt_lt
theorem cd_eq {x y : Int32} : x = y ↔ x.toInt = y.toInt := Int32.toInt_inj.symm
/-- a number between 0 and n -/
theorem cd_of_rng {x : Int32} {n : Nat} (hn : n < 2 ^ 31) (h0 : 0 ≤ x.toInt) (h1 : x.toInt ≤ n) : ∃ j : Nat, j ≤ n ∧ x = nI j := by
  refine ⟨x.toInt.toNat, by omega, ?_⟩
  apply Int32.toInt_inj.mp
  rw [nI_toInt (by omega)]
  omega
