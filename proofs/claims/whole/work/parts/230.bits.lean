/-! the bits of a set of candles, counted both ways -/
def q_pc (L : Nat) : Nat := q_cnt (fun i => L.testBit i) 12
theorem q_bcF (k : Nat) (h : ∀ L, L < 256 → f_J6_bitCount (nI (256 * k + L)) = some (nI (q_pc (256 * k + L)))) (L : Nat) (h1 : L / 256 = k) : f_J6_bitCount (nI L) = some (nI (q_pc L)) := by
  have := h (L % 256) (Nat.mod_lt _ (by decide))
  rw [show 256 * k + L % 256 = L by omega] at this
  exact this
theorem q_bc0 : ∀ L, L < 256 → f_J6_bitCount (nI (256 * 0 + L)) = some (nI (q_pc (256 * 0 + L))) := by decide +kernel
theorem q_bc1 : ∀ L, L < 256 → f_J6_bitCount (nI (256 * 1 + L)) = some (nI (q_pc (256 * 1 + L))) := by decide +kernel
theorem q_bc2 : ∀ L, L < 256 → f_J6_bitCount (nI (256 * 2 + L)) = some (nI (q_pc (256 * 2 + L))) := by decide +kernel
theorem q_bc3 : ∀ L, L < 256 → f_J6_bitCount (nI (256 * 3 + L)) = some (nI (q_pc (256 * 3 + L))) := by decide +kernel
theorem q_bc4 : ∀ L, L < 256 → f_J6_bitCount (nI (256 * 4 + L)) = some (nI (q_pc (256 * 4 + L))) := by decide +kernel
theorem q_bc5 : ∀ L, L < 256 → f_J6_bitCount (nI (256 * 5 + L)) = some (nI (q_pc (256 * 5 + L))) := by decide +kernel
theorem q_bc6 : ∀ L, L < 256 → f_J6_bitCount (nI (256 * 6 + L)) = some (nI (q_pc (256 * 6 + L))) := by decide +kernel
theorem q_bc7 : ∀ L, L < 256 → f_J6_bitCount (nI (256 * 7 + L)) = some (nI (q_pc (256 * 7 + L))) := by decide +kernel
theorem q_bc8 : ∀ L, L < 256 → f_J6_bitCount (nI (256 * 8 + L)) = some (nI (q_pc (256 * 8 + L))) := by decide +kernel
theorem q_bc9 : ∀ L, L < 256 → f_J6_bitCount (nI (256 * 9 + L)) = some (nI (q_pc (256 * 9 + L))) := by decide +kernel
theorem q_bc10 : ∀ L, L < 256 → f_J6_bitCount (nI (256 * 10 + L)) = some (nI (q_pc (256 * 10 + L))) := by decide +kernel
theorem q_bc11 : ∀ L, L < 256 → f_J6_bitCount (nI (256 * 11 + L)) = some (nI (q_pc (256 * 11 + L))) := by decide +kernel
theorem q_bc12 : ∀ L, L < 256 → f_J6_bitCount (nI (256 * 12 + L)) = some (nI (q_pc (256 * 12 + L))) := by decide +kernel
theorem q_bc13 : ∀ L, L < 256 → f_J6_bitCount (nI (256 * 13 + L)) = some (nI (q_pc (256 * 13 + L))) := by decide +kernel
theorem q_bc14 : ∀ L, L < 256 → f_J6_bitCount (nI (256 * 14 + L)) = some (nI (q_pc (256 * 14 + L))) := by decide +kernel
theorem q_bc15 : ∀ L, L < 256 → f_J6_bitCount (nI (256 * 15 + L)) = some (nI (q_pc (256 * 15 + L))) := by decide +kernel
theorem e_bitCount {L : Nat} (hL : L < 2 ^ 12) : f_J6_bitCount (nI L) = some (nI (q_pc L)) := by
  have hk : L / 256 = 0 ∨ L / 256 = 1 ∨ L / 256 = 2 ∨ L / 256 = 3 ∨ L / 256 = 4 ∨ L / 256 = 5 ∨ L / 256 = 6 ∨ L / 256 = 7 ∨ L / 256 = 8 ∨ L / 256 = 9 ∨ L / 256 = 10 ∨ L / 256 = 11 ∨ L / 256 = 12 ∨ L / 256 = 13 ∨ L / 256 = 14 ∨ L / 256 = 15 := by omega
  rcases hk with h | h | h | h | h | h | h | h | h | h | h | h | h | h | h | h
  · exact q_bcF 0 q_bc0 L h
  · exact q_bcF 1 q_bc1 L h
  · exact q_bcF 2 q_bc2 L h
  · exact q_bcF 3 q_bc3 L h
  · exact q_bcF 4 q_bc4 L h
  · exact q_bcF 5 q_bc5 L h
  · exact q_bcF 6 q_bc6 L h
  · exact q_bcF 7 q_bc7 L h
  · exact q_bcF 8 q_bc8 L h
  · exact q_bcF 9 q_bc9 L h
  · exact q_bcF 10 q_bc10 L h
  · exact q_bcF 11 q_bc11 L h
  · exact q_bcF 12 q_bc12 L h
  · exact q_bcF 13 q_bc13 L h
  · exact q_bcF 14 q_bc14 L h
  · exact q_bcF 15 q_bc15 L h
theorem e6_bits {L : Nat} (hL : L < 2 ^ 31) : f_X6_bits (nI L) = some (nI (q_pc L)) := by
  have k : ∃ r, cd_iter cd_N (f_X6_bits_b4 (nI L)) (nI 0, nI 0) = some r ∧ r = nI (q_pc L) := by
    refine cd_hoare (fun m z => ∃ c, m + c = 12 ∧ z = (nI (q_cnt (fun i => L.testBit i) c), nI c)) _ ?_ cd_N 12 _ (by decide) ⟨0, rfl, rfl⟩
    rintro m z ⟨c, hm, rfl⟩
    by_cases hc : c < 12
    · refine Or.inr ⟨m - 1, (nI (q_cnt (fun i => L.testBit i) (c + 1)), nI (c + 1)), by omega, ?_, c + 1, by omega, rfl⟩
      unfold f_X6_bits_b4
      dsimp only
      rw [q_l 12, if_neg (nI_ge hc (by decide)), q_bit hL (by omega), nI_1]
      show _ = some (Sum.inr (nI (q_cnt (fun i => L.testBit i) c + if L.testBit c = true then 1 else 0), nI (c + 1)))
      rw [← nI_add (q_cnt (fun i => L.testBit i) c)]
      cases L.testBit c <;> rfl
    · have e : c = 12 := by omega
      subst e
      refine Or.inl ⟨_, ?_, rfl⟩
      unfold f_X6_bits_b4
      dsimp only
      rw [q_l 12, if_pos (nI_le (Nat.le_refl _) (by decide))]
      rfl
  obtain ⟨r, k1, rfl⟩ := k
  unfold f_X6_bits
  rw [show cd_iter cd_N (f_X6_bits_b4 (nI L)) ((0 : Int32), (0 : Int32)) = some (nI (q_pc L)) from k1, Option.bind_some]
