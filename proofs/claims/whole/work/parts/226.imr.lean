/-! image and restore -/
/-- an image as the reference keeps it -/
def q_IM (r : Nat → Int32) (g : Nat → Nat → Nat) : Prop := q_B r g ∧ (∀ c, c < 12 → r (69 + c) = nI (g 3 c)) ∧ (∀ c, c < 12 → r (81 + c) = nI (g 4 c)) ∧ (∀ i, i < 8 → r (93 + 2 * i) = nI (g 8 i) ∧ r (93 + (2 * i + 1)) = nI (g 9 i)) ∧ r 110 = nI (g 10 0)
/-- image number n on both sides -/
def q_I (K T1 M : Nat → Nat → Int32) (n : Nat) : Prop := ∃ b : Bool, K 3 n = q_bi b ∧ M 21 n = q_bi b ∧ (b = true → ∃ g, q_ok g ∧ q_T T1 g ∧ q_IM (fun k => M 20 (120 * n + k)) g)
section IMR
variable {T M K T1 T2 : Nat → Nat → Int32} {g : Nat → Nat → Nat}
theorem q_I.same {K T1 M M' : Nat → Nat → Int32} {n : Nat} (h : q_I K T1 M n) (h20 : M' 20 = M 20) (h21 : M' 21 = M 21) : q_I K T1 M' n := by
  obtain ⟨b, h1, h2, h3⟩ := h
  exact ⟨b, h1, by rw [h21]; exact h2, by rw [h20]; exact h3⟩
/-- the three loops of image -/
theorem e6_image (h : q_X T M g) {n : Nat} (hn : n < 2) : ∃ M', f_X6_image (nI n) M = some (1, M') ∧ (∀ r, r ≠ 20 → r ≠ 21 → M' r = M r) ∧ M' 21 = upd (M 21) n 1 ∧ q_IM (fun k => M' 20 (120 * n + k)) g ∧ ∀ k, k < 120 * n ∨ 120 * n + 120 ≤ k → M' 20 k = M 20 k := by
  obtain ⟨h11, h12, h13, h14, h15⟩ := h
  have m120 : (120 : Int32) * nI n = nI (120 * n) := by rw [q_l 120, pk_mul]
  have hnb : 120 * n ≤ 120 := by omega
  obtain ⟨A, a1, a2, a3, a4⟩ := cd_upto' (b := f_X6_image_b19 (nI n)) 69 (fun i z => (∀ j, j < i → z 20 (120 * n + j) = M 0 j) ∧ (∀ k, k < 120 * n ∨ 120 * n + i ≤ k → z 20 k = M 20 k) ∧ ∀ r, r ≠ 20 → z r = M r) (by decide) (fun i z hi q => ⟨cd_set z 20 (120 * n + i) (z 0 i), by
      unfold f_X6_image_b19
      dsimp only
      rw [q_l 69, if_neg (nI_ge hi (by decide)), cd_rd_nI hi (by decide), Option.bind_some, m120, nI_add, cd_ix_nI (by omega) (by decide), Option.bind_some, nI_1], by
      refine ⟨fun j hj => ?_, fun k hk => ?_, fun r hr => by rw [cd_set_n _ _ hr]; exact q.2.2 r hr⟩
      · rw [cd_set_s]
        by_cases e : j = i
        · rw [e, pk_us, q.2.2 0 (by decide)]
        · rw [pk_un (by omega)]; exact q.1 j (by omega)
      · rw [cd_set_s, pk_un (by omega)]; exact q.2.1 k (by omega)⟩) (fun r => (∀ j, j < 69 → r 20 (120 * n + j) = M 0 j) ∧ (∀ k, k < 120 * n ∨ 120 * n + 69 ≤ k → r 20 k = M 20 k) ∧ ∀ k, k ≠ 20 → r k = M k) (fun z q => ⟨z, by
      unfold f_X6_image_b19
      dsimp only
      rw [q_l 69, if_pos (nI_le (Nat.le_refl _) (by decide))], q⟩) (a0 := M) ⟨fun j hj => by omega, fun _ _ => rfl, fun _ _ => rfl⟩
  obtain ⟨B, b1, b2, b3, b4, b5⟩ := cd_upto' (b := f_X6_image_b47 (nI n)) 12 (fun i z => (∀ j, j < i → z 20 (120 * n + (69 + j)) = M 2 j) ∧ (∀ j, j < i → z 20 (120 * n + (81 + j)) = M 3 j) ∧ (∀ k, k < 120 * n + 69 ∨ 120 * n + 93 ≤ k → z 20 k = A 20 k) ∧ ∀ r, r ≠ 20 → z r = M r) (by decide) (fun i z hi q => ⟨cd_set (cd_set z 20 (120 * n + 69 + i) (z 2 i)) 20 (120 * n + 81 + i) (z 3 i), by
      unfold f_X6_image_b47
      dsimp only
      rw [q_l 12, q_l 69, q_l 81, if_neg (nI_ge hi (by decide)), cd_rd_nI hi (by decide), Option.bind_some, m120, nI_add, nI_add, nI_add, nI_add, cd_ix_nI (by omega) (by decide), Option.bind_some, cd_rd_nI hi (by decide), Option.bind_some, cd_ix_nI (by omega) (by decide), Option.bind_some, nI_1], by
      refine ⟨fun j hj => ?_, fun j hj => ?_, fun k hk => ?_, fun r hr => by rw [cd_set_n _ _ hr, cd_set_n _ _ hr]; exact q.2.2.2 r hr⟩
      · rw [cd_set_s, cd_set_s, pk_un (by omega)]
        by_cases e : j = i
        · rw [e, show 120 * n + (69 + i) = 120 * n + 69 + i by omega, pk_us, q.2.2.2 2 (by decide)]
        · rw [pk_un (by omega)]; exact q.1 j (by omega)
      · rw [cd_set_s, cd_set_s]
        by_cases e : j = i
        · rw [e, show 120 * n + (81 + i) = 120 * n + 81 + i by omega, pk_us, q.2.2.2 3 (by decide)]
        · rw [pk_un (by omega), pk_un (by omega)]; exact q.2.1 j (by omega)
      · rw [cd_set_s, cd_set_s, pk_un (by omega), pk_un (by omega)]; exact q.2.2.1 k hk⟩) (fun r => (∀ j, j < 12 → r 20 (120 * n + (69 + j)) = M 2 j) ∧ (∀ j, j < 12 → r 20 (120 * n + (81 + j)) = M 3 j) ∧ (∀ k, k < 120 * n + 69 ∨ 120 * n + 93 ≤ k → r 20 k = A 20 k) ∧ ∀ k, k ≠ 20 → r k = M k) (fun z q => ⟨z, by
      unfold f_X6_image_b47
      dsimp only
      rw [q_l 12, if_pos (nI_le (Nat.le_refl _) (by decide))], q⟩) (a0 := A) ⟨fun j hj => by omega, fun j hj => by omega, fun _ _ => rfl, a4⟩
  obtain ⟨C, c1, c2, c3, c4⟩ := cd_upto' (b := f_X6_image_b95 (nI n)) 16 (fun i z => (∀ j, j < i → z 20 (120 * n + (93 + j)) = M 5 j) ∧ (∀ k, k < 120 * n + 93 ∨ 120 * n + 109 ≤ k → z 20 k = B 20 k) ∧ ∀ r, r ≠ 20 → z r = M r) (by decide) (fun i z hi q => ⟨cd_set z 20 (120 * n + 93 + i) (z 5 i), by
      unfold f_X6_image_b95
      dsimp only
      rw [q_l 16, q_l 93, if_neg (nI_ge hi (by decide)), cd_rd_nI hi (by decide), Option.bind_some, m120, nI_add, nI_add, cd_ix_nI (by omega) (by decide), Option.bind_some, nI_1], by
      refine ⟨fun j hj => ?_, fun k hk => ?_, fun r hr => by rw [cd_set_n _ _ hr]; exact q.2.2 r hr⟩
      · rw [cd_set_s]
        by_cases e : j = i
        · rw [e, show 120 * n + (93 + i) = 120 * n + 93 + i by omega, pk_us, q.2.2 5 (by decide)]
        · rw [pk_un (by omega)]; exact q.1 j (by omega)
      · rw [cd_set_s, pk_un (by omega)]; exact q.2.1 k hk⟩) (fun r => (∀ j, j < 16 → r 20 (120 * n + (93 + j)) = M 5 j) ∧ (∀ k, k < 120 * n + 93 ∨ 120 * n + 109 ≤ k → r 20 k = B 20 k) ∧ ∀ k, k ≠ 20 → r k = M k) (fun z q => ⟨z, by
      unfold f_X6_image_b95
      dsimp only
      rw [q_l 16, if_pos (nI_le (Nat.le_refl _) (by decide))], q⟩) (a0 := B) ⟨fun j hj => by omega, fun _ _ => rfl, b5⟩
  refine ⟨cd_set (cd_set C 20 (120 * n + 110) (C 4 0)) 21 n 1, ?_, fun r r20 r21 => by rw [cd_set_n _ _ r21, cd_set_n _ _ r20]; exact c4 r r20, ?_, ⟨?_, ?_, ?_, ?_, ?_⟩, ?_⟩
  · unfold f_X6_image
    have hin : (0 : Int32) ≤ nI n ∧ nI n ≤ 1 := ⟨nI_pos' (by omega), (nI_leI (a := n) (b := 1) (by omega) (by decide)).mpr (by omega)⟩
    rw [e_in, q_br, if_pos hin, a1, Option.bind_some, b1, Option.bind_some, c1, Option.bind_some, m120, q_l 110, nI_add, cd_ix_nI (by omega) (by decide), Option.bind_some, cd_ix_nI hn (by decide), Option.bind_some]
  · rw [cd_set_s, cd_set_n _ _ (by decide), c4 21 (by decide)]
  · intro k j hk h69 hj
    have := q_of_lt k hk h69
    show (cd_set (cd_set C 20 (120 * n + 110) (C 4 0)) 21 n 1) 20 (120 * n + (q_of k + j)) = _
    rw [cd_set_n _ _ (by decide), cd_set_s, pk_un (by omega), c3 _ (by omega), b4 _ (by omega), a2 _ (by omega)]
    exact h12 k j hk h69 hj
  · intro c hc
    show (cd_set (cd_set C 20 (120 * n + 110) (C 4 0)) 21 n 1) 20 (120 * n + (69 + c)) = _
    rw [cd_set_n _ _ (by decide), cd_set_s, pk_un (by omega), c3 _ (by omega), b2 _ hc]
    exact h13.1 c hc
  · intro c hc
    show (cd_set (cd_set C 20 (120 * n + 110) (C 4 0)) 21 n 1) 20 (120 * n + (81 + c)) = _
    rw [cd_set_n _ _ (by decide), cd_set_s, pk_un (by omega), c3 _ (by omega), b3 _ hc]
    exact h13.2 c hc
  · intro i hi
    refine ⟨?_, ?_⟩
    · show (cd_set (cd_set C 20 (120 * n + 110) (C 4 0)) 21 n 1) 20 (120 * n + (93 + 2 * i)) = _
      rw [cd_set_n _ _ (by decide), cd_set_s, pk_un (by omega), c2 _ (by omega)]
      exact (h14.2 i hi).1
    · show (cd_set (cd_set C 20 (120 * n + 110) (C 4 0)) 21 n 1) 20 (120 * n + (93 + (2 * i + 1))) = _
      rw [cd_set_n _ _ (by decide), cd_set_s, pk_un (by omega), c2 _ (by omega)]
      exact (h14.2 i hi).2
  · show (cd_set (cd_set C 20 (120 * n + 110) (C 4 0)) 21 n 1) 20 (120 * n + 110) = _
    rw [cd_set_n _ _ (by decide), cd_set_s, pk_us, c4 4 (by decide)]
    exact h14.1
  · intro k hk
    rw [cd_set_n _ _ (by decide), cd_set_s, pk_un (by omega), c3 _ (by omega), b4 _ (by omega), a3 _ (by omega)]
theorem m_image (h : q_X T M g) (h0 : q_I K T1 M 0) (h1 : q_I K T2 M 1) (a0 : Int32) : ∃ v K' T1' T2' M', f_X5_image a0 K T T1 T2 = some (v, K', T1', T2') ∧ f_X6_image a0 M = some (v, M') ∧ (∀ r, r ≠ 20 → r ≠ 21 → M' r = M r) ∧ q_I K' T1' M' 0 ∧ q_I K' T2' M' 1 := by
  by_cases hr : 0 ≤ a0 ∧ a0 ≤ 1
  · obtain ⟨n, hn, rfl⟩ := q_rng 1 (by decide) hr
    obtain ⟨M', e1, e2, e3, e4, e5⟩ := e6_image h (show n < 2 by omega)
    have hc : n = 0 ∨ n = 1 := by omega
    rcases hc with rfl | rfl
    · obtain ⟨T', c1, c2⟩ := e_copyFrom h.1 T1
      refine ⟨1, cd_set K 3 0 1, T', T2, M', ?_, e1, e2, ⟨true, ?_, ?_, fun _ => ⟨g, h.2.2.2.2, c2, e4⟩⟩, ?_⟩
      · unfold f_X5_image
        rw [e_within, q_br, if_pos hr, if_pos (show nI 0 = 0 from rfl), c1, Option.bind_some, cd_ix_nI (by decide) (by decide), Option.bind_some]
      · rw [cd_set_s, pk_us]; rfl
      · rw [e3, pk_us]; rfl
      · obtain ⟨b, p1, p2, p3⟩ := h1
        refine ⟨b, ?_, ?_, fun hb => ?_⟩
        · rw [cd_set_s, pk_un (by decide)]; exact p1
        · rw [e3, pk_un (by decide)]; exact p2
        · obtain ⟨g2, q1, q2, q3⟩ := p3 hb
          refine ⟨g2, q1, q2, ?_⟩
          have ee : (fun k => M' 20 (120 * 1 + k)) = fun k => M 20 (120 * 1 + k) := by
            funext k
            exact e5 _ (by omega)
          rw [ee]
          exact q3
    · obtain ⟨T', c1, c2⟩ := e_copyFrom h.1 T2
      refine ⟨1, cd_set K 3 1 1, T1, T', M', ?_, e1, e2, ?_, ⟨true, ?_, ?_, fun _ => ⟨g, h.2.2.2.2, c2, e4⟩⟩⟩
      · unfold f_X5_image
        rw [e_within, q_br, if_pos hr, if_neg (show ¬ nI 1 = 0 by decide), c1, Option.bind_some, cd_ix_nI (by decide) (by decide), Option.bind_some]
      · obtain ⟨b, p1, p2, p3⟩ := h0
        refine ⟨b, ?_, ?_, fun hb => ?_⟩
        · rw [cd_set_s, pk_un (by decide)]; exact p1
        · rw [e3, pk_un (by decide)]; exact p2
        · obtain ⟨g2, q1, q2, q3⟩ := p3 hb
          refine ⟨g2, q1, q2, ?_⟩
          -- only the places below 120 are read
          have ee : ∀ k, k < 120 → M' 20 (120 * 0 + k) = M 20 (120 * 0 + k) := fun k hk => e5 _ (by omega)
          obtain ⟨u1, u2, u3, u4, u5⟩ := q3
          refine ⟨fun k j hk h69 hj => ?_, fun c hc => ?_, fun c hc => ?_, fun i hi => ⟨?_, ?_⟩, ?_⟩
          · have := q_of_lt k hk h69
            show M' 20 (120 * 0 + (q_of k + j)) = _
            rw [ee _ (by omega)]; exact u1 k j hk h69 hj
          · show M' 20 (120 * 0 + (69 + c)) = _
            rw [ee _ (by omega)]; exact u2 c hc
          · show M' 20 (120 * 0 + (81 + c)) = _
            rw [ee _ (by omega)]; exact u3 c hc
          · show M' 20 (120 * 0 + (93 + 2 * i)) = _
            rw [ee _ (by omega)]; exact (u4 i hi).1
          · show M' 20 (120 * 0 + (93 + (2 * i + 1))) = _
            rw [ee _ (by omega)]; exact (u4 i hi).2
          · show M' 20 (120 * 0 + 110) = _
            rw [ee _ (by omega)]; exact u5
      · rw [cd_set_s, pk_us]; rfl
      · rw [e3, pk_us]; rfl
  · refine ⟨-2, K, T1, T2, M, ?_, ?_, fun _ _ _ => rfl, h0, h1⟩
    · unfold f_X5_image; rw [e_within, q_br, if_neg hr]
    · unfold f_X6_image; rw [e_in, q_br, if_neg hr]
/-- the three loops of restore -/
theorem e6_restore {n : Nat} (hn : n < 2) (hk : ¬ M 21 n = 0) (hI : q_IM (fun k => M 20 (120 * n + k)) g) : ∃ M', f_X6_restore (nI n) M = some (1, M') ∧ (∀ r, r ≠ 0 → r ≠ 2 → r ≠ 3 → r ≠ 4 → r ≠ 5 → M' r = M r) ∧ q_B (M' 0) g ∧ q_C M' g ∧ q_G M' g := by
  obtain ⟨u1, u2, u3, u4, u5⟩ := hI
  have m120 : (120 : Int32) * nI n = nI (120 * n) := by rw [q_l 120, pk_mul]
  have hnb : 120 * n ≤ 120 := by omega
  obtain ⟨A, a1, a2, a3⟩ := cd_upto' (b := f_X6_restore_b31 (nI n)) 69 (fun i z => (∀ j, j < i → z 0 j = M 20 (120 * n + j)) ∧ ∀ r, r ≠ 0 → z r = M r) (by decide) (fun i z hi q => ⟨cd_set z 0 i (z 20 (120 * n + i)), by
      unfold f_X6_restore_b31
      dsimp only
      rw [q_l 69, if_neg (nI_ge hi (by decide)), m120, nI_add, cd_rd_nI (by omega) (by decide), Option.bind_some, cd_ix_nI hi (by decide), Option.bind_some, nI_1], by
      refine ⟨fun j hj => ?_, fun r hr => by rw [cd_set_n _ _ hr]; exact q.2 r hr⟩
      rw [cd_set_s]
      by_cases e : j = i
      · rw [e, pk_us, q.2 20 (by decide)]
      · rw [pk_un e]; exact q.1 j (by omega)⟩) (fun r => (∀ j, j < 69 → r 0 j = M 20 (120 * n + j)) ∧ ∀ k, k ≠ 0 → r k = M k) (fun z q => ⟨z, by
      unfold f_X6_restore_b31
      dsimp only
      rw [q_l 69, if_pos (nI_le (Nat.le_refl _) (by decide))], q⟩) (a0 := M) ⟨fun j hj => by omega, fun _ _ => rfl⟩
  obtain ⟨B, b1, b2, b3, b4⟩ := cd_upto' (b := f_X6_restore_b59 (nI n)) 12 (fun i z => (∀ j, j < i → z 2 j = M 20 (120 * n + (69 + j))) ∧ (∀ j, j < i → z 3 j = M 20 (120 * n + (81 + j))) ∧ ∀ r, r ≠ 2 → r ≠ 3 → z r = A r) (by decide) (fun i z hi q => ⟨cd_set (cd_set z 2 i (z 20 (120 * n + 69 + i))) 3 i (z 20 (120 * n + 81 + i)), by
      unfold f_X6_restore_b59
      dsimp only
      rw [q_l 12, q_l 69, q_l 81, if_neg (nI_ge hi (by decide)), m120, nI_add, nI_add, nI_add, nI_add, cd_rd_nI (by omega) (by decide), Option.bind_some, cd_ix_nI hi (by decide), Option.bind_some, cd_rd_nI (by omega) (by decide), Option.bind_some, Option.bind_some, nI_1], by
      refine ⟨fun j hj => ?_, fun j hj => ?_, fun r r2 r3 => by rw [cd_set_n _ _ r3, cd_set_n _ _ r2]; exact q.2.2 r r2 r3⟩
      · rw [cd_set_n _ _ (by decide), cd_set_s]
        by_cases e : j = i
        · rw [e, pk_us, q.2.2 20 (by decide) (by decide), a3 20 (by decide), Nat.add_assoc]
        · rw [pk_un e]; exact q.1 j (by omega)
      · rw [cd_set_s, cd_set_n _ _ (by decide)]
        by_cases e : j = i
        · rw [e, pk_us, q.2.2 20 (by decide) (by decide), a3 20 (by decide), Nat.add_assoc]
        · rw [pk_un e]; exact q.2.1 j (by omega)⟩) (fun r => (∀ j, j < 12 → r 2 j = M 20 (120 * n + (69 + j))) ∧ (∀ j, j < 12 → r 3 j = M 20 (120 * n + (81 + j))) ∧ ∀ k, k ≠ 2 → k ≠ 3 → r k = A k) (fun z q => ⟨z, by
      unfold f_X6_restore_b59
      dsimp only
      rw [q_l 12, if_pos (nI_le (Nat.le_refl _) (by decide))], q⟩) (a0 := A) ⟨fun j hj => by omega, fun j hj => by omega, fun _ _ _ => rfl⟩
  obtain ⟨C, c1, c2, c3⟩ := cd_upto' (b := f_X6_restore_b107 (nI n)) 16 (fun i z => (∀ j, j < i → z 5 j = M 20 (120 * n + (93 + j))) ∧ ∀ r, r ≠ 5 → z r = B r) (by decide) (fun i z hi q => ⟨cd_set z 5 i (z 20 (120 * n + 93 + i)), by
      unfold f_X6_restore_b107
      dsimp only
      rw [q_l 16, q_l 93, if_neg (nI_ge hi (by decide)), m120, nI_add, nI_add, cd_rd_nI (by omega) (by decide), Option.bind_some, cd_ix_nI hi (by decide), Option.bind_some, nI_1], by
      refine ⟨fun j hj => ?_, fun r hr => by rw [cd_set_n _ _ hr]; exact q.2 r hr⟩
      rw [cd_set_s]
      by_cases e : j = i
      · rw [e, pk_us, q.2 20 (by decide), b4 20 (by decide) (by decide), a3 20 (by decide), Nat.add_assoc]
      · rw [pk_un e]; exact q.1 j (by omega)⟩) (fun r => (∀ j, j < 16 → r 5 j = M 20 (120 * n + (93 + j))) ∧ ∀ k, k ≠ 5 → r k = B k) (fun z q => ⟨z, by
      unfold f_X6_restore_b107
      dsimp only
      rw [q_l 16, if_pos (nI_le (Nat.le_refl _) (by decide))], q⟩) (a0 := B) ⟨fun j hj => by omega, fun _ _ => rfl⟩
  have e20 : C 20 = M 20 := by rw [c3 20 (by decide), b4 20 (by decide) (by decide), a3 20 (by decide)]
  refine ⟨cd_fld C 4 (M 20 (120 * n + 110)), ?_, fun r r0 r2 r3 r4 r5 => by rw [cd_fld_n _ _ r4, c3 r r5, b4 r r2 r3, a3 r r0], ?_, ⟨fun j hj => ?_, fun j hj => ?_⟩, ⟨?_, fun i hi => ⟨?_, ?_⟩⟩⟩
  · unfold f_X6_restore
    have hin : (0 : Int32) ≤ nI n ∧ nI n ≤ 1 := ⟨nI_pos' (by omega), (nI_leI (a := n) (b := 1) (by omega) (by decide)).mpr (by omega)⟩
    rw [e_in, q_br, if_pos hin, cd_rd_nI hn (by decide), Option.bind_some, if_neg hk, a1, Option.bind_some, b1, Option.bind_some, c1, Option.bind_some, m120, q_l 110, nI_add, cd_rd_nI (by omega) (by decide), Option.bind_some, e20]
  · rw [cd_fld_n _ _ (by decide), c3 0 (by decide), b4 0 (by decide) (by decide)]
    intro k j hk h69 hj
    have := q_of_lt k hk h69
    rw [a2 _ (by omega)]
    exact u1 k j hk h69 hj
  · rw [cd_fld_n _ _ (by decide), c3 2 (by decide), b2 j hj]; exact u2 j hj
  · rw [cd_fld_n _ _ (by decide), c3 3 (by decide), b3 j hj]; exact u3 j hj
  · rw [cd_fld_s]; exact u5
  · rw [cd_fld_n _ _ (by decide), c2 _ (by omega)]; exact (u4 i hi).1
  · rw [cd_fld_n _ _ (by decide), c2 _ (by omega)]; exact (u4 i hi).2
theorem m_restore (h : q_X T M g) (h0 : q_I K T1 M 0) (h1 : q_I K T2 M 1) (a0 : Int32) : ∃ v T' M' g', f_X5_restore a0 K T T1 T2 = some (v, T') ∧ f_X6_restore a0 M = some (v, M') ∧ q_X T' M' g' ∧ q_oth M M' := by
  by_cases hr : 0 ≤ a0 ∧ a0 ≤ 1
  · obtain ⟨n, hn, rfl⟩ := q_rng 1 (by decide) hr
    have hc : n = 0 ∨ n = 1 := by omega
    rcases hc with rfl | rfl
    · obtain ⟨b, p1, p2, p3⟩ := h0
      cases b with
      | false =>
        refine ⟨-3, T, M, g, ?_, ?_, h, q_oth.rf M⟩
        · unfold f_X5_restore; rw [e_within, q_br, if_pos hr, cd_rd_nI (by decide) (by decide), Option.bind_some, p1, if_pos q_bf]
        · unfold f_X6_restore; rw [e_in, q_br, if_pos hr, cd_rd_nI (by decide) (by decide), Option.bind_some, p2, if_pos q_bf]
      | true =>
        obtain ⟨g2, q1, q2, q3⟩ := p3 rfl
        obtain ⟨T', c1, c2⟩ := e_copyFrom q2 T
        obtain ⟨M', e1, e2, e3, e4, e5⟩ := e6_restore (n := 0) (by decide) (by rw [p2]; exact q_bt) q3
        refine ⟨1, T', M', g2, ?_, e1, ⟨c2, e3, e4, e5, q1⟩, ⟨e2 6 (by decide) (by decide) (by decide) (by decide) (by decide), e2 7 (by decide) (by decide) (by decide) (by decide) (by decide), e2 20 (by decide) (by decide) (by decide) (by decide) (by decide), e2 21 (by decide) (by decide) (by decide) (by decide) (by decide)⟩⟩
        unfold f_X5_restore
        rw [e_within, q_br, if_pos hr, cd_rd_nI (by decide) (by decide), Option.bind_some, p1, if_neg q_bt, if_pos (show nI 0 = 0 from rfl), c1, Option.bind_some]
    · obtain ⟨b, p1, p2, p3⟩ := h1
      cases b with
      | false =>
        refine ⟨-3, T, M, g, ?_, ?_, h, q_oth.rf M⟩
        · unfold f_X5_restore; rw [e_within, q_br, if_pos hr, cd_rd_nI (by decide) (by decide), Option.bind_some, p1, if_pos q_bf]
        · unfold f_X6_restore; rw [e_in, q_br, if_pos hr, cd_rd_nI (by decide) (by decide), Option.bind_some, p2, if_pos q_bf]
      | true =>
        obtain ⟨g2, q1, q2, q3⟩ := p3 rfl
        obtain ⟨T', c1, c2⟩ := e_copyFrom q2 T
        obtain ⟨M', e1, e2, e3, e4, e5⟩ := e6_restore (n := 1) (by decide) (by rw [p2]; exact q_bt) q3
        refine ⟨1, T', M', g2, ?_, e1, ⟨c2, e3, e4, e5, q1⟩, ⟨e2 6 (by decide) (by decide) (by decide) (by decide) (by decide), e2 7 (by decide) (by decide) (by decide) (by decide) (by decide), e2 20 (by decide) (by decide) (by decide) (by decide) (by decide), e2 21 (by decide) (by decide) (by decide) (by decide) (by decide)⟩⟩
        unfold f_X5_restore
        rw [e_within, q_br, if_pos hr, cd_rd_nI (by decide) (by decide), Option.bind_some, p1, if_neg q_bt, if_neg (show ¬ nI 1 = 0 by decide), c1, Option.bind_some]
  · refine ⟨-2, T, M, g, ?_, ?_, h, q_oth.rf M⟩
    · unfold f_X5_restore; rw [e_within, q_br, if_neg hr]
    · unfold f_X6_restore; rw [e_in, q_br, if_neg hr]
end IMR
