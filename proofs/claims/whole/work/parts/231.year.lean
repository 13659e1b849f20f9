/-! a year: both sides against one run -/
def q_yx (x : Nat) : Nat := (75 * x + 74) % 65537
def q_yact (x : Nat) : Option (Nat × Nat × Nat) := if x % 8 = 0 then some (42, x / 8 % 12, 0) else if x % 8 = 1 then some (45, x / 8 % 12, 0) else if x % 8 = 2 then some (33, x / 8 % 12, 0) else if x % 8 = 3 then some (94, x / 8 % 12, 0) else if x % 8 = 4 then (if x / 8 % 12 < 11 then some (62, x / 8 % 12, x / 8 % 12 + 1) else none) else if x % 8 = 5 then some (119, x / 8 % 12, x / 96 % 10) else some (46, 0, 0)
def q_ys (x : Nat) (s : (Nat → Nat → Nat) × Nat) : (Nat → Nat → Nat) × Nat := match q_yact x with
  | none => s
  | some r => if q_why r.1 r.2.1 r.2.2 s.1 = 0 then (q_do r.1 r.2.1 r.2.2 s.1, s.2 + q_pay r.1 r.2.1 s.1) else s
def q_yr : Nat → Nat → (Nat → Nat → Nat) × Nat → (Nat → Nat → Nat) × Nat
  | 0, _, s => s
  | f + 1, x, s => q_yr f (q_yx x) (q_ys (q_yx x) s)
theorem q_yact_val {x : Nat} {r : Nat × Nat × Nat} (h : q_yact x = some r) : q_val r.1 r.2.1 r.2.2 := by
  have h12 : x / 8 % 12 < 12 := Nat.mod_lt _ (by decide)
  have h10 : x / 96 % 10 < 10 := Nat.mod_lt _ (by decide)
  unfold q_yact at h
  split at h
  · cases h; exact Or.inr (Or.inr (Or.inr ⟨Or.inl rfl, h12, rfl⟩))
  · split at h
    · cases h; exact Or.inr (Or.inr (Or.inr ⟨Or.inr (Or.inl rfl), h12, rfl⟩))
    · split at h
      · cases h; exact Or.inr (Or.inr (Or.inr ⟨Or.inr (Or.inr (Or.inl rfl)), h12, rfl⟩))
      · split at h
        · cases h; exact Or.inr (Or.inr (Or.inr ⟨Or.inr (Or.inr (Or.inr rfl)), h12, rfl⟩))
        · split at h
          · split at h
            · cases h; exact Or.inr (Or.inr (Or.inl ⟨rfl, h12, by show x / 8 % 12 + 1 < 12; omega⟩))
            · cases h
          · split at h
            · cases h; exact Or.inr (Or.inl ⟨rfl, h12, by show x / 96 % 10 ≤ 9; omega⟩)
            · cases h; exact Or.inl ⟨rfl, rfl, rfl⟩
theorem q_ys_ok {x : Nat} {s : (Nat → Nat → Nat) × Nat} (h : q_ok s.1) : q_ok (q_ys x s).1 := by
  unfold q_ys
  cases hy : q_yact x with
  | none => exact h
  | some r =>
    dsimp only
    by_cases hw : q_why r.1 r.2.1 r.2.2 s.1 = 0
    · rw [if_pos hw]; exact q_do_ok (q_yact_val hy) h hw
    · rw [if_neg hw]; exact h
theorem q_ys_k {x : Nat} {s : (Nat → Nat → Nat) × Nat} {r : Nat} (hr : r = 3 ∨ r = 4 ∨ r = 8 ∨ r = 9 ∨ r = 10) (j : Nat) : (q_ys x s).1 r j = s.1 r j := by
  unfold q_ys
  cases hy : q_yact x with
  | none => rfl
  | some q =>
    dsimp only
    by_cases hw : q_why q.1 q.2.1 q.2.2 s.1 = 0
    · rw [if_pos hw]; exact q_do_k (q_yact_val hy) hr j
    · rw [if_neg hw]
theorem at_b {k : Nat} (hk : k = 42 ∨ k = 45 ∨ k = 33 ∨ k = 94) (a b b' : Int32) (Y S : Nat → Nat → Int32) : f_X1_attempt (nI k) a b Y S = f_X1_attempt (nI k) a b' Y S := by
  rcases hk with rfl | rfl | rfl | rfl
  · unfold f_X1_attempt f_X3_reasonAgainst
    simp only [show ¬ (nI 42 = (33 : Int32)) by decide, show (nI 42 = (42 : Int32)) = True from eq_true rfl, if_true, if_false]
  · unfold f_X1_attempt f_X3_reasonAgainst
    simp only [show ¬ (nI 45 = (33 : Int32)) by decide, show ¬ (nI 45 = (42 : Int32)) by decide, show (nI 45 = (45 : Int32)) = True from eq_true rfl, if_true, if_false]
  · unfold f_X1_attempt f_X3_reasonAgainst
    simp only [show (nI 33 = (33 : Int32)) = True from eq_true rfl, if_true, if_false]
  · unfold f_X1_attempt f_X3_reasonAgainst
    simp only [show ¬ (nI 94 = (33 : Int32)) by decide, show ¬ (nI 94 = (42 : Int32)) by decide, show ¬ (nI 94 = (45 : Int32)) by decide, show ¬ (nI 94 = (62 : Int32)) by decide, show (nI 94 = (94 : Int32)) = True from eq_true rfl, if_true, if_false]
theorem at_m (a b a' b' : Int32) (Y S : Nat → Nat → Int32) : f_X1_attempt (nI 46) a b Y S = f_X1_attempt (nI 46) a' b' Y S := by
  unfold f_X1_attempt f_X3_reasonAgainst
  simp only [show ¬ (nI 46 = (33 : Int32)) by decide, show ¬ (nI 46 = (42 : Int32)) by decide, show ¬ (nI 46 = (45 : Int32)) by decide, show ¬ (nI 46 = (62 : Int32)) by decide, show ¬ (nI 46 = (94 : Int32)) by decide, show ¬ (nI 46 = (119 : Int32)) by decide, if_false]
section YEAR
variable {Y S T M K : Nat → Nat → Int32} {g : Nat → Nat → Nat}
/-- the numbers of a draw -/
theorem yr_x {x : Nat} (hx : x < 65537) : (((75 : Int32) * nI x) + (74 : Int32)) - (((75 : Int32) * nI x) + (74 : Int32)) / (65537 : Int32) * (65537 : Int32) = nI (q_yx x) := by
  rw [q_l 75, q_l 74, q_l 65537, pk_mul, nI_add, pk_rem (by omega) (by decide) (by decide)]
  rfl
theorem yr_8 {x : Nat} (hx : x < 65537) : nI x - nI x / (8 : Int32) * (8 : Int32) = nI (x % 8) := pk_rem (d := 8) (by omega) (by decide) (by decide)
theorem yr_12 {x : Nat} (hx : x < 65537) : nI x / (8 : Int32) - nI x / (8 : Int32) / (12 : Int32) * (12 : Int32) = nI (x / 8 % 12) := by
  rw [show nI x / (8 : Int32) = nI (x / 8) from pk_div (d := 8) (by omega) (by decide) (by decide)]
  exact pk_rem (d := 12) (by omega) (by decide) (by decide)
theorem yr_10 {x : Nat} (hx : x < 65537) : nI x / (96 : Int32) - nI x / (96 : Int32) / (10 : Int32) * (10 : Int32) = nI (x / 96 % 10) := by
  rw [show nI x / (96 : Int32) = nI (x / 96) from pk_div (d := 96) (by omega) (by decide) (by decide)]
  exact pk_rem (d := 10) (by omega) (by decide) (by decide)
theorem q_yx_lt (x : Nat) : q_yx x < 65537 := Nat.mod_lt _ (by decide)
theorem yr_body {x i n : Nat} (hx : x < 65537) (hi : i < n) (hn : n < 2 ^ 31) (Y S : Nat → Nat → Int32) : f_X1_draws_b11 (nI n) (nI x, nI i, Y, S) = match q_yact (q_yx x) with
    | none => some (.inr (nI (q_yx x), nI (i + 1), Y, S))
    | some r => (f_X1_attempt (nI r.1) (nI r.2.1) (nI r.2.2) Y S).bind (fun r9 => some (.inr (nI (q_yx x), nI (i + 1), r9.2.1, r9.2.2))) := by
  unfold f_X1_draws_b11
  dsimp only
  rw [if_neg (nI_ge hi hn), yr_x hx]
  have hy := q_yx_lt x
  obtain ⟨z, hz⟩ : ∃ z, z = q_yx x := ⟨_, rfl⟩
  rw [← hz] at hy ⊢
  rw [yr_8 hy, yr_12 hy, yr_10 hy, nI_1 i, cd_rd_nI (Nat.mod_lt _ (by decide)) (by decide), Option.bind_some]
  have h12 : z / 8 % 12 < 12 := Nat.mod_lt _ (by decide)
  have hm : z % 8 = 0 ∨ z % 8 = 1 ∨ z % 8 = 2 ∨ z % 8 = 3 ∨ z % 8 = 4 ∨ z % 8 = 5 ∨ z % 8 = 6 ∨ z % 8 = 7 := by omega
  rcases hm with hm | hm | hm | hm | hm | hm | hm | hm
  · rw [show q_yact z = some (42, z / 8 % 12, 0) by unfold q_yact; rw [if_pos hm], hm, show cd_dk 0 = nI 42 from rfl, if_neg (show ¬ nI 42 = 62 by decide), Option.bind_some, if_neg (show ¬ nI 42 = 62 by decide), at_b (Or.inl rfl) _ _ (nI 0)]
  · rw [show q_yact z = some (45, z / 8 % 12, 0) by unfold q_yact; rw [if_neg (by omega), if_pos hm], hm, show cd_dk 1 = nI 45 from rfl, if_neg (show ¬ nI 45 = 62 by decide), Option.bind_some, if_neg (show ¬ nI 45 = 62 by decide), at_b (Or.inr (Or.inl rfl)) _ _ (nI 0)]
  · rw [show q_yact z = some (33, z / 8 % 12, 0) by unfold q_yact; rw [if_neg (by omega), if_neg (by omega), if_pos hm], hm, show cd_dk 2 = nI 33 from rfl, if_neg (show ¬ nI 33 = 62 by decide), Option.bind_some, if_neg (show ¬ nI 33 = 62 by decide), at_b (Or.inr (Or.inr (Or.inl rfl))) _ _ (nI 0)]
  · rw [show q_yact z = some (94, z / 8 % 12, 0) by unfold q_yact; rw [if_neg (by omega), if_neg (by omega), if_neg (by omega), if_pos hm], hm, show cd_dk 3 = nI 94 from rfl, if_neg (show ¬ nI 94 = 62 by decide), Option.bind_some, if_neg (show ¬ nI 94 = 62 by decide), at_b (Or.inr (Or.inr (Or.inr rfl))) _ _ (nI 0)]
  · have hact : q_yact z = if z / 8 % 12 < 11 then some (62, z / 8 % 12, z / 8 % 12 + 1) else none := by unfold q_yact; rw [if_neg (by omega), if_neg (by omega), if_neg (by omega), if_neg (by omega), if_pos hm]
    rw [hact, hm, show cd_dk 4 = nI 62 from rfl, if_pos (show nI 62 = 62 from rfl), Option.bind_some, if_pos (show nI 62 = 62 from rfl), nI_1, e_isCandle, q_br]
    by_cases h11 : z / 8 % 12 < 11
    · rw [if_pos h11, if_pos (show (0 : Int32) ≤ nI (z / 8 % 12 + 1) ∧ nI (z / 8 % 12 + 1) ≤ 11 from ⟨nI_pos' (by omega), (nI_leI (b := 11) (by omega) (by decide)).mpr (by omega)⟩)]
    · rw [if_neg h11, if_neg (show ¬ ((0 : Int32) ≤ nI (z / 8 % 12 + 1) ∧ nI (z / 8 % 12 + 1) ≤ 11) from fun q => h11 (by have := (nI_leI (b := 11) (by omega) (by decide)).mp q.2; omega))]
  · rw [show q_yact z = some (119, z / 8 % 12, z / 96 % 10) by unfold q_yact; rw [if_neg (by omega), if_neg (by omega), if_neg (by omega), if_neg (by omega), if_neg (by omega), if_pos hm], hm, show cd_dk 5 = nI 119 from rfl, if_neg (show ¬ nI 119 = 62 by decide), Option.bind_some, if_neg (show ¬ nI 119 = 62 by decide)]
  · rw [show q_yact z = some (46, 0, 0) by unfold q_yact; rw [if_neg (by omega), if_neg (by omega), if_neg (by omega), if_neg (by omega), if_neg (by omega), if_neg (by omega)], hm, show cd_dk 6 = nI 46 from rfl, if_neg (show ¬ nI 46 = 62 by decide), Option.bind_some, if_neg (show ¬ nI 46 = 62 by decide), at_m _ _ (nI 0) (nI 0)]
  · rw [show q_yact z = some (46, 0, 0) by unfold q_yact; rw [if_neg (by omega), if_neg (by omega), if_neg (by omega), if_neg (by omega), if_neg (by omega), if_neg (by omega)], hm, show cd_dk 7 = nI 46 from rfl, if_neg (show ¬ nI 46 = 62 by decide), Option.bind_some, if_neg (show ¬ nI 46 = 62 by decide), at_m _ _ (nI 0) (nI 0)]
theorem e_draws (hT : q_T T g) (hg : q_ok g) {x n : Nat} (hx : x < 65537) (hn : n ≤ 99) (Y S : Nat → Nat → Int32) : ∃ Y' S', f_X1_draws (nI x) (nI n) Y S T = some (Y', S') ∧ q_T S' (q_yr n x (g, 0)).1 ∧ q_ok (q_yr n x (g, 0)).1 ∧ Y' 3 0 = nI (q_yr n x (g, 0)).2 := by
  obtain ⟨S1, c1, c2⟩ := e_copyFrom hT S
  have hb0 : f_X1_begin Y S T = some (cd_fld (cd_fld (cd_fld (cd_fld (cd_fld Y 1 0) 2 0) 3 0) 4 (-6)) 5 (-6), S1) := by
    unfold f_X1_begin
    rw [c1, Option.bind_some]
  have k : ∃ r, cd_iter cd_N (f_X1_draws_b11 (nI n)) (nI x, nI 0, cd_fld (cd_fld (cd_fld (cd_fld (cd_fld Y 1 0) 2 0) 3 0) 4 (-6)) 5 (-6), S1) = some r ∧ q_T r.2 (q_yr n x (g, 0)).1 ∧ q_ok (q_yr n x (g, 0)).1 ∧ r.1 3 0 = nI (q_yr n x (g, 0)).2 := by
    refine cd_hoare (fun m z => ∃ i x1 s acts o Y1 S2, m + i = n ∧ z = (nI x1, nI i, Y1, S2) ∧ x1 < 65537 ∧ q_T S2 s.1 ∧ q_ok s.1 ∧ q_Y Y1 acts s.2 o ∧ q_oo o acts ∧ acts ≤ i ∧ q_yr n x (g, 0) = q_yr m x1 s) _ ?_ cd_N n _ (by have e : cd_N = 20000 := rfl; omega) ⟨0, x, (g, 0), 0, none, _, S1, by omega, rfl, hx, c2, hg, ⟨rfl, rfl, rfl, rfl⟩, (fun q hq => by cases hq), Nat.le_refl _, rfl⟩
    rintro m z ⟨i, x1, s, acts, o, Y1, S2, hm, rfl, hx1, hS, hok, hY, hoo, hac, hyr⟩
    by_cases hi : i < n
    · obtain ⟨m', rfl⟩ : ∃ q, m = q + 1 := ⟨m - 1, by omega⟩
      have body := yr_body hx1 hi (by omega) Y1 S2
      have hyr' : q_yr n x (g, 0) = q_yr m' (q_yx x1) (q_ys (q_yx x1) s) := hyr
      have hok2 := q_ys_ok (x := q_yx x1) hok
      unfold q_ys at hyr' hok2
      cases hy : q_yact (q_yx x1) with
      | none =>
        rw [hy] at body hyr'
        exact Or.inr ⟨m', _, by omega, body, i + 1, q_yx x1, s, acts, o, Y1, S2, by omega, rfl, q_yx_lt x1, hS, hok, hY, hoo, by omega, hyr'⟩
      | some r =>
        rw [hy] at body hyr' hok2
        obtain ⟨Y2, S3, a1, a2, a3⟩ := e_attempt (b := r.2.2) (q_yact_val hy) hS hok hY (fun q hq => by have := hoo q hq; omega)
        dsimp only at body hyr' hok2
        rw [a1, Option.bind_some] at body
        by_cases hw : q_why r.1 r.2.1 r.2.2 s.1 = 0
        · rw [if_pos hw] at hyr' hok2
          obtain ⟨s1, s2⟩ := a3 hw
          exact Or.inr ⟨m', _, by omega, body, i + 1, q_yx x1, _, acts + 1, _, Y2, S3, by omega, rfl, q_yx_lt x1, s1, hok2, s2, q_on_oo hoo _, by omega, hyr'⟩
        · rw [if_neg hw] at hyr' hok2
          obtain ⟨s1, s2, -⟩ := a2 hw
          exact Or.inr ⟨m', _, by omega, body, i + 1, q_yx x1, s, acts, o, Y2, S3, by omega, rfl, q_yx_lt x1, by rw [s1]; exact hS, hok, s2, hoo, by omega, hyr'⟩
    · have e : m = 0 := by omega
      subst e
      have hyr' : q_yr n x (g, 0) = s := hyr
      refine Or.inl ⟨(Y1, S2), ?_, by rw [hyr']; exact hS, by rw [hyr']; exact hok, by rw [hyr']; exact hY.2.1⟩
      unfold f_X1_draws_b11
      dsimp only
      rw [if_pos (nI_le (by omega) (by omega))]
  obtain ⟨r, k1, k2, k3, k4⟩ := k
  refine ⟨r.1, r.2, ?_, k2, k3, k4⟩
  unfold f_X1_draws
  rw [hb0, Option.bind_some]
  dsimp only
  rw [show cd_iter cd_N (f_X1_draws_b11 (nI n)) (nI x, (0 : Int32), cd_fld (cd_fld (cd_fld (cd_fld (cd_fld Y 1 0) 2 0) 3 0) 4 (-6)) 5 (-6), S1) = some r from k1, Option.bind_some]
/-- one draw in the reference -/
theorem ym_body (hB : q_B (M 1) g) (hC : q_C M g) (hg : q_ok g) {x i n paid : Nat} (hx : x < 65537) (hi : i < n) (hn : n < 2 ^ 31) (h8 : M 8 0 = nI paid) : ∃ M', f_X6_year_b43 (nI n) (nI x, nI i, M) = some (.inr (nI (q_yx x), nI (i + 1), M')) ∧ q_B (M' 1) (q_ys (q_yx x) (g, paid)).1 ∧ M' 8 0 = nI (q_ys (q_yx x) (g, paid)).2 ∧ ∀ r, r ≠ 1 → r ≠ 8 → r ≠ 11 → M' r = M r := by
  unfold f_X6_year_b43
  dsimp only
  rw [if_neg (nI_ge hi hn), yr_x hx]
  have hy := q_yx_lt x
  obtain ⟨z, hz⟩ : ∃ z, z = q_yx x := ⟨_, rfl⟩
  rw [← hz] at hy ⊢
  rw [yr_8 hy, yr_12 hy, yr_10 hy, nI_1 i]
  have h12 : z / 8 % 12 < 12 := Nat.mod_lt _ (by decide)
  have h10 : z / 96 % 10 ≤ 9 := by have := Nat.mod_lt (z / 96) (show 0 < 10 by decide); omega
  have hm : z % 8 = 0 ∨ z % 8 = 1 ∨ z % 8 = 2 ∨ z % 8 = 3 ∨ z % 8 = 4 ∨ z % 8 = 5 ∨ z % 8 = 6 ∨ z % 8 = 7 := by omega
  -- an act that pays nothing
  have fin : ∀ (k a b : Nat) (M' : Nat → Nat → Int32), q_yact z = some (k, a, b) → q_pay k a g = 0 → (q_why k a b g ≠ 0 → M' = M) → (q_why k a b g = 0 → q_B (M' 1) (q_do k a b g) ∧ ∀ r, r ≠ 1 → r ≠ 11 → M' r = M r) → q_B (M' 1) (q_ys z (g, paid)).1 ∧ M' 8 0 = nI (q_ys z (g, paid)).2 ∧ ∀ r, r ≠ 1 → r ≠ 8 → r ≠ 11 → M' r = M r := by
    intro k a b M' e1 e2 e3 e4
    unfold q_ys
    rw [e1]
    dsimp only
    by_cases hw : q_why k a b g = 0
    · rw [if_pos hw, e2]
      obtain ⟨p1, p2⟩ := e4 hw
      exact ⟨p1, by rw [p2 8 (by decide) (by decide)]; exact h8, fun r r1 _ r11 => p2 r r1 r11⟩
    · rw [if_neg hw, e3 hw]
      exact ⟨hB, h8, fun _ _ _ _ => rfl⟩
  rcases hm with hm | hm | hm | hm | hm | hm | hm | hm
  · obtain ⟨M', e1, e2, e3⟩ := e6_strike hB hg h12
    refine ⟨M', ?_, fin 42 (z / 8 % 12) 0 M' (by unfold q_yact; rw [if_pos hm]) rfl e2 (fun q => ⟨(e3 q).1, fun r r1 _ => (e3 q).2 r r1⟩)⟩
    rw [hm, if_neg (show ¬ nI 0 = 4 by decide), if_pos (show nI 0 = 0 from rfl), e1, Option.bind_some]
  · obtain ⟨M', e1, e2, e3⟩ := e6_snuffOut hB hg h12
    refine ⟨M', ?_, fin 45 (z / 8 % 12) 0 M' (by unfold q_yact; rw [if_neg (by omega), if_pos hm]) rfl e2 (fun q => ⟨(e3 q).1, fun r r1 _ => (e3 q).2 r r1⟩)⟩
    rw [hm, if_neg (show ¬ nI 1 = 4 by decide), if_neg (show ¬ nI 1 = 0 by decide), if_pos (show nI 1 = 1 from rfl), e1, Option.bind_some]
  · obtain ⟨M', e1, e2, e3⟩ := e6_askFor hB hC hg h12
    have hact : q_yact z = some (33, z / 8 % 12, 0) := by unfold q_yact; rw [if_neg (by omega), if_neg (by omega), if_pos hm]
    refine ⟨M', ?_, ?_⟩
    · rw [hm, if_neg (show ¬ nI 2 = 4 by decide), if_neg (show ¬ nI 2 = 0 by decide), if_neg (show ¬ nI 2 = 1 by decide), if_pos (show nI 2 = 2 from rfl), e1, Option.bind_some]
    · unfold q_ys
      rw [hact]
      dsimp only
      by_cases hw : q_why 33 (z / 8 % 12) 0 g = 0
      · rw [if_pos hw]
        obtain ⟨p1, p2, p3⟩ := e3 hw
        exact ⟨p1, by rw [p2, h8, nI_add]; rfl, fun r r1 r8 _ => p3 r r1 r8⟩
      · rw [if_neg hw, e2 hw]
        exact ⟨hB, h8, fun _ _ _ _ => rfl⟩
  · obtain ⟨M', e1, e2, e3⟩ := e6_trim hB hg h12
    refine ⟨M', ?_, fin 94 (z / 8 % 12) 0 M' (by unfold q_yact; rw [if_neg (by omega), if_neg (by omega), if_neg (by omega), if_pos hm]) rfl e2 (fun q => ⟨(e3 q).1, fun r r1 _ => (e3 q).2 r r1⟩)⟩
    rw [hm, if_neg (show ¬ nI 3 = 4 by decide), if_neg (show ¬ nI 3 = 0 by decide), if_neg (show ¬ nI 3 = 1 by decide), if_neg (show ¬ nI 3 = 2 by decide), if_pos (show nI 3 = 3 from rfl), e1, Option.bind_some]
  · by_cases h11 : z / 8 % 12 < 11
    · obtain ⟨M', e1, e2, e3⟩ := e6_lightFrom hB hg h12 (x := z / 8 % 12 + 1) (by omega)
      refine ⟨M', ?_, fin 62 (z / 8 % 12) (z / 8 % 12 + 1) M' (by unfold q_yact; rw [if_neg (by omega), if_neg (by omega), if_neg (by omega), if_neg (by omega), if_pos hm, if_pos h11]) rfl e2 (fun q => ⟨(e3 q).1, fun r r1 _ => (e3 q).2 r r1⟩)⟩
      rw [hm, if_pos (show nI 4 = 4 from rfl), q_l 11, if_neg (nI_ge h11 (by decide)), nI_1, e1, Option.bind_some]
    · refine ⟨M, ?_, ?_⟩
      · rw [hm, if_pos (show nI 4 = 4 from rfl), q_l 11, if_pos (nI_le (by omega) (by omega))]
      · unfold q_ys
        rw [show q_yact z = none by unfold q_yact; rw [if_neg (by omega), if_neg (by omega), if_neg (by omega), if_neg (by omega), if_pos hm, if_neg h11]]
        exact ⟨hB, h8, fun _ _ _ _ => rfl⟩
  · obtain ⟨M', e1, e2, e3⟩ := e6_blow hB hg h12 h10
    refine ⟨M', ?_, fin 119 (z / 8 % 12) (z / 96 % 10) M' (by unfold q_yact; rw [if_neg (by omega), if_neg (by omega), if_neg (by omega), if_neg (by omega), if_neg (by omega), if_pos hm]) rfl e2 (fun q => ⟨(e3 q).1, fun r r1 _ => (e3 q).2 r r1⟩)⟩
    rw [hm, if_neg (show ¬ nI 5 = 4 by decide), if_neg (show ¬ nI 5 = 0 by decide), if_neg (show ¬ nI 5 = 1 by decide), if_neg (show ¬ nI 5 = 2 by decide), if_neg (show ¬ nI 5 = 3 by decide), if_pos (show nI 5 = 5 from rfl), e1, Option.bind_some]
  · obtain ⟨M', e1, e2, e3⟩ := e6_minute hB hg
    refine ⟨M', ?_, fin 46 0 0 M' (by unfold q_yact; rw [if_neg (by omega), if_neg (by omega), if_neg (by omega), if_neg (by omega), if_neg (by omega), if_neg (by omega)]) rfl e2 (fun q => ⟨(e3 q).1, fun r r1 r11 => (e3 q).2.2 r r1 r11⟩)⟩
    rw [hm, if_neg (show ¬ nI 6 = 4 by decide), if_neg (show ¬ nI 6 = 0 by decide), if_neg (show ¬ nI 6 = 1 by decide), if_neg (show ¬ nI 6 = 2 by decide), if_neg (show ¬ nI 6 = 3 by decide), if_neg (show ¬ nI 6 = 5 by decide), e1, Option.bind_some]
  · obtain ⟨M', e1, e2, e3⟩ := e6_minute hB hg
    refine ⟨M', ?_, fin 46 0 0 M' (by unfold q_yact; rw [if_neg (by omega), if_neg (by omega), if_neg (by omega), if_neg (by omega), if_neg (by omega), if_neg (by omega)]) rfl e2 (fun q => ⟨(e3 q).1, fun r r1 r11 => (e3 q).2.2 r r1 r11⟩)⟩
    rw [hm, if_neg (show ¬ nI 7 = 4 by decide), if_neg (show ¬ nI 7 = 0 by decide), if_neg (show ¬ nI 7 = 1 by decide), if_neg (show ¬ nI 7 = 2 by decide), if_neg (show ¬ nI 7 = 3 by decide), if_neg (show ¬ nI 7 = 5 by decide), e1, Option.bind_some]
def q_sw (g : Nat → Nat → Nat) : Nat → Nat
  | 0 => 0
  | i + 1 => q_sw g i + g 0 i
theorem e_waxOfAll (hT : q_T T g) : f_X3_waxOfAll T = some (nI (q_sw g 12)) := by
  have k : ∃ r, cd_iter cd_N (f_X3_waxOfAll_b4 T) (nI 0, nI 0) = some r ∧ r = nI (q_sw g 12) := by
    refine cd_hoare (fun m z => ∃ c, m + c = 12 ∧ z = (nI (q_sw g c), nI c)) _ ?_ cd_N 12 _ (by decide) ⟨0, rfl, rfl⟩
    rintro m z ⟨c, hm, rfl⟩
    by_cases hc : c < 12
    · refine Or.inr ⟨m - 1, (nI (q_sw g (c + 1)), nI (c + 1)), by omega, ?_, c + 1, by omega, rfl⟩
      unfold f_X3_waxOfAll_b4
      dsimp only
      rw [q_l 12, if_neg (nI_ge hc (by decide)), hT.rd 0 12 (by decide) rfl hc, Option.bind_some, nI_1, nI_add]
      rfl
    · have e : c = 12 := by omega
      subst e
      refine Or.inl ⟨_, ?_, rfl⟩
      unfold f_X3_waxOfAll_b4
      dsimp only
      rw [q_l 12, if_pos (nI_le (Nat.le_refl _) (by decide))]
  obtain ⟨r, k1, rfl⟩ := k
  unfold f_X3_waxOfAll
  rw [show cd_iter cd_N (f_X3_waxOfAll_b4 T) ((0 : Int32), (0 : Int32)) = some (nI (q_sw g 12)) from k1, Option.bind_some]
theorem m_year (hX : q_X T M g) (K Y S : Nat → Nat → Int32) (a0 a1 a2 : Int32) : ∃ v Y' S' M', f_X5_year a0 a1 a2 K T Y S = some (v, Y', S') ∧ f_X6_year a0 a1 a2 M = some (v, M') ∧ q_same M M' := by
  unfold f_X5_year f_X6_year
  rw [e_within, e_in, q_br, q_br]
  by_cases h1 : 0 ≤ a0 ∧ a0 ≤ 9999
  · rw [if_pos h1, if_pos h1, e_within, e_in, q_br, q_br]
    by_cases h2 : 1 ≤ a1 ∧ a1 ≤ 99
    · rw [if_pos h2, if_pos h2, e_within, e_in, q_br, q_br]
      by_cases h3 : 0 ≤ a2 ∧ a2 ≤ 2
      · rw [if_pos h3, if_pos h3]
        have h2' : 0 ≤ a1 ∧ a1 ≤ nI 99 := by
          obtain ⟨p1, p2⟩ := h2
          refine ⟨?_, p2⟩
          rw [cd_le] at p1 ⊢
          have : (1 : Int32).toInt = 1 := by decide
          have : (0 : Int32).toInt = 0 := by decide
          omega
        obtain ⟨x, hx, rfl⟩ := q_rng 9999 (by decide) h1
        obtain ⟨n, hn, rfl⟩ := q_rng 99 (by decide) h2'
        obtain ⟨t, ht, rfl⟩ := q_rng 2 (by decide) h3
        obtain ⟨h11, h12, h13, h14, h15⟩ := hX
        obtain ⟨Y', S', d1, d2, d3, d4⟩ := e_draws h11 h15 (show x < 65537 by omega) hn Y S
        obtain ⟨M1, n1, n2, n3, n4, n5, -, -⟩ := e6_now h12
        have hC1 : q_C M1 g := ⟨fun j hj => by rw [n2.2.1]; exact h13.1 j hj, fun j hj => by rw [n2.2.2.1]; exact h13.2 j hj⟩
        have k : ∃ r, cd_iter cd_N (f_X6_year_b43 (nI n)) (nI x, nI 0, M1) = some r ∧ q_B (r 1) (q_yr n x (g, 0)).1 ∧ r 8 0 = nI (q_yr n x (g, 0)).2 ∧ ∀ q, q ≠ 1 → q ≠ 8 → q ≠ 11 → r q = M1 q := by
          refine cd_hoare (fun m z => ∃ i x1 s M2, m + i = n ∧ z = (nI x1, nI i, M2) ∧ x1 < 65537 ∧ q_B (M2 1) s.1 ∧ q_ok s.1 ∧ (∀ r j, r = 3 ∨ r = 4 ∨ r = 8 ∨ r = 9 ∨ r = 10 → s.1 r j = g r j) ∧ M2 8 0 = nI s.2 ∧ (∀ q, q ≠ 1 → q ≠ 8 → q ≠ 11 → M2 q = M1 q) ∧ q_yr n x (g, 0) = q_yr m x1 s) _ ?_ cd_N n _ (by have e : cd_N = 20000 := rfl; omega) ⟨0, x, (g, 0), M1, by omega, rfl, by omega, n3, h15, fun _ _ _ => rfl, n5, fun _ _ _ _ => rfl, rfl⟩
          rintro m z ⟨i, x1, s, M2, hm, rfl, hx1, hB, hok, hrw, h8, hsm, hyr⟩
          by_cases hi : i < n
          · obtain ⟨m', rfl⟩ : ∃ q, m = q + 1 := ⟨m - 1, by omega⟩
            have hC2 : q_C M2 s.1 := ⟨fun j hj => by rw [hsm 2 (by decide) (by decide) (by decide), hrw 3 j (by omega)]; exact hC1.1 j hj, fun j hj => by rw [hsm 3 (by decide) (by decide) (by decide), hrw 4 j (by omega)]; exact hC1.2 j hj⟩
            obtain ⟨M3, b1, b2, b3, b4⟩ := ym_body hB hC2 hok hx1 hi (by omega) h8
            exact Or.inr ⟨m', _, by omega, b1, i + 1, q_yx x1, q_ys (q_yx x1) s, M3, by omega, rfl, q_yx_lt x1, b2, q_ys_ok hok, fun r j hr => by rw [q_ys_k hr, hrw r j hr], b3, fun q q1 q8 q11 => by rw [b4 q q1 q8 q11, hsm q q1 q8 q11], hyr⟩
          · have e : m = 0 := by omega
            subst e
            have hyr' : q_yr n x (g, 0) = s := hyr
            refine Or.inl ⟨M2, ?_, by rw [hyr']; exact hB, by rw [hyr']; exact h8, hsm⟩
            unfold f_X6_year_b43
            dsimp only
            rw [if_pos (nI_le (by omega) (by omega))]
        obtain ⟨R, k1, k2, k3, k4⟩ := k
        obtain ⟨G, hG⟩ : ∃ G, G = (q_yr n x (g, 0)).1 := ⟨_, rfl⟩
        rw [← hG] at k2 d2 d3
        have w : ∃ r, cd_iter cd_N (f_X6_year_b211 R) (nI 0, nI 0) = some r ∧ r = nI (q_sw G 12) := by
          refine cd_hoare (fun m z => ∃ c, m + c = 12 ∧ z = (nI (q_sw G c), nI c)) _ ?_ cd_N 12 _ (by decide) ⟨0, rfl, rfl⟩
          rintro m z ⟨c, hm, rfl⟩
          by_cases hc : c < 12
          · refine Or.inr ⟨m - 1, (nI (q_sw G (c + 1)), nI (c + 1)), by omega, ?_, c + 1, by omega, rfl⟩
            have r0 := k2.rd 0 0 (j := c) rfl (by decide) (by decide) hc
            rw [Nat.zero_add] at r0
            unfold f_X6_year_b211
            dsimp only
            rw [q_l 12, if_neg (nI_ge hc (by decide)), r0, Option.bind_some, nI_1, nI_add]
            rfl
          · have e : c = 12 := by omega
            subst e
            refine Or.inl ⟨_, ?_, rfl⟩
            unfold f_X6_year_b211
            dsimp only
            rw [q_l 12, if_pos (nI_le (Nat.le_refl _) (by decide))]
        obtain ⟨W, w1, rfl⟩ := w
        have hs : q_same M R := n2.tr (q_same.of (fun q hq => k4 q (by omega) (by omega) (by omega)))
        rw [d1, Option.bind_some, n1, Option.bind_some, show cd_iter cd_N (f_X6_year_b43 (nI n)) (nI x, (0 : Int32), M1) = some R from k1, Option.bind_some, show cd_iter cd_N (f_X6_year_b211 R) ((0 : Int32), (0 : Int32)) = some (nI (q_sw G 12)) from w1, Option.bind_some]
        have ht3 : t = 0 ∨ t = 1 ∨ t = 2 := by omega
        rcases ht3 with rfl | rfl | rfl
        · refine ⟨nI (q_yr n x (g, 0)).2, Y', S', R, ?_, ?_, hs⟩
          · rw [if_pos (show nI 0 = 0 from rfl)]; show some (Y' 3 0, _) = _; rw [d4]
          · rw [if_pos (show nI 0 = 0 from rfl), Option.bind_some, k3]
        · refine ⟨nI (q_sw G 12), Y', S', R, ?_, ?_, hs⟩
          · rw [if_neg (by decide), if_pos (show nI 1 = 1 from rfl)]
            dsimp only
            rw [e_waxOfAll d2, Option.bind_some]
          · rw [if_neg (by decide), if_pos (show nI 1 = 1 from rfl), Option.bind_some]
        · refine ⟨nI (q_pc (G 11 0)), Y', S', R, ?_, ?_, hs⟩
          · rw [if_neg (by decide), if_neg (by decide)]
            dsimp only
            rw [d2 11 0 (by decide) (by decide), e_bitCount (q_litl d3), Option.bind_some]
          · rw [if_neg (by decide), if_neg (by decide), q_l 66, show nI 66 = nI (66 + 0) from rfl, k2.rd 11 66 rfl (by decide) (by decide) (by decide), Option.bind_some, e6_bits (q_lit_lt d3), Option.bind_some, Option.bind_some]
      · rw [if_neg h3, if_neg h3]
        exact ⟨_, Y, S, M, rfl, rfl, q_same.rf M⟩
    · rw [if_neg h2, if_neg h2]
      exact ⟨_, Y, S, M, rfl, rfl, q_same.rf M⟩
  · rw [if_neg h1, if_neg h1]
    exact ⟨_, Y, S, M, rfl, rfl, q_same.rf M⟩
end YEAR
