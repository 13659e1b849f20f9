/-! sneezes: how many, and which -/
def q_sum (f : Nat → Nat) : Nat → Nat
  | 0 => 0
  | n + 1 => q_sum f n + f n
theorem q_cnt_s (p : Nat → Bool) (n : Nat) : q_cnt p (n + 1) = q_cnt p n + (if p n = true then 1 else 0) := rfl
theorem q_cnt_up (p : Nat → Bool) (a : Nat) : ∀ n, q_cnt p a ≤ q_cnt p (a + n)
  | 0 => Nat.le_refl _
  | n + 1 => Nat.le_trans (q_cnt_up p a n) (by rw [← Nat.add_assoc, q_cnt_s]; omega)
theorem q_cnt_skip {p : Nat → Bool} {a : Nat} : ∀ n, (∀ x, a ≤ x → x < a + n → p x = false) → q_cnt p (a + n) = q_cnt p a
  | 0, _ => rfl
  | n + 1, h => by
    rw [← Nat.add_assoc, q_cnt_s, h (a + n) (by omega) (by omega), q_cnt_skip n (fun x h1 h2 => h x h1 (by omega))]; rfl
theorem q_cnt_iv {p : Nat → Bool} {b e : Nat} : ∀ n, (∀ t, t < n → (p t = true ↔ b ≤ t ∧ t < e)) → q_cnt p n = min n e - b
  | 0, _ => by show 0 = _; omega
  | n + 1, h => by
    rw [q_cnt_s, q_cnt_iv n (fun t ht => h t (by omega))]
    have := h n (by omega)
    by_cases hp : p n = true
    · rw [if_pos hp]; have := this.mp hp; omega
    · rw [if_neg hp]; have : ¬ (b ≤ n ∧ n < e) := fun q => hp (this.mpr q); omega
theorem q_nth_ex {p : Nat → Bool} {i : Nat} : ∀ n, i < q_cnt p n → ∃ z, z < n ∧ p z = true ∧ q_cnt p z = i
  | 0, h => absurd h (Nat.not_lt_zero _)
  | n + 1, h => by
    by_cases h1 : i < q_cnt p n
    · obtain ⟨z, z1, z2⟩ := q_nth_ex n h1
      exact ⟨z, by omega, z2⟩
    · rw [q_cnt_s] at h
      by_cases hp : p n = true
      · rw [if_pos hp] at h; exact ⟨n, by omega, hp, by omega⟩
      · rw [if_neg hp] at h; omega
theorem q_nth_lt {p : Nat → Bool} {x y : Nat} (h : x < y) (hp : p x = true) : q_cnt p x < q_cnt p y := by
  have h1 := q_cnt_up p (x + 1) (y - (x + 1))
  rw [show x + 1 + (y - (x + 1)) = y by omega, q_cnt_s, if_pos hp] at h1
  omega
theorem q_nth_un {p : Nat → Bool} {x y : Nat} (hx : p x = true) (hy : p y = true) (h : q_cnt p x = q_cnt p y) : x = y := by
  rcases Nat.lt_trichotomy x y with q | q | q
  · have := q_nth_lt q hx; omega
  · exact q
  · have := q_nth_lt q hy; omega
def z_P (g : Nat → Nat → Nat) (z : Nat) : Bool := (decide (z / 10 % 100 ≤ 60) && decide (z % 10 ≤ 3)) && z_ok g (z / 1000) (z / 10 % 100) (z % 10)
theorem z_P_at (g : Nat → Nat → Nat) {w t d z : Nat} (hw : w < 12) (ht : t ≤ 60) (hd : d < 4) (hz : z = 1000 * w + 10 * t + d) : z_P g z = z_ok g w t d := by
  unfold z_P
  rw [show z / 1000 = w by omega, show z / 10 % 100 = t by omega, show z % 10 = d by omega, decide_eq_true ht, decide_eq_true (show d ≤ 3 by omega)]; rfl
theorem z_P_t (g : Nat → Nat → Nat) {w t : Nat} (hw : w < 12) (ht : t ≤ 60) : q_cnt (z_P g) (1000 * w + 10 * (t + 1)) = q_cnt (z_P g) (1000 * w + 10 * t + 4) := by
  rw [show 1000 * w + 10 * (t + 1) = 1000 * w + 10 * t + 4 + 6 by omega]
  refine q_cnt_skip 6 fun x h1 h2 => ?_
  unfold z_P
  rw [decide_eq_false (show ¬ x % 10 ≤ 3 by omega), Bool.and_false]; rfl
theorem z_P_w (g : Nat → Nat → Nat) {w : Nat} (hw : w < 12) : q_cnt (z_P g) (1000 * (w + 1)) = q_cnt (z_P g) (1000 * w + 10 * 61) := by
  rw [show 1000 * (w + 1) = 1000 * w + 10 * 61 + 390 by omega]
  refine q_cnt_skip 390 fun x h1 h2 => ?_
  unfold z_P
  rw [decide_eq_false (show ¬ x / 10 % 100 ≤ 60 by omega)]; rfl
theorem z_P_row (g : Nat → Nat → Nat) {w : Nat} (hw : w < 12) : ∀ t, t ≤ 61 → q_cnt (z_P g) (1000 * w + 10 * t) = q_cnt (z_P g) (1000 * w) + (q_cnt (fun t => z_ok g w t 0) t + q_cnt (fun t => z_ok g w t 1) t + q_cnt (fun t => z_ok g w t 2) t + q_cnt (fun t => z_ok g w t 3) t)
  | 0, _ => rfl
  | t + 1, h => by
    rw [z_P_t g hw (by omega), q_cnt_s, q_cnt_s, q_cnt_s, q_cnt_s, z_P_row g hw t (by omega), q_cnt_s, q_cnt_s, q_cnt_s, q_cnt_s]
    rw [show z_P g (1000 * w + 10 * t) = z_ok g w t 0 from z_P_at g hw (by omega) (by decide) rfl, show z_P g (1000 * w + 10 * t + 1) = z_ok g w t 1 from z_P_at g hw (by omega) (by decide) rfl, show z_P g (1000 * w + 10 * t + 2) = z_ok g w t 2 from z_P_at g hw (by omega) (by decide) rfl, show z_P g (1000 * w + 10 * t + 3) = z_ok g w t 3 from z_P_at g hw (by omega) (by decide) rfl]
    omega
section SNZ
variable {T Z M : Nat → Nat → Int32} {g : Nat → Nat → Nat} {b e : Nat → Nat}
theorem z_Z.iff (h : z_Z Z g b e) {w t d : Nat} (hw : w < 12) (ht : t ≤ 60) (hd : d < 4) : z_ok g w t d = true ↔ b (4 * w + d) ≤ t ∧ t < e (4 * w + d) := by
  have q := (h (4 * w + d) (by omega)).2.2.2.2 t ht
  rw [show (4 * w + d) / 4 = w by omega, show (4 * w + d) % 4 = d by omega] at q
  rw [q]
  exact ⟨fun x => of_decide_eq_true x, fun x => decide_eq_true x⟩
theorem z_Z.col (h : z_Z Z g b e) {w d : Nat} (hw : w < 12) (hd : d < 4) : q_cnt (fun t => z_ok g w t d) 61 = e (4 * w + d) - b (4 * w + d) := by
  rw [q_cnt_iv (b := b (4 * w + d)) (e := e (4 * w + d)) 61 (fun t ht => h.iff hw (by omega) hd), Nat.min_eq_right (h (4 * w + d) (by omega)).2.2.2.1]
theorem z_Z.sum (h : z_Z Z g b e) : ∀ w, w ≤ 12 → q_sum (fun s => e s - b s) (4 * w) = q_cnt (z_P g) (1000 * w)
  | 0, _ => rfl
  | w + 1, hw => by
    rw [z_P_w g (by omega), z_P_row g (by omega) 61 (Nat.le_refl _), h.col (by omega) (by decide), h.col (by omega) (by decide), h.col (by omega) (by decide), h.col (by omega) (by decide), ← z_Z.sum h w (by omega)]
    show q_sum (fun s => e s - b s) (4 * w) + (e (4 * w + 0) - b (4 * w + 0)) + (e (4 * w + 1) - b (4 * w + 1)) + (e (4 * w + 2) - b (4 * w + 2)) + (e (4 * w + 3) - b (4 * w + 3)) = _
    omega
theorem z_Z.cnt (h : z_Z Z g b e) {s : Nat} (hs : s < 48) : f_X2_countOf (nI s) Z = some (nI (e s - b s)) := by
  obtain ⟨h0, h1, h2, h3, -⟩ := h s hs
  exact e_countOf hs h0 h1 h2 h3
theorem e_howManyZ (h : z_Z Z g b e) : f_X2_howMany Z = some (nI (q_cnt (z_P g) 12000)) := by
  have k : ∃ r, cd_iter cd_N (f_X2_howMany_b4 Z) (nI 0, nI 0) = some r ∧ r = nI (q_sum (fun s => e s - b s) 48) := by
    refine cd_hoare (fun m z => ∃ s, m + s = 48 ∧ z = (nI (q_sum (fun s => e s - b s) s), nI s)) _ ?_ cd_N 48 _ (by decide) ⟨0, rfl, rfl⟩
    rintro m z ⟨s, hm, rfl⟩
    by_cases hs : s < 48
    · refine Or.inr ⟨m - 1, (nI (q_sum (fun s => e s - b s) (s + 1)), nI (s + 1)), by omega, ?_, s + 1, by omega, rfl⟩
      unfold f_X2_howMany_b4
      dsimp only
      rw [q_l 48, if_neg (nI_ge hs (by decide)), h.cnt hs, Option.bind_some, nI_add, nI_1]
      rfl
    · have e1 : s = 48 := by omega
      subst e1
      refine Or.inl ⟨_, ?_, rfl⟩
      unfold f_X2_howMany_b4
      dsimp only
      rw [q_l 48, if_pos (nI_le (Nat.le_refl _) (by decide))]
  obtain ⟨r, k1, rfl⟩ := k
  have e2 := h.sum 12 (Nat.le_refl _)
  unfold f_X2_howMany
  rw [show cd_iter cd_N (f_X2_howMany_b4 Z) ((0 : Int32), (0 : Int32)) = some (nI (q_sum (fun s => e s - b s) 48)) from k1, Option.bind_some]
  exact congrArg (fun x => some (nI x)) e2
theorem e_in_iv {t b e : Nat} (ht : t ≤ 60) (hb : b ≤ 999) (he : e ≤ 61) : f_X5_within (nI t) (nI b) (z_m1 e) = some (q_bi (decide (b ≤ t ∧ t < e))) := by
  rw [e_within]
  refine congrArg (fun x => some (q_bi x)) ?_
  by_cases h : b ≤ t ∧ t < e
  · rw [decide_eq_true h]
    refine decide_eq_true ⟨nI_le h.1 (by omega), ?_⟩
    rw [cd_le, nI_toInt (by omega), z_m1_toInt (by omega)]; omega
  · rw [decide_eq_false h]
    refine decide_eq_false fun q => h ⟨(nI_leI (by omega) (by omega)).mp q.1, ?_⟩
    have := q.2
    rw [cd_le, nI_toInt (by omega), z_m1_toInt (by omega)] at this; omega
theorem nI_dec (a : Nat) : nI (a + 1) + (-1 : Int32) = nI a := by
  rw [← nI_1, Int32.add_assoc, show (1 : Int32) + -1 = 0 by decide, Int32.add_zero]
theorem e_atWindow (h : z_Z Z g b e) {w l i : Nat} (hw : w < 12) (hi : i < 2 ^ 31) (hl : q_cnt (z_P g) (1000 * w) + l = i) (hlt : i < q_cnt (z_P g) (1000 * (w + 1))) : ∃ z, f_X2_atWindow (nI w) (nI l) Z = some (nI z) ∧ z < 12000 ∧ z_P g z = true ∧ q_cnt (z_P g) z = i := by
  have inner : ∀ t l, t ≤ 60 → q_cnt (z_P g) (1000 * w + 10 * t) + l = i → ∃ r, cd_iter cd_N (f_X2_atWindow_b15 (nI w) Z (nI l, nI t)) (nI l, nI 0) = some r ∧ ((∃ z, r = .inl (nI z) ∧ z < 12000 ∧ z_P g z = true ∧ q_cnt (z_P g) z = i) ∨ ∃ l', r = .inr (nI l') ∧ q_cnt (z_P g) (1000 * w + 10 * (t + 1)) + l' = i) := by
    intro t l ht hl
    refine cd_hoare (fun m y => ∃ d l', m + d = 4 ∧ y = (nI l', nI d) ∧ q_cnt (z_P g) (1000 * w + 10 * t + d) + l' = i) _ ?_ cd_N 4 _ (by decide) ⟨0, l, rfl, rfl, hl⟩
    rintro m y ⟨d, l', hm, rfl, hq⟩
    by_cases hd : d < 4
    · obtain ⟨s0, s1, s2, s3, -⟩ := h (4 * w + d) (by omega)
      have ix : nI w * (4 : Int32) + nI d = nI (4 * w + d) := by rw [q_l 4, pk_mul, nI_add, Nat.mul_comm]
      have bd : f_X2_atWindow_b15 (nI w) Z (nI l, nI t) (nI l', nI d) = if z_P g (1000 * w + 10 * t + d) = true then (if nI l' = 0 then some (.inl (.inl (nI (1000 * w + 10 * t + d)))) else some (.inr (nI l' + (-1 : Int32), nI (d + 1)))) else some (.inr (nI l', nI (d + 1))) := by
        unfold f_X2_atWindow_b15
        dsimp only
        rw [ix, q_l 4, if_neg (nI_ge hd (by decide)), cd_rd_nI (show 4 * w + d < 48 by omega) (by decide), Option.bind_some, cd_rd_nI (show 4 * w + d < 48 by omega) (by decide), Option.bind_some, s0, s1, e_in_iv ht s2 s3, Option.bind_some, nI_1, q_l 1000, q_l 10, pk_mul, pk_mul, nI_add, nI_add, z_P_at g hw ht hd rfl]
        have q := h.iff hw ht hd
        by_cases ho : z_ok g w t d = true
        · rw [if_pos ho, decide_eq_true (q.mp ho), if_neg q_bt]
        · rw [if_neg ho, decide_eq_false (fun x => ho (q.mpr x)), if_pos q_bf]
      have hs := q_cnt_s (z_P g) (1000 * w + 10 * t + d)
      by_cases hp : z_P g (1000 * w + 10 * t + d) = true
      · rw [if_pos hp] at bd hs
        rcases l' with _ | l'
        · exact Or.inl ⟨_, bd, Or.inl ⟨_, rfl, by omega, hp, hq⟩⟩
        · rw [if_neg (nI_ne0 (by omega) (by omega)), nI_dec] at bd
          exact Or.inr ⟨m - 1, _, by omega, bd, d + 1, l', by omega, rfl, by rw [← Nat.add_assoc, hs]; omega⟩
      · rw [if_neg hp] at bd hs
        exact Or.inr ⟨m - 1, _, by omega, bd, d + 1, l', by omega, rfl, by rw [← Nat.add_assoc, hs]; omega⟩
    · have e1 : d = 4 := by omega
      subst e1
      refine Or.inl ⟨.inr (nI l'), ?_, Or.inr ⟨l', rfl, by rw [z_P_t g hw ht]; exact hq⟩⟩
      unfold f_X2_atWindow_b15
      dsimp only
      rw [q_l 4, if_pos (nI_le (Nat.le_refl _) (by decide))]
  have k : ∃ r, cd_iter cd_N (f_X2_atWindow_b5 (nI w) Z) (nI l, nI 0) = some r ∧ ∃ z, r = .inl (nI z) ∧ z < 12000 ∧ z_P g z = true ∧ q_cnt (z_P g) z = i := by
    refine cd_hoare (fun m y => ∃ t l', m + t = 61 ∧ y = (nI l', nI t) ∧ q_cnt (z_P g) (1000 * w + 10 * t) + l' = i) _ ?_ cd_N 61 _ (by decide) ⟨0, l, rfl, rfl, hl⟩
    rintro m y ⟨t, l', hm, rfl, hq⟩
    by_cases ht : t ≤ 60
    · obtain ⟨r, r1, r2⟩ := inner t l' ht hq
      have bd : f_X2_atWindow_b5 (nI w) Z (nI l', nI t) = Sum.elim (fun r => some (Sum.inl (Sum.inl r))) (fun (t3 : Int32) => some (Sum.inr (t3, nI (t + 1)))) r := by
        unfold f_X2_atWindow_b5
        dsimp only
        rw [q_l 60, if_neg (nI_nlt ht (by omega)), show cd_iter cd_N (f_X2_atWindow_b15 (nI w) Z (nI l', nI t)) (nI l', (0 : Int32)) = some r from r1, Option.bind_some, nI_1]
      rcases r2 with ⟨z, rfl, r3⟩ | ⟨l2, rfl, r3⟩
      · exact Or.inl ⟨.inl (nI z), bd, z, rfl, r3⟩
      · exact Or.inr ⟨m - 1, (nI l2, nI (t + 1)), by omega, bd, t + 1, l2, by omega, rfl, r3⟩
    · have e1 : t = 61 := by omega
      subst e1
      rw [z_P_w g hw] at hlt
      omega
  obtain ⟨r, k1, z, rfl, k2⟩ := k
  refine ⟨z, ?_, k2⟩
  unfold f_X2_atWindow
  rw [show cd_iter cd_N (f_X2_atWindow_b5 (nI w) Z) (nI l, (0 : Int32)) = some (.inl (nI z)) from k1, Option.bind_some]
  rfl
theorem e_at (h : z_Z Z g b e) {i : Nat} (hi : i < 2 ^ 31) : ∃ v, f_X2_at (nI i) Z = some v ∧ ((∃ z, v = nI z ∧ z < 12000 ∧ z_P g z = true ∧ q_cnt (z_P g) z = i) ∨ (v = -6 ∧ q_cnt (z_P g) 12000 ≤ i)) := by
  have k : ∃ r, cd_iter cd_N (f_X2_at_b4 Z) (nI i, nI 0) = some r ∧ ((∃ z, r = .inl (nI z) ∧ z < 12000 ∧ z_P g z = true ∧ q_cnt (z_P g) z = i) ∨ (r = .inr () ∧ q_cnt (z_P g) 12000 ≤ i)) := by
    refine cd_hoare (fun m y => ∃ w l, m + w = 12 ∧ y = (nI l, nI w) ∧ q_cnt (z_P g) (1000 * w) + l = i) _ ?_ cd_N 12 _ (by decide) ⟨0, i, rfl, rfl, Nat.zero_add i⟩
    rintro m y ⟨w, l, hm, rfl, hl⟩
    by_cases hw : w < 12
    · have four : cd_iter cd_N (f_X2_at_b20 Z (nI l, nI w)) ((0 : Int32), (0 : Int32)) = some (nI (q_cnt (z_P g) (1000 * (w + 1)) - q_cnt (z_P g) (1000 * w))) := by
        have k4 : ∃ r, cd_iter cd_N (f_X2_at_b20 Z (nI l, nI w)) (nI 0, nI 0) = some r ∧ r = nI (q_sum (fun d => e (4 * w + d) - b (4 * w + d)) 4) := by
          refine cd_hoare (fun m y => ∃ d, m + d = 4 ∧ y = (nI (q_sum (fun d => e (4 * w + d) - b (4 * w + d)) d), nI d)) _ ?_ cd_N 4 _ (by decide) ⟨0, rfl, rfl⟩
          rintro m y ⟨d, hm, rfl⟩
          by_cases hd : d < 4
          · refine Or.inr ⟨m - 1, (nI (q_sum (fun d => e (4 * w + d) - b (4 * w + d)) (d + 1)), nI (d + 1)), by omega, ?_, d + 1, by omega, rfl⟩
            unfold f_X2_at_b20
            dsimp only
            rw [q_l 4, if_neg (nI_ge hd (by decide)), pk_mul, nI_add, Nat.mul_comm w 4, h.cnt (show 4 * w + d < 48 by omega), Option.bind_some, nI_add, nI_1]
            rfl
          · have e1 : d = 4 := by omega
            subst e1
            refine Or.inl ⟨_, ?_, rfl⟩
            unfold f_X2_at_b20
            dsimp only
            rw [q_l 4, if_pos (nI_le (Nat.le_refl _) (by decide))]
        obtain ⟨r, k5, rfl⟩ := k4
        have a1 := h.sum w (by omega)
        have a2 := h.sum (w + 1) (by omega)
        have a3 : q_sum (fun s => e s - b s) (4 * (w + 1)) = q_sum (fun s => e s - b s) (4 * w) + (e (4 * w) - b (4 * w)) + (e (4 * w + 1) - b (4 * w + 1)) + (e (4 * w + 2) - b (4 * w + 2)) + (e (4 * w + 3) - b (4 * w + 3)) := rfl
        have a4 : q_sum (fun d => e (4 * w + d) - b (4 * w + d)) 4 = 0 + (e (4 * w) - b (4 * w)) + (e (4 * w + 1) - b (4 * w + 1)) + (e (4 * w + 2) - b (4 * w + 2)) + (e (4 * w + 3) - b (4 * w + 3)) := rfl
        rw [show q_cnt (z_P g) (1000 * (w + 1)) - q_cnt (z_P g) (1000 * w) = q_sum (fun d => e (4 * w + d) - b (4 * w + d)) 4 by omega]
        exact k5
      have mono : q_cnt (z_P g) (1000 * w) ≤ q_cnt (z_P g) (1000 * (w + 1)) := q_cnt_up (z_P g) (1000 * w) 1000
      have cap : q_cnt (z_P g) (1000 * (w + 1)) ≤ 1000 * (w + 1) := q_cnt_le _ _
      by_cases hh : q_cnt (z_P g) (1000 * (w + 1)) ≤ i
      · refine Or.inr ⟨m - 1, (nI (l - (q_cnt (z_P g) (1000 * (w + 1)) - q_cnt (z_P g) (1000 * w))), nI (w + 1)), by omega, ?_, w + 1, _, by omega, rfl, by omega⟩
        unfold f_X2_at_b4
        dsimp only
        rw [q_l 12, if_neg (nI_ge hw (by decide)), if_neg (nI_pos (by omega)), four, Option.bind_some, if_pos (nI_le (by omega) (by omega)), pk_sub (by omega), nI_1]
      · obtain ⟨z, z1, z2⟩ := e_atWindow h hw hi hl (by omega)
        refine Or.inl ⟨.inl (nI z), ?_, Or.inl ⟨z, rfl, z2⟩⟩
        unfold f_X2_at_b4
        dsimp only
        rw [q_l 12, if_neg (nI_ge hw (by decide)), if_neg (nI_pos (by omega)), four, Option.bind_some, if_neg (nI_ge (by omega) (by omega)), z1, Option.bind_some]
    · have e1 : w = 12 := by omega
      subst e1
      refine Or.inl ⟨.inr (), ?_, Or.inr ⟨rfl, Nat.le_trans (show q_cnt (z_P g) 12000 ≤ q_cnt (z_P g) (1000 * 12) from Nat.le_refl _) (by omega)⟩⟩
      unfold f_X2_at_b4
      dsimp only
      rw [q_l 12, if_pos (nI_le (Nat.le_refl _) (by decide))]
  obtain ⟨r, k1, k2⟩ := k
  unfold f_X2_at
  rw [show cd_iter cd_N (f_X2_at_b4 Z) (nI i, (0 : Int32)) = some r from k1, Option.bind_some]
  rcases k2 with ⟨z, rfl, k3⟩ | ⟨rfl, k3⟩
  · exact ⟨nI z, rfl, Or.inl ⟨z, rfl, k3⟩⟩
  · exact ⟨-6, rfl, Or.inr ⟨rfl, k3⟩⟩
end SNZ
