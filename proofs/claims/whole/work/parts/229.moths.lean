/-! moths and the ship -/
def q_fib : Nat → Nat
  | 0 => 0
  | 1 => 1
  | n + 2 => q_fib (n + 1) + q_fib n
theorem q_fib_big : 2 ^ 60 ≤ q_fib 100 := by decide +kernel
def q_eu (n a b : Nat) : Prop := b < a ∧ (b < q_fib (n + 1) ∨ a < q_fib (n + 2))
theorem q_eu_0 {a b : Nat} (h : q_eu 0 a b) : b = 0 := by
  obtain ⟨h1, h2⟩ := h
  have e1 : q_fib (0 + 1) = 1 := rfl
  have e2 : q_fib (0 + 2) = 1 := rfl
  omega
theorem q_eu_s {n a b : Nat} (h : q_eu (n + 1) a b) (hb : 0 < b) : q_eu n b (a % b) := by
  obtain ⟨h1, h2⟩ := h
  have e1 : q_fib (n + 1 + 2) = q_fib (n + 2) + q_fib (n + 1) := rfl
  refine ⟨Nat.mod_lt _ hb, ?_⟩
  have hm : a % b ≤ a - b := by
    rw [Nat.mod_eq_sub_mod (Nat.le_of_lt h1)]
    exact Nat.mod_le _ _
  have e2 : q_fib (n + 1 + 1) = q_fib (n + 2) := rfl
  rcases h2 with h | h
  · right; omega
  · by_cases hq : b < q_fib (n + 2)
    · right; exact hq
    · left; omega
theorem q_gcd_s (a b : Nat) : Nat.gcd b (a % b) = Nat.gcd a b := by
  rw [Nat.gcd_comm b (a % b), ← Nat.gcd_rec b a, Nat.gcd_comm]
def q_po (u l : Nat) (p : Int32) : Int64 := if p = 0 then lN (u / Nat.gcd u l) else lN (l / Nat.gcd u l)
theorem q_l0 : (0 : Int64) = lN 0 := rfl
theorem q_l1 : (1 : Int64) = lN 1 := rfl
theorem cd_nzl_lN {n : Nat} (h0 : 0 < n) (h : n < 2 ^ 63) : cd_nzl (lN n) = some () := by
  unfold cd_nzl
  rw [if_neg]
  intro q
  rw [q_l0] at q
  have := (pk_lEQ h (by decide)).mp q
  omega
theorem e_partOf {u l : Nat} (hu : u < 2 ^ 60) (h0 : 0 < l) (hl : l < 2 ^ 60) (p : Int32) : f_X5_partOf (lN u) (lN l) p = some (q_po u l p) := by
  have hg : 0 < Nat.gcd u l := Nat.gcd_pos_of_pos_right u h0
  have hgl : Nat.gcd u l ≤ l := Nat.le_of_dvd h0 (Nat.gcd_dvd_right u l)
  have k : ∃ r, cd_iter cd_N f_X5_partOf_b9 (lN l, lN u, nI 0) = some r ∧ r = lN (Nat.gcd u l) := by
    refine cd_hoare (fun m z => ∃ k a b, z = (lN a, lN b, nI k) ∧ m + k = 100 ∧ a < 2 ^ 60 ∧ b < 2 ^ 60 ∧ Nat.gcd a b = Nat.gcd u l ∧ (k = 0 ∨ q_eu m a b)) _ ?_ cd_N 100 _ (by decide) ⟨0, l, u, rfl, rfl, hl, hu, Nat.gcd_comm l u, Or.inl rfl⟩
    rintro m z ⟨k, a, b, rfl, hm, ha, hb, hgc, he⟩
    by_cases hb0 : b = 0
    · subst hb0
      refine Or.inl ⟨lN a, ?_, by rw [← hgc, Nat.gcd_zero_right]⟩
      unfold f_X5_partOf_b9
      dsimp only
      by_cases hk : k < 100
      · rw [q_l 100, if_neg (nI_ge hk (by decide)), if_pos (show lg_cmp (lN 0) 0 ≤ 0 by decide)]
      · rw [q_l 100, if_pos (nI_le (by omega) (by omega))]
    · have hk : k < 100 := by
        by_cases hk : k < 100
        · exact hk
        · exfalso
          have hm0 : m = 0 := by omega
          subst hm0
          rcases he with h | h
          · omega
          · exact hb0 (q_eu_0 h)
      obtain ⟨m', rfl⟩ : ∃ q, m = q + 1 := ⟨m - 1, by omega⟩
      refine Or.inr ⟨m', (lN b, lN (a % b), nI (k + 1)), by omega, ?_, k + 1, b, a % b, rfl, by omega, hb, by have := Nat.mod_lt a (show 0 < b by omega); omega, by rw [q_gcd_s]; exact hgc, Or.inr ?_⟩
      · unfold f_X5_partOf_b9
        dsimp only
        rw [q_l 100, if_neg (nI_ge hk (by decide)), if_neg (fun q => hb0 (by
          have := (lg_cmp_le _ _).mp q
          rw [q_l0, pk_lLE (by omega) (by decide)] at this
          omega)), cd_nzl_lN (by omega) (by omega), Option.bind_some, pk_lRem (by omega) (by omega) (by omega), nI_1]
      · rcases he with h | h
        · have hm99 : m' = 99 := by omega
          subst hm99
          have := Nat.mod_lt a (show 0 < b by omega)
          have hf := q_fib_big
          exact ⟨this, Or.inl (show a % b < q_fib 100 by omega)⟩
        · exact q_eu_s h (by omega)
  obtain ⟨r, k1, rfl⟩ := k
  unfold f_X5_partOf
  rw [show cd_iter cd_N f_X5_partOf_b9 (lN l, lN u, (0 : Int32)) = some (lN (Nat.gcd u l)) from k1, Option.bind_some, if_pos (show 0 ≤ lg_cmp (lN (Nat.gcd u l)) 1 from (lg_cmp_ge _ _).mpr (show lN 1 ≤ lN (Nat.gcd u l) from (pk_lLE (a := 1) (by decide) (by omega)).mpr hg)), cd_nzl_lN hg (by omega), Option.bind_some, Option.bind_some, pk_lDiv (by omega) hg (by omega), pk_lDiv (by omega) hg (by omega)]
  unfold q_po
  by_cases hp : p = 0
  · rw [if_pos hp, if_pos hp]; rfl
  · rw [if_neg hp, if_neg hp]; rfl
theorem e6_lowest {u l : Nat} (hu : u < 2 ^ 60) (h0 : 0 < l) (hl : l < 2 ^ 60) (p : Int32) : f_X6_lowest (lN u) (lN l) p = some (q_po u l p) := by
  have hg : 0 < Nat.gcd u l := Nat.gcd_pos_of_pos_right u h0
  have hgl : Nat.gcd u l ≤ l := Nat.le_of_dvd h0 (Nat.gcd_dvd_right u l)
  have k : ∃ r, cd_iter cd_N f_X6_lowest_b6 (lN u, lN l) = some r ∧ r = lN (Nat.gcd u l) := by
    refine cd_hoare (fun m z => ∃ a b, z = (lN a, lN b) ∧ a < 2 ^ 60 ∧ b < 2 ^ 60 ∧ Nat.gcd a b = Nat.gcd u l ∧ (m = 100 ∨ q_eu m a b)) _ ?_ cd_N 100 _ (by decide) ⟨u, l, rfl, hu, hl, rfl, Or.inl rfl⟩
    rintro m z ⟨a, b, rfl, ha, hb, hgc, he⟩
    by_cases hb0 : b = 0
    · subst hb0
      refine Or.inl ⟨lN a, ?_, by rw [← hgc, Nat.gcd_zero_right]⟩
      unfold f_X6_lowest_b6
      dsimp only
      rw [if_pos (show lg_cmp (lN 0) 0 = 0 by decide)]
    · have hm0 : m ≠ 0 := by
        intro e
        subst e
        rcases he with h | h
        · omega
        · exact hb0 (q_eu_0 h)
      obtain ⟨m', rfl⟩ : ∃ q, m = q + 1 := ⟨m - 1, by omega⟩
      refine Or.inr ⟨m', (lN b, lN (a % b)), by omega, ?_, b, a % b, rfl, hb, by have := Nat.mod_lt a (show 0 < b by omega); omega, by rw [q_gcd_s]; exact hgc, Or.inr ?_⟩
      · unfold f_X6_lowest_b6
        dsimp only
        rw [if_neg (fun q => hb0 (by
          have := (lg_cmp_eq _ _).mp q
          rw [q_l0, pk_lEQ (by omega) (by decide)] at this
          exact this)), cd_nzl_lN (by omega) (by omega), Option.bind_some, pk_lRem (by omega) (by omega) (by omega)]
      · rcases he with h | h
        · have hm99 : m' = 99 := by omega
          subst hm99
          have := Nat.mod_lt a (show 0 < b by omega)
          have hf := q_fib_big
          exact ⟨this, Or.inl (show a % b < q_fib 100 by omega)⟩
        · exact q_eu_s h (by omega)
  obtain ⟨r, k1, rfl⟩ := k
  unfold f_X6_lowest
  rw [k1, Option.bind_some, cd_nzl_lN hg (by omega), Option.bind_some, Option.bind_some, pk_lDiv (by omega) hg (by omega), pk_lDiv (by omega) hg (by omega)]
  unfold q_po
  by_cases hp : p = 0
  · rw [if_pos hp, if_pos hp]; rfl
  · rw [if_neg hp, if_neg hp]; rfl
theorem q_sh : ∀ x, x < 1783 → ((if (lg_cmp ((200 : Int64) - lN x) (0 : Int64)) ≤ 0 then some (0 : Int64) else some ((200 : Int64) - lN x)) : Option Int64) = some (lN (200 - x)) := by decide +kernel
section MOTHS
variable {T M K : Nat → Nat → Int32} {g : Nat → Nat → Nat}
theorem m_ship (K M : Nat → Nat → Int32) (a0 a1 a2 a3 : Int32) : ∃ v, f_X5_ship a0 a1 a2 a3 K = some v ∧ f_X6_ship a0 a1 a2 a3 M = some v := by
  unfold f_X5_ship f_X6_ship
  rw [e_within, e_in, q_br, q_br]
  by_cases h1 : 1 ≤ a0 ∧ a0 ≤ 9
  · rw [if_pos h1, if_pos h1, e_within, e_in, q_br, q_br]
    by_cases h2 : 0 ≤ a1 ∧ a1 ≤ 99
    · rw [if_pos h2, if_pos h2, e_within, e_in, q_br, q_br]
      by_cases h3 : 0 ≤ a2 ∧ a2 ≤ 99
      · rw [if_pos h3, if_pos h3, e_within, e_in, q_br, q_br]
        by_cases h4 : 0 ≤ a3 ∧ a3 ≤ 1
        · rw [if_pos h4, if_pos h4]
          have h1' : 0 ≤ a0 ∧ a0 ≤ nI 9 := by
            obtain ⟨p1, p2⟩ := h1
            refine ⟨?_, p2⟩
            rw [cd_le] at p1 ⊢
            have : (1 : Int32).toInt = 1 := by decide
            have : (0 : Int32).toInt = 0 := by decide
            omega
          obtain ⟨p, hp, rfl⟩ := q_rng 9 (by decide) h1'
          obtain ⟨m, hm, rfl⟩ := q_rng 99 (by decide) h2
          obtain ⟨n, hn, rfl⟩ := q_rng 99 (by decide) h3
          obtain ⟨t, ht, rfl⟩ := q_rng 1 (by decide) h4
          have b1 : p * m ≤ 9 * 99 := Nat.mul_le_mul hp hm
          have b2 : p * (m + n) ≤ 9 * 198 := Nat.mul_le_mul hp (by omega)
          have c1 : m * p = p * m := Nat.mul_comm m p
          have c2 : (m + n) * p = p * (m + n) := Nat.mul_comm _ p
          rw [q_l 200, nI_add, pk_mul, pk_mul, q_max0 (by decide) (by omega), q_max0 (by decide) (by omega), pk_mul, pk_mul, c1, c2, nI_l (by omega), nI_l (by omega), nI_l (by omega), nI_l (by omega), q_sh _ (by omega), Option.bind_some, q_sh _ (by omega), Option.bind_some]
          by_cases h0 : 200 - p * m = 0
          · rw [h0, if_pos (show nI 0 = 0 from rfl), if_pos ((lg_cmp_eq _ _).mpr (show lN 0 = 0 from rfl)), q_l0, q_l1, e_partOf (by decide) (by decide) (by decide)]
            have ht2 : t = 0 ∨ t = 1 := by omega
            rcases ht2 with rfl | rfl
            · exact ⟨0, by decide, by decide⟩
            · exact ⟨1, by decide, by decide⟩
          · have hne : ¬ lg_cmp (lN (200 - p * m)) 0 = 0 := fun q => h0 (by
              have := (lg_cmp_eq _ _).mp q
              rw [q_l0, pk_lEQ (by omega) (by decide)] at this
              exact this)
            rw [if_neg (fun q => h0 ((q_eq0 (by omega)).mp q)), if_neg hne, e_partOf (by omega) (by omega) (by omega), e6_lowest (by omega) (by omega) (by omega)]
            exact ⟨_, rfl, rfl⟩
        · rw [if_neg h4, if_neg h4]
          exact ⟨_, rfl, rfl⟩
      · rw [if_neg h3, if_neg h3]
        exact ⟨_, rfl, rfl⟩
    · rw [if_neg h2, if_neg h2]
      exact ⟨_, rfl, rfl⟩
  · rw [if_neg h1, if_neg h1]
    exact ⟨_, rfl, rfl⟩
def q_ol (g : Nat → Nat → Nat) (n c : Nat) : Bool := q_lit g c && decide (n < q_last g c)
def q_cnt (p : Nat → Bool) : Nat → Nat
  | 0 => 0
  | i + 1 => q_cnt p i + if p i = true then 1 else 0
theorem q_cnt_le (p : Nat → Bool) : ∀ i, q_cnt p i ≤ i
  | 0 => Nat.le_refl _
  | i + 1 => by
    have := q_cnt_le p i
    show q_cnt p i + (if p i = true then 1 else 0) ≤ i + 1
    split <;> omega
theorem q_cnt_one (p : Nat → Bool) (c : Nat) : ∀ i, q_cnt (fun x => decide (x = c) && p x) i = if c < i ∧ p c = true then 1 else 0
  | 0 => by rw [if_neg (fun q => absurd q.1 (Nat.not_lt_zero c))]; rfl
  | i + 1 => by
    show q_cnt (fun x => decide (x = c) && p x) i + (if (decide (i = c) && p i) = true then 1 else 0) = _
    rw [q_cnt_one p c i]
    by_cases e : i = c
    · subst e
      rw [if_neg (fun q => Nat.lt_irrefl _ q.1), decide_eq_true rfl, Bool.true_and]
      by_cases hp : p i = true
      · rw [if_pos hp, if_pos ⟨Nat.lt_succ_self i, hp⟩]
      · rw [if_neg hp, if_neg (fun q => hp q.2)]
    · rw [decide_eq_false e, Bool.false_and, if_neg q_ft, Nat.add_zero]
      by_cases hc : c < i ∧ p c = true
      · rw [if_pos hc, if_pos ⟨by omega, hc.2⟩]
      · rw [if_neg hc, if_neg (fun q => hc ⟨by omega, q.2⟩)]
theorem e_outlasts (hT : q_T T g) (hg : q_ok g) {c n : Nat} (hc : c < 12) (hn : n ≤ 999) : f_X3_outlasts (nI c) (nI n) T = some (q_bi (q_ol g n c)) := by
  have hl := q_lasts_le hg hc (g 1 c)
  unfold f_X3_outlasts
  rw [e_isLit hT hg hc, Option.bind_some, e_minutesLeft hT hg hc, Option.bind_some]
  unfold q_ol
  cases q_lit g c
  · rfl
  · rw [if_neg q_bt]
    have hl' : q_last g c ≤ 999 := hl
    by_cases h : q_last g c ≤ n
    · rw [if_pos ((nI_leI (by omega) (by omega)).mpr h), decide_eq_false (by omega)]; rfl
    · rw [if_neg (fun q => h ((nI_leI (by omega) (by omega)).mp q)), decide_eq_true (by omega)]; rfl
theorem e_howMany (hT : q_T T g) (hg : q_ok g) {n : Nat} (hn : n ≤ 999) : f_X3_howManyOutlast (nI n) T = some (nI (q_cnt (q_ol g n) 12)) := by
  have k : ∃ r, cd_iter cd_N (f_X3_howManyOutlast_b4 (nI n) T) (nI 0, nI 0) = some r ∧ r = nI (q_cnt (q_ol g n) 12) := by
    refine cd_hoare (fun m z => ∃ c, m + c = 12 ∧ z = (nI (q_cnt (q_ol g n) c), nI c)) _ ?_ cd_N 12 _ (by decide) ⟨0, rfl, rfl⟩
    rintro m z ⟨c, hm, rfl⟩
    by_cases hc : c < 12
    · refine Or.inr ⟨m - 1, (nI (q_cnt (q_ol g n) (c + 1)), nI (c + 1)), by omega, ?_, c + 1, by omega, rfl⟩
      unfold f_X3_howManyOutlast_b4
      dsimp only
      rw [q_l 12, if_neg (nI_ge hc (by decide)), e_outlasts hT hg hc hn, Option.bind_some, nI_1]
      show _ = some (Sum.inr (nI (q_cnt (q_ol g n) c + if q_ol g n c = true then 1 else 0), nI (c + 1)))
      rw [← nI_add (q_cnt (q_ol g n) c)]
      cases q_ol g n c <;> rfl
    · have e : c = 12 := by omega
      subst e
      refine Or.inl ⟨_, ?_, rfl⟩
      unfold f_X3_howManyOutlast_b4
      dsimp only
      rw [q_l 12, if_pos (nI_le (Nat.le_refl _) (by decide))]
  obtain ⟨r, k1, rfl⟩ := k
  unfold f_X3_howManyOutlast
  rw [show cd_iter cd_N (f_X3_howManyOutlast_b4 (nI n) T) ((0 : Int32), (0 : Int32)) = some (nI (q_cnt (q_ol g n) 12)) from k1, Option.bind_some]
theorem q_pw {t n : Nat} (hn : n ≤ 15) : (10 - t) ^ n ≤ 10 ^ 15 ∧ 10 ^ n ≤ 10 ^ 15 ∧ 0 < 10 ^ n := by
  have h1 : (10 - t) ^ n ≤ 10 ^ n := Nat.pow_le_pow_left (by omega) n
  have h2 : 10 ^ n ≤ 10 ^ 15 := Nat.pow_le_pow_right (by decide) hn
  exact ⟨Nat.le_trans h1 h2, h2, Nat.pow_pos (by decide)⟩
theorem mo_x {u t n : Nat} (hu : u ≤ 12) (ht : t ≤ 10) (hn : n ≤ 15) (p : Int32) : ((cd_iter cd_N (f_X5_moths_b103 (nI t) (nI n)) (lN u, (1 : Int64), (0 : Int32))).bind (fun (t9 : Int64 × Int64) => (f_X5_partOf t9.1 t9.2 p).bind (fun r11 => some r11))) = some (q_po (u * (10 - t) ^ n) (10 ^ n) p) := by
  have k : ∃ r, cd_iter cd_N (f_X5_moths_b103 (nI t) (nI n)) (lN u, lN 1, nI 0) = some r ∧ r = (lN (u * (10 - t) ^ n), lN (10 ^ n)) := by
    refine cd_hoare (fun m z => ∃ i, m + i = n ∧ z = (lN (u * (10 - t) ^ i), lN (10 ^ i), nI i)) _ ?_ cd_N n _ (by have e : cd_N = 20000 := rfl; omega) ⟨0, by omega, by rw [Nat.pow_zero, Nat.mul_one, Nat.pow_zero]⟩
    rintro m z ⟨i, hm, rfl⟩
    by_cases hi : i < n
    · refine Or.inr ⟨m - 1, (lN (u * (10 - t) ^ (i + 1)), lN (10 ^ (i + 1)), nI (i + 1)), by omega, ?_, i + 1, by omega, rfl⟩
      unfold f_X5_moths_b103
      dsimp only
      rw [if_neg (nI_ge hi (by omega)), q_l 10, pk_sub ht, nI_l (by omega), lN_mul, show (10 : Int64) = lN 10 from rfl, lN_mul, nI_1, Nat.pow_succ, Nat.pow_succ, Nat.mul_assoc]
    · have e : i = n := by omega
      subst e
      refine Or.inl ⟨_, ?_, rfl⟩
      unfold f_X5_moths_b103
      dsimp only
      rw [if_pos (nI_le (Nat.le_refl _) (by omega))]
  obtain ⟨r, k1, rfl⟩ := k
  obtain ⟨w1, w2, w3⟩ := q_pw (t := t) hn
  have hb : u * (10 - t) ^ n ≤ 12 * 10 ^ 15 := Nat.mul_le_mul hu w1
  rw [show cd_iter cd_N (f_X5_moths_b103 (nI t) (nI n)) (lN u, (1 : Int64), (0 : Int32)) = some (lN (u * (10 - t) ^ n), lN (10 ^ n)) from k1, Option.bind_some]
  dsimp only
  rw [e_partOf (by omega) w3 (by omega), Option.bind_some]
theorem mo_m {t n : Nat} (ht : t ≤ 10) (hn : n ≤ 15) : cd_iter cd_N (f_X6_moths_b73 (nI t) (nI n)) ((1 : Int64), (1 : Int64), (0 : Int32)) = some (lN (10 ^ n), lN ((10 - t) ^ n)) := by
  have k : ∃ r, cd_iter cd_N (f_X6_moths_b73 (nI t) (nI n)) (lN 1, lN 1, nI 0) = some r ∧ r = (lN (10 ^ n), lN ((10 - t) ^ n)) := by
    refine cd_hoare (fun m z => ∃ i, m + i = n ∧ z = (lN (10 ^ i), lN ((10 - t) ^ i), nI i)) _ ?_ cd_N n _ (by have e : cd_N = 20000 := rfl; omega) ⟨0, by omega, rfl⟩
    rintro m z ⟨i, hm, rfl⟩
    by_cases hi : i < n
    · refine Or.inr ⟨m - 1, (lN (10 ^ (i + 1)), lN ((10 - t) ^ (i + 1)), nI (i + 1)), by omega, ?_, i + 1, by omega, rfl⟩
      unfold f_X6_moths_b73
      dsimp only
      rw [if_neg (nI_ge hi (by omega)), nI_l (by omega), show (10 : Int64) = lN 10 from rfl, lN_sub ht, lN_mul, lN_mul, nI_1, Nat.pow_succ, Nat.pow_succ]
    · have e : i = n := by omega
      subst e
      refine Or.inl ⟨_, ?_, rfl⟩
      unfold f_X6_moths_b73
      dsimp only
      rw [if_pos (nI_le (Nat.le_refl _) (by omega))]
  obtain ⟨r, k1, rfl⟩ := k
  exact k1
/-- how many, in the reference -/
theorem mo_c (hX : q_X T M g) {n : Nat} (hn : n ≤ 15) (a0 : Int32) (p : Nat → Bool) (hp : ∀ c, c < 12 → p c = ((decide (a0 = -1) || decide (nI c = a0)) && q_ol g n c)) : ∃ M', cd_iter cd_N (f_X6_moths_b110 a0 (nI n)) ((0 : Int32), (0 : Int32), M) = some (nI (q_cnt p 12), M') ∧ q_same M M' := by
  have k : ∃ r, cd_iter cd_N (f_X6_moths_b110 a0 (nI n)) (nI 0, nI 0, M) = some r ∧ r.1 = nI (q_cnt p 12) ∧ q_same M r.2 := by
    refine cd_hoare (fun m z => ∃ c M1, m + c = 12 ∧ z = (nI (q_cnt p c), nI c, M1) ∧ q_same M M1) _ ?_ cd_N 12 _ (by decide) ⟨0, M, rfl, rfl, q_same.rf M⟩
    rintro m z ⟨c, M1, hm, rfl, hs⟩
    by_cases hc : c < 12
    · have hX1 := hX.same hs
      have hg := hX.2.2.2.2
      obtain ⟨M2, l1, l2, -, -⟩ := e6_lastsOf hX1.2.1 hg hc
      have hl : q_last g c ≤ 999 := q_lasts_le hg hc (g 1 c)
      have hq : q_cnt p (c + 1) = q_cnt p c + if p c = true then 1 else 0 := rfl
      have inner : ∃ M3, q_same M M3 ∧ ((cd_rd (M1 0) 69 (66 : Int32)).bind (fun v13 => (f_X6_isIn v13 (nI c)).bind (fun r14 => (if r14 = 0 then some ((0 : Int32), M1) else (f_X6_lastsOf (nI c) M1).bind (fun r16 => (if r16.1 ≤ nI n then some ((0 : Int32), r16.2) else some ((1 : Int32), r16.2)))))) : Option (Int32 × (Nat → Nat → Int32))) = some (q_bi (q_ol g n c), M3) := by
        rw [hX1.lit66, Option.bind_some, e_isIn (q_lit_lt hg) (by omega), Option.bind_some, l1, Option.bind_some]
        unfold q_ol
        show ∃ M3, _ ∧ _ = some (q_bi ((g 11 0).testBit c && decide (n < q_last g c)), M3)
        cases (g 11 0).testBit c
        · exact ⟨M1, hs, rfl⟩
        · refine ⟨M2, hs.tr l2, ?_⟩
          rw [if_neg q_bt]
          dsimp only
          by_cases h : q_last g c ≤ n
          · rw [if_pos ((nI_leI (by omega) (by omega)).mpr h), decide_eq_false (by omega)]; rfl
          · rw [if_neg (fun q => h ((nI_leI (by omega) (by omega)).mp q)), decide_eq_true (by omega)]; rfl
      obtain ⟨M3, i1, i2⟩ := inner
      have fin : ∀ b : Bool, nI (q_cnt p c) + q_bi b = nI (q_cnt p c + if b = true then 1 else 0) := fun b => by
        rw [← nI_add (q_cnt p c)]; cases b <;> rfl
      by_cases hm1 : a0 = -1
      · refine Or.inr ⟨m - 1, (nI (q_cnt p (c + 1)), nI (c + 1), M3), by omega, ?_, c + 1, M3, by omega, rfl, i1⟩
        unfold f_X6_moths_b110
        dsimp only
        rw [q_l 12, if_neg (nI_ge hc (by decide)), if_pos hm1, i2, Option.bind_some, nI_1]
        dsimp only
        rw [fin, hq, hp c hc, decide_eq_true hm1, Bool.true_or, Bool.true_and]
      · by_cases hca : nI c = a0
        · refine Or.inr ⟨m - 1, (nI (q_cnt p (c + 1)), nI (c + 1), M3), by omega, ?_, c + 1, M3, by omega, rfl, i1⟩
          unfold f_X6_moths_b110
          dsimp only
          rw [q_l 12, if_neg (nI_ge hc (by decide)), if_neg hm1, if_pos hca, i2, Option.bind_some, nI_1]
          dsimp only
          rw [fin, hq, hp c hc, decide_eq_true hca, Bool.or_true, Bool.true_and]
        · refine Or.inr ⟨m - 1, (nI (q_cnt p (c + 1)), nI (c + 1), M1), by omega, ?_, c + 1, M1, by omega, rfl, hs⟩
          unfold f_X6_moths_b110
          dsimp only
          rw [q_l 12, if_neg (nI_ge hc (by decide)), if_neg hm1, if_neg hca, Option.bind_some, nI_1]
          dsimp only
          rw [show nI (q_cnt p c) + (0 : Int32) = nI (q_cnt p c) + q_bi false from rfl, fin, hq, hp c hc, decide_eq_false hca, decide_eq_false hm1, Bool.or_false, Bool.false_and]
    · have e : c = 12 := by omega
      subst e
      refine Or.inl ⟨(nI (q_cnt p 12), M1), ?_, rfl, hs⟩
      unfold f_X6_moths_b110
      dsimp only
      rw [q_l 12, if_pos (nI_le (Nat.le_refl _) (by decide))]
  obtain ⟨r, k1, k2, k3⟩ := k
  refine ⟨r.2, ?_, k3⟩
  rw [← k2]
  exact k1
theorem m_moths (hX : q_X T M g) (K : Nat → Nat → Int32) (a0 a1 a2 a3 : Int32) : ∃ v M', f_X5_moths a0 a1 a2 a3 K T = some v ∧ f_X6_moths a0 a1 a2 a3 M = some (v, M') ∧ q_same M M' := by
  have hg := hX.2.2.2.2
  unfold f_X5_moths f_X6_moths
  by_cases hm1 : a0 = -1
  · simp only [if_pos hm1]
    rw [e_within, e_in, q_br, q_br]
    by_cases h1 : 0 ≤ a1 ∧ a1 ≤ 10
    · rw [if_pos h1, if_pos h1, e_within, e_in, q_br, q_br]
      by_cases h2 : 0 ≤ a2 ∧ a2 ≤ 15
      · rw [if_pos h2, if_pos h2, e_within, e_in, q_br, q_br]
        by_cases h3 : 0 ≤ a3 ∧ a3 ≤ 1
        · rw [if_pos h3, if_pos h3]
          obtain ⟨t, ht, rfl⟩ := q_rng 10 (by decide) h1
          obtain ⟨n, hn, rfl⟩ := q_rng 15 (by decide) h2
          obtain ⟨M', c1, c2⟩ := mo_c hX hn a0 (q_ol g n) (fun c hc => by rw [decide_eq_true hm1, Bool.true_or, Bool.true_and])
          have hle := q_cnt_le (q_ol g n) 12
          obtain ⟨w1, w2, w3⟩ := q_pw (t := t) hn
          have hb : q_cnt (q_ol g n) 12 * (10 - t) ^ n ≤ 12 * 10 ^ 15 := Nat.mul_le_mul hle w1
          refine ⟨q_po (q_cnt (q_ol g n) 12 * (10 - t) ^ n) (10 ^ n) a3, M', ?_, ?_, c2⟩
          · rw [e_howMany hX.1 hg (by omega), Option.bind_some, nI_l (by omega), Option.bind_some, mo_x hle ht hn]
          · rw [mo_m ht hn, Option.bind_some, c1, Option.bind_some]
            dsimp only
            rw [nI_l (by omega), lN_mul, e6_lowest (by omega) w3 (by omega), Option.bind_some]
        · rw [if_neg h3, if_neg h3]
          exact ⟨_, M, rfl, rfl, q_same.rf M⟩
      · rw [if_neg h2, if_neg h2]
        exact ⟨_, M, rfl, rfl, q_same.rf M⟩
    · rw [if_neg h1, if_neg h1]
      exact ⟨_, M, rfl, rfl, q_same.rf M⟩
  · simp only [if_neg hm1]
    rw [e_isCandle, e6_isCandle, q_br, q_br]
    by_cases h0 : 0 ≤ a0 ∧ a0 ≤ 11
    · rw [if_pos h0, if_pos h0]
      obtain ⟨c, hc, rfl⟩ := q_rng 11 (by decide) h0
      have hc : c < 12 := by omega
      rw [e_isLit hX.1 hg hc, q_brB, hX.lit66, Option.bind_some, e_isIn (q_lit_lt hg) (show c < 31 by omega), q_brB]
      by_cases hl : q_lit g c = true
      · rw [if_pos hl, if_pos (show (g 11 0).testBit c = true from hl), e_within, e_in, q_br, q_br]
        by_cases h1 : 0 ≤ a1 ∧ a1 ≤ 10
        · rw [if_pos h1, if_pos h1, e_within, e_in, q_br, q_br]
          by_cases h2 : 0 ≤ a2 ∧ a2 ≤ 15
          · rw [if_pos h2, if_pos h2, e_within, e_in, q_br, q_br]
            by_cases h3 : 0 ≤ a3 ∧ a3 ≤ 1
            · rw [if_pos h3, if_pos h3]
              obtain ⟨t, ht, rfl⟩ := q_rng 10 (by decide) h1
              obtain ⟨n, hn, rfl⟩ := q_rng 15 (by decide) h2
              obtain ⟨M', c1, c2⟩ := mo_c hX hn (nI c) (fun x => decide (x = c) && q_ol g n x) (fun x hx => by
                rw [decide_eq_false hm1, Bool.false_or]
                congr 1
                exact decide_eq_decide.mpr (nI_eq (by omega) (by omega)).symm)
              rw [q_cnt_one] at c1
              have hu : (if c < 12 ∧ q_ol g n c = true then 1 else 0) = (if q_ol g n c = true then 1 else 0) := by
                by_cases hq : q_ol g n c = true
                · rw [if_pos ⟨hc, hq⟩, if_pos hq]
                · rw [if_neg (fun z => hq z.2), if_neg hq]
              rw [hu] at c1
              obtain ⟨u, hu2⟩ : ∃ u : Nat, u = if q_ol g n c = true then 1 else 0 := ⟨_, rfl⟩
              have hle : u ≤ 12 := by rw [hu2]; split <;> decide
              rw [← hu2] at c1
              obtain ⟨w1, w2, w3⟩ := q_pw (t := t) hn
              have hb : u * (10 - t) ^ n ≤ 12 * 10 ^ 15 := Nat.mul_le_mul hle w1
              refine ⟨q_po (u * (10 - t) ^ n) (10 ^ n) a3, M', ?_, ?_, c2⟩
              · have ex : ((if q_bi (q_ol g n c) = 0 then some (0 : Int64) else some (1 : Int64)) : Option Int64) = some (lN u) := by
                  rw [hu2]
                  cases q_ol g n c <;> rfl
                rw [e_outlasts hX.1 hg hc (by omega), Option.bind_some, ex, Option.bind_some]
                exact mo_x hle ht hn a3
              · rw [show cd_iter cd_N (f_X6_moths_b73_36 (nI t) (nI n)) ((1 : Int64), (1 : Int64), (0 : Int32)) = some (lN (10 ^ n), lN ((10 - t) ^ n)) from mo_m ht hn, Option.bind_some, show cd_iter cd_N (f_X6_moths_b110_38 (nI c) (nI n)) ((0 : Int32), (0 : Int32), M) = some (nI u, M') from c1, Option.bind_some]
                dsimp only
                rw [nI_l (by omega), lN_mul, e6_lowest (by omega) w3 (by omega), Option.bind_some]
            · rw [if_neg h3, if_neg h3]
              exact ⟨_, M, rfl, rfl, q_same.rf M⟩
          · rw [if_neg h2, if_neg h2]
            exact ⟨_, M, rfl, rfl, q_same.rf M⟩
        · rw [if_neg h1, if_neg h1]
          exact ⟨_, M, rfl, rfl, q_same.rf M⟩
      · rw [if_neg hl, if_neg (show ¬ (g 11 0).testBit c = true from hl)]
        exact ⟨_, M, rfl, rfl, q_same.rf M⟩
    · rw [if_neg h0, if_neg h0]
      exact ⟨_, M, rfl, rfl, q_same.rf M⟩
end MOTHS
