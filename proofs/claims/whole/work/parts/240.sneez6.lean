/-! sneezes in the reference -/
theorem z_re_in : ∀ c, c < 12 → ∀ w, w < 12 → ∀ d, d < 10 → decide (-(nI d) ≤ nI c - nI w ∧ nI c - nI w ≤ nI d) = z_re w d c := by decide +kernel
section SNZ6
variable {T Z M : Nat → Nat → Int32} {g : Nat → Nat → Nat} {b e : Nat → Nat}
theorem e6_layBurns (hX : q_X T M g) : ∃ M', f_X6_layBurns M = some M' ∧ q_same M M' ∧ ∀ c, c < 12 → M' 16 c = nI (z_bu g c) := by
  have hg := hX.2.2.2.2
  obtain ⟨M1, n1, n2, n3, -, -⟩ := e6_now hX.2.1
  have k : ∃ r, cd_iter cd_N f_X6_layBurns_b6 ((0 : Int32), M1) = some r ∧ q_same M r ∧ ∀ c, c < 12 → r 16 c = nI (z_bu g c) := by
    refine (cd_upto' 12 (fun i z => q_same M z ∧ (z 1 = M1 1) ∧ ∀ c, c < i → z 16 c = nI (z_bu g c)) (by decide) (fun i z hi q => ⟨cd_set z 16 i (nI (z_bu g i)), ?_, q.1.tr (q_same.of fun k hk => cd_set_n _ _ (by omega)), ?_, fun c hc => ?_⟩) (fun r => q_same M r ∧ ∀ c, c < 12 → r 16 c = nI (z_bu g c)) (fun z q => ⟨z, ?_, q.1, q.2.2⟩) ⟨n2, rfl, fun c hc => absurd hc (Nat.not_lt_zero c)⟩)
    · unfold f_X6_layBurns_b6
      dsimp only
      rw [q_l 12, if_neg (nI_ge hi (by decide)), e6_burnOf (by rw [q.2.1]; exact n3) hg hi, Option.bind_some, cd_ix_nI hi (by decide), Option.bind_some, nI_1]
      rfl
    · rw [cd_set_n _ _ (by decide)]; exact q.2.1
    · rw [cd_set_s]
      by_cases ec : c = i
      · rw [ec, pk_us]
      · rw [pk_un ec]; exact q.2.2 c (by omega)
    · unfold f_X6_layBurns_b6
      dsimp only
      rw [q_l 12, if_pos (nI_le (Nat.le_refl _) (by decide))]
  obtain ⟨r, k1, k2⟩ := k
  refine ⟨r, ?_, k2⟩
  unfold f_X6_layBurns
  rw [n1, Option.bind_some, k1, Option.bind_some]
theorem z_d10 {z : Nat} (hz : z < 12000) : nI z - nI z / (10 : Int32) * (10 : Int32) = nI (z % 10) := pk_rem (d := 10) (by omega) (by decide) (by decide)
theorem z_d1000 {z : Nat} (hz : z < 12000) : nI z / (1000 : Int32) = nI (z / 1000) := pk_div (d := 1000) (by omega) (by decide) (by decide)
theorem z_d100 {z : Nat} (hz : z < 12000) : nI z / (10 : Int32) - nI z / (10 : Int32) / (100 : Int32) * (100 : Int32) = nI (z / 10 % 100) := by
  rw [show nI z / (10 : Int32) = nI (z / 10) from pk_div (d := 10) (by omega) (by decide) (by decide)]
  exact pk_rem (d := 100) (by omega) (by decide) (by decide)
theorem z_lo_le {g : Nat → Nat → Nat} (hg : q_ok g) {c : Nat} (hc : c < 12) (w t d : Nat) : z_lo g w t d c ≤ 999 := Nat.le_trans (Nat.min_le_left _ _) (hg 0 c (by decide) hc)
theorem e6_lostBy (hX : q_X T M g) (h16 : ∀ c, c < 12 → M 16 c = nI (z_bu g c)) {z c : Nat} (hz : z < 12000) (hc : c < 12) (ht : z / 10 % 100 ≤ 60) : f_X6_lostBy (nI z) (nI c) M = some (nI (z_lo g (z / 1000) (z / 10 % 100) (z % 10) c)) := by
  have hg := hX.2.2.2.2
  have hb10 : z_bu g c ≤ 10 := q_burn_le hg hc _
  have h0 : g 0 c ≤ 999 := hg 0 c (by decide) hc
  have hm : z_mi (z / 1000) (z / 10 % 100) (z % 10) c ≤ 60 := by unfold z_mi; split <;> omega
  have hbm : z_bu g c * z_mi (z / 1000) (z / 10 % 100) (z % 10) c ≤ 10 * 60 := Nat.mul_le_mul hb10 hm
  have rd : cd_rd (M 0) 69 (nI c) = some (nI (g 0 c)) := by
    have := hX.2.1.rd 0 0 (j := c) rfl (by decide) (by decide) hc
    rw [Nat.zero_add] at this
    exact this
  unfold f_X6_lostBy
  rw [z_d10 hz, z_d1000 hz, z_d100 hz, e_in, z_re_in c hc _ (by omega) _ (by omega), Option.bind_some]
  have x2 : (if q_bi (z_re (z / 1000) (z % 10) c) = 0 then some (60 : Int32) else some (nI (z / 10 % 100))) = some (nI (z_mi (z / 1000) (z / 10 % 100) (z % 10) c)) := by
    unfold z_mi
    cases z_re (z / 1000) (z % 10) c <;> rfl
  rw [x2, Option.bind_some, cd_rd_nI hc (by decide), Option.bind_some, rd, Option.bind_some, h16 c hc, pk_mul]
  unfold z_lo
  by_cases h : g 0 c ≤ z_bu g c * z_mi (z / 1000) (z / 10 % 100) (z % 10) c
  · rw [if_pos (nI_le h (by omega)), Nat.min_eq_left h]; rfl
  · rw [if_neg (nI_ge (by omega) (by omega)), Nat.min_eq_right (by omega)]; rfl
theorem e6_isSneeze (hX : q_X T M g) (h16 : ∀ c, c < 12 → M 16 c = nI (z_bu g c)) {z : Nat} (hz : z < 12000) : f_X6_isSneeze (nI z) M = some (q_bi (z_P g z)) := by
  have hg := hX.2.2.2.2
  have h10 : g 10 0 ≤ 8 := hg 10 0 (by decide) (by decide)
  have hM4 : M 4 0 = nI (g 10 0) := hX.2.2.2.1.1
  have x2 : ((f_X6_in (nI (z / 1000)) (0 : Int32) (11 : Int32)).bind (fun r1 => (if r1 = 0 then some (0 : Int32) else (f_X6_in (nI (z / 10 % 100)) (0 : Int32) (60 : Int32)).bind (fun r11 => (if r11 = 0 then some (0 : Int32) else (f_X6_in (nI (z % 10)) (0 : Int32) (3 : Int32)).bind (fun r13 => (if r13 = 0 then some (0 : Int32) else some (1 : Int32)))))))) = some (q_bi (decide (z / 10 % 100 ≤ 60) && decide (z % 10 ≤ 3))) := by
    rw [e_in, e_in, e_in]
    have c1 : decide ((0 : Int32) ≤ nI (z / 1000) ∧ nI (z / 1000) ≤ 11) = true := decide_eq_true ⟨nI_pos' (by omega), nI_le (show z / 1000 ≤ 11 by omega) (by decide)⟩
    have c2 : decide ((0 : Int32) ≤ nI (z / 10 % 100) ∧ nI (z / 10 % 100) ≤ 60) = decide (z / 10 % 100 ≤ 60) := by
      by_cases h : z / 10 % 100 ≤ 60
      · rw [decide_eq_true h]; exact decide_eq_true ⟨nI_pos' (by omega), nI_le h (by decide)⟩
      · rw [decide_eq_false h]; exact decide_eq_false fun q => h ((nI_leI (b := 60) (by omega) (by decide)).mp q.2)
    have c3 : decide ((0 : Int32) ≤ nI (z % 10) ∧ nI (z % 10) ≤ 3) = decide (z % 10 ≤ 3) := by
      by_cases h : z % 10 ≤ 3
      · rw [decide_eq_true h]; exact decide_eq_true ⟨nI_pos' (by omega), nI_le h (by decide)⟩
      · rw [decide_eq_false h]; exact decide_eq_false fun q => h ((nI_leI (b := 3) (by omega) (by decide)).mp q.2)
    rw [c1, c2, c3]
    cases decide (z / 10 % 100 ≤ 60) <;> cases decide (z % 10 ≤ 3) <;> rfl
  have loop : cd_iter cd_N (f_X6_isSneeze_b50 (nI z) M) (q_bi (decide (z / 10 % 100 ≤ 60) && decide (z % 10 ≤ 3)), nI 0) = some (q_bi (z_P g z)) := by
    unfold z_P
    by_cases hv : z / 10 % 100 ≤ 60 ∧ z % 10 ≤ 3
    · rw [decide_eq_true hv.1, decide_eq_true hv.2, Bool.true_and, Bool.true_and]
      have k : ∃ r, cd_iter cd_N (f_X6_isSneeze_b50 (nI z) M) (q_bi true, nI 0) = some r ∧ r = q_bi (z_ok g (z / 1000) (z / 10 % 100) (z % 10)) := by
        refine cd_hoare (fun m y => ∃ i, m + i = g 10 0 ∧ y = (q_bi (decide (z_bad g (z / 1000) (z / 10 % 100) (z % 10) i = 0)), nI i)) _ ?_ cd_N (g 10 0) _ (by have e : cd_N = 20000 := rfl; omega) ⟨0, by omega, rfl⟩
        rintro m y ⟨i, hm, rfl⟩
        by_cases hi : i < g 10 0
        · by_cases hb : z_bad g (z / 1000) (z / 10 % 100) (z % 10) i = 0
          · have hc : g 8 i < 12 := by
              have h1 := hg 8 i (by decide) (show i < 8 by omega)
              have h2 : q_bd 8 = 11 := rfl
              omega
            have hL : g 9 i ≤ 999 := hg 9 i (by decide) (show i < 8 by omega)
            have hlo := z_lo_le hg hc (z / 1000) (z / 10 % 100) (z % 10)
            have g5 := hX.2.2.2.1.2 i (by omega)
            refine Or.inr ⟨m - 1, (q_bi (decide (z_bad g (z / 1000) (z / 10 % 100) (z % 10) (i + 1) = 0)), nI (i + 1)), by omega, ?_, i + 1, by omega, rfl⟩
            have hs := z_bad_s g (z / 1000) (z / 10 % 100) (z % 10) i
            unfold f_X6_isSneeze_b50
            dsimp only
            rw [hM4, if_neg (nI_ge hi (by omega)), decide_eq_true hb, if_neg q_bt, q_l 2, pk_mul, cd_rd_nI (show 2 * i < 16 by omega) (by decide), Option.bind_some, g5.1, e6_lostBy hX h16 hz hc hv.1, Option.bind_some, nI_1, nI_1, cd_rd_nI (show 2 * i + 1 < 16 by omega) (by decide), Option.bind_some, g5.2]
            by_cases he : z_lo g (z / 1000) (z / 10 % 100) (z % 10) (g 8 i) = g 9 i
            · rw [if_pos (by rw [he]), decide_eq_true (hs.mpr ⟨hb, he⟩)]; rfl
            · rw [if_neg (fun q => he ((nI_eq (by omega) (by omega)).mp q)), decide_eq_false (fun q => he (hs.mp q).2)]; rfl
          · refine Or.inl ⟨q_bi false, ?_, ?_⟩
            · unfold f_X6_isSneeze_b50
              dsimp only
              rw [hM4, if_neg (nI_ge hi (by omega)), decide_eq_false hb, if_pos q_bf]
            · unfold z_ok
              have up := q_cnt_up (fun i => !decide (z_lo g (z / 1000) (z / 10 % 100) (z % 10) (g 8 i) = g 9 i)) i (g 10 0 - i)
              rw [show i + (g 10 0 - i) = g 10 0 by omega] at up
              have up' : z_bad g (z / 1000) (z / 10 % 100) (z % 10) i ≤ z_bad g (z / 1000) (z / 10 % 100) (z % 10) (g 10 0) := up
              rw [decide_eq_false (by omega)]
        · have ei : i = g 10 0 := by omega
          subst ei
          refine Or.inl ⟨q_bi (z_ok g (z / 1000) (z / 10 % 100) (z % 10)), ?_, rfl⟩
          unfold f_X6_isSneeze_b50
          dsimp only
          rw [hM4, if_pos (nI_le (Nat.le_refl _) (by omega))]
          rfl
      obtain ⟨r, k1, rfl⟩ := k
      exact k1
    · have hf : (decide (z / 10 % 100 ≤ 60) && decide (z % 10 ≤ 3)) = false := by
        by_cases h1 : z / 10 % 100 ≤ 60
        · rw [decide_eq_true h1, decide_eq_false (fun h2 => hv ⟨h1, h2⟩)]; rfl
        · rw [decide_eq_false h1]; rfl
      rw [hf, Bool.false_and]
      obtain ⟨r, k1, rfl⟩ : ∃ r, cd_iter cd_N (f_X6_isSneeze_b50 (nI z) M) (q_bi false, nI 0) = some r ∧ r = q_bi false := by
        refine cd_hoare (fun m y => y = (q_bi false, nI 0)) _ ?_ cd_N 0 _ (by decide) rfl
        rintro m y rfl
        refine Or.inl ⟨_, ?_, rfl⟩
        unfold f_X6_isSneeze_b50
        dsimp only
        by_cases h4 : M 4 0 ≤ nI 0
        · rw [if_pos h4]
        · rw [if_neg h4, if_pos q_bf]
      exact k1
  unfold f_X6_isSneeze
  rw [z_d10 hz, z_d1000 hz, z_d100 hz]
  obtain ⟨r1, a1, a2⟩ := cd_bind_some x2
  rw [a1, Option.bind_some, a2, Option.bind_some, show cd_iter cd_N (f_X6_isSneeze_b50 (nI z) M) (q_bi (decide (z / 10 % 100 ≤ 60) && decide (z % 10 ≤ 3)), (0 : Int32)) = some (q_bi (z_P g z)) from loop, Option.bind_some, q_bi_zb]
  rfl
theorem m_sneezes (hX : q_X T M g) (K Z : Nat → Nat → Int32) (a0 : Int32) : ∃ v Z' M', f_X5_sneezes a0 K T Z = some (v, Z') ∧ f_X6_sneezes a0 M = some (v, M') ∧ q_same M M' := by
  have hg := hX.2.2.2.2
  obtain ⟨Z1, b, e, f1, f2⟩ := e_fit hX.1 hg Z
  obtain ⟨M1, l1, l2, l3⟩ := e6_layBurns hX
  have hX1 := hX.same l2
  have cap : q_cnt (z_P g) 12000 ≤ 12000 := q_cnt_le _ _
  have k : ∃ r, cd_iter cd_N (f_X6_sneezes_b8 a0 M1) (nI 0, nI 0) = some r ∧ ((∃ z, r = .inl (nI z, M1) ∧ z < 12000 ∧ z_P g z = true ∧ nI (q_cnt (z_P g) z) = a0) ∨ (r = .inr (nI (q_cnt (z_P g) 12000)) ∧ ∀ z, z < 12000 → z_P g z = true → nI (q_cnt (z_P g) z) ≠ a0)) := by
    refine cd_hoare (fun m y => ∃ z, m + z = 12000 ∧ y = (nI (q_cnt (z_P g) z), nI z) ∧ ∀ x, x < z → z_P g x = true → nI (q_cnt (z_P g) x) ≠ a0) _ ?_ cd_N 12000 _ (by decide) ⟨0, rfl, rfl, fun x hx => absurd hx (Nat.not_lt_zero x)⟩
    rintro m y ⟨z, hm, rfl, hq⟩
    by_cases hz : z < 12000
    · have bd : f_X6_sneezes_b8 a0 M1 (nI (q_cnt (z_P g) z), nI z) = if z_P g z = true then (if nI (q_cnt (z_P g) z) = a0 then some (.inl (.inl (nI z, M1))) else some (.inr (nI (q_cnt (z_P g) z + 1), nI (z + 1)))) else some (.inr (nI (q_cnt (z_P g) z), nI (z + 1))) := by
        unfold f_X6_sneezes_b8
        dsimp only
        rw [q_l 12000, if_neg (nI_ge hz (by decide)), e6_isSneeze hX1 l3 hz, Option.bind_some, nI_1, nI_1]
        cases z_P g z <;> rfl
      have hs := q_cnt_s (z_P g) z
      by_cases hp : z_P g z = true
      · rw [if_pos hp] at bd hs
        by_cases ha : nI (q_cnt (z_P g) z) = a0
        · rw [if_pos ha] at bd
          exact Or.inl ⟨_, bd, Or.inl ⟨z, rfl, hz, hp, ha⟩⟩
        · rw [if_neg ha, ← hs] at bd
          refine Or.inr ⟨m - 1, _, by omega, bd, z + 1, by omega, rfl, fun x hx hpx => ?_⟩
          by_cases ex : x = z
          · rw [ex]; exact ha
          · exact hq x (by omega) hpx
      · rw [if_neg hp] at bd hs
        have hs' : q_cnt (z_P g) (z + 1) = q_cnt (z_P g) z := by omega
        refine Or.inr ⟨m - 1, _, by omega, bd, z + 1, by omega, by rw [hs'], fun x hx hpx => ?_⟩
        by_cases ex : x = z
        · rw [ex] at hpx; exact absurd hpx hp
        · exact hq x (by omega) hpx
    · have ez : z = 12000 := by omega
      subst ez
      have bd : ∀ f : Int32, f_X6_sneezes_b8 a0 M1 (f, nI 12000) = some (.inl (.inr f)) := fun f => by
        unfold f_X6_sneezes_b8
        dsimp only
        rw [q_l 12000, if_pos (nI_le (Nat.le_refl _) (by decide))]
      exact Or.inl ⟨_, bd _, Or.inr ⟨rfl, hq⟩⟩
  obtain ⟨r, k1, k2⟩ := k
  unfold f_X5_sneezes f_X6_sneezes
  rw [f1, Option.bind_some, l1, Option.bind_some, show cd_iter cd_N (f_X6_sneezes_b8 a0 M1) ((0 : Int32), (0 : Int32)) = some r from k1, Option.bind_some]
  by_cases hm1 : a0 = -1
  · simp only [if_pos hm1]
    rw [e_howManyZ f2, Option.bind_some, Option.bind_some]
    rcases k2 with ⟨z, rfl, k3, k4, k5⟩ | ⟨rfl, k3⟩
    · have c2 : q_cnt (z_P g) z ≤ z := q_cnt_le _ _
      rw [hm1] at k5
      have := congrArg Int32.toInt k5
      rw [nI_toInt (by omega)] at this
      exact absurd this (by show ¬ ((q_cnt (z_P g) z : Nat) : Int) = -1; omega)
    · exact ⟨_, Z1, M1, rfl, rfl, l2⟩
  · simp only [if_neg hm1]
    by_cases hneg : a0 < 0
    · have at0 : f_X2_at a0 Z1 = some (-6) := by
        obtain ⟨r, q1, rfl⟩ : ∃ r, cd_iter cd_N (f_X2_at_b4 Z1) (a0, nI 0) = some r ∧ r = .inr () := by
          refine cd_hoare (fun m y => y = (a0, nI 0)) _ ?_ cd_N 0 _ (by decide) rfl
          rintro m y rfl
          refine Or.inl ⟨_, ?_, rfl⟩
          unfold f_X2_at_b4
          dsimp only
          rw [q_l 12, if_neg (nI_ge (by decide) (by decide)), if_pos hneg]
        unfold f_X2_at
        rw [show cd_iter cd_N (f_X2_at_b4 Z1) (a0, (0 : Int32)) = some (.inr ()) from q1, Option.bind_some]
        rfl
      rw [at0, Option.bind_some, Option.bind_some]
      rcases k2 with ⟨z, rfl, k3, k4, k5⟩ | ⟨rfl, k3⟩
      · have c2 : q_cnt (z_P g) z ≤ z := q_cnt_le _ _
        rw [← k5] at hneg
        exact absurd hneg (nI_pos (by omega))
      · exact ⟨_, Z1, M1, rfl, rfl, l2⟩
    · obtain ⟨i, hi, rfl⟩ : ∃ i : Nat, i ≤ 2 ^ 31 - 1 ∧ a0 = nI i := cd_of_rng (by decide) (by rw [cd_lt] at hneg; have : (0 : Int32).toInt = 0 := rfl; omega) (by have := Int32.toInt_lt a0; omega)
      obtain ⟨v, a1, a2⟩ := e_at f2 (i := i) (by omega)
      rw [a1, Option.bind_some, Option.bind_some]
      rcases a2 with ⟨z, rfl, z1, z2, z3⟩ | ⟨rfl, z3⟩
      · rcases k2 with ⟨y, rfl, y1, y2, y3⟩ | ⟨rfl, y3⟩
        · have c2 : q_cnt (z_P g) y ≤ y := q_cnt_le _ _
          have c3 := (nI_eq (by omega) (by omega)).mp y3
          have ez : z = y := q_nth_un z2 y2 (by omega)
          subst ez
          exact ⟨_, Z1, M1, rfl, rfl, l2⟩
        · exact absurd (by rw [z3]) (y3 z z1 z2)
      · rcases k2 with ⟨y, rfl, y1, y2, y3⟩ | ⟨rfl, y3⟩
        · have c2 : q_cnt (z_P g) y ≤ y := q_cnt_le _ _
          have c3 := (nI_eq (by omega) (by omega)).mp y3
          have c4 := q_nth_lt y1 y2
          omega
        · exact ⟨_, Z1, M1, rfl, rfl, l2⟩
end SNZ6
