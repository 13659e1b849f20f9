/-! the walk in the reference, all lengths; both sides -/
def w_inv (l w0 e0 : Nat → Nat) (n i : Nat) (D : Nat → Nat → Nat → Nat) : Prop :=
  (∀ a b c, D a b c ≤ 1000000) ∧ (∀ k, k + n + 2 ≤ 12 → D k (k + n + 1) 0 = (w_WE l w0 e0 n).1 k ∧ D k (k + n + 1) 1 = (w_WE l w0 e0 n).2 k) ∧
  (∀ k, k + n + 3 ≤ 12 → D k (k + n + 2) 0 = (if k + 1 < i then (w_WE l w0 e0 (n + 1)).1 k else 1000000) ∧ D k (k + n + 2) 1 = (if k < i then (w_WE l w0 e0 (n + 1)).2 k else 1000000)) ∧
  ∀ k m s, n + 3 ≤ m → k + m < 12 → D k (k + m) s = 1000000
theorem w_pu_ne {l : Nat → Nat} {D : Nat → Nat → Nat → Nat} {i n x y a b c : Nat} (h1 : ¬ (c = 0 ∧ a + 1 = i ∧ b = i + n + 1)) (h2 : ¬ (c = 1 ∧ a = i ∧ b = i + n + 2)) : w_pu l D i n x y a b c = D a b c := by
  unfold w_pu; rw [if_neg h1, if_neg h2]
theorem w_pu_w {l : Nat → Nat} {D : Nat → Nat → Nat → Nat} {i n x y a b : Nat} (h1 : a + 1 = i ∧ b = i + n + 1) : w_pu l D i n x y a b 0 = min (D a b 0) (w_it l a x) := by
  unfold w_pu; rw [if_pos ⟨rfl, h1⟩]
theorem w_pu_e {l : Nat → Nat} {D : Nat → Nat → Nat → Nat} {i n x y a b : Nat} (h1 : a = i ∧ b = i + n + 2) : w_pu l D i n x y a b 1 = min (D a b 1) (w_it l b y) := by
  unfold w_pu; rw [if_neg (by omega), if_pos ⟨rfl, h1⟩]
theorem w_inv_s {l w0 e0 : Nat → Nat} {a n i : Nat} {p : Prop} {D : Nat → Nat → Nat → Nat} (hst : w_st l w0 e0 a p) (h : w_inv l w0 e0 n i D) (hn : i + n + 2 ≤ 12) : w_inv l w0 e0 n (i + 1) (w_pu l (w_pu l D i n ((w_WE l w0 e0 n).1 i + 1) ((w_WE l w0 e0 n).1 i + (n + 2))) i n ((w_WE l w0 e0 n).2 i + (n + 2)) ((w_WE l w0 e0 n).2 i + 1)) := by
  obtain ⟨h1, h2, h3, h4⟩ := h
  refine ⟨fun a b c => w_pu_le (fun a b c => w_pu_le h1 _ _ _ _ _ _ _) _ _ _ _ _ _ _, fun k hk => ?_, fun k hk => ⟨?_, ?_⟩, fun k m s hm hk => ?_⟩
  · rw [w_pu_ne (by omega) (by omega), w_pu_ne (by omega) (by omega), w_pu_ne (by omega) (by omega), w_pu_ne (by omega) (by omega)]
    exact h2 k hk
  · by_cases e : k + 1 = i
    · rw [w_pu_w ⟨e, by omega⟩, w_pu_w ⟨e, by omega⟩, (h3 k hk).1, if_neg (by omega), if_pos (by omega), Nat.min_eq_right (w_it_le (hst.1 k) _), ← w_it_min (hst.1 k), ← e]
      rfl
    · rw [w_pu_ne (by omega) (by omega), w_pu_ne (by omega) (by omega), (h3 k hk).1]
      by_cases e2 : k + 1 < i
      · rw [if_pos e2, if_pos (by omega)]
      · rw [if_neg e2, if_neg (by omega)]
  · by_cases e : k = i
    · rw [w_pu_e ⟨e, by omega⟩, w_pu_e ⟨e, by omega⟩, (h3 k hk).2, if_neg (by omega), if_pos (by omega), Nat.min_eq_right (w_it_le (hst.1 _) _), ← w_it_min (hst.1 _), ← e, Nat.min_comm]
      rfl
    · rw [w_pu_ne (by omega) (by omega), w_pu_ne (by omega) (by omega), (h3 k hk).2]
      by_cases e2 : k < i
      · rw [if_pos e2, if_pos (by omega)]
      · rw [if_neg e2, if_neg (by omega)]
  · rw [w_pu_ne (by omega) (by omega), w_pu_ne (by omega) (by omega)]
    exact h4 k m s hm hk
theorem w_inv_n {l w0 e0 : Nat → Nat} {n i : Nat} {D : Nat → Nat → Nat → Nat} (h : w_inv l w0 e0 n i D) (hi : i = 11 - n) : w_inv l w0 e0 (n + 1) 0 D := by
  obtain ⟨h1, h2, h3, h4⟩ := h
  refine ⟨h1, fun k hk => ?_, fun k hk => ?_, fun k m s hm hk => h4 k m s (by omega) hk⟩
  · have := h3 k (by omega)
    rw [if_pos (by omega), if_pos (by omega)] at this
    exact this
  · rw [if_neg (by omega), if_neg (by omega)]
    exact ⟨h4 k (n + 3) 0 (Nat.le_refl _) (by omega), h4 k (n + 3) 1 (Nat.le_refl _) (by omega)⟩
section ROUND
variable {T M : Nat → Nat → Int32} {g : Nat → Nat → Nat} {D : Nat → Nat → Nat → Nat} {w0 e0 : Nat → Nat} {a : Nat} {p : Prop}
theorem e6_pair (hX : q_X T M g) (hst : w_st (w_lm g) w0 e0 a p) {n i best : Nat} (hD : w_D (M 14) D) (hI : w_inv (w_lm g) w0 e0 n i D) (hn : i + n + 2 ≤ 12) (hb : best ≤ 1000000) (z6a : Int32) (z6c : Nat → Nat → Int32) : ∃ M' D', f_X6_roundBy_b106 (z6a, nI (n + 2), z6c) (nI best, nI i, M) = some (.inr (nI (min best (w_fw g w0 e0 n i)), nI (i + 1), M')) ∧ q_same M M' ∧ w_D (M' 14) D' ∧ w_inv (w_lm g) w0 e0 n (i + 1) D' := by
  have hin := w_WE_in hst n i
  have hle := w_WE_le hst n i
  have h110 : n * (n + 1) ≤ 10 * 11 := Nat.mul_le_mul (by omega) (by omega)
  have v0 : D i (i + n + 1) 0 = (w_WE (w_lm g) w0 e0 n).1 i := (hI.2.1 i hn).1
  have v1 : D i (i + n + 1) 1 = (w_WE (w_lm g) w0 e0 n).2 i := (hI.2.1 i hn).2
  obtain ⟨M1, a1, a2, a3⟩ := e6_side hX hD hI.1 hn (show 0 < 2 by decide) hb v0 (fun q => by have := (hin.1 q).1; omega) (Or.inl ⟨rfl, rfl, rfl⟩) z6a (nI best) z6c M (w_cv g n i)
  have hb1 : (if w_cv g n i = true then min best ((w_WE (w_lm g) w0 e0 n).1 i) else best) ≤ 1000000 := by split <;> omega
  obtain ⟨M2, b1, b2, b3⟩ := e6_side (hX.same a2) a3 (w_pu_le hI.1 _ _ _ _) hn (show 1 < 2 by decide) hb1 (show w_pu (w_lm g) D i n ((w_WE (w_lm g) w0 e0 n).1 i + 1) ((w_WE (w_lm g) w0 e0 n).1 i + (n + 2)) i (i + n + 1) 1 = (w_WE (w_lm g) w0 e0 n).2 i by rw [w_pu_ne (by omega) (by omega)]; exact v1) (fun q => by have := (hin.2 q).1; omega) (Or.inr ⟨rfl, rfl, rfl⟩) z6a (nI best) z6c M (w_cv g n i)
  refine ⟨M2, _, ?_, a2.tr b2, b3, w_inv_s hst hI hn⟩
  have ebest : (if w_cv g n i = true then min (if w_cv g n i = true then min best ((w_WE (w_lm g) w0 e0 n).1 i) else best) ((w_WE (w_lm g) w0 e0 n).2 i) else (if w_cv g n i = true then min best ((w_WE (w_lm g) w0 e0 n).1 i) else best)) = min best (w_fw g w0 e0 n i) := by
    unfold w_fw
    by_cases hc : w_cv g n i = true
    · simp only [if_pos hc]; omega
    · simp only [if_neg hc]; omega
  rw [ebest] at b1
  have c2 : f_X6_roundBy_b192 (z6a, nI (n + 2), z6c) (nI best, nI i, M) (q_bi (w_cv g n i)) (nI (min best (w_fw g w0 e0 n i)), nI 2, M2) = some (.inl (nI (min best (w_fw g w0 e0 n i)), M2)) := by
    unfold f_X6_roundBy_b192
    dsimp only
    rw [q_l 2, if_pos (nI_le (Nat.le_refl _) (by decide))]
  have it := cd_two (b := f_X6_roundBy_b192 (z6a, nI (n + 2), z6c) (nI best, nI i, M) (q_bi (w_cv g n i))) a1 b1 c2
  unfold f_X6_roundBy_b106
  dsimp only
  rw [nI_add, q_l 13, if_neg (nI_ge (show i + (n + 2) < 13 by omega) (by decide)), e6_cov hX hn, Option.bind_some, show cd_iter cd_N (f_X6_roundBy_b192 (z6a, nI (n + 2), z6c) (nI best, nI i, M) (q_bi (w_cv g n i))) (nI best, (0 : Int32), M) = some (nI (min best (w_fw g w0 e0 n i)), M2) from it, Option.bind_some, nI_1]
theorem e6_row (hX : q_X T M g) (hst : w_st (w_lm g) w0 e0 a p) {n best : Nat} (hD : w_D (M 14) D) (hI : w_inv (w_lm g) w0 e0 n 0 D) (hn : n ≤ 10) (hb : best ≤ 1000000) : ∃ M' D', f_X6_roundBy_b96 (nI best, nI (n + 2), M) = some (.inr (nI (min best (w_mn (w_fw g w0 e0 n) (11 - n))), nI (n + 3), M')) ∧ q_same M M' ∧ w_D (M' 14) D' ∧ w_inv (w_lm g) w0 e0 (n + 1) 0 D' := by
  have k : ∃ r, cd_iter cd_N (f_X6_roundBy_b106 (nI best, nI (n + 2), M)) (nI best, nI 0, M) = some r ∧ r.1 = nI (min best (w_mn (w_fw g w0 e0 n) (11 - n))) ∧ ∃ D', q_same M r.2 ∧ w_D (r.2 14) D' ∧ w_inv (w_lm g) w0 e0 (n + 1) 0 D' := by
    refine cd_hoare (fun m z => ∃ i M1 D1, m + i = 11 - n ∧ z = (nI (min best (w_mn (w_fw g w0 e0 n) i)), nI i, M1) ∧ q_same M M1 ∧ w_D (M1 14) D1 ∧ w_inv (w_lm g) w0 e0 n i D1) _ ?_ cd_N (11 - n) _ (by have e : cd_N = 20000 := rfl; omega) ⟨0, M, D, by omega, ?_, q_same.rf M, hD, hI⟩
    · rintro m z ⟨i, M1, D1, hm, rfl, h1, h2, h3⟩
      by_cases hi : i < 11 - n
      · obtain ⟨M2, D2, p1, p2, p3, p4⟩ := e6_pair (hX.same h1) hst h2 h3 (by omega) (Nat.le_trans (Nat.min_le_left _ _) hb) (nI best) M
        refine Or.inr ⟨m - 1, _, by omega, p1, i + 1, M2, D2, by omega, ?_, h1.tr p2, p3, p4⟩
        rw [Nat.min_assoc]
        rfl
      · have e : i = 11 - n := by omega
        refine Or.inl ⟨(nI (min best (w_mn (w_fw g w0 e0 n) i)), M1), ?_, by rw [e], D1, h1, h2, w_inv_n h3 e⟩
        unfold f_X6_roundBy_b106
        dsimp only
        rw [nI_add, q_l 13, if_pos (nI_le (show 13 ≤ i + (n + 2) by omega) (by omega))]
    · rw [show min best (w_mn (w_fw g w0 e0 n) 0) = best from Nat.min_eq_left hb]
  obtain ⟨r, k1, k2, D', k3, k4, k5⟩ := k
  refine ⟨r.2, D', ?_, k3, k4, k5⟩
  unfold f_X6_roundBy_b96
  dsimp only
  rw [q_l 13, if_neg (nI_ge (show n + 2 < 13 by omega) (by decide)), show cd_iter cd_N (f_X6_roundBy_b106 (nI best, nI (n + 2), M)) (nI best, (0 : Int32), M) = some r from k1, Option.bind_some, k2, nI_1]
theorem e6_all (hX : q_X T M g) (hst : w_st (w_lm g) w0 e0 a p) (hD : w_D (M 14) D) (hI : w_inv (w_lm g) w0 e0 0 0 D) : ∃ M', ((cd_iter cd_N f_X6_roundBy_b96 ((1000000 : Int32), (2 : Int32), M)).bind (fun (t6 : Int32 × (Nat → Nat → Int32)) => some (t6.1, t6.2))) = some (nI (w_wb g w0 e0), M') ∧ q_same M M' := by
  have k : ∃ r, cd_iter cd_N f_X6_roundBy_b96 (nI 1000000, nI 2, M) = some r ∧ r.1 = nI (w_wb g w0 e0) ∧ q_same M r.2 := by
    refine cd_hoare (fun m z => ∃ n M1 D1, m + n = 11 ∧ z = (nI (w_mn (fun n => w_mn (w_fw g w0 e0 n) (11 - n)) n), nI (n + 2), M1) ∧ q_same M M1 ∧ w_D (M1 14) D1 ∧ w_inv (w_lm g) w0 e0 n 0 D1) _ ?_ cd_N 11 _ (by decide) ⟨0, M, D, rfl, rfl, q_same.rf M, hD, hI⟩
    rintro m z ⟨n, M1, D1, hm, rfl, h1, h2, h3⟩
    by_cases hn : n < 11
    · obtain ⟨M2, D2, p1, p2, p3, p4⟩ := e6_row (hX.same h1) hst h2 h3 (by omega) (w_mn_le _ _)
      exact Or.inr ⟨m - 1, _, by omega, p1, n + 1, M2, D2, by omega, rfl, h1.tr p2, p3, p4⟩
    · have e : n = 11 := by omega
      subst e
      refine Or.inl ⟨(nI (w_wb g w0 e0), M1), ?_, rfl, h1⟩
      unfold f_X6_roundBy_b96
      dsimp only
      rw [q_l 13, if_pos (nI_le (Nat.le_refl _) (by decide))]
      rfl
  obtain ⟨r, k1, k2, k3⟩ := k
  refine ⟨r.2, ?_, k3⟩
  rw [show cd_iter cd_N f_X6_roundBy_b96 ((1000000 : Int32), (2 : Int32), M) = some r from k1, Option.bind_some, k2]
theorem e6_blank (M : Nat → Nat → Int32) : ∃ M', cd_iter cd_N f_X6_roundBy_b2 ((0 : Int32), M) = some M' ∧ q_same M M' ∧ w_D (M' 14) (fun _ _ _ => 1000000) := by
  have k : ∃ r, cd_iter cd_N f_X6_roundBy_b2 ((0 : Int32), M) = some r ∧ (∀ j, j < 288 → r 14 j = nI 1000000) ∧ q_same M r := by
    refine cd_upto' 288 (fun i z => (∀ j, j < i → z 14 j = nI 1000000) ∧ q_same M z) (by decide) (fun i z hi q => ⟨cd_set z 14 i (nI 1000000), ?_, fun j hj => ?_, q.2.tr (q_same.s14 _ _ _)⟩) _ (fun z q => ⟨z, ?_, q⟩) ⟨fun j hj => absurd hj (Nat.not_lt_zero j), q_same.rf M⟩
    · unfold f_X6_roundBy_b2
      dsimp only
      rw [q_l 288, if_neg (nI_ge hi (by decide)), cd_ix_nI hi (by decide), Option.bind_some, nI_1]
      rfl
    · rw [cd_set_s]
      by_cases e : j = i
      · rw [e, pk_us]
      · rw [pk_un e]; exact q.1 j (by omega)
    · unfold f_X6_roundBy_b2
      dsimp only
      rw [q_l 288, if_pos (nI_le (Nat.le_refl _) (by decide))]
  obtain ⟨r, k1, k2, k3⟩ := k
  exact ⟨r, k1, k3, fun i j s hi hj hs => k2 _ (by omega)⟩
theorem e6_west (hX : q_X T M g) (ha : a < 12) : ∃ M', f_X6_roundBy (nI a) (0 : Int32) M = some (nI (w_wb g (w_ww g a) w_no), M') ∧ q_same M M' := by
  have hg := hX.2.2.2.2
  obtain ⟨M1, b1, b2, b3⟩ := e6_blank M
  have hX1 := hX.same b2
  unfold f_X6_roundBy
  rw [b1, Option.bind_some, if_pos rfl]
  by_cases h0 : a = 0
  · subst h0
    rw [if_pos (show nI 0 ≤ 0 by decide), Option.bind_some, if_neg (by decide), Option.bind_some]
    obtain ⟨M2, c1, c2⟩ := e6_all hX1 (w_ww_st hg 0) b3 ⟨fun _ _ _ => Nat.le_refl _, fun k _ => ⟨show 1000000 = w_ww g 0 k from (if_neg (show ¬ k + 1 = 0 by omega)).symm, rfl⟩, fun k _ => ⟨by rw [if_neg (by omega)], by rw [if_neg (by omega)]⟩, fun _ _ _ _ _ => rfl⟩
    exact ⟨M2, c1, b2.tr c2⟩
  · obtain ⟨M2, d1, d2, d3⟩ := e6_comes hX1 (c := a - 1) (x := 1) (by omega) (by decide)
    have hD2 : w_D (M2 14) (fun _ _ _ => 1000000) := by rw [d3]; exact b3
    have hD3 := hD2.set (i := a - 1) (j := a) (s := 0) ha (by decide) (w_it (w_lm g) (a - 1) 1)
    rw [if_neg (fun q => h0 ((q_pos0 (by omega)).mp q)), q_l 1, pk_sub (by omega), d1, Option.bind_some]
    dsimp only
    rw [show (2 : Int32) * ((12 : Int32) * nI (a - 1) + nI a) = nI (2 * (12 * (a - 1) + a) + 0) by rw [q_l 2, q_l 12, pk_mul, nI_add, pk_mul]; rfl, cd_ix_nI (by omega) (by decide), Option.bind_some, Option.bind_some, if_neg (by decide), Option.bind_some]
    have hI : w_inv (w_lm g) (w_ww g a) w_no 0 0 (w_up (fun _ _ _ => 1000000) (a - 1) a 0 (w_it (w_lm g) (a - 1) 1)) := by
      refine ⟨fun x y z => ?_, fun k hk => ?_, fun k hk => ?_, fun k m s hm hk => ?_⟩
      · unfold w_up; split
        · exact w_it_le (w_lm_le hg _) _
        · exact Nat.le_refl _
      · show w_up _ _ _ _ _ _ _ _ = w_ww g a k ∧ w_up _ _ _ _ _ _ _ _ = 1000000
        unfold w_up w_ww
        refine ⟨?_, if_neg (by omega)⟩
        by_cases e : k + 1 = a
        · rw [if_pos (by omega), if_pos e, show k = a - 1 by omega]
        · rw [if_neg (by omega), if_neg e]
      · unfold w_up
        rw [if_neg (by omega), if_neg (by omega), if_neg (by omega), if_neg (by omega)]
        exact ⟨rfl, rfl⟩
      · unfold w_up
        rw [if_neg (by omega)]
    obtain ⟨M4, c1, c2⟩ := e6_all (M := cd_set M2 14 (2 * (12 * (a - 1) + a) + 0) (nI (w_it (w_lm g) (a - 1) 1))) (hX1.same (d2.tr (q_same.s14 _ _ _))) (w_ww_st hg a) (by rw [cd_set_s]; exact hD3) hI
    exact ⟨M4, c1, b2.tr (d2.tr ((q_same.s14 _ _ _).tr c2))⟩
theorem e6_east (hX : q_X T M g) (ha : a < 12) : ∃ M', f_X6_roundBy (nI a) (1 : Int32) M = some (nI (w_wb g w_no (w_ee g a)), M') ∧ q_same M M' := by
  have hg := hX.2.2.2.2
  obtain ⟨M1, b1, b2, b3⟩ := e6_blank M
  have hX1 := hX.same b2
  unfold f_X6_roundBy
  rw [b1, Option.bind_some, if_neg (by decide), Option.bind_some, if_pos rfl]
  by_cases h0 : 11 ≤ a
  · rw [q_l 11, if_pos (nI_le h0 (by omega)), Option.bind_some]
    obtain ⟨M2, c1, c2⟩ := e6_all hX1 (w_ee_st hg a) b3 ⟨fun _ _ _ => Nat.le_refl _, fun k _ => ⟨rfl, show 1000000 = w_ee g a k from (if_neg (show ¬ (k = a ∧ a < 11) by omega)).symm⟩, fun k _ => ⟨by rw [if_neg (by omega)], by rw [if_neg (by omega)]⟩, fun _ _ _ _ _ => rfl⟩
    exact ⟨M2, c1, b2.tr c2⟩
  · obtain ⟨M2, d1, d2, d3⟩ := e6_comes hX1 (c := a + 1) (x := 1) (by omega) (by decide)
    have hD2 : w_D (M2 14) (fun _ _ _ => 1000000) := by rw [d3]; exact b3
    have hD3 := hD2.set (i := a) (j := a + 1) (s := 1) (by omega) (by decide) (w_it (w_lm g) (a + 1) 1)
    have d1' : f_X6_comes (nI (a + 1)) (1 : Int32) M1 = some (nI (w_it (w_lm g) (a + 1) 1), M2) := d1
    rw [q_l 11, if_neg (nI_ge (by omega) (by decide)), nI_1, d1', Option.bind_some]
    dsimp only
    rw [show (2 : Int32) * ((12 : Int32) * nI a + nI a + (1 : Int32)) + (1 : Int32) = nI (2 * (12 * a + (a + 1)) + 1) by rw [q_l 2, q_l 12, pk_mul, nI_add, nI_1, pk_mul, nI_1]; rfl, cd_ix_nI (by omega) (by decide), Option.bind_some, Option.bind_some]
    have hI : w_inv (w_lm g) w_no (w_ee g a) 0 0 (w_up (fun _ _ _ => 1000000) a (a + 1) 1 (w_it (w_lm g) (a + 1) 1)) := by
      refine ⟨fun x y z => ?_, fun k hk => ?_, fun k hk => ?_, fun k m s hm hk => ?_⟩
      · unfold w_up; split
        · exact w_it_le (w_lm_le hg _) _
        · exact Nat.le_refl _
      · show w_up _ _ _ _ _ _ _ _ = 1000000 ∧ w_up _ _ _ _ _ _ _ _ = w_ee g a k
        unfold w_up w_ee
        refine ⟨if_neg (by omega), ?_⟩
        by_cases e : k = a ∧ a < 11
        · rw [if_pos (by omega), if_pos e]
        · rw [if_neg (by omega), if_neg e]
      · unfold w_up
        rw [if_neg (by omega), if_neg (by omega), if_neg (by omega), if_neg (by omega)]
        exact ⟨rfl, rfl⟩
      · unfold w_up
        rw [if_neg (by omega)]
    obtain ⟨M4, c1, c2⟩ := e6_all (M := cd_set M2 14 (2 * (12 * a + (a + 1)) + 1) (nI (w_it (w_lm g) (a + 1) 1))) (hX1.same (d2.tr (q_same.s14 _ _ _))) (w_ee_st hg a) (by rw [cd_set_s]; exact hD3) hI
    exact ⟨M4, c1, b2.tr (d2.tr ((q_same.s14 _ _ _).tr c2))⟩
theorem e6_any (hX : q_X T M g) (ha : a < 12) : ∃ b : Bool, cd_iter cd_N (f_X6_round_b26 (nI a) M) ((0 : Int32), (0 : Int32)) = some (q_bi b) ∧ (b = true ↔ ∃ c, c < 12 ∧ c ≠ a ∧ q_ask g c = true) := by
  have bd : ∀ f : Int32, f_X6_round_b26 (nI a) M (f, nI 12) = some (.inl f) := fun f => by
    unfold f_X6_round_b26
    dsimp only
    rw [q_l 12, if_pos (nI_le (Nat.le_refl _) (by decide))]
  have k : ∃ r, cd_iter cd_N (f_X6_round_b26 (nI a) M) (nI 0, nI 0) = some r ∧ ∃ b : Bool, r = q_bi b ∧ (b = true ↔ ∃ c, c < 12 ∧ c ≠ a ∧ q_ask g c = true) := by
    refine cd_hoare (fun m z => ∃ i, ∃ b : Bool, m + i = 12 ∧ z = (q_bi b, nI i) ∧ (b = true ↔ ∃ c, c < i ∧ c ≠ a ∧ q_ask g c = true)) _ ?_ cd_N 12 _ (by decide) ⟨0, false, rfl, rfl, ⟨fun h => absurd h q_ft, fun ⟨c, hc, _⟩ => absurd hc (Nat.not_lt_zero c)⟩⟩
    rintro m z ⟨i, b, hm, rfl, hb⟩
    by_cases hi : i < 12
    · have st : f_X6_round_b26 (nI a) M (q_bi b, nI i) = some (.inr (q_bi (b || (!decide (i = a) && q_ask g i)), nI (i + 1))) := by
        unfold f_X6_round_b26
        dsimp only
        rw [q_l 12, if_neg (nI_ge hi (by decide)), e6_asked hX hi, nI_1]
        cases b
        · rw [if_pos q_bf]
          by_cases e : i = a
          · rw [if_pos (by rw [e]), decide_eq_true e]; rfl
          · rw [if_neg (fun q => e ((nI_eq (by omega) (by omega)).mp q)), decide_eq_false e, Option.bind_some]
            cases q_ask g i <;> rfl
        · rfl
      refine Or.inr ⟨m - 1, _, by omega, st, i + 1, _, by omega, rfl, ?_⟩
      rw [Bool.or_eq_true, Bool.and_eq_true, hb]
      constructor
      · rintro (⟨c, h1, h2⟩ | ⟨h1, h2⟩)
        · exact ⟨c, by omega, h2⟩
        · exact ⟨i, by omega, fun e => by rw [decide_eq_true e] at h1; exact absurd h1 (by decide), h2⟩
      · rintro ⟨c, h1, h2, h3⟩
        by_cases e : c = i
        · subst e
          exact Or.inr ⟨by rw [decide_eq_false h2]; rfl, h3⟩
        · exact Or.inl ⟨c, by omega, h2, h3⟩
    · have e : i = 12 := by omega
      subst e
      exact Or.inl ⟨_, bd _, b, rfl, hb⟩
  obtain ⟨r, k1, b, rfl, k2⟩ := k
  exact ⟨b, k1, k2⟩
theorem m_round (hX : q_X T M g) (K V : Nat → Nat → Int32) (a0 a1 : Int32) : ∃ v V' M', f_X5_round a0 a1 K T V = some (v, V') ∧ f_X6_round a0 a1 M = some (v, M') ∧ q_same M M' := by
  have hg := hX.2.2.2.2
  unfold f_X5_round f_X6_round
  rw [e_isCandle, e6_isCandle, q_br, q_br]
  by_cases h1 : 0 ≤ a0 ∧ a0 ≤ 11
  · rw [if_pos h1, if_pos h1, e_within, e_in, q_br, q_br]
    by_cases h2 : 0 ≤ a1 ∧ a1 ≤ 1
    · rw [if_pos h2, if_pos h2]
      obtain ⟨a, ha, rfl⟩ := q_rng 11 (by decide) h1
      obtain ⟨V1, lo, hi, n1, n2⟩ := e_needed hX.1 hg (show a < 12 by omega) V
      obtain ⟨b, m1, m2⟩ := e6_any hX (show a < 12 by omega)
      have hn : b = decide (lo < a ∨ a < hi) := by
        obtain ⟨-, -, -, v5, v6, v7, v8, v9, v10⟩ := n2
        cases hb : b
        · refine (decide_eq_false fun q => ?_).symm
          have hb' : ¬ ∃ c, c < 12 ∧ c ≠ a ∧ q_ask g c = true := fun q => by rw [m2.mpr q] at hb; exact absurd hb (by decide)
          rcases q with q | q
          · exact hb' ⟨lo, by omega, by omega, v9.resolve_left (by omega)⟩
          · exact hb' ⟨hi, by omega, by omega, v10.resolve_left (by omega)⟩
        · obtain ⟨c, c1, c2, c3⟩ := m2.mp hb
          have := v8 c c1 c3
          exact (decide_eq_true (by omega)).symm
      rw [n1, Option.bind_some, m1, Option.bind_some, ← hn]
      dsimp only
      obtain ⟨w, hw, rfl⟩ := q_rng 1 (by decide) h2
      cases b
      · rw [if_pos q_bf, if_pos q_bf]
        rcases (show w = 0 ∨ w = 1 by omega) with rfl | rfl
        · exact ⟨_, V1, M, rfl, rfl, q_same.rf M⟩
        · exact ⟨_, V1, M, rfl, rfl, q_same.rf M⟩
      · rw [if_neg q_bt, if_neg q_bt]
        obtain ⟨V2, x1, x2⟩ := e_west hg (show a < 12 by omega) n2
        obtain ⟨V3, y1, y2⟩ := e_east hg (show a < 12 by omega) x2
        obtain ⟨M2, u1, u2⟩ := e6_west hX (show a < 12 by omega)
        obtain ⟨M3, t1, t2⟩ := e6_east (hX.same u2) (show a < 12 by omega)
        have le1 : w_wb g (w_ww g a) w_no ≤ 1000000 := w_mn_le _ _
        have le2 : w_wb g w_no (w_ee g a) ≤ 1000000 := w_mn_le _ _
        rw [x1, Option.bind_some, y1, Option.bind_some, u1, Option.bind_some, t1, Option.bind_some]
        dsimp only
        rw [w_min (by omega) (by omega), show (if nI (w_wb g w_no (w_ee g a)) ≤ nI (w_wb g (w_ww g a) w_no) then some (nI (w_wb g w_no (w_ee g a))) else some (nI (w_wb g (w_ww g a) w_no))) = some (nI (min (w_wb g (w_ww g a) w_no) (w_wb g w_no (w_ee g a)))) by
          by_cases h : w_wb g w_no (w_ee g a) ≤ w_wb g (w_ww g a) w_no
          · rw [if_pos (nI_le h (by omega)), Nat.min_eq_right h]
          · rw [if_neg (nI_ge (by omega) (by omega)), Nat.min_eq_left (by omega)], Option.bind_some]
        by_cases hf : nI (min (w_wb g (w_ww g a) w_no) (w_wb g w_no (w_ee g a))) < (1000000 : Int32)
        · rw [if_pos hf, if_pos hf]
          rcases (show w = 0 ∨ w = 1 by omega) with rfl | rfl
          · exact ⟨_, V3, M3, rfl, rfl, u2.tr t2⟩
          · rw [if_neg (show ¬ nI 1 = 0 by decide), if_neg (show ¬ nI 1 = 0 by decide)]
            by_cases he : nI (w_wb g (w_ww g a) w_no) = nI (min (w_wb g (w_ww g a) w_no) (w_wb g w_no (w_ee g a)))
            · rw [if_pos he]
              exact ⟨_, V3, M3, rfl, rfl, u2.tr t2⟩
            · rw [if_neg he]
              exact ⟨_, V3, M3, rfl, rfl, u2.tr t2⟩
        · rw [if_neg hf, if_neg hf]
          exact ⟨_, V3, M3, rfl, rfl, u2.tr t2⟩
    · rw [if_neg h2, if_neg h2]
      exact ⟨_, V, M, rfl, rfl, q_same.rf M⟩
  · rw [if_neg h1, if_neg h1]
    exact ⟨_, V, M, rfl, rfl, q_same.rf M⟩
end ROUND
