/-! the walk, one longer; the fewest minutes -/
section WALK2
variable {T V : Nat → Nat → Int32} {g : Nat → Nat → Nat} {w0 e0 : Nat → Nat} {a : Nat} {p : Prop}
theorem e_longer (hl : ∀ c, w_lm g c ≤ 1000000) (hv0 : ∀ c, c < 12 → V 0 c = nI (w_lm g c)) (hst : w_st (w_lm g) w0 e0 a p) {n : Nat} (hn : n ≤ 9) (hw : ∀ i, i + n + 2 ≤ 12 → V 1 i = nI ((w_WE (w_lm g) w0 e0 n).1 i) ∧ V 2 i = nI ((w_WE (w_lm g) w0 e0 n).2 i)) : ∃ V', f_X4_lengthenTo (nI (n + 3)) V = some V' ∧ (∀ i, i + n + 3 ≤ 12 → V' 1 i = nI ((w_WE (w_lm g) w0 e0 (n + 1)).1 i) ∧ V' 2 i = nI ((w_WE (w_lm g) w0 e0 (n + 1)).2 i)) ∧ V' 0 = V 0 ∧ V' 3 = V 3 ∧ V' 4 = V 4 := by
  have e3 : nI (n + 3) - (1 : Int32) = nI (n + 2) := by rw [q_l 1, pk_sub (by omega)]; rfl
  have k : ∃ r, cd_iter cd_N (f_X4_lengthenTo_b6 (nI (n + 3))) (nI 0, V) = some r ∧ (∀ i, i + n + 3 ≤ 12 → r 1 i = nI ((w_WE (w_lm g) w0 e0 (n + 1)).1 i) ∧ r 2 i = nI ((w_WE (w_lm g) w0 e0 (n + 1)).2 i)) ∧ r 0 = V 0 ∧ r 3 = V 3 ∧ r 4 = V 4 := by
    refine cd_upto (10 - n) (fun i z => (∀ j, j < i → z 1 j = nI ((w_WE (w_lm g) w0 e0 (n + 1)).1 j) ∧ z 2 j = nI ((w_WE (w_lm g) w0 e0 (n + 1)).2 j)) ∧ (∀ j, i ≤ j → z 1 j = V 1 j ∧ z 2 j = V 2 j) ∧ z 0 = V 0 ∧ z 3 = V 3 ∧ z 4 = V 4) _ (by have e : cd_N = 20000 := rfl; omega) (fun i z hi q => Or.inr ?_) (fun z q => ⟨z, ?_, fun j hj => q.1 j (by omega), q.2.2⟩) ⟨fun j hj => absurd hj (Nat.not_lt_zero j), fun j _ => ⟨rfl, rfl⟩, rfl, rfl, rfl⟩
    · obtain ⟨q1, q2, q3⟩ := q
      have b0 := w_WE_le hst n i
      have b1 := w_WE_le hst n (i + 1)
      have z10 : z 1 i = nI ((w_WE (w_lm g) w0 e0 n).1 i) := (q2 i (Nat.le_refl _)).1.trans (hw i (by omega)).1
      have z20 : z 2 i = nI ((w_WE (w_lm g) w0 e0 n).2 i) := (q2 i (Nat.le_refl _)).2.trans (hw i (by omega)).2
      have z11 : z 1 (i + 1) = nI ((w_WE (w_lm g) w0 e0 n).1 (i + 1)) := (q2 (i + 1) (by omega)).1.trans (hw (i + 1) (by omega)).1
      have z21 : z 2 (i + 1) = nI ((w_WE (w_lm g) w0 e0 n).2 (i + 1)) := (q2 (i + 1) (by omega)).2.trans (hw (i + 1) (by omega)).2
      refine ⟨cd_set (cd_set z 1 i (nI ((w_WE (w_lm g) w0 e0 (n + 1)).1 i))) 2 i (nI ((w_WE (w_lm g) w0 e0 (n + 1)).2 i)), ?_, fun j hj => ?_, fun j hj => ?_, ?_⟩
      · unfold f_X4_lengthenTo_b6
        dsimp only
        rw [e3, nI_add, q_l 12, if_neg (nI_ge (show i + (n + 2) < 12 by omega) (by decide)), nI_1 i, cd_rd_nI (show i + 1 < 12 by omega) (by decide), Option.bind_some, cd_rd_nI (show i + 1 < 12 by omega) (by decide), Option.bind_some, cd_rd_nI (show i < 12 by omega) (by decide), Option.bind_some, cd_rd_nI (show i < 12 by omega) (by decide), Option.bind_some, z10, z20, z11, z21, nI_1, nI_1, nI_add, nI_add, w_min (by omega) (by omega), w_min (by omega) (by omega), e_inTime (l := w_lm g) (show i < 12 by omega) (by rw [q3.1]; exact hv0 i (by omega)) (hl i) (by omega), Option.bind_some, cd_ix_nI (show i < 12 by omega) (by decide), Option.bind_some, e_inTime (l := w_lm g) (show i + (n + 2) < 12 by omega) (by rw [cd_set_n _ _ (by decide), q3.1]; exact hv0 _ (by omega)) (hl _) (by omega), Option.bind_some]
        rfl
      · rw [cd_set_n _ _ (by decide), cd_set_s, cd_set_s, cd_set_n _ _ (by decide)]
        by_cases e : j = i
        · rw [e, pk_us, pk_us]; exact ⟨rfl, rfl⟩
        · rw [pk_un e, pk_un e]; exact q1 j (by omega)
      · rw [cd_set_n _ _ (by decide), cd_set_s, cd_set_s, cd_set_n _ _ (by decide), pk_un (show j ≠ i by omega), pk_un (show j ≠ i by omega)]
        exact q2 j (by omega)
      · rw [cd_set_n _ _ (by decide), cd_set_n _ _ (by decide), cd_set_n _ _ (by decide), cd_set_n _ _ (by decide), cd_set_n _ _ (by decide), cd_set_n _ _ (by decide)]
        exact q3
    · unfold f_X4_lengthenTo_b6
      dsimp only
      rw [e3, nI_add, q_l 12, if_pos (nI_le (show 12 ≤ 10 - n + (n + 2) by omega) (by omega))]
  obtain ⟨r, k1, k2⟩ := k
  refine ⟨r, ?_, k2⟩
  unfold f_X4_lengthenTo
  rw [show cd_iter cd_N (f_X4_lengthenTo_b6 (nI (n + 3))) ((0 : Int32), V) = some r from k1, Option.bind_some]
theorem e_tail {lo hi : Nat} (hg : q_ok g) (hV : w_V V g a lo hi) (hst : w_st (w_lm g) w0 e0 a p) (hw : ∀ i, i + 2 ≤ 12 → V 1 i = nI (w0 i) ∧ V 2 i = nI (e0 i)) : ∃ V', ((f_X4_fewestOfLength (2 : Int32) V).bind (fun r8 => (cd_iter cd_N f_X4_fewestMinutes_b89 (r8, (3 : Int32), V)).bind (fun (t9 : Int32 × (Nat → Nat → Int32)) => some (t9.1, t9.2)))) = some (nI (w_wb g w0 e0), V') ∧ w_V V' g a lo hi := by
  have hl := w_lm_le hg
  have f2 := e_fewest hV hst (n := 0) (by omega) hw
  have k : ∃ r, cd_iter cd_N f_X4_fewestMinutes_b89 (nI (w_mn (w_fw g w0 e0 0) (11 - 0)), nI 3, V) = some r ∧ r.1 = nI (w_wb g w0 e0) ∧ w_V r.2 g a lo hi := by
    refine cd_hoare (fun m z => ∃ n V1, m + n = 10 ∧ z = (nI (w_mn (fun n => w_mn (w_fw g w0 e0 n) (11 - n)) (n + 1)), nI (n + 3), V1) ∧ w_V V1 g a lo hi ∧ ∀ i, i + n + 2 ≤ 12 → V1 1 i = nI ((w_WE (w_lm g) w0 e0 n).1 i) ∧ V1 2 i = nI ((w_WE (w_lm g) w0 e0 n).2 i)) _ ?_ cd_N 10 _ (by decide) ⟨0, V, rfl, ?_, hV, hw⟩
    · rintro m z ⟨n, V1, hm, rfl, h1, h2⟩
      by_cases hn : n < 10
      · obtain ⟨V2, l1, l2, l3, l4, l5⟩ := e_longer hl h1.1 hst (show n ≤ 9 by omega) h2
        have h3 := h1.row l3 l4 l5
        have f := e_fewest h3 hst (n := n + 1) (by omega) (fun i hi => l2 i (by omega))
        refine Or.inr ⟨m - 1, (nI (w_mn (fun n => w_mn (w_fw g w0 e0 n) (11 - n)) (n + 1 + 1)), nI (n + 1 + 3), V2), by omega, ?_, n + 1, V2, by omega, rfl, h3, fun i hi => l2 i (by omega)⟩
        have m1 := w_mn_le (fun n => w_mn (w_fw g w0 e0 n) (11 - n)) (n + 1)
        have m2 := w_mn_le (w_fw g w0 e0 (n + 1)) (11 - (n + 1))
        unfold f_X4_fewestMinutes_b89
        dsimp only
        rw [q_l 12, if_neg (fun q => absurd ((nI_ltI (by omega) (by omega)).mp q) (by omega)), l1, Option.bind_some, show f_X4_fewestOfLength (nI (n + 3)) V2 = some (nI (w_mn (w_fw g w0 e0 (n + 1)) (11 - (n + 1)))) from f, Option.bind_some, w_min (by omega) (by omega), nI_1]
        rfl
      · have e : n = 10 := by omega
        subst e
        refine Or.inl ⟨(nI (w_wb g w0 e0), V1), ?_, rfl, h1⟩
        unfold f_X4_fewestMinutes_b89
        dsimp only
        rw [q_l 12, if_pos (nI_lt (by omega) (by omega))]
        rfl
    · have m2 := w_mn_le (w_fw g w0 e0 0) (11 - 0)
      rw [show w_mn (fun n => w_mn (w_fw g w0 e0 n) (11 - n)) (0 + 1) = min 1000000 (w_mn (w_fw g w0 e0 0) (11 - 0)) from rfl, Nat.min_eq_right m2]
  obtain ⟨r, k1, k2, k3⟩ := k
  refine ⟨r.2, ?_, k3⟩
  rw [show f_X4_fewestOfLength (2 : Int32) V = some (nI (w_mn (w_fw g w0 e0 0) (11 - 0))) from f2, Option.bind_some, show cd_iter cd_N f_X4_fewestMinutes_b89 (nI (w_mn (w_fw g w0 e0 0) (11 - 0)), (3 : Int32), V) = some r from k1, Option.bind_some, k2]
theorem e_blank (V : Nat → Nat → Int32) : ∃ V', cd_iter cd_N f_X4_fewestMinutes_b17 ((0 : Int32), V) = some V' ∧ (∀ i, i < 12 → V' 1 i = nI 1000000 ∧ V' 2 i = nI 1000000) ∧ V' 0 = V 0 ∧ V' 3 = V 3 ∧ V' 4 = V 4 := by
  refine cd_upto' 12 (fun i z => (∀ j, j < i → z 1 j = nI 1000000 ∧ z 2 j = nI 1000000) ∧ z 0 = V 0 ∧ z 3 = V 3 ∧ z 4 = V 4) (by decide) (fun i z hi q => ⟨cd_set (cd_set z 1 i (nI 1000000)) 2 i (nI 1000000), ?_, fun j hj => ?_, ?_⟩) _ (fun z q => ⟨z, ?_, q⟩) ⟨fun j hj => absurd hj (Nat.not_lt_zero j), rfl, rfl, rfl⟩
  · unfold f_X4_fewestMinutes_b17
    dsimp only
    rw [q_l 12, if_neg (nI_ge hi (by decide)), cd_ix_nI hi (by decide), Option.bind_some, Option.bind_some, nI_1]
    rfl
  · rw [cd_set_n _ _ (by decide), cd_set_s, cd_set_s, cd_set_n _ _ (by decide)]
    by_cases e : j = i
    · rw [e, pk_us, pk_us]; exact ⟨rfl, rfl⟩
    · rw [pk_un e, pk_un e]; exact q.1 j (by omega)
  · rw [cd_set_n _ _ (by decide), cd_set_n _ _ (by decide), cd_set_n _ _ (by decide), cd_set_n _ _ (by decide), cd_set_n _ _ (by decide), cd_set_n _ _ (by decide)]
    exact q.2
  · unfold f_X4_fewestMinutes_b17
    dsimp only
    rw [q_l 12, if_pos (nI_le (Nat.le_refl _) (by decide))]
def w_ww (g : Nat → Nat → Nat) (a : Nat) : Nat → Nat := fun i => if i + 1 = a then w_it (w_lm g) i 1 else 1000000
def w_ee (g : Nat → Nat → Nat) (a : Nat) : Nat → Nat := fun i => if i = a ∧ a < 11 then w_it (w_lm g) (a + 1) 1 else 1000000
def w_no : Nat → Nat := fun _ => 1000000
theorem w_ww_st (hg : q_ok g) (a : Nat) : w_st (w_lm g) (w_ww g a) w_no a (0 < a) := by
  refine ⟨w_lm_le hg, fun i => ⟨?_, Nat.le_refl _⟩, fun i hi => ?_, fun i hi => absurd hi (Nat.lt_irrefl _)⟩
  · unfold w_ww; split
    · exact w_it_le (w_lm_le hg i) 1
    · exact Nat.le_refl _
  · unfold w_ww at hi ⊢
    by_cases e : i + 1 = a
    · rw [if_pos e] at hi ⊢
      rw [w_it_fin hi]
      exact ⟨Nat.le_refl _, by omega, by omega, by omega⟩
    · rw [if_neg e] at hi; omega
theorem w_ee_st (hg : q_ok g) (a : Nat) : w_st (w_lm g) w_no (w_ee g a) a (a < 11) := by
  refine ⟨w_lm_le hg, fun i => ⟨Nat.le_refl _, ?_⟩, fun i hi => absurd hi (Nat.lt_irrefl _), fun i hi => ?_⟩
  · unfold w_ee; split
    · exact w_it_le (w_lm_le hg _) 1
    · exact Nat.le_refl _
  · unfold w_ee at hi ⊢
    by_cases e : i = a ∧ a < 11
    · rw [if_pos e] at hi ⊢
      rw [w_it_fin hi]
      exact ⟨Nat.le_refl _, by omega, by omega, by omega⟩
    · rw [if_neg e] at hi; omega
theorem w_wb_far (hst : w_st (w_lm g) w0 e0 a p) (hp : ¬ p) : w_wb g w0 e0 = 1000000 := by
  refine w_mn_far 11 fun n _ => w_mn_far _ fun i _ => ?_
  unfold w_fw
  have b := w_WE_le hst n i
  have q := w_WE_in hst n i
  have q1 : ¬ (w_WE (w_lm g) w0 e0 n).1 i < 1000000 := fun h => hp (q.1 h).2.1
  have q2 : ¬ (w_WE (w_lm g) w0 e0 n).2 i < 1000000 := fun h => hp (q.2 h).2.1
  split <;> omega
theorem e_west {lo hi : Nat} (hg : q_ok g) (ha : a < 12) (hV : w_V V g a lo hi) : ∃ V', f_X4_fewestMinutes (nI a) (-1 : Int32) V = some (nI (w_wb g (w_ww g a) w_no), V') ∧ w_V V' g a lo hi := by
  unfold f_X4_fewestMinutes
  rcases a with _ | a
  · refine ⟨V, ?_, hV⟩
    rw [w_wb_far (w_ww_st hg 0) (by omega)]
    rfl
  · have e1 : nI (a + 1) + (-1 : Int32) = nI a := by
      rw [← nI_1, Int32.add_assoc, show (1 : Int32) + -1 = 0 by decide, Int32.add_zero]
    obtain ⟨V1, b1, b2, b3, b4, b5⟩ := e_blank V
    rw [e1, e_isCandle, decide_eq_true (show 0 ≤ nI a ∧ nI a ≤ 11 from ⟨nI_le (Nat.zero_le a) (by omega), nI_le (show a ≤ 11 by omega) (by decide)⟩), Option.bind_some, if_neg q_bt, b1, Option.bind_some, if_neg (by decide)]
    have i1 : f_X4_inTime (nI a) (1 : Int32) V1 = some (nI (w_it (w_lm g) a 1)) := e_inTime (x := 1) (show a < 12 by omega) (by rw [b3]; exact hV.1 a (by omega)) (w_lm_le hg a) (by decide)
    rw [i1, Option.bind_some, cd_ix_nI (show a < 12 by omega) (by decide), Option.bind_some, Option.bind_some]
    refine e_tail hg (hV.row ?_ ?_ ?_) (w_ww_st hg (a + 1)) (fun i hi => ?_)
    · rw [cd_set_n _ _ (by decide)]; exact b3
    · rw [cd_set_n _ _ (by decide)]; exact b4
    · rw [cd_set_n _ _ (by decide)]; exact b5
    · rw [cd_set_s, cd_set_n _ _ (by decide)]
      refine ⟨?_, (b2 i (by omega)).2⟩
      unfold w_ww
      by_cases e : i = a
      · rw [e, pk_us, if_pos rfl]
      · rw [pk_un e, if_neg (by omega)]; exact (b2 i (by omega)).1
theorem e_east {lo hi : Nat} (hg : q_ok g) (ha : a < 12) (hV : w_V V g a lo hi) : ∃ V', f_X4_fewestMinutes (nI a) (1 : Int32) V = some (nI (w_wb g w_no (w_ee g a)), V') ∧ w_V V' g a lo hi := by
  unfold f_X4_fewestMinutes
  by_cases h : a < 11
  · obtain ⟨V1, b1, b2, b3, b4, b5⟩ := e_blank V
    rw [nI_1, e_isCandle, decide_eq_true (show 0 ≤ nI (a + 1) ∧ nI (a + 1) ≤ 11 from ⟨nI_le (Nat.zero_le _) (by omega), nI_le (show a + 1 ≤ 11 by omega) (by decide)⟩), Option.bind_some, if_neg q_bt, b1, Option.bind_some, if_pos (by decide)]
    have i1 : f_X4_inTime (nI (a + 1)) (1 : Int32) V1 = some (nI (w_it (w_lm g) (a + 1) 1)) := e_inTime (x := 1) (show a + 1 < 12 by omega) (by rw [b3]; exact hV.1 _ (by omega)) (w_lm_le hg _) (by decide)
    rw [i1, Option.bind_some, cd_ix_nI (show a < 12 by omega) (by decide), Option.bind_some, Option.bind_some]
    refine e_tail hg (hV.row ?_ ?_ ?_) (w_ee_st hg a) (fun i hi => ?_)
    · rw [cd_set_n _ _ (by decide)]; exact b3
    · rw [cd_set_n _ _ (by decide)]; exact b4
    · rw [cd_set_n _ _ (by decide)]; exact b5
    · rw [cd_set_n _ _ (by decide), cd_set_s]
      refine ⟨(b2 i (by omega)).1, ?_⟩
      unfold w_ee
      by_cases e : i = a
      · rw [e, pk_us, if_pos ⟨rfl, h⟩]
      · rw [pk_un e, if_neg (by omega)]; exact (b2 i (by omega)).2
  · have e : a = 11 := by omega
    subst e
    refine ⟨V, ?_, hV⟩
    rw [w_wb_far (w_ee_st hg 11) (by omega)]
    rfl
end WALK2
