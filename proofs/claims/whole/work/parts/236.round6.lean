/-! the walk in the reference -/
def w_D (r : Nat → Int32) (D : Nat → Nat → Nat → Nat) : Prop := ∀ i j s, i < 12 → j < 12 → s < 2 → r (2 * (12 * i + j) + s) = nI (D i j s)
theorem w_D.congr {r : Nat → Int32} {D D' : Nat → Nat → Nat → Nat} (h : w_D r D) (e : ∀ i j s, i < 12 → j < 12 → s < 2 → D' i j s = D i j s) : w_D r D' := fun i j s hi hj hs => by rw [e i j s hi hj hs]; exact h i j s hi hj hs
def w_up (D : Nat → Nat → Nat → Nat) (i j s v : Nat) : Nat → Nat → Nat → Nat := fun a b c => if a = i ∧ b = j ∧ c = s then v else D a b c
theorem w_D.set {r : Nat → Int32} {D : Nat → Nat → Nat → Nat} (h : w_D r D) {i j s : Nat} (hj : j < 12) (hs : s < 2) (v : Nat) : w_D (upd r (2 * (12 * i + j) + s) (nI v)) (w_up D i j s v) := fun a b c ha hb hc => by
  unfold w_up
  by_cases e : a = i ∧ b = j ∧ c = s
  · rw [if_pos e, e.1, e.2.1, e.2.2]; exact pk_us
  · rw [if_neg e, pk_un (fun q => e (by omega))]; exact h a b c ha hb hc
def w_pu (l : Nat → Nat) (D : Nat → Nat → Nat → Nat) (i n x y : Nat) : Nat → Nat → Nat → Nat := fun a b c => if c = 0 ∧ a + 1 = i ∧ b = i + n + 1 then min (D a b c) (w_it l a x) else if c = 1 ∧ a = i ∧ b = i + n + 2 then min (D a b c) (w_it l b y) else D a b c
theorem w_pu_le {l : Nat → Nat} {D : Nat → Nat → Nat → Nat} (h : ∀ a b c, D a b c ≤ 1000000) (i n x y a b c : Nat) : w_pu l D i n x y a b c ≤ 1000000 := by
  have := h a b c
  unfold w_pu
  split
  · exact Nat.le_trans (Nat.min_le_left _ _) this
  · split
    · exact Nat.le_trans (Nat.min_le_left _ _) this
    · exact this
section ROUND6
variable {T M : Nat → Nat → Int32} {g : Nat → Nat → Nat} {D : Nat → Nat → Nat → Nat}
theorem e6_asked (hX : q_X T M g) {c : Nat} (hc : c < 12) : f_X6_isAsked (nI c) M = some (q_bi (q_ask g c)) := by
  have hg := hX.2.2.2.2
  unfold f_X6_isAsked
  rw [hX.lit66, Option.bind_some, e_isIn (q_lit_lt hg) (by omega), Option.bind_some, q_l 12, nI_add, hX.2.1.rd 5 12 rfl (by decide) (by decide) hc, Option.bind_some]
  unfold q_ask q_lit
  cases (g 11 0).testBit c
  · rfl
  · rw [if_neg q_bt]
    by_cases h : g 5 c = 0
    · rw [if_pos ((q_pos0 (q_sum_lt hg hc)).mpr h), h]; rfl
    · rw [if_neg (fun q => h ((q_pos0 (q_sum_lt hg hc)).mp q)), decide_eq_true (by omega)]; rfl
theorem e6_comes (hX : q_X T M g) {c x : Nat} (hc : c < 12) (hx : x < 1000000) : ∃ M', f_X6_comes (nI c) (nI x) M = some (nI (w_it (w_lm g) c x), M') ∧ q_same M M' ∧ M' 14 = M 14 := by
  have hg := hX.2.2.2.2
  unfold f_X6_comes
  rw [e6_asked hX hc, Option.bind_some]
  by_cases hk : q_ask g c = true
  · obtain ⟨M', l1, l2, -, l3⟩ := e6_lastsOf hX.2.1 hg hc
    have hl : q_last g c ≤ 999 := q_lasts_le hg hc (g 1 c)
    refine ⟨M', ?_, l2, l3 14 (by decide) (by decide) (by decide) (by decide)⟩
    rw [hk, if_neg q_bt, l1, Option.bind_some]
    unfold w_it w_lm
    rw [if_pos (⟨hc, hk⟩ : c < 12 ∧ q_ask g c = true)]
    dsimp only
    by_cases h : q_last g c ≤ x
    · rw [if_pos h, if_neg (fun q => absurd ((nI_ltI (by omega) (by omega)).mp q) (by omega))]; rfl
    · rw [if_neg h, if_pos (nI_lt (by omega) (by omega))]; rfl
  · refine ⟨M, ?_, q_same.rf M, rfl⟩
    rw [show q_ask g c = false by cases h : q_ask g c; rfl; exact absurd h hk, if_pos q_bf]
    unfold w_it w_lm
    rw [if_neg (fun q : c < 12 ∧ q_ask g c = true => hk q.2), if_neg (by omega)]
    rfl
theorem e6_better (hD : w_D (M 14) D) {i j s x : Nat} (hi : i < 12) (hj : j < 12) (hs : s < 2) (hx : x < 2 ^ 31) (hd : D i j s < 2 ^ 31) : f_X6_better (nI (2 * (12 * i + j) + s)) (nI x) M = some (cd_set M 14 (2 * (12 * i + j) + s) (nI (min (D i j s) x))) := by
  unfold f_X6_better
  rw [cd_rd_nI (show 2 * (12 * i + j) + s < 288 by omega) (by decide), Option.bind_some, hD i j s hi hj hs, cd_ix_nI (show 2 * (12 * i + j) + s < 288 by omega) (by decide), Option.bind_some]
  by_cases h : D i j s ≤ x
  · rw [if_pos (nI_le h hx), Nat.min_eq_left h]; rfl
  · rw [if_neg (nI_ge (by omega) hd), Nat.min_eq_right (by omega)]; rfl
theorem q_same.s14 (M : Nat → Nat → Int32) (j : Nat) (x : Int32) : q_same M (cd_set M 14 j x) := q_same.of fun k hk => cd_set_n _ _ (by omega)
theorem e6_side (hX : q_X T M g) (hD : w_D (M 14) D) (hDl : ∀ a b c, D a b c ≤ 1000000) {n i s best v x y : Nat} (hn : i + n + 2 ≤ 12) (hs : s < 2) (hb : best ≤ 1000000) (ev : D i (i + n + 1) s = v) (hv : v < 1000000 → v ≤ 111) (hxy : (s = 0 ∧ x = v + 1 ∧ y = v + (n + 2)) ∨ (s = 1 ∧ x = v + (n + 2) ∧ y = v + 1)) (z6a z8a : Int32) (z6c z8c : Nat → Nat → Int32) (cv : Bool) : ∃ M', f_X6_roundBy_b192 (z6a, nI (n + 2), z6c) (z8a, nI i, z8c) (q_bi cv) (nI best, nI s, M) = some (.inr (nI (if cv = true then min best v else best), nI (s + 1), M')) ∧ q_same M M' ∧ w_D (M' 14) (w_pu (w_lm g) D i n x y) := by
  have hg := hX.2.2.2.2
  have hvl := hDl i (i + n + 1) s
  rw [ev] at hvl
  have e1 : nI i + nI (n + 2) - (1 : Int32) = nI (i + n + 1) := by
    rw [nI_add, q_l 1, pk_sub (by omega)]; exact congrArg nI (by omega)
  have ix : (2 : Int32) * ((12 : Int32) * nI i + nI (i + n + 1)) + nI s = nI (2 * (12 * i + (i + n + 1)) + s) := by
    rw [q_l 2, q_l 12, pk_mul, nI_add, pk_mul, nI_add]
  have rd : cd_rd (M 14) 288 (nI (2 * (12 * i + (i + n + 1)) + s)) = some (nI v) := by
    rw [cd_rd_nI (by omega) (by decide), hD i (i + n + 1) s (by omega) (by omega) hs, ev]
  unfold f_X6_roundBy_b192
  dsimp only
  rw [q_l 2, if_neg (nI_ge hs (by decide)), ← q_l 2, e1, ix, rd, Option.bind_some]
  by_cases hf : 1000000 ≤ v
  · refine ⟨M, ?_, q_same.rf M, hD.congr fun a b c _ _ _ => ?_⟩
    · rw [q_l 1000000, if_pos (nI_le hf (by omega)), nI_1]
      rw [show (if cv = true then min best v else best) = best by split <;> omega]
    · have := hDl a b c
      unfold w_pu
      split
      · rw [w_it_far (w_lm_le hg a) (by omega)]; omega
      · split
        · rw [w_it_far (w_lm_le hg b) (by omega)]; omega
        · rfl
  · have hv' := hv (by omega)
    rw [q_l 1000000, if_neg (nI_ge (by omega) (by decide))]
    have x21 : (if q_bi cv = 0 then some (nI best) else if nI best ≤ nI v then some (nI best) else some (nI v)) = some (nI (if cv = true then min best v else best)) := by
      cases cv
      · rfl
      · rw [if_neg q_bt, if_pos rfl]
        by_cases h : best ≤ v
        · rw [if_pos (nI_le h (by omega)), Nat.min_eq_left h]
        · rw [if_neg (nI_ge (by omega) (by omega)), Nat.min_eq_right (by omega)]
    have x22 : (if nI s = 0 then some (nI v + (1 : Int32)) else some (nI v + nI (n + 2))) = some (nI x) := by
      rcases hxy with ⟨rfl, rfl, -⟩ | ⟨rfl, rfl, -⟩
      · rw [if_pos (show nI 0 = 0 from rfl), nI_1]
      · rw [if_neg (show ¬ nI 1 = 0 by decide), nI_add]
    have x24 : (if nI s = (1 : Int32) then some (nI v + (1 : Int32)) else some (nI v + nI (n + 2))) = some (nI y) := by
      rcases hxy with ⟨rfl, -, rfl⟩ | ⟨rfl, -, rfl⟩
      · rw [if_neg (show ¬ nI 0 = (1 : Int32) by decide), nI_add]
      · rw [if_pos (show nI 1 = (1 : Int32) from rfl), nI_1]
    have x23 : ∃ M1, ((if nI i ≤ 0 then some M else (f_X6_comes (nI i - (1 : Int32)) (nI x) M).bind (fun r28 => (f_X6_better ((2 : Int32) * (((12 : Int32) * (nI i - (1 : Int32))) + nI (i + n + 1))) r28.1 r28.2).bind (fun r29 => some r29))) : Option (Nat → Nat → Int32)) = some M1 ∧ q_same M M1 ∧ w_D (M1 14) (fun a b c => if c = 0 ∧ a + 1 = i ∧ b = i + n + 1 then min (D a b c) (w_it (w_lm g) a x) else D a b c) := by
      by_cases hi0 : i = 0
      · refine ⟨M, ?_, q_same.rf M, hD.congr fun a b c _ _ _ => if_neg (by omega)⟩
        rw [if_pos ((q_pos0 (by omega)).mpr hi0)]
      · obtain ⟨M1, c1, c2, c3⟩ := e6_comes hX (c := i - 1) (x := x) (by omega) (by omega)
        have hD1 : w_D (M1 14) D := by rw [c3]; exact hD
        have d1 := hDl (i - 1) (i + n + 1) 0
        have d2 := w_it_le (w_lm_le hg (i - 1)) x
        refine ⟨cd_set M1 14 (2 * (12 * (i - 1) + (i + n + 1)) + 0) (nI (min (D (i - 1) (i + n + 1) 0) (w_it (w_lm g) (i - 1) x))), ?_, c2.tr (q_same.s14 _ _ _), ?_⟩
        · rw [if_neg (fun q => hi0 ((q_pos0 (by omega)).mp q)), q_l 1, pk_sub (by omega), c1, Option.bind_some]
          dsimp only
          rw [show (2 : Int32) * ((12 : Int32) * nI (i - 1) + nI (i + n + 1)) = nI (2 * (12 * (i - 1) + (i + n + 1)) + 0) by rw [q_l 2, q_l 12, pk_mul, nI_add, pk_mul]; rfl, e6_better hD1 (by omega) (by omega) (by decide) (by omega) (by omega)]
          rfl
        · rw [cd_set_s]
          refine (hD1.set (by omega) (by decide) _).congr fun a b c _ _ _ => ?_
          unfold w_up
          by_cases e : c = 0 ∧ a + 1 = i ∧ b = i + n + 1
          · obtain ⟨rfl, e2, rfl⟩ := e
            have ea : a = i - 1 := by omega
            subst ea
            rw [if_pos ⟨rfl, e2, rfl⟩, if_pos ⟨rfl, rfl, rfl⟩]
          · rw [if_neg e, if_neg (by omega)]
    obtain ⟨M1, y1, y2, y3⟩ := x23
    rw [x21, Option.bind_some, x22, Option.bind_some, y1, Option.bind_some, x24, Option.bind_some, nI_1 s]
    by_cases h11 : 11 ≤ i + n + 1
    · refine ⟨M1, ?_, y2, y3.congr fun a b c _ hb' _ => ?_⟩
      · rw [q_l 11, if_pos (nI_le h11 (by omega))]
      · unfold w_pu
        split
        · rfl
        · rw [if_neg (by omega)]
    · obtain ⟨M2, c1, c2, c3⟩ := e6_comes (hX.same y2) (c := i + n + 2) (x := y) (by omega) (by omega)
      have hD2 := y3
      rw [← c3] at hD2
      have d1 := hDl i (i + n + 2) 1
      have d2 := w_it_le (w_lm_le hg (i + n + 2)) y
      have hz : (if 1 = 0 ∧ i + 1 = i ∧ i + n + 2 = i + n + 1 then min (D i (i + n + 2) 1) (w_it (w_lm g) i x) else D i (i + n + 2) 1) = D i (i + n + 2) 1 := if_neg (by omega)
      refine ⟨cd_set M2 14 (2 * (12 * i + (i + n + 2)) + 1) (nI (min (D i (i + n + 2) 1) (w_it (w_lm g) (i + n + 2) y))), ?_, y2.tr (c2.tr (q_same.s14 _ _ _)), ?_⟩
      · rw [q_l 11, if_neg (nI_ge (by omega) (by decide)), nI_1, c1, Option.bind_some]
        dsimp only
        rw [show (2 : Int32) * ((12 : Int32) * nI i + nI (i + n + 1) + (1 : Int32)) + (1 : Int32) = nI (2 * (12 * i + (i + n + 2)) + 1) by rw [q_l 2, q_l 12, pk_mul, nI_add, nI_1, pk_mul, nI_1]; rfl, e6_better hD2 (by omega) (by omega) (by decide) (by omega) (by rw [hz]; omega), hz]
        rfl
      · rw [cd_set_s]
        refine (hD2.set (by omega) (by decide) _).congr fun a b c _ _ _ => ?_
        unfold w_up w_pu
        by_cases e : c = 1 ∧ a = i ∧ b = i + n + 2
        · obtain ⟨rfl, rfl, rfl⟩ := e
          rw [if_neg (by omega), if_pos ⟨rfl, rfl, rfl⟩, if_pos ⟨rfl, rfl, rfl⟩]
        · rw [if_neg (show ¬ (a = i ∧ b = i + n + 2 ∧ c = 1) by omega), if_neg e]
theorem e6_cov (hX : q_X T M g) {n i : Nat} (hn : i + n + 2 ≤ 12) (z6a z8a : Int32) (z6c : Nat → Nat → Int32) : cd_iter cd_N (f_X6_roundBy_b143 (z6a, nI (n + 2), z6c) (z8a, nI i, M)) ((1 : Int32), (0 : Int32)) = some (q_bi (w_cv g n i)) := by
  have e1 : nI i + nI (n + 2) - (1 : Int32) = nI (i + n + 1) := by
    rw [nI_add, q_l 1, pk_sub (by omega)]; exact congrArg nI (by omega)
  have bd : ∀ f : Int32, f_X6_roundBy_b143 (z6a, nI (n + 2), z6c) (z8a, nI i, M) (f, nI 12) = some (.inl f) := fun f => by
    unfold f_X6_roundBy_b143
    dsimp only
    rw [q_l 12, if_pos (nI_le (Nat.le_refl _) (by decide))]
  have k : ∃ r, cd_iter cd_N (f_X6_roundBy_b143 (z6a, nI (n + 2), z6c) (z8a, nI i, M)) (nI 1, nI 0) = some r ∧ r = q_bi (w_cv g n i) := by
    refine cd_hoare (fun m z => ∃ c, m + c = 12 ∧ z = (q_bi (decide (q_cnt (fun c => q_ask g c && !(decide (i ≤ c ∧ c ≤ i + n + 1))) c = 0)), nI c)) _ ?_ cd_N 12 _ (by decide) ⟨0, rfl, rfl⟩
    rintro m z ⟨c, hm, rfl⟩
    by_cases hc : c < 12
    · refine Or.inr ⟨m - 1, (q_bi (decide (q_cnt (fun c => q_ask g c && !(decide (i ≤ c ∧ c ≤ i + n + 1))) (c + 1) = 0)), nI (c + 1)), by omega, ?_, c + 1, by omega, rfl⟩
      have hs : q_cnt (fun c => q_ask g c && !(decide (i ≤ c ∧ c ≤ i + n + 1))) (c + 1) = q_cnt (fun c => q_ask g c && !(decide (i ≤ c ∧ c ≤ i + n + 1))) c + (if (q_ask g c && !(decide (i ≤ c ∧ c ≤ i + n + 1))) = true then 1 else 0) := rfl
      rw [hs]
      generalize q_cnt (fun c => q_ask g c && !(decide (i ≤ c ∧ c ≤ i + n + 1))) c = N
      unfold f_X6_roundBy_b143
      dsimp only
      rw [q_l 12, if_neg (nI_ge hc (by decide)), e1, e_in, e6_asked hX hc, nI_1]
      by_cases hN : N = 0
      · rw [decide_eq_true hN, if_neg q_bt, Option.bind_some, Option.bind_some]
        by_cases hin : i ≤ c ∧ c ≤ i + n + 1
        · rw [decide_eq_true (show nI i ≤ nI c ∧ nI c ≤ nI (i + n + 1) from ⟨nI_le hin.1 (by omega), nI_le hin.2 (by omega)⟩), if_neg q_bt, decide_eq_true hin, hN]
          cases q_ask g c <;> rfl
        · rw [decide_eq_false (fun q : nI i ≤ nI c ∧ nI c ≤ nI (i + n + 1) => hin ⟨(nI_leI (by omega) (by omega)).mp q.1, (nI_leI (by omega) (by omega)).mp q.2⟩), if_pos q_bf, decide_eq_false hin, hN]
          cases q_ask g c <;> rfl
      · rw [decide_eq_false hN, if_pos q_bf, decide_eq_false (by omega)]; rfl
    · have e : c = 12 := by omega
      subst e
      exact Or.inl ⟨q_bi (w_cv g n i), bd (q_bi (w_cv g n i)), rfl⟩
  obtain ⟨r, k1, rfl⟩ := k
  exact k1
theorem cd_iter_s {σ ρ : Type} (b : σ → Option (ρ ⊕ σ)) (n : Nat) (s : σ) : cd_iter (n + 1) b s = (b s).bind (fun o => Sum.elim some (cd_iter n b) o) := rfl
theorem cd_two' {σ ρ : Type} {b : σ → Option (ρ ⊕ σ)} {s0 s1 s2 : σ} {r : ρ} (n : Nat) (h0 : b s0 = some (.inr s1)) (h1 : b s1 = some (.inr s2)) (h2 : b s2 = some (.inl r)) : cd_iter (n + 1 + 1 + 1) b s0 = some r := by
  rw [cd_iter_s, h0, Option.bind_some]
  show cd_iter (n + 1 + 1) b s1 = some r
  rw [cd_iter_s, h1, Option.bind_some]
  show cd_iter (n + 1) b s2 = some r
  rw [cd_iter_s, h2, Option.bind_some]
  rfl
theorem cd_two {σ ρ : Type} {b : σ → Option (ρ ⊕ σ)} {s0 s1 s2 : σ} {r : ρ} (h0 : b s0 = some (.inr s1)) (h1 : b s1 = some (.inr s2)) (h2 : b s2 = some (.inl r)) : cd_iter cd_N b s0 = some r := by
  have e : cd_N = 19997 + 1 + 1 + 1 := by decide
  rw [e]
  exact cd_two' 19997 h0 h1 h2
end ROUND6
