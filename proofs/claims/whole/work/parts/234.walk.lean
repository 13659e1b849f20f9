/-! the walk: what both sides reckon, and the class -/
def w_it (l : Nat → Nat) (c x : Nat) : Nat := if l c ≤ x then 1000000 else x
def w_lm (g : Nat → Nat → Nat) (c : Nat) : Nat := if c < 12 ∧ q_ask g c = true then q_last g c else 1000000
def w_WE (l w0 e0 : Nat → Nat) : Nat → (Nat → Nat) × (Nat → Nat)
  | 0 => (w0, e0)
  | n + 1 => (fun i => w_it l i (min ((w_WE l w0 e0 n).1 (i + 1) + 1) ((w_WE l w0 e0 n).2 (i + 1) + (n + 2))), fun i => w_it l (i + (n + 2)) (min ((w_WE l w0 e0 n).2 i + 1) ((w_WE l w0 e0 n).1 i + (n + 2))))
def w_mn (f : Nat → Nat) : Nat → Nat
  | 0 => 1000000
  | k + 1 => min (w_mn f k) (f k)
theorem w_mn_le (f : Nat → Nat) : ∀ k, w_mn f k ≤ 1000000
  | 0 => Nat.le_refl _
  | k + 1 => Nat.le_trans (Nat.min_le_left _ _) (w_mn_le f k)
theorem w_mn_congr {f h : Nat → Nat} : ∀ k, (∀ i, i < k → f i = h i) → w_mn f k = w_mn h k
  | 0, _ => rfl
  | k + 1, e => by
    show min (w_mn f k) (f k) = min (w_mn h k) (h k)
    rw [w_mn_congr k (fun i hi => e i (by omega)), e k (by omega)]
theorem w_mn_far {f : Nat → Nat} : ∀ k, (∀ i, i < k → f i = 1000000) → w_mn f k = 1000000
  | 0, _ => rfl
  | k + 1, e => by
    show min (w_mn f k) (f k) = 1000000
    rw [w_mn_far k (fun i hi => e i (by omega)), e k (by omega)]; rfl
theorem w_it_le {l : Nat → Nat} {c : Nat} (h : l c ≤ 1000000) (x : Nat) : w_it l c x ≤ 1000000 := by
  unfold w_it; split <;> omega
theorem w_it_far {l : Nat → Nat} {c : Nat} (h : l c ≤ 1000000) {x : Nat} (hx : 1000000 ≤ x) : w_it l c x = 1000000 := by
  unfold w_it; rw [if_pos (by omega)]
theorem w_it_min {l : Nat → Nat} {c : Nat} (h : l c ≤ 1000000) (a b : Nat) : w_it l c (min a b) = min (w_it l c a) (w_it l c b) := by
  unfold w_it
  by_cases ha : l c ≤ a <;> by_cases hb : l c ≤ b
  · rw [if_pos ha, if_pos hb, if_pos (by omega)]; omega
  · rw [if_pos ha, if_neg hb, if_neg (by omega)]; omega
  · rw [if_neg ha, if_pos hb, if_neg (by omega)]; omega
  · rw [if_neg ha, if_neg hb, if_neg (by omega)]
theorem w_it_fin {l : Nat → Nat} {c : Nat} {x : Nat} (hx : w_it l c x < 1000000) : w_it l c x = x := by
  unfold w_it at hx ⊢
  by_cases ha : l c ≤ x
  · rw [if_pos ha] at hx; omega
  · rw [if_neg ha]
/-- a start: where it may stand -/
def w_st (l w0 e0 : Nat → Nat) (a : Nat) (p : Prop) : Prop := (∀ c, l c ≤ 1000000) ∧ (∀ i, w0 i ≤ 1000000 ∧ e0 i ≤ 1000000) ∧ (∀ i, w0 i < 1000000 → w0 i ≤ 1 ∧ p ∧ i ≤ a ∧ a ≤ i + 1) ∧ ∀ i, e0 i < 1000000 → e0 i ≤ 1 ∧ p ∧ i ≤ a ∧ a ≤ i + 1
section WE
variable {l w0 e0 : Nat → Nat} {a : Nat} {p : Prop}
theorem w_WE_le (h : w_st l w0 e0 a p) : ∀ n i, (w_WE l w0 e0 n).1 i ≤ 1000000 ∧ (w_WE l w0 e0 n).2 i ≤ 1000000
  | 0, i => h.2.1 i
  | n + 1, i => ⟨w_it_le (h.1 i) _, w_it_le (h.1 _) _⟩
theorem w_WE_in (h : w_st l w0 e0 a p) : ∀ n i, ((w_WE l w0 e0 n).1 i < 1000000 → (w_WE l w0 e0 n).1 i ≤ 1 + n * (n + 1) ∧ p ∧ i ≤ a ∧ a ≤ i + n + 1) ∧ ((w_WE l w0 e0 n).2 i < 1000000 → (w_WE l w0 e0 n).2 i ≤ 1 + n * (n + 1) ∧ p ∧ i ≤ a ∧ a ≤ i + n + 1)
  | 0, i => ⟨fun q => by have := h.2.2.1 i q; exact ⟨Nat.le_trans this.1 (by omega), this.2⟩, fun q => by have := h.2.2.2 i q; exact ⟨Nat.le_trans this.1 (by omega), this.2⟩⟩
  | n + 1, i => by
    have i1 := w_WE_in h n (i + 1)
    have i0 := w_WE_in h n i
    have e : (n + 1) * (n + 1 + 1) = n * (n + 1) + 2 * (n + 1) := by rw [Nat.mul_add_one, Nat.add_one_mul n (n + 1)]; omega
    constructor
    · intro q
      have e1 : (w_WE l w0 e0 (n + 1)).1 i = min ((w_WE l w0 e0 n).1 (i + 1) + 1) ((w_WE l w0 e0 n).2 (i + 1) + (n + 2)) := w_it_fin q
      rw [e1] at q ⊢
      rcases Nat.le_total ((w_WE l w0 e0 n).1 (i + 1) + 1) ((w_WE l w0 e0 n).2 (i + 1) + (n + 2)) with hh | hh
      · rw [Nat.min_eq_left hh] at q ⊢
        have := i1.1 (by omega)
        exact ⟨by omega, this.2.1, by omega, by omega⟩
      · rw [Nat.min_eq_right hh] at q ⊢
        have := i1.2 (by omega)
        exact ⟨by omega, this.2.1, by omega, by omega⟩
    · intro q
      have e1 : (w_WE l w0 e0 (n + 1)).2 i = min ((w_WE l w0 e0 n).2 i + 1) ((w_WE l w0 e0 n).1 i + (n + 2)) := w_it_fin q
      rw [e1] at q ⊢
      rcases Nat.le_total ((w_WE l w0 e0 n).2 i + 1) ((w_WE l w0 e0 n).1 i + (n + 2)) with hh | hh
      · rw [Nat.min_eq_left hh] at q ⊢
        have := i0.2 (by omega)
        exact ⟨by omega, this.2.1, by omega, by omega⟩
      · rw [Nat.min_eq_right hh] at q ⊢
        have := i0.1 (by omega)
        exact ⟨by omega, this.2.1, by omega, by omega⟩
end WE
def w_cv (g : Nat → Nat → Nat) (n i : Nat) : Bool := decide (q_cnt (fun c => q_ask g c && !(decide (i ≤ c ∧ c ≤ i + n + 1))) 12 = 0)
theorem w_cv_iff (g : Nat → Nat → Nat) (n i : Nat) : w_cv g n i = true ↔ ∀ c, c < 12 → q_ask g c = true → i ≤ c ∧ c ≤ i + n + 1 := by
  constructor
  · intro h c hc hk
    have h0 : q_cnt (fun c => q_ask g c && !(decide (i ≤ c ∧ c ≤ i + n + 1))) 12 = 0 := of_decide_eq_true h
    refine Classical.byContradiction fun hx => ?_
    have h1 : q_cnt (fun x => decide (x = c)) 12 ≤ q_cnt (fun c => q_ask g c && !(decide (i ≤ c ∧ c ≤ i + n + 1))) 12 := q_cnt_mono 12 fun x _ e => by
      have e' : x = c := of_decide_eq_true e
      rw [e', hk, decide_eq_false hx]; rfl
    rw [q_cnt_pt, if_pos hc, h0] at h1
    omega
  · intro h
    refine decide_eq_true (q_cnt_0 12 fun x hx => ?_)
    cases hk : q_ask g x
    · rfl
    · rw [decide_eq_true (h x hx hk)]; rfl
def w_fw (g : Nat → Nat → Nat) (w0 e0 : Nat → Nat) (n i : Nat) : Nat := if w_cv g n i = true then min ((w_WE (w_lm g) w0 e0 n).1 i) ((w_WE (w_lm g) w0 e0 n).2 i) else 1000000
def w_wb (g : Nat → Nat → Nat) (w0 e0 : Nat → Nat) : Nat := w_mn (fun n => w_mn (w_fw g w0 e0 n) (11 - n)) 11
theorem w_min {a b : Nat} (ha : a < 2 ^ 31) (hb : b < 2 ^ 31) : cd_min (nI a) (nI b) = nI (min a b) := by
  unfold cd_min
  by_cases h : b < a
  · rw [if_pos (nI_lt h ha), Nat.min_eq_right (by omega)]
  · rw [if_neg (fun q => h ((nI_ltI hb ha).mp q)), Nat.min_eq_left (by omega)]
theorem w_max {a b : Nat} (ha : a < 2 ^ 31) (hb : b < 2 ^ 31) : cd_max (nI a) (nI b) = nI (max a b) := by
  unfold cd_max
  by_cases h : a < b
  · rw [if_pos (nI_lt h hb), Nat.max_eq_right (by omega)]
  · rw [if_neg (fun q => h ((nI_ltI ha hb).mp q)), Nat.max_eq_left (by omega)]
theorem w_lm_le {g : Nat → Nat → Nat} (hg : q_ok g) (c : Nat) : w_lm g c ≤ 1000000 := by
  unfold w_lm
  by_cases h : c < 12 ∧ q_ask g c = true
  · rw [if_pos h]
    have : q_last g c ≤ 999 := q_lasts_le hg h.1 (g 1 c)
    omega
  · rw [if_neg h]; omega
section WALK
variable {T V : Nat → Nat → Int32} {g : Nat → Nat → Nat} {l w0 e0 : Nat → Nat} {a : Nat} {p : Prop}
theorem e_inTime {c x : Nat} (hc : c < 12) (h : V 0 c = nI (l c)) (hl : l c ≤ 1000000) (hx : x < 2 ^ 31) : f_X4_inTime (nI c) (nI x) V = some (nI (w_it l c x)) := by
  unfold f_X4_inTime w_it
  rw [cd_rd_nI hc (by decide), Option.bind_some, h]
  by_cases hh : l c ≤ x
  · rw [if_pos hh, if_pos (nI_le hh hx)]; rfl
  · rw [if_neg hh, if_neg (nI_ge (by omega) (by omega))]; rfl
/-- what the walk knows of the street -/
def w_V (V : Nat → Nat → Int32) (g : Nat → Nat → Nat) (a lo hi : Nat) : Prop := (∀ c, c < 12 → V 0 c = nI (w_lm g c)) ∧ V 3 0 = nI lo ∧ V 4 0 = nI hi ∧ lo ≤ a ∧ a ≤ hi ∧ hi < 12 ∧ (∀ c, c < 12 → q_ask g c = true → lo ≤ c ∧ c ≤ hi) ∧ (lo = a ∨ q_ask g lo = true) ∧ (hi = a ∨ q_ask g hi = true)
theorem w_V.row {V' : Nat → Nat → Int32} {lo hi : Nat} (h : w_V V g a lo hi) (h0 : V' 0 = V 0) (h3 : V' 3 = V 3) (h4 : V' 4 = V 4) : w_V V' g a lo hi := by
  unfold w_V at h ⊢
  rw [h0, h3, h4]; exact h
theorem e_needed (hT : q_T T g) (hg : q_ok g) (ha : a < 12) (V : Nat → Nat → Int32) : ∃ V' lo hi, f_X4_isNeeded (nI a) V T = some (q_bi (decide (lo < a ∨ a < hi)), V') ∧ w_V V' g a lo hi := by
  have k : ∃ r, cd_iter cd_N (f_X4_isNeeded_b12 T) (nI 0, cd_fld (cd_fld V 3 (nI a)) 4 (nI a)) = some r ∧ ∃ lo hi, w_V r g a lo hi := by
    refine cd_upto 12 (fun i z => ∃ lo hi, (∀ c, c < i → z 0 c = nI (w_lm g c)) ∧ z 3 0 = nI lo ∧ z 4 0 = nI hi ∧ lo ≤ a ∧ a ≤ hi ∧ hi < 12 ∧ (∀ c, c < i → q_ask g c = true → lo ≤ c ∧ c ≤ hi) ∧ (lo = a ∨ q_ask g lo = true) ∧ (hi = a ∨ q_ask g hi = true)) _ (by decide) (fun i z hi q => Or.inr ?_) (fun z q => ?_) ?_
    · obtain ⟨lo, hh, q0, q3, q4, q5, q6, q7, q8, q9, q10⟩ := q
      have hl : q_last g i ≤ 999 := q_lasts_le hg hi (g 1 i)
      by_cases hk : q_ask g i = true
      · refine ⟨cd_fld (cd_fld (cd_set z 0 i (nI (q_last g i))) 3 (nI (min lo i))) 4 (nI (max hh i)), ?_, min lo i, max hh i, fun c hc => ?_, rfl, rfl, by omega, by omega, by omega, fun c hc hc2 => ?_, ?_, ?_⟩
        · unfold f_X4_isNeeded_b12
          dsimp only
          rw [q_l 12, if_neg (nI_ge hi (by decide)), e_canBeAsked hT hg hi, Option.bind_some, hk, if_neg q_bt, e_minutesLeft hT hg hi, Option.bind_some, Option.bind_some, cd_ix_nI hi (by decide), Option.bind_some, if_neg q_bt, Option.bind_some, if_neg q_bt, Option.bind_some, q3, q4, w_min (by omega) (by omega), w_max (by omega) (by omega), nI_1]
        · rw [cd_fld_n _ _ (by decide), cd_fld_n _ _ (by decide), cd_set_s]
          by_cases e : c = i
          · rw [e, pk_us]; unfold w_lm; rw [if_pos ⟨hi, hk⟩]
          · rw [pk_un e]; exact q0 c (by omega)
        · by_cases e : c = i
          · omega
          · have := q8 c (by omega) hc2; omega
        · rcases Nat.le_total lo i with e | e
          · rw [Nat.min_eq_left e]; exact q9
          · rw [Nat.min_eq_right e]; exact Or.inr hk
        · rcases Nat.le_total hh i with e | e
          · rw [Nat.max_eq_right e]; exact Or.inr hk
          · rw [Nat.max_eq_left e]; exact q10
      · have hk' : q_ask g i = false := by cases h : q_ask g i; rfl; exact absurd h hk
        refine ⟨cd_fld (cd_fld (cd_set z 0 i (nI 1000000)) 3 (nI lo)) 4 (nI hh), ?_, lo, hh, fun c hc => ?_, rfl, rfl, q5, q6, q7, fun c hc hc2 => ?_, q9, q10⟩
        · unfold f_X4_isNeeded_b12
          dsimp only
          rw [q_l 12, if_neg (nI_ge hi (by decide)), e_canBeAsked hT hg hi, Option.bind_some, hk', if_pos q_bf, Option.bind_some, cd_ix_nI hi (by decide), Option.bind_some, if_pos q_bf, Option.bind_some, if_pos q_bf, Option.bind_some, q3, q4, nI_1]
          rfl
        · rw [cd_fld_n _ _ (by decide), cd_fld_n _ _ (by decide), cd_set_s]
          by_cases e : c = i
          · rw [e, pk_us]; unfold w_lm; rw [if_neg (fun q => hk q.2)]
          · rw [pk_un e]; exact q0 c (by omega)
        · by_cases e : c = i
          · rw [e] at hc2; exact absurd hc2 hk
          · exact q8 c (by omega) hc2
    · refine ⟨z, ?_, q⟩
      unfold f_X4_isNeeded_b12
      dsimp only
      rw [q_l 12, if_pos (nI_le (Nat.le_refl _) (by decide))]
    · exact ⟨a, a, fun c hc => absurd hc (Nat.not_lt_zero c), rfl, rfl, Nat.le_refl _, Nat.le_refl _, ha, fun c hc => absurd hc (Nat.not_lt_zero c), Or.inl rfl, Or.inl rfl⟩
  obtain ⟨r, k1, lo, hi, k2⟩ := k
  refine ⟨r, lo, hi, ?_, k2⟩
  have k3 := k2.2.1
  have k4 := k2.2.2.1
  have k5 := k2.2.2.2
  unfold f_X4_isNeeded
  rw [show cd_iter cd_N (f_X4_isNeeded_b12 T) ((0 : Int32), cd_fld (cd_fld V 3 (nI a)) 4 (nI a)) = some r from k1, Option.bind_some, k3, k4]
  by_cases h1 : lo < a
  · rw [if_pos (nI_lt h1 (by omega)), decide_eq_true (Or.inl h1)]; rfl
  · rw [if_neg (fun q => h1 ((nI_ltI (by omega) (by omega)).mp q))]
    by_cases h2 : hi ≤ a
    · rw [if_pos (nI_le h2 (by omega)), decide_eq_false (by omega)]; rfl
    · rw [if_neg (nI_ge (by omega) (by omega)), decide_eq_true (Or.inr (by omega))]; rfl
theorem e_fewest {lo hi : Nat} (hV : w_V V g a lo hi) (hst : w_st (w_lm g) w0 e0 a p) {n : Nat} (hn : n ≤ 10) (hw : ∀ i, i + n + 2 ≤ 12 → V 1 i = nI ((w_WE (w_lm g) w0 e0 n).1 i) ∧ V 2 i = nI ((w_WE (w_lm g) w0 e0 n).2 i)) : f_X4_fewestOfLength (nI (n + 2)) V = some (nI (w_mn (w_fw g w0 e0 n) (11 - n))) := by
  have k : ∃ r, cd_iter cd_N (f_X4_fewestOfLength_b5 (nI (n + 2)) V) (nI 1000000, nI 0) = some r ∧ r = nI (w_mn (w_fw g w0 e0 n) (11 - n)) := by
    refine cd_hoare (fun m z => ∃ i, m + i = 11 - n ∧ z = (nI (w_mn (w_fw g w0 e0 n) i), nI i)) _ ?_ cd_N (11 - n) _ (by have e : cd_N = 20000 := rfl; omega) ⟨0, by omega, rfl⟩
    rintro m z ⟨i, hm, rfl⟩
    have hle := w_mn_le (w_fw g w0 e0 n) i
    obtain ⟨v0, v3, v4, v5, v6, v7, v8, v9, v10⟩ := hV
    by_cases hi2 : i < 11 - n
    · refine Or.inr ⟨m - 1, (nI (min (w_mn (w_fw g w0 e0 n) i) (w_fw g w0 e0 n i)), nI (i + 1)), by omega, ?_, i + 1, by omega, rfl⟩
      have hwi := hw i (by omega)
      have hb := w_WE_le hst n i
      have hin := w_WE_in hst n i
      unfold f_X4_fewestOfLength_b5
      dsimp only
      rw [nI_add, q_l 12, if_neg (fun q => absurd ((nI_ltI (by omega) (by omega)).mp q) (by omega)), v3, v4, q_l 1, pk_sub (by omega), cd_rd_nI (show i < 12 by omega) (by decide), Option.bind_some, cd_rd_nI (show i < 12 by omega) (by decide), Option.bind_some, hwi.1, hwi.2, w_min (by omega) (by omega), w_min (by omega) (by omega), ← q_l 1, nI_1]
      have far : ¬ (i ≤ lo ∧ hi ≤ i + n + 1) → w_fw g w0 e0 n i = 1000000 := fun hx => by
        unfold w_fw
        by_cases hc : w_cv g n i = true
        · rw [if_pos hc]
          have hc' := (w_cv_iff g n i).mp hc
          have f0 : ¬ (i ≤ a ∧ a ≤ i + n + 1) := fun q => hx ⟨by
            rcases v9 with e | e
            · omega
            · exact (hc' lo (by omega) e).1, by
            rcases v10 with e | e
            · omega
            · exact (hc' hi v7 e).2⟩
          have f1 : ¬ (w_WE (w_lm g) w0 e0 n).1 i < 1000000 := fun q => f0 (hin.1 q).2.2
          have f2 : ¬ (w_WE (w_lm g) w0 e0 n).2 i < 1000000 := fun q => f0 (hin.2 q).2.2
          omega
        · rw [if_neg hc]
      by_cases h1 : lo < i
      · rw [if_pos (nI_lt h1 (by omega)), Option.bind_some, if_pos rfl, far (by omega), Nat.min_eq_left hle]
      · rw [if_neg (fun q => h1 ((nI_ltI (by omega) (by omega)).mp q))]
        by_cases h2 : i + n + 1 < hi
        · rw [if_pos (nI_lt (show i + (n + 2) - 1 < hi by omega) (by omega)), Option.bind_some, if_pos rfl, far (by omega), Nat.min_eq_left hle]
        · rw [if_neg (fun q => h2 (by have := (nI_ltI (by omega) (by omega)).mp q; omega)), Option.bind_some, if_neg (by decide)]
          have hc : w_cv g n i = true := (w_cv_iff g n i).mpr fun c hc hk => by have := v8 c hc hk; omega
          unfold w_fw
          rw [if_pos hc]
    · have e : i = 11 - n := by omega
      subst e
      refine Or.inl ⟨_, ?_, rfl⟩
      unfold f_X4_fewestOfLength_b5
      dsimp only
      rw [nI_add, q_l 12, if_pos (nI_lt (by omega) (by omega))]
  obtain ⟨r, k1, rfl⟩ := k
  unfold f_X4_fewestOfLength
  rw [show cd_iter cd_N (f_X4_fewestOfLength_b5 (nI (n + 2)) V) ((1000000 : Int32), (0 : Int32)) = some _ from k1, Option.bind_some]
end WALK
