/-! how many accounts can be read -/
section ACC
variable {T M : Nat → Nat → Int32} {g : Nat → Nat → Nat}
theorem ac_n (hT : q_T T g) (hg : q_ok g) {S t : Nat} (hS : S < 2 ^ 31) (ht : t ≤ 999) : cd_iter cd_N (f_X5_canBeRead_b35 (nI S) T (nI t)) ((0 : Int32), (0 : Int32)) = some (nI (q_N (q_last g) (fun i => S.testBit i) t)) := by
  have k : ∃ r, cd_iter cd_N (f_X5_canBeRead_b35 (nI S) T (nI t)) (nI 0, nI 0) = some r ∧ r = nI (q_N (q_last g) (fun i => S.testBit i) t) := by
    refine cd_hoare (fun m z => ∃ c, m + c = 12 ∧ z = (nI (q_cnt (fun x => S.testBit x && decide (q_last g x ≤ t)) c), nI c)) _ ?_ cd_N 12 _ (by decide) ⟨0, rfl, rfl⟩
    rintro m z ⟨c, hm, rfl⟩
    by_cases hc : c < 12
    · refine Or.inr ⟨m - 1, (nI (q_cnt (fun x => S.testBit x && decide (q_last g x ≤ t)) (c + 1)), nI (c + 1)), by omega, ?_, c + 1, by omega, rfl⟩
      have hl : q_last g c ≤ 999 := q_lasts_le hg hc (g 1 c)
      unfold f_X5_canBeRead_b35
      dsimp only
      rw [q_l 12, if_neg (nI_ge hc (by decide)), e_holds hS (by omega), Option.bind_some, e_minutesLeft hT hg hc, Option.bind_some, nI_1 c]
      show _ = some (Sum.inr (nI (q_cnt (fun x => S.testBit x && decide (q_last g x ≤ t)) c + if (S.testBit c && decide (q_last g c ≤ t)) = true then 1 else 0), nI (c + 1)))
      cases S.testBit c
      · rfl
      · rw [if_neg q_bt, Bool.true_and]
        by_cases h : q_last g c ≤ t
        · rw [if_neg (fun q => absurd ((nI_ltI (by omega) (by omega)).mp q) (by omega)), decide_eq_true h, if_pos rfl, nI_1]
        · rw [if_pos (nI_lt (by omega) (by omega)), decide_eq_false h]; rfl
    · have e : c = 12 := by omega
      subst e
      refine Or.inl ⟨_, ?_, rfl⟩
      unfold f_X5_canBeRead_b35
      dsimp only
      rw [q_l 12, if_pos (nI_le (Nat.le_refl _) (by decide))]
      rfl
  obtain ⟨r, k1, rfl⟩ := k
  exact k1
theorem ac_c (hT : q_T T g) (hg : q_ok g) {S d : Nat} (hS : S < 2 ^ 31) (hd : d ≤ 99) (K : Nat → Nat → Int32) : (q_F (q_last g) d (fun i => S.testBit i) ∧ f_X5_canBeRead (nI S) (nI d) K T = some 1) ∨ (¬ q_F (q_last g) d (fun i => S.testBit i) ∧ f_X5_canBeRead (nI S) (nI d) K T = some 0) := by
  have k : ∃ r, cd_iter cd_N (f_X5_canBeRead_b2 (nI S) (nI d) T) (nI 0) = some r ∧ ((r = .inr () ∧ q_F (q_last g) d (fun i => S.testBit i)) ∨ (r = .inl 0 ∧ ¬ q_F (q_last g) d (fun i => S.testBit i))) := by
    refine cd_hoare (fun m z => ∃ c, m + c = 12 ∧ z = nI c ∧ ∀ x, x < c → S.testBit x = true → q_N (q_last g) (fun i => S.testBit i) (q_last g x) * d ≤ q_last g x) _ ?_ cd_N 12 _ (by decide) ⟨0, rfl, rfl, fun x hx => absurd hx (Nat.not_lt_zero x)⟩
    rintro m z ⟨c, hm, rfl, hi⟩
    by_cases hc : c < 12
    · have hl : q_last g c ≤ 999 := q_lasts_le hg hc (g 1 c)
      have hN : q_N (q_last g) (fun i => S.testBit i) (q_last g c) * d ≤ 12 * 99 := Nat.mul_le_mul (q_N_le _ _ _) hd
      have bd : f_X5_canBeRead_b2 (nI S) (nI d) T (nI c) = if S.testBit c = true then (if q_N (q_last g) (fun i => S.testBit i) (q_last g c) * d ≤ q_last g c then some (.inr (nI (c + 1))) else some (.inl (.inl 0))) else some (.inr (nI (c + 1))) := by
        unfold f_X5_canBeRead_b2
        rw [q_l 12, if_neg (nI_ge hc (by decide)), e_holds hS (by omega), Option.bind_some, e_minutesLeft hT hg hc, Option.bind_some, ac_n hT hg hS hl, Option.bind_some, nI_1 c, pk_mul]
        cases S.testBit c
        · rfl
        · rw [if_neg q_bt, if_pos rfl]
          by_cases h : q_N (q_last g) (fun i => S.testBit i) (q_last g c) * d ≤ q_last g c
          · rw [if_pos h, if_pos (nI_le h (by omega))]
          · rw [if_neg h, if_neg (nI_ge (by omega) (by omega))]
      by_cases hb : S.testBit c = true
      · rw [if_pos hb] at bd
        by_cases h : q_N (q_last g) (fun i => S.testBit i) (q_last g c) * d ≤ q_last g c
        · rw [if_pos h] at bd
          refine Or.inr ⟨m - 1, nI (c + 1), by omega, bd, c + 1, by omega, rfl, fun x hx hs => ?_⟩
          by_cases e : x = c
          · rw [e]; exact h
          · exact hi x (by omega) hs
        · rw [if_neg h] at bd
          exact Or.inl ⟨_, bd, Or.inr ⟨rfl, fun q => h (q (q_last g c))⟩⟩
      · rw [if_neg hb] at bd
        refine Or.inr ⟨m - 1, nI (c + 1), by omega, bd, c + 1, by omega, rfl, fun x hx hs => ?_⟩
        by_cases e : x = c
        · rw [e] at hs; exact absurd hs hb
        · exact hi x (by omega) hs
    · have e : c = 12 := by omega
      subst e
      refine Or.inl ⟨.inr (), ?_, Or.inl ⟨rfl, (q_F_iff _ _ _).mpr hi⟩⟩
      unfold f_X5_canBeRead_b2
      rw [q_l 12, if_pos (nI_le (Nat.le_refl _) (by decide))]
  obtain ⟨r, k1, k2⟩ := k
  unfold f_X5_canBeRead
  rw [show cd_iter cd_N (f_X5_canBeRead_b2 (nI S) (nI d) T) (0 : Int32) = some r from k1, Option.bind_some]
  rcases k2 with ⟨rfl, h⟩ | ⟨rfl, h⟩
  · exact Or.inl ⟨h, rfl⟩
  · exact Or.inr ⟨h, rfl⟩
/-- a set of lit candles that can be read -/
def q_rd (g : Nat → Nat → Nat) (d S : Nat) : Prop := (∀ c, c < 12 → S.testBit c = true → q_lit g c = true) ∧ q_F (q_last g) d (fun i => S.testBit i)
theorem q_or_bit {G i : Nat} (x : Nat) : (G ||| 2 ^ i).testBit x = (G.testBit x || decide (x = i)) := by
  rw [Nat.testBit_or, Nat.testBit_two_pow]
  refine congrArg _ ?_
  by_cases h : x = i
  · rw [decide_eq_true h, decide_eq_true h.symm]
  · rw [decide_eq_false h, decide_eq_false (fun q => h q.symm)]
theorem q_tb_of_lt {G i x : Nat} (h : G < 2 ^ i) (hx : i ≤ x) : G.testBit x = false := Nat.testBit_lt_two_pow (Nat.lt_of_lt_of_le h (Nat.pow_le_pow_right (by decide) hx))
theorem ac_g (hT : q_T T g) (hg : q_ok g) {d : Nat} (hd : d ≤ 99) (K : Nat → Nat → Int32) : ∃ G, f_X5_readableSet (nI d) K T = some (nI G) ∧ G < 2 ^ 12 ∧ q_rd g d G ∧ ∀ c, c < 12 → q_lit g c = true → G.testBit c = false → ¬ q_F (q_last g) d (fun x => (G.testBit x && decide (x < c)) || decide (x = c)) := by
  have k : ∃ r, cd_iter cd_N (f_X5_readableSet_b4 (nI d) K T) (nI 0, nI 0) = some r ∧ ∃ G, r = nI G ∧ G < 2 ^ 12 ∧ q_rd g d G ∧ ∀ c, c < 12 → q_lit g c = true → G.testBit c = false → ¬ q_F (q_last g) d (fun x => (G.testBit x && decide (x < c)) || decide (x = c)) := by
    refine cd_hoare (fun m z => ∃ i G, m + i = 12 ∧ z = (nI G, nI i) ∧ G < 2 ^ i ∧ q_rd g d G ∧ ∀ c, c < i → q_lit g c = true → G.testBit c = false → ¬ q_F (q_last g) d (fun x => (G.testBit x && decide (x < c)) || decide (x = c))) _ ?_ cd_N 12 _ (by decide) ⟨0, 0, rfl, rfl, by decide, ⟨fun c _ h => by rw [Nat.zero_testBit] at h; exact absurd h q_ft, fun t => ?_⟩, fun c hc => absurd hc (Nat.not_lt_zero c)⟩
    · rintro m z ⟨i, G, hm, rfl, hG, hr, hi⟩
      by_cases hc : i < 12
      · have p12 : (2 : Nat) ^ i ≤ 2 ^ 11 := Nat.pow_le_pow_right (by decide) (by omega)
        have hor : G ||| 2 ^ i < 2 ^ (i + 1) := Nat.or_lt_two_pow (Nat.lt_of_lt_of_le hG (Nat.pow_le_pow_right (by decide) (by omega))) (Nat.pow_lt_pow_right (by decide) (by omega))
        have hor' : G ||| 2 ^ i < 2 ^ 31 := Nat.lt_of_lt_of_le hor (Nat.pow_le_pow_right (by decide) (by omega))
        have hG1 : G < 2 ^ (i + 1) := Nat.lt_of_lt_of_le hG (Nat.pow_le_pow_right (by decide) (by omega))
        have stay : (q_lit g i = true → ¬ q_F (q_last g) d (fun x => (G.testBit x && decide (x < i)) || decide (x = i))) → ∃ i' G', m - 1 + i' = 12 ∧ (nI G, nI (i + 1)) = (nI G', nI i') ∧ G' < 2 ^ i' ∧ q_rd g d G' ∧ ∀ c, c < i' → q_lit g c = true → G'.testBit c = false → ¬ q_F (q_last g) d (fun x => (G'.testBit x && decide (x < c)) || decide (x = c)) := fun h => ⟨i + 1, G, by omega, rfl, hG1, hr, fun c hc' h1 h2 => by
          by_cases e : c = i
          · subst e; exact h h1
          · exact hi c (by omega) h1 h2⟩
        have bd : f_X5_readableSet_b4 (nI d) K T (nI G, nI i) = if q_lit g i = true then (f_X5_canBeRead (nI (G ||| 2 ^ i)) (nI d) K T).bind (fun r6 => (if r6 = 0 then some (.inr (nI G, nI (i + 1))) else some (.inr (nI (G ||| 2 ^ i), nI (i + 1))))) else some (.inr (nI G, nI (i + 1))) := by
          unfold f_X5_readableSet_b4
          dsimp only
          rw [q_l 12, if_neg (nI_ge hc (by decide)), e_isLit hT hg hc, Option.bind_some, e_bit (by omega), Option.bind_some, q_or, nI_1 i]
          cases q_lit g i
          · rfl
          · rw [if_neg q_bt, if_pos rfl]
            refine congrArg _ (funext fun r6 => ?_)
            show (if r6 = 0 then _ else some (Sum.inr (nI G ||| nI (2 ^ i), nI (i + 1)))) = _
            rw [q_or]
        by_cases hl : q_lit g i = true
        · rw [if_pos hl] at bd
          rcases ac_c hT hg hor' hd K with ⟨h1, h2⟩ | ⟨h1, h2⟩
          · rw [h2, Option.bind_some, if_neg (by decide)] at bd
            refine Or.inr ⟨m - 1, _, by omega, bd, i + 1, G ||| 2 ^ i, by omega, rfl, hor, ⟨fun c hc' hb => ?_, h1⟩, fun c hc' h3 h4 h5 => ?_⟩
            · rw [q_or_bit, Bool.or_eq_true] at hb
              rcases hb with hb | hb
              · exact hr.1 c hc' hb
              · rw [of_decide_eq_true hb]; exact hl
            · rw [q_or_bit, Bool.or_eq_false_iff] at h4
              have hci : ¬ c = i := of_decide_eq_false h4.2
              refine hi c (by omega) h3 h4.1 (q_F_congr h5 fun x _ => ?_)
              try dsimp only
              rw [q_or_bit]
              by_cases hx : x < c
              · rw [decide_eq_false (show ¬ x = i by omega), Bool.or_false]
              · rw [decide_eq_false hx, Bool.and_false, Bool.and_false]
          · rw [h2, Option.bind_some, if_pos rfl] at bd
            refine Or.inr ⟨m - 1, _, by omega, bd, stay fun _ q => h1 (q_F_congr q fun x _ => ?_)⟩
            try dsimp only
            rw [q_or_bit]
            by_cases hx : x < i
            · rw [decide_eq_true hx, Bool.and_true]
            · rw [q_tb_of_lt hG (by omega), Bool.false_and]
        · rw [if_neg hl] at bd
          exact Or.inr ⟨m - 1, _, by omega, bd, stay fun h => absurd h hl⟩
      · have e : i = 12 := by omega
        subst e
        refine Or.inl ⟨nI G, ?_, G, rfl, hG, hr, hi⟩
        unfold f_X5_readableSet_b4
        dsimp only
        rw [q_l 12, if_pos (nI_le (Nat.le_refl _) (by decide))]
    · rw [show q_N (q_last g) (fun i => (0 : Nat).testBit i) t = 0 from q_cnt_0 12 fun x _ => by dsimp only; rw [Nat.zero_testBit, Bool.false_and], Nat.zero_mul]
      exact Nat.zero_le t
  obtain ⟨r, k1, G, rfl, k2⟩ := k
  refine ⟨G, ?_, k2⟩
  unfold f_X5_readableSet
  rw [show cd_iter cd_N (f_X5_readableSet_b4 (nI d) K T) ((0 : Int32), (0 : Int32)) = some (nI G) from k1, Option.bind_some]
theorem a6_n {l : Nat → Nat} (hl : ∀ c, c < 12 → M 15 c = nI (l c) ∧ l c ≤ 999) {S c0 : Nat} (hS : S < 2 ^ 31) (hc0 : c0 < 12) (f : Int32) : cd_iter cd_N (f_X6_canRead_b18 (nI S) M (f, nI c0)) ((0 : Int32), (0 : Int32)) = some (nI (q_N l (fun i => S.testBit i) (l c0))) := by
  have k : ∃ r, cd_iter cd_N (f_X6_canRead_b18 (nI S) M (f, nI c0)) (nI 0, nI 0) = some r ∧ r = nI (q_N l (fun i => S.testBit i) (l c0)) := by
    refine cd_hoare (fun m z => ∃ c, m + c = 12 ∧ z = (nI (q_cnt (fun x => S.testBit x && decide (l x ≤ l c0)) c), nI c)) _ ?_ cd_N 12 _ (by decide) ⟨0, rfl, rfl⟩
    rintro m z ⟨c, hm, rfl⟩
    by_cases hc : c < 12
    · refine Or.inr ⟨m - 1, (nI (q_cnt (fun x => S.testBit x && decide (l x ≤ l c0)) (c + 1)), nI (c + 1)), by omega, ?_, c + 1, by omega, rfl⟩
      have h1 := hl c hc
      have h2 := hl c0 hc0
      unfold f_X6_canRead_b18
      dsimp only
      rw [q_l 12, if_neg (nI_ge hc (by decide)), e_isIn hS (by omega), Option.bind_some, cd_rd_nI hc (by decide), Option.bind_some, cd_rd_nI hc0 (by decide), Option.bind_some, nI_1 c, h1.1, h2.1]
      show _ = some (Sum.inr (nI (q_cnt (fun x => S.testBit x && decide (l x ≤ l c0)) c + if (S.testBit c && decide (l c ≤ l c0)) = true then 1 else 0), nI (c + 1)))
      cases S.testBit c
      · rw [if_pos q_bf, Option.bind_some, q_l 0, nI_add]; rfl
      · rw [if_neg q_bt, Bool.true_and]
        by_cases h : l c ≤ l c0
        · rw [if_neg (fun q => absurd ((nI_ltI (by omega) (by omega)).mp q) (by omega)), decide_eq_true h, if_pos rfl, Option.bind_some, nI_1]
        · rw [if_pos (nI_lt (by omega) (by omega)), decide_eq_false h, Option.bind_some, q_l 0, nI_add]; rfl
    · have e : c = 12 := by omega
      subst e
      refine Or.inl ⟨_, ?_, rfl⟩
      unfold f_X6_canRead_b18
      dsimp only
      rw [q_l 12, if_pos (nI_le (Nat.le_refl _) (by decide))]
      rfl
  obtain ⟨r, k1, rfl⟩ := k
  exact k1
theorem a6_c (hX : q_X T M g) (hl : ∀ c, c < 12 → M 15 c = nI (q_last g c)) {S d : Nat} (hS : S < 2 ^ 31) (hd : d ≤ 99) : (q_rd g d S ∧ f_X6_canRead (nI S) (nI d) M = some 1) ∨ (¬ q_rd g d S ∧ f_X6_canRead (nI S) (nI d) M = some 0) := by
  have hg := hX.2.2.2.2
  have hl' : ∀ c, c < 12 → M 15 c = nI (q_last g c) ∧ q_last g c ≤ 999 := fun c hc => ⟨hl c hc, q_lasts_le hg hc (g 1 c)⟩
  have k : ∃ r, cd_iter cd_N (f_X6_canRead_b5 (nI S) (nI d) M) (nI 1, nI 0) = some r ∧ ((r = nI 1 ∧ q_rd g d S) ∨ (r = nI 0 ∧ ¬ q_rd g d S)) := by
    refine cd_hoare (fun m z => ∃ c f, m + c = 12 ∧ z = (f, nI c) ∧ ((f = nI 1 ∧ ∀ x, x < c → S.testBit x = true → q_lit g x = true ∧ q_N (q_last g) (fun i => S.testBit i) (q_last g x) * d ≤ q_last g x) ∨ (f = nI 0 ∧ ¬ q_rd g d S))) _ ?_ cd_N 12 _ (by decide) ⟨0, nI 1, rfl, rfl, Or.inl ⟨rfl, fun x hx => absurd hx (Nat.not_lt_zero x)⟩⟩
    rintro m z ⟨c, f, hm, rfl, hi⟩
    by_cases hc : c < 12
    · have hN : q_N (q_last g) (fun i => S.testBit i) (q_last g c) * d ≤ 12 * 99 := Nat.mul_le_mul (q_N_le _ _ _) hd
      have h9 := (hl' c hc).2
      have bd : f_X6_canRead_b5 (nI S) (nI d) M (f, nI c) = if f = 0 then some (.inr (nI 0, nI (c + 1))) else if S.testBit c = true then (if q_lit g c = true then (if q_N (q_last g) (fun i => S.testBit i) (q_last g c) * d ≤ q_last g c then some (.inr (nI 1, nI (c + 1))) else some (.inr (nI 0, nI (c + 1)))) else some (.inr (nI 0, nI (c + 1)))) else some (.inr (nI 1, nI (c + 1))) := by
        unfold f_X6_canRead_b5
        dsimp only
        rw [q_l 12, if_neg (nI_ge hc (by decide)), a6_n hl' hS hc, Option.bind_some, e_isIn hS (by omega), Option.bind_some, hX.lit66, Option.bind_some, e_isIn (q_lit_lt hg) (by omega), Option.bind_some, cd_rd_nI hc (by decide), Option.bind_some, nI_1 c, pk_mul, hl c hc]
        by_cases hf : f = 0
        · rw [if_pos hf, if_pos hf]; rfl
        rw [if_neg hf, if_neg hf]
        cases S.testBit c
        · rfl
        · rw [if_neg q_bt, if_pos rfl]
          show (if q_bi (q_lit g c) = 0 then _ else _) = _
          cases q_lit g c
          · rfl
          · rw [if_neg q_bt, if_pos rfl]
            by_cases h : q_N (q_last g) (fun i => S.testBit i) (q_last g c) * d ≤ q_last g c
            · rw [if_pos h, if_neg (fun q => absurd ((nI_ltI (by omega) (by omega)).mp q) (by omega))]
              rfl
            · rw [if_neg h, if_pos (nI_lt (by omega) (by omega))]
              rfl
      rcases hi with ⟨rfl, hi⟩ | ⟨rfl, hi⟩
      · rw [if_neg (show ¬ nI 1 = 0 by decide)] at bd
        by_cases hb : S.testBit c = true
        · rw [if_pos hb] at bd
          by_cases hlt : q_lit g c = true
          · rw [if_pos hlt] at bd
            by_cases h : q_N (q_last g) (fun i => S.testBit i) (q_last g c) * d ≤ q_last g c
            · rw [if_pos h] at bd
              refine Or.inr ⟨m - 1, _, by omega, bd, c + 1, nI 1, by omega, rfl, Or.inl ⟨rfl, fun x hx hs => ?_⟩⟩
              by_cases e : x = c
              · rw [e]; exact ⟨hlt, h⟩
              · exact hi x (by omega) hs
            · rw [if_neg h] at bd
              exact Or.inr ⟨m - 1, _, by omega, bd, c + 1, nI 0, by omega, rfl, Or.inr ⟨rfl, fun q => h (q.2 (q_last g c))⟩⟩
          · rw [if_neg hlt] at bd
            exact Or.inr ⟨m - 1, _, by omega, bd, c + 1, nI 0, by omega, rfl, Or.inr ⟨rfl, fun q => hlt (q.1 c hc hb)⟩⟩
        · rw [if_neg hb] at bd
          refine Or.inr ⟨m - 1, _, by omega, bd, c + 1, nI 1, by omega, rfl, Or.inl ⟨rfl, fun x hx hs => ?_⟩⟩
          by_cases e : x = c
          · rw [e] at hs; exact absurd hs hb
          · exact hi x (by omega) hs
      · rw [if_pos (show nI 0 = 0 from rfl)] at bd
        exact Or.inr ⟨m - 1, _, by omega, bd, c + 1, nI 0, by omega, rfl, Or.inr ⟨rfl, hi⟩⟩
    · have e : c = 12 := by omega
      subst e
      have bd : f_X6_canRead_b5 (nI S) (nI d) M (f, nI 12) = some (.inl f) := by
        unfold f_X6_canRead_b5
        dsimp only
        rw [q_l 12, if_pos (nI_le (Nat.le_refl _) (by decide))]
      refine Or.inl ⟨f, bd, ?_⟩
      rcases hi with ⟨rfl, hi⟩ | hi
      · exact Or.inl ⟨rfl, fun c hc h => (hi c hc h).1, (q_F_iff _ _ _).mpr fun c hc h => (hi c hc h).2⟩
      · exact Or.inr hi
  obtain ⟨r, k1, k2⟩ := k
  unfold f_X6_canRead
  rw [show cd_iter cd_N (f_X6_canRead_b5 (nI S) (nI d) M) ((1 : Int32), (0 : Int32)) = some r from k1, Option.bind_some]
  rcases k2 with ⟨rfl, h⟩ | ⟨rfl, h⟩
  · exact Or.inl ⟨h, rfl⟩
  · exact Or.inr ⟨h, rfl⟩
theorem a6_l (hX : q_X T M g) : ∃ M', cd_iter cd_N f_X6_accounts_b24 ((0 : Int32), M) = some M' ∧ q_same M M' ∧ ∀ c, c < 12 → M' 15 c = nI (q_last g c) := by
  refine cd_upto' 12 (fun i z => q_same M z ∧ ∀ c, c < i → z 15 c = nI (q_last g c)) (by decide) (fun i z hi q => ?_) _ (fun z q => ⟨z, ?_, q⟩) ⟨q_same.rf M, fun c hc => absurd hc (Nat.not_lt_zero c)⟩
  · have hX1 := hX.same q.1
    obtain ⟨M2, l1, l2, -, l3⟩ := e6_lastsOf hX1.2.1 hX.2.2.2.2 hi
    refine ⟨cd_set M2 15 i (nI (q_last g i)), ?_, q.1.tr (l2.tr (q_same.of fun k hk => cd_set_n _ _ (by omega))), fun c hc => ?_⟩
    · unfold f_X6_accounts_b24
      dsimp only
      rw [q_l 12, if_neg (nI_ge hi (by decide)), l1, Option.bind_some, cd_ix_nI hi (by decide), Option.bind_some, nI_1]
    · rw [cd_set_s]
      by_cases e : c = i
      · rw [e]; exact pk_us
      · rw [pk_un e, l3 15 (by decide) (by decide) (by decide) (by decide)]
        exact q.2 c (by omega)
  · unfold f_X6_accounts_b24
    dsimp only
    rw [q_l 12, if_pos (nI_le (Nat.le_refl _) (by decide))]
theorem a6_b (hX : q_X T M g) (hl : ∀ c, c < 12 → M 15 c = nI (q_last g c)) {d : Nat} (hd : d ≤ 99) : ∃ F, cd_iter cd_N (f_X6_accounts_b52 (nI d) M) ((0 : Int32), (0 : Int32)) = some (nI F) ∧ F < 2 ^ 12 ∧ q_rd g d F ∧ ∀ s, s < 2 ^ 12 → q_rd g d s → q_pc s ≤ q_pc F ∧ (q_pc s = q_pc F → F ≤ s) := by
  have k : ∃ r, cd_iter cd_N (f_X6_accounts_b52 (nI d) M) (nI 0, nI 0) = some r ∧ ∃ F, r = nI F ∧ F < 2 ^ 12 ∧ q_rd g d F ∧ ∀ s, s < 2 ^ 12 → q_rd g d s → q_pc s ≤ q_pc F ∧ (q_pc s = q_pc F → F ≤ s) := by
    refine cd_hoare (fun m z => ∃ k F, m + k = 2 ^ 12 ∧ z = (nI F, nI k) ∧ F ≤ k ∧ F < 2 ^ 12 ∧ q_rd g d F ∧ ∀ s, s < k → q_rd g d s → q_pc s ≤ q_pc F ∧ (q_pc s = q_pc F → F ≤ s)) _ ?_ cd_N (2 ^ 12) _ (by decide) ⟨0, 0, rfl, rfl, Nat.le_refl _, by decide, ⟨fun c _ h => by rw [Nat.zero_testBit] at h; exact absurd h q_ft, fun t => ?_⟩, fun c hc => absurd hc (Nat.not_lt_zero c)⟩
    · rintro m z ⟨k, F, hm, rfl, hFk, hF, hr, hi⟩
      by_cases hc : k < 2 ^ 12
      · have p1 : q_pc k ≤ 12 := q_cnt_le _ _
        have p2 : q_pc F ≤ 12 := q_cnt_le _ _
        have bd : f_X6_accounts_b52 (nI d) M (nI F, nI k) = if q_pc k ≤ q_pc F then some (.inr (nI F, nI (k + 1))) else (f_X6_canRead (nI k) (nI d) M).bind (fun r14 => (if r14 = 0 then some (.inr (nI F, nI (k + 1))) else some (.inr (nI k, nI (k + 1))))) := by
          unfold f_X6_accounts_b52
          dsimp only
          rw [q_l 4096, if_neg (nI_ge (show k < 4096 from hc) (by decide)), e6_bits (by omega), Option.bind_some, e6_bits (by omega), Option.bind_some, nI_1]
          by_cases h : q_pc k ≤ q_pc F
          · rw [if_pos h, if_pos (nI_le h (by omega))]
          · rw [if_neg h, if_neg (nI_ge (by omega) (by omega))]
        by_cases h : q_pc k ≤ q_pc F
        · rw [if_pos h] at bd
          refine Or.inr ⟨m - 1, _, by omega, bd, k + 1, F, by omega, rfl, by omega, hF, hr, fun s hs hrs => ?_⟩
          by_cases e : s = k
          · rw [e]; exact ⟨h, fun _ => hFk⟩
          · exact hi s (by omega) hrs
        · rw [if_neg h] at bd
          rcases a6_c hX hl (show k < 2 ^ 31 by omega) hd with ⟨h1, h2⟩ | ⟨h1, h2⟩
          · rw [h2, Option.bind_some, if_neg (by decide)] at bd
            refine Or.inr ⟨m - 1, _, by omega, bd, k + 1, k, by omega, rfl, by omega, hc, h1, fun s hs hrs => ?_⟩
            by_cases e : s = k
            · rw [e]; exact ⟨Nat.le_refl _, fun _ => Nat.le_refl _⟩
            · have := (hi s (by omega) hrs).1
              exact ⟨by omega, fun q => by omega⟩
          · rw [h2, Option.bind_some, if_pos rfl] at bd
            refine Or.inr ⟨m - 1, _, by omega, bd, k + 1, F, by omega, rfl, by omega, hF, hr, fun s hs hrs => ?_⟩
            by_cases e : s = k
            · rw [e] at hrs; exact absurd hrs h1
            · exact hi s (by omega) hrs
      · have e : k = 4096 := by omega
        subst e
        refine Or.inl ⟨nI F, ?_, F, rfl, hF, hr, hi⟩
        unfold f_X6_accounts_b52
        dsimp only
        rw [q_l 4096, if_pos (nI_le (Nat.le_refl _) (by decide))]
    · rw [show q_N (q_last g) (fun i => (0 : Nat).testBit i) t = 0 from q_cnt_0 12 fun x _ => by dsimp only; rw [Nat.zero_testBit, Bool.false_and], Nat.zero_mul]
      exact Nat.zero_le t
  obtain ⟨r, k1, F, rfl, k2⟩ := k
  exact ⟨F, k1, k2⟩
theorem m_accounts (hX : q_X T M g) (K : Nat → Nat → Int32) (a0 a1 : Int32) : ∃ v M', f_X5_accounts a0 a1 K T = some v ∧ f_X6_accounts a0 a1 M = some (v, M') ∧ q_same M M' := by
  have hg := hX.2.2.2.2
  unfold f_X5_accounts f_X6_accounts
  rw [e_within, e_in, q_br, q_br]
  by_cases h1 : 1 ≤ a0 ∧ a0 ≤ 99
  · rw [if_pos h1, if_pos h1, e_within, e_in, q_br, q_br]
    by_cases h2 : 0 ≤ a1 ∧ a1 ≤ 1
    · rw [if_pos h2, if_pos h2]
      obtain ⟨d, hd, rfl⟩ := q_rng 99 (by decide) ⟨Int32.le_trans (by decide) h1.1, h1.2⟩
      have hd0 : 0 < d := (nI_leI (a := 1) (by decide) (by omega)).mp h1.1
      obtain ⟨G, g1, g2, g3, g4⟩ := ac_g hX.1 hg hd K
      obtain ⟨M1, l1, l2, l3⟩ := a6_l hX
      obtain ⟨F, f1, f2, f3, f4⟩ := a6_b (hX.same l2) l3 hd
      have dom := fun k hk => q_dom (S := fun i => F.testBit i) (G := fun i => G.testBit i) (L := 999) hd0 (fun x hx => q_lasts_le hg hx (g 1 x)) g3.2 f3.2 (fun c hc hs hn => g4 c hc (f3.1 c hc hs) hn) k hk
      have e : F = G := by
        have a1 := f4 G g2 g3
        have a2 : q_pc F ≤ q_pc G := dom 12 (Nat.le_refl _)
        have a3 : q_pc G = q_pc F := Nat.le_antisymm a1.1 a2
        exact Nat.le_antisymm (a1.2 a3) (q_num g2 f2 dom a3.symm)
      subst e
      rw [g1, Option.bind_some, l1, Option.bind_some, f1, Option.bind_some, e_bitCount f2, e6_bits (show F < 2 ^ 31 by omega)]
      obtain ⟨w, hw, rfl⟩ := q_rng 1 (by decide) h2
      rcases (show w = 0 ∨ w = 1 by omega) with rfl | rfl
      · exact ⟨nI (q_pc F), M1, rfl, rfl, l2⟩
      · exact ⟨nI F, M1, rfl, rfl, l2⟩
    · rw [if_neg h2, if_neg h2]
      exact ⟨_, M, rfl, rfl, q_same.rf M⟩
  · rw [if_neg h1, if_neg h1]
    exact ⟨_, M, rfl, rfl, q_same.rf M⟩
end ACC
