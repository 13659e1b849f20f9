/-! sets that can be read in time: exchange, and the first largest -/
theorem q_cnt_mono {p q : Nat → Bool} : ∀ n, (∀ x, x < n → p x = true → q x = true) → q_cnt p n ≤ q_cnt q n
  | 0, _ => Nat.le_refl _
  | n + 1, h => by
    have ih := q_cnt_mono (p := p) (q := q) n (fun x hx => h x (by omega))
    show q_cnt p n + (if p n = true then 1 else 0) ≤ q_cnt q n + (if q n = true then 1 else 0)
    by_cases hp : p n = true
    · rw [if_pos hp, if_pos (h n (by omega) hp)]; omega
    · rw [if_neg hp]; omega
theorem q_cnt_congr {p q : Nat → Bool} (n : Nat) (h : ∀ x, x < n → p x = q x) : q_cnt p n = q_cnt q n :=
  Nat.le_antisymm (q_cnt_mono n (fun x hx e => by rw [← h x hx]; exact e)) (q_cnt_mono n (fun x hx e => by rw [h x hx]; exact e))
theorem q_cnt_or {p q : Nat → Bool} : ∀ n, (∀ x, x < n → ¬ (p x = true ∧ q x = true)) → q_cnt (fun x => p x || q x) n = q_cnt p n + q_cnt q n
  | 0, _ => rfl
  | n + 1, h => by
    have ih := q_cnt_or (p := p) (q := q) n (fun x hx => h x (by omega))
    have h1 := h n (by omega)
    show q_cnt (fun x => p x || q x) n + (if (p n || q n) = true then 1 else 0) = (q_cnt p n + (if p n = true then 1 else 0)) + (q_cnt q n + (if q n = true then 1 else 0))
    rw [ih]
    cases hp : p n <;> cases hq : q n
    · rfl
    · show _ + 1 = _ + 0 + (_ + 1); omega
    · show _ + 1 = _ + 1 + (_ + 0); omega
    · exact absurd ⟨hp, hq⟩ h1
theorem q_cnt_pt (c : Nat) (n : Nat) : q_cnt (fun x => decide (x = c)) n = if c < n then 1 else 0 := by
  have h := q_cnt_one (fun _ => true) c n
  rw [q_cnt_congr (q := fun x => decide (x = c) && (fun _ => true) x) n (fun x _ => (Bool.and_true _).symm), h]
  by_cases hc : c < n
  · rw [if_pos hc, if_pos ⟨hc, rfl⟩]
  · rw [if_neg hc, if_neg (fun q => hc q.1)]
theorem q_cnt_add {p : Nat → Bool} {c n : Nat} (hc : c < n) (hp : p c = false) : q_cnt (fun x => p x || decide (x = c)) n = q_cnt p n + 1 := by
  rw [q_cnt_or n (fun x _ q => by
    have e : x = c := of_decide_eq_true q.2
    rw [e, hp] at q
    exact absurd q.1 (by decide)), q_cnt_pt, if_pos hc]
theorem q_cnt_0 {p : Nat → Bool} : ∀ n, (∀ x, x < n → p x = false) → q_cnt p n = 0
  | 0, _ => rfl
  | n + 1, h => by
    show q_cnt p n + (if p n = true then 1 else 0) = 0
    rw [q_cnt_0 n (fun x hx => h x (by omega)), h n (by omega)]; rfl
theorem q_cnt_ex {p : Nat → Bool} : ∀ n, 0 < q_cnt p n → ∃ x, x < n ∧ p x = true := by
  intro n h
  refine Classical.byContradiction fun hc => ?_
  have : q_cnt p n = 0 := q_cnt_0 n (fun x hx => by
    cases e : p x
    · rfl
    · exact absurd ⟨x, hx, e⟩ hc)
  omega
/-- how many of the set end by t -/
def q_N (l : Nat → Nat) (p : Nat → Bool) (t : Nat) : Nat := q_cnt (fun x => p x && decide (l x ≤ t)) 12
/-- the set can be read -/
def q_F (l : Nat → Nat) (d : Nat) (p : Nat → Bool) : Prop := ∀ t, q_N l p t * d ≤ t
theorem q_N_le (l : Nat → Nat) (p : Nat → Bool) (t : Nat) : q_N l p t ≤ 12 := q_cnt_le _ 12
theorem q_N_s (l : Nat → Nat) (p : Nat → Bool) (t : Nat) : q_N l p (t + 1) = q_N l p t + q_cnt (fun x => p x && decide (l x = t + 1)) 12 := by
  unfold q_N
  rw [← q_cnt_or 12 (fun x _ q => by
    have h1 : l x ≤ t := of_decide_eq_true (Bool.and_eq_true _ _ ▸ q.1).2
    have h2 : l x = t + 1 := of_decide_eq_true (Bool.and_eq_true _ _ ▸ q.2).2
    omega)]
  refine q_cnt_congr 12 fun x _ => ?_
  cases p x
  · rfl
  · rw [Bool.true_and, Bool.true_and, Bool.true_and]
    by_cases h : l x ≤ t
    · rw [decide_eq_true h, decide_eq_true (show l x ≤ t + 1 by omega)]; rfl
    · rw [decide_eq_false h, Bool.false_or]
      by_cases h2 : l x = t + 1
      · rw [decide_eq_true h2, decide_eq_true (show l x ≤ t + 1 by omega)]
      · rw [decide_eq_false h2, decide_eq_false (show ¬ l x ≤ t + 1 by omega)]
theorem q_N_mono {l : Nat → Nat} {p q : Nat → Bool} (h : ∀ x, x < 12 → p x = true → q x = true) (t : Nat) : q_N l p t ≤ q_N l q t :=
  q_cnt_mono 12 fun x hx e => by
    rw [Bool.and_eq_true] at e ⊢
    exact ⟨h x hx e.1, e.2⟩
theorem q_F_sub {l : Nat → Nat} {d : Nat} {p q : Nat → Bool} (hq : q_F l d q) (h : ∀ x, x < 12 → p x = true → q x = true) : q_F l d p := fun t =>
  Nat.le_trans (Nat.mul_le_mul_right d (q_N_mono h t)) (hq t)
theorem q_F_congr {l : Nat → Nat} {d : Nat} {p q : Nat → Bool} (hq : q_F l d q) (h : ∀ x, x < 12 → p x = q x) : q_F l d p := q_F_sub hq (fun x hx e => by rw [← h x hx]; exact e)
/-- it is enough to look at the ends of the set's own -/
theorem q_F_iff (l : Nat → Nat) (d : Nat) (p : Nat → Bool) : q_F l d p ↔ ∀ c, c < 12 → p c = true → q_N l p (l c) * d ≤ l c := by
  refine ⟨fun h c _ _ => h (l c), fun h t => ?_⟩
  induction t with
  | zero =>
    rcases Nat.eq_zero_or_pos (q_N l p 0) with e | e
    · rw [e, Nat.zero_mul]; exact Nat.le_refl _
    · obtain ⟨x, hx, hp⟩ := q_cnt_ex 12 e
      rw [Bool.and_eq_true] at hp
      have h0 : l x ≤ 0 := of_decide_eq_true hp.2
      have := h x hx hp.1
      rw [show l x = 0 by omega] at this
      exact this
  | succ t ih =>
    rcases Nat.eq_zero_or_pos (q_cnt (fun x => p x && decide (l x = t + 1)) 12) with e | e
    · rw [q_N_s, e, Nat.add_zero]; omega
    · obtain ⟨x, hx, hp⟩ := q_cnt_ex 12 e
      rw [Bool.and_eq_true] at hp
      have h0 : l x = t + 1 := of_decide_eq_true hp.2
      have := h x hx hp.1
      rw [h0] at this
      exact this
theorem q_aug_t (a b : Nat → Nat) (h0 : b 0 ≤ a 0) : ∀ T, a T < b T → ∃ t, t < T ∧ b t ≤ a t ∧ ∀ u, t < u → u ≤ T → a u < b u
  | 0, h => absurd h (by omega)
  | T + 1, h => by
    by_cases hT : a T < b T
    · obtain ⟨t, h1, h2, h3⟩ := q_aug_t a b h0 T hT
      refine ⟨t, by omega, h2, fun u hu hu2 => ?_⟩
      by_cases e : u = T + 1
      · rw [e]; exact h
      · exact h3 u hu (by omega)
    · refine ⟨T, by omega, by omega, fun u hu hu2 => ?_⟩
      rw [show u = T + 1 by omega]; exact h
theorem q_aug {l : Nat → Nat} {d L : Nat} {A B : Nat → Bool} (hd : 0 < d) (hL : ∀ x, x < 12 → l x ≤ L) (hA : q_F l d A) (hB : q_F l d B) (hlt : q_cnt A 12 < q_cnt B 12) : ∃ x, x < 12 ∧ B x = true ∧ A x = false ∧ q_F l d (fun y => A y || decide (y = x)) := by
  have big : ∀ (p : Nat → Bool) u, L ≤ u → q_N l p u = q_cnt p 12 := fun p u hu => q_cnt_congr 12 fun x hx => by
    have := hL x hx
    rw [decide_eq_true (show l x ≤ u by omega), Bool.and_true]
  have z : q_N l B 0 ≤ q_N l A 0 := by
    have h := hB 0
    rcases Nat.eq_zero_or_pos (q_N l B 0) with e | e
    · omega
    · have := Nat.mul_le_mul e hd
      omega
  obtain ⟨t, h1, h2, h3⟩ := q_aug_t (q_N l A) (q_N l B) z L (by rw [big A L (Nat.le_refl _), big B L (Nat.le_refl _)]; exact hlt)
  have h4 := h3 (t + 1) (by omega) (by omega)
  have h5 : ∃ x, x < 12 ∧ l x = t + 1 ∧ B x = true ∧ A x = false := by
    refine Classical.byContradiction fun hc => ?_
    have : q_cnt (fun x => B x && decide (l x = t + 1)) 12 ≤ q_cnt (fun x => A x && decide (l x = t + 1)) 12 := by
      refine q_cnt_mono 12 fun x hx e => ?_
      rw [Bool.and_eq_true] at e ⊢
      refine ⟨?_, e.2⟩
      cases ea : A x
      · exact absurd ⟨x, hx, of_decide_eq_true e.2, e.1, ea⟩ hc
      · rfl
    rw [q_N_s, q_N_s] at h4
    omega
  obtain ⟨x, hx, e1, e2, e3⟩ := h5
  refine ⟨x, hx, e2, e3, fun u => ?_⟩
  by_cases hu : u ≤ t
  · rw [show q_N l (fun y => A y || decide (y = x)) u = q_N l A u from q_cnt_congr 12 fun y _ => by
      dsimp only
      by_cases hy : y = x
      · rw [hy, decide_eq_false (show ¬ l x ≤ u by omega), Bool.and_false, Bool.and_false]
      · rw [decide_eq_false hy, Bool.or_false]]
    exact hA u
  · have h6 : q_N l (fun y => A y || decide (y = x)) u = q_N l A u + 1 := by
      unfold q_N
      rw [← q_cnt_add hx (show (A x && decide (l x ≤ u)) = false by rw [e3]; rfl)]
      refine q_cnt_congr 12 fun y _ => ?_
      dsimp only
      by_cases hy : y = x
      · rw [hy, decide_eq_true (rfl : x = x), decide_eq_true (show l x ≤ u by omega), Bool.or_true, Bool.or_true]; rfl
      · rw [decide_eq_false hy, Bool.or_false, Bool.or_false]
    have h7 : q_N l A u + 1 ≤ q_N l B u := by
      by_cases hL2 : u ≤ L
      · exact h3 u (by omega) hL2
      · rw [big A u (by omega), big B u (by omega)]; exact hlt
    rw [h6]
    exact Nat.le_trans (Nat.mul_le_mul_right d h7) (hB u)
/-- the first largest: what a set taken one after the other holds below k is never fewer -/
theorem q_dom {l : Nat → Nat} {d L : Nat} {G S : Nat → Bool} (hd : 0 < d) (hL : ∀ x, x < 12 → l x ≤ L) (hG : q_F l d G) (hS : q_F l d S) (hm : ∀ c, c < 12 → S c = true → G c = false → ¬ q_F l d (fun x => (G x && decide (x < c)) || decide (x = c))) (k : Nat) (hk : k ≤ 12) : q_cnt S k ≤ q_cnt G k := by
  refine Classical.byContradiction fun hc => ?_
  have cut : ∀ p : Nat → Bool, ∀ n, k ≤ n → q_cnt (fun x => p x && decide (x < k)) n = q_cnt p k := fun p n => by
    induction n with
    | zero => intro h; rw [show k = 0 by omega]; rfl
    | succ n ih =>
      intro h
      by_cases e : k = n + 1
      · rw [← e]; exact q_cnt_congr k fun x hx => by rw [decide_eq_true hx, Bool.and_true]
      · show q_cnt _ n + (if (p n && decide (n < k)) = true then 1 else 0) = _
        rw [ih (by omega), decide_eq_false (show ¬ n < k by omega), Bool.and_false]; rfl
  obtain ⟨x, hx, h1, h2, h3⟩ := q_aug (A := fun x => G x && decide (x < k)) (B := fun x => S x && decide (x < k)) hd hL (q_F_sub hG fun x _ e => (Bool.and_eq_true _ _ ▸ e).1) (q_F_sub hS fun x _ e => (Bool.and_eq_true _ _ ▸ e).1) (by rw [cut G 12 hk, cut S 12 hk]; omega)
  rw [Bool.and_eq_true] at h1
  have hxk : x < k := of_decide_eq_true h1.2
  rw [decide_eq_true hxk, Bool.and_true] at h2
  refine hm x hx h1.1 h2 (q_F_sub h3 fun y _ e => ?_)
  rw [Bool.or_eq_true, Bool.and_eq_true] at e
  rw [Bool.or_eq_true, Bool.and_eq_true]
  rcases e with e | e
  · exact Or.inl ⟨e.1, decide_eq_true (by have := of_decide_eq_true e.2; omega)⟩
  · exact Or.inr e
theorem q_tb_lt {G S n : Nat} (hg : G.testBit n = false) (hs : S.testBit n = true) (h : ∀ i, n < i → G.testBit i = S.testBit i) : G < S := by
  have e : G / 2 ^ n / 2 = S / 2 ^ n / 2 := Nat.eq_of_testBit_eq fun i => by
    rw [Nat.testBit_div_two, Nat.testBit_div_two, Nat.testBit_div_two_pow, Nat.testBit_div_two_pow]
    exact h _ (by omega)
  rw [Nat.testBit_eq_decide_div_mod_eq] at hg hs
  have h1 := of_decide_eq_true hs
  have h2 := of_decide_eq_false hg
  exact Nat.lt_of_div_lt_div (show G / 2 ^ n < S / 2 ^ n by omega)
/-- as many, and never fewer below: not the greater number -/
theorem q_num {G S : Nat} (hG : G < 2 ^ 12) (hS : S < 2 ^ 12) (hd : ∀ k, k ≤ 12 → q_cnt (fun i => S.testBit i) k ≤ q_cnt (fun i => G.testBit i) k) (he : q_cnt (fun i => S.testBit i) 12 = q_cnt (fun i => G.testBit i) 12) : G ≤ S := by
  have main : ∀ n, n ≤ 12 → (∀ i, n ≤ i → G.testBit i = S.testBit i) → q_cnt (fun i => S.testBit i) n = q_cnt (fun i => G.testBit i) n → G ≤ S := by
    intro n
    induction n with
    | zero =>
      intro _ h _
      exact Nat.le_of_eq (Nat.eq_of_testBit_eq fun i => h i (Nat.zero_le i))
    | succ n ih =>
      intro hn h e
      have e' : q_cnt (fun i => S.testBit i) n + (if S.testBit n = true then 1 else 0) = q_cnt (fun i => G.testBit i) n + (if G.testBit n = true then 1 else 0) := e
      have hdn := hd n (by omega)
      cases hs : S.testBit n <;> cases hg : G.testBit n
      · rw [hs, hg] at e'
        refine ih (by omega) (fun i hi => ?_) (by omega)
        by_cases ei : i = n
        · rw [ei, hs, hg]
        · exact h i (by omega)
      · rw [hs, hg, if_neg q_ft, if_pos rfl] at e'
        omega
      · exact Nat.le_of_lt (q_tb_lt hg hs fun j hj => h j (by omega))
      · rw [hs, hg] at e'
        refine ih (by omega) (fun i hi => ?_) (by omega)
        by_cases ei : i = n
        · rw [ei, hs, hg]
        · exact h i (by omega)
  refine main 12 (Nat.le_refl _) (fun i hi => ?_) he
  rw [Nat.testBit_lt_two_pow (Nat.lt_of_lt_of_le hG (Nat.pow_le_pow_right (by decide) hi)), Nat.testBit_lt_two_pow (Nat.lt_of_lt_of_le hS (Nat.pow_le_pow_right (by decide) hi))]
