/-! the candle to look at next: the numbers -/
def z_G (k : Nat → Nat → Nat → Bool) (z : Nat) : Bool := (decide (z / 10 % 100 ≤ 60) && decide (z % 10 ≤ 3)) && k (z / 1000) (z / 10 % 100) (z % 10)
theorem z_G_at (k : Nat → Nat → Nat → Bool) {w t d z : Nat} (hw : w < 12) (ht : t ≤ 60) (hd : d < 4) (hz : z = 1000 * w + 10 * t + d) : z_G k z = k w t d := by
  unfold z_G
  rw [show z / 1000 = w by omega, show z / 10 % 100 = t by omega, show z % 10 = d by omega, decide_eq_true ht, decide_eq_true (show d ≤ 3 by omega)]; rfl
theorem z_G_t (k : Nat → Nat → Nat → Bool) {w t : Nat} (hw : w < 12) (ht : t ≤ 60) : q_cnt (z_G k) (1000 * w + 10 * (t + 1)) = q_cnt (z_G k) (1000 * w + 10 * t + 4) := by
  rw [show 1000 * w + 10 * (t + 1) = 1000 * w + 10 * t + 4 + 6 by omega]
  refine q_cnt_skip 6 fun x h1 h2 => ?_
  unfold z_G
  rw [decide_eq_false (show ¬ x % 10 ≤ 3 by omega), Bool.and_false]; rfl
theorem z_G_w (k : Nat → Nat → Nat → Bool) {w : Nat} (hw : w < 12) : q_cnt (z_G k) (1000 * (w + 1)) = q_cnt (z_G k) (1000 * w + 10 * 61) := by
  rw [show 1000 * (w + 1) = 1000 * w + 10 * 61 + 390 by omega]
  refine q_cnt_skip 390 fun x h1 h2 => ?_
  unfold z_G
  rw [decide_eq_false (show ¬ x / 10 % 100 ≤ 60 by omega)]; rfl
theorem z_G_row (k : Nat → Nat → Nat → Bool) {w : Nat} (hw : w < 12) : ∀ t, t ≤ 61 → q_cnt (z_G k) (1000 * w + 10 * t) = q_cnt (z_G k) (1000 * w) + (q_cnt (fun t => k w t 0) t + q_cnt (fun t => k w t 1) t + q_cnt (fun t => k w t 2) t + q_cnt (fun t => k w t 3) t)
  | 0, _ => rfl
  | t + 1, h => by
    rw [z_G_t k hw (by omega), q_cnt_s, q_cnt_s, q_cnt_s, q_cnt_s, z_G_row k hw t (by omega), q_cnt_s, q_cnt_s, q_cnt_s, q_cnt_s]
    rw [show z_G k (1000 * w + 10 * t) = k w t 0 from z_G_at k hw (by omega) (by decide) rfl, show z_G k (1000 * w + 10 * t + 1) = k w t 1 from z_G_at k hw (by omega) (by decide) rfl, show z_G k (1000 * w + 10 * t + 2) = k w t 2 from z_G_at k hw (by omega) (by decide) rfl, show z_G k (1000 * w + 10 * t + 3) = k w t 3 from z_G_at k hw (by omega) (by decide) rfl]
    omega
theorem z_G_sum (k : Nat → Nat → Nat → Bool) : ∀ w, w ≤ 12 → q_cnt (z_G k) (1000 * w) = q_sum (fun s => q_cnt (fun t => k (s / 4) t (s % 4)) 61) (4 * w)
  | 0, _ => rfl
  | w + 1, hw => by
    rw [z_G_w k (by omega), z_G_row k (by omega) 61 (Nat.le_refl _), z_G_sum k w (by omega)]
    have e : ∀ d, d < 4 → (fun s => q_cnt (fun t => k (s / 4) t (s % 4)) 61) (4 * w + d) = q_cnt (fun t => k w t d) 61 := fun d hd => by
      try dsimp only
      rw [show (4 * w + d) / 4 = w by omega, show (4 * w + d) % 4 = d by omega]
    rw [← e 0 (by decide), ← e 1 (by decide), ← e 2 (by decide), ← e 3 (by decide)]
    show _ = q_sum (fun s => q_cnt (fun t => k (s / 4) t (s % 4)) 61) (4 * w) + (fun s => q_cnt (fun t => k (s / 4) t (s % 4)) 61) (4 * w + 0) + (fun s => q_cnt (fun t => k (s / 4) t (s % 4)) 61) (4 * w + 1) + (fun s => q_cnt (fun t => k (s / 4) t (s % 4)) 61) (4 * w + 2) + (fun s => q_cnt (fun t => k (s / 4) t (s % 4)) 61) (4 * w + 3)
    omega
theorem q_sum_congr {f h : Nat → Nat} : ∀ n, (∀ i, i < n → f i = h i) → q_sum f n = q_sum h n
  | 0, _ => rfl
  | n + 1, e => by
    show q_sum f n + f n = q_sum h n + h n
    rw [q_sum_congr n (fun i hi => e i (by omega)), e n (by omega)]
theorem q_sum_add (f h : Nat → Nat) : ∀ n, q_sum (fun i => f i + h i) n = q_sum f n + q_sum h n
  | 0 => rfl
  | n + 1 => by
    show q_sum (fun i => f i + h i) n + (f n + h n) = (q_sum f n + f n) + (q_sum h n + h n)
    rw [q_sum_add f h n]; omega
theorem q_sum_le {f : Nat → Nat} {k : Nat} : ∀ n, (∀ i, i < n → f i ≤ k) → q_sum f n ≤ k * n
  | 0, _ => Nat.zero_le _
  | n + 1, e => by
    have := q_sum_le (f := f) (k := k) n (fun i hi => e i (by omega))
    have h := e n (by omega)
    show q_sum f n + f n ≤ k * (n + 1)
    rw [Nat.mul_succ]; omega
theorem q_sum_0 : ∀ n, q_sum (fun _ => 0) n = 0
  | 0 => rfl
  | n + 1 => by show q_sum (fun _ => 0) n + 0 = 0; rw [q_sum_0 n]
theorem q_cnt_sum (p : Nat → Bool) : ∀ n, q_cnt p n = q_sum (fun i => if p i = true then 1 else 0) n
  | 0 => rfl
  | n + 1 => by
    show q_cnt p n + _ = q_sum _ n + _
    rw [q_cnt_sum p n]
theorem q_sum_swap (p : Nat → Nat → Bool) (m : Nat) : ∀ n, q_sum (fun u => q_cnt (fun s => p s u) m) n = q_sum (fun s => q_cnt (fun u => p s u) n) m
  | 0 => (q_sum_0 m).symm
  | n + 1 => by
    show q_sum (fun u => q_cnt (fun s => p s u) m) n + q_cnt (fun s => p s n) m = q_sum (fun s => q_cnt (fun u => p s u) n + (if p s n = true then 1 else 0)) m
    rw [q_sum_add, q_sum_swap p m n, q_cnt_sum]
section LK0
variable {g : Nat → Nat → Nat} {b e : Nat → Nat} {Z : Nat → Nat → Int32}
/-- the minute by which c burnt, as far as it shows -/
def z_B (g : Nat → Nat → Nat) (c : Nat) : Nat := min 60 (q_last g c)
def z_ef (g : Nat → Nat → Nat) (c w t d : Nat) : Nat := min (z_B g c) (z_mi w t d c)
def z_N (g : Nat → Nat → Nat) (c m : Nat) : Nat := q_cnt (z_G (fun w t d => z_ok g w t d && decide (z_ef g c w t d = m))) 12000
def z_A (g : Nat → Nat → Nat) (c t : Nat) : Nat := q_cnt (fun s => z_re (s / 4) (s % 4) c && z_ok g (s / 4) t (s % 4)) 48
theorem z_N_lt {c m : Nat} (hm : m < z_B g c) : z_N g c m = z_A g c m := by
  have h60 : z_B g c ≤ 60 := Nat.min_le_left _ _
  have e1 : z_N g c m = _ := z_G_sum (fun w t d => z_ok g w t d && decide (z_ef g c w t d = m)) 12 (Nat.le_refl _)
  unfold z_A
  rw [e1, q_cnt_sum (fun s => z_re (s / 4) (s % 4) c && z_ok g (s / 4) m (s % 4))]
  refine q_sum_congr 48 fun s _ => ?_
  try dsimp only
  have q := q_cnt_one (fun t => z_re (s / 4) (s % 4) c && z_ok g (s / 4) t (s % 4)) m 61
  rw [q_cnt_congr (q := fun x => decide (x = m) && (fun t => z_re (s / 4) (s % 4) c && z_ok g (s / 4) t (s % 4)) x) 61 (fun t ht => ?_), q]
  · by_cases h : (z_re (s / 4) (s % 4) c && z_ok g (s / 4) m (s % 4)) = true
    · rw [if_pos ⟨by omega, h⟩, if_pos h]
    · rw [if_neg (fun x => h x.2), if_neg h]
  · dsimp only
    unfold z_ef z_mi
    cases hr : z_re (s / 4) (s % 4) c
    · rw [if_neg q_ft, decide_eq_false (show ¬ min (z_B g c) 60 = m by omega), Bool.false_and, Bool.and_false, Bool.and_false]
    · rw [if_pos rfl, Bool.true_and, Bool.and_comm]
      refine congrArg (· && z_ok g (s / 4) t (s % 4)) ?_
      by_cases h : t = m
      · rw [decide_eq_true h, decide_eq_true (by omega)]
      · rw [decide_eq_false h, decide_eq_false (by omega)]
theorem z_N_B (h : z_Z Z g b e) {c : Nat} : z_N g c (z_B g c) = q_sum (fun s => if z_re (s / 4) (s % 4) c = true then 0 else e s - b s) 48 + q_sum (fun u => if z_B g c ≤ u then z_A g c u else 0) 61 := by
  have h60 : z_B g c ≤ 60 := Nat.min_le_left _ _
  have e1 : z_N g c (z_B g c) = _ := z_G_sum (fun w t d => z_ok g w t d && decide (z_ef g c w t d = z_B g c)) 12 (Nat.le_refl _)
  have e2 : q_sum (fun u => if z_B g c ≤ u then z_A g c u else 0) 61 = q_sum (fun u => q_cnt (fun s => (z_re (s / 4) (s % 4) c && z_ok g (s / 4) u (s % 4)) && decide (z_B g c ≤ u)) 48) 61 := q_sum_congr 61 fun u _ => by
    try dsimp only
    by_cases hu : z_B g c ≤ u
    · rw [if_pos hu]
      exact q_cnt_congr 48 fun s _ => by rw [decide_eq_true hu, Bool.and_true]
    · rw [if_neg hu]
      exact (q_cnt_0 48 fun s _ => by rw [decide_eq_false hu, Bool.and_false]).symm
  rw [e1, e2, q_sum_swap (fun s u => (z_re (s / 4) (s % 4) c && z_ok g (s / 4) u (s % 4)) && decide (z_B g c ≤ u)), ← q_sum_add]
  refine q_sum_congr 48 fun s hs => ?_
  have hs' : s < 48 := hs
  try dsimp only
  cases hr : z_re (s / 4) (s % 4) c
  · rw [if_neg q_ft, q_cnt_0 (p := fun u => (false && z_ok g (s / 4) u (s % 4)) && decide (z_B g c ≤ u)) 61 (fun u _ => rfl), Nat.add_zero]
    have q := h.col (w := s / 4) (d := s % 4) (by omega) (by omega)
    rw [show 4 * (s / 4) + s % 4 = s by omega] at q
    rw [← q]
    refine q_cnt_congr 61 fun t _ => ?_
    unfold z_ef z_mi
    rw [hr, if_neg q_ft, decide_eq_true (show min (z_B g c) 60 = z_B g c by omega), Bool.and_true]
  · rw [if_pos rfl, Nat.zero_add]
    refine q_cnt_congr 61 fun t _ => ?_
    unfold z_ef z_mi
    rw [hr, if_pos rfl, Bool.true_and]
    refine congrArg (z_ok g (s / 4) t (s % 4) && ·) ?_
    by_cases ht : z_B g c ≤ t
    · rw [decide_eq_true ht, decide_eq_true (by omega)]
    · rw [decide_eq_false ht, decide_eq_false (by omega)]
/-- what it lost is what its minute says -/
theorem z_lo_ef (g : Nat → Nat → Nat) (c w t d : Nat) (ht : t ≤ 60) : z_lo g w t d c = min (g 0 c) (z_bu g c * z_ef g c w t d) := by
  have hb := z_bu_pos g c
  have hm : z_mi w t d c ≤ 60 := by unfold z_mi; split <;> omega
  have q : ∀ m, q_last g c ≤ m ↔ g 0 c ≤ z_bu g c * m := fun m => q_ceil hb
  unfold z_lo z_ef z_B
  rcases Nat.lt_or_ge (z_mi w t d c) (q_last g c) with h | h
  · rw [show min (min 60 (q_last g c)) (z_mi w t d c) = z_mi w t d c by omega]
  · rw [show min (min 60 (q_last g c)) (z_mi w t d c) = q_last g c by omega, Nat.min_eq_left ((q _).mp h), Nat.min_eq_left ((q _).mp (Nat.le_refl _))]
theorem z_inj {g : Nat → Nat → Nat} {c x y : Nat} (hx : x ≤ q_last g c) (hy : y ≤ q_last g c) (h : min (g 0 c) (z_bu g c * x) = min (g 0 c) (z_bu g c * y)) : x = y := by
  have hb := z_bu_pos g c
  have q : ∀ m, q_last g c ≤ m ↔ g 0 c ≤ z_bu g c * m := fun m => q_ceil hb
  have key : ∀ x y, x < y → y ≤ q_last g c → min (g 0 c) (z_bu g c * x) < min (g 0 c) (z_bu g c * y) := fun x y hxy hy => by
    have h1 : ¬ g 0 c ≤ z_bu g c * x := fun k => by have := (q x).mpr k; omega
    have h2 : z_bu g c * x < z_bu g c * y := Nat.mul_lt_mul_of_pos_left hxy hb
    omega
  rcases Nat.lt_trichotomy x y with k | k | k
  · have := key x y k hy; omega
  · exact k
  · have := key y x k hx; omega
end LK0
