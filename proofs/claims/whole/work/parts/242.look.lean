/-! the candle to look at next: the class -/
def i_sum (f : Nat → Int32) : Nat → Int32
  | 0 => 0
  | n + 1 => i_sum f n + f n
theorem i_sum_upd (f : Nat → Int32) (j : Nat) (x : Int32) : ∀ n, i_sum (upd f j (f j + x)) n = i_sum f n + (if j < n then x else 0)
  | 0 => by rw [if_neg (Nat.not_lt_zero j), Int32.add_zero]; rfl
  | n + 1 => by
    show i_sum (upd f j (f j + x)) n + upd f j (f j + x) n = (i_sum f n + f n) + _
    rw [i_sum_upd f j x n]
    by_cases h : j = n
    · subst h
      rw [if_neg (Nat.lt_irrefl j), if_pos (Nat.lt_succ_self j), pk_us, Int32.add_zero, Int32.add_assoc]
    · rw [pk_un (fun q => h q.symm)]
      by_cases h1 : j < n
      · rw [if_pos h1, if_pos (by omega), Int32.add_assoc, Int32.add_assoc, Int32.add_comm x]
      · rw [if_neg h1, if_neg (by omega), Int32.add_zero, Int32.add_zero]
theorem i_sum_0 {f : Nat → Int32} : ∀ n, (∀ i, i < n → f i = 0) → i_sum f n = 0
  | 0, _ => rfl
  | n + 1, h => by
    show i_sum f n + f n = 0
    rw [i_sum_0 n (fun i hi => h i (by omega)), h n (by omega)]; rfl
def z_mx (f : Nat → Nat) : Nat → Nat
  | 0 => 0
  | n + 1 => max (z_mx f n) (f n)
theorem z_mx_ge {f : Nat → Nat} : ∀ n u, u < n → f u ≤ z_mx f n
  | 0, u, h => absurd h (Nat.not_lt_zero u)
  | n + 1, u, h => by
    show f u ≤ max (z_mx f n) (f n)
    by_cases e : u = n
    · rw [e]; exact Nat.le_max_right _ _
    · exact Nat.le_trans (z_mx_ge n u (by omega)) (Nat.le_max_left _ _)
theorem z_mx_ex {f : Nat → Nat} : ∀ n, z_mx f n = 0 ∨ ∃ u, u < n ∧ z_mx f n = f u
  | 0 => Or.inl rfl
  | n + 1 => by
    rcases Nat.le_total (z_mx f n) (f n) with h | h
    · exact Or.inr ⟨n, by omega, Nat.max_eq_right h⟩
    · have e : z_mx f (n + 1) = z_mx f n := Nat.max_eq_left h
      rw [e]
      rcases z_mx_ex (f := f) n with q | ⟨u, q1, q2⟩
      · exact Or.inl q
      · exact Or.inr ⟨u, by omega, q2⟩
section LK
variable {T Z : Nat → Nat → Int32} {g : Nat → Nat → Nat} {b e : Nat → Nat}
theorem z_Z.row {Z' : Nat → Nat → Int32} (h : z_Z Z g b e) (h0 : Z' 0 = Z 0) (h1 : Z' 1 = Z 1) : z_Z Z' g b e := by
  unfold z_Z z_sp at h ⊢
  rw [h0, h1]; exact h
theorem z_Z.ok (h : z_Z Z g b e) {s t : Nat} (hs : s < 48) (ht : t ≤ 60) : z_ok g (s / 4) t (s % 4) = true ↔ b s ≤ t ∧ t < e s := by
  have q := h.iff (w := s / 4) (d := s % 4) (t := t) (by omega) ht (by omega)
  rw [show 4 * (s / 4) + s % 4 = s by omega] at q
  exact q
theorem e_wipeZ (Z : Nat → Nat → Int32) : ∃ Z', cd_iter cd_N f_X2_mostLeft_b2 ((0 : Int32), Z) = some Z' ∧ Z' 0 = Z 0 ∧ Z' 1 = Z 1 ∧ ∀ j, j < 62 → Z' 2 j = 0 := by
  refine cd_upto' 62 (fun i z => z 0 = Z 0 ∧ z 1 = Z 1 ∧ ∀ j, j < i → z 2 j = 0) (by decide) (fun i z hi q => ⟨cd_set z 2 i 0, ?_, ?_, ?_, fun j hj => ?_⟩) _ (fun z q => ⟨z, ?_, q⟩) ⟨rfl, rfl, fun j hj => absurd hj (Nat.not_lt_zero j)⟩
  · unfold f_X2_mostLeft_b2
    dsimp only
    rw [q_l 62, if_neg (nI_ge hi (by decide)), cd_ix_nI hi (by decide), Option.bind_some, nI_1]
  · rw [cd_set_n _ _ (by decide)]; exact q.1
  · rw [cd_set_n _ _ (by decide)]; exact q.2.1
  · rw [cd_set_s]
    by_cases ej : j = i
    · rw [ej, pk_us]
    · rw [pk_un ej]; exact q.2.2 j (by omega)
  · unfold f_X2_mostLeft_b2
    dsimp only
    rw [q_l 62, if_pos (nI_le (Nat.le_refl _) (by decide))]
theorem e_spans (h : z_Z Z g b e) {c : Nat} (hc : c < 12) (h2 : ∀ j, j < 62 → Z 2 j = 0) : ∃ Z', cd_iter cd_N (f_X2_mostLeft_b38 (nI c)) ((0 : Int32), (0 : Int32), Z) = some (nI (q_sum (fun s => if z_re (s / 4) (s % 4) c = true then 0 else e s - b s) 48), Z') ∧ Z' 0 = Z 0 ∧ Z' 1 = Z 1 ∧ ∀ t, t ≤ 60 → i_sum (Z' 2) (t + 1) = nI (z_A g c t) := by
  have k : ∃ r, cd_iter cd_N (f_X2_mostLeft_b38 (nI c)) (nI 0, nI 0, Z) = some r ∧ r.1 = nI (q_sum (fun s => if z_re (s / 4) (s % 4) c = true then 0 else e s - b s) 48) ∧ r.2 0 = Z 0 ∧ r.2 1 = Z 1 ∧ ∀ t, t ≤ 60 → i_sum (r.2 2) (t + 1) = nI (z_A g c t) := by
    refine cd_hoare (fun m y => ∃ s Y, m + s = 48 ∧ y = (nI (q_sum (fun s => if z_re (s / 4) (s % 4) c = true then 0 else e s - b s) s), nI s, Y) ∧ Y 0 = Z 0 ∧ Y 1 = Z 1 ∧ ∀ t, t ≤ 60 → i_sum (Y 2) (t + 1) = nI (q_cnt (fun s => z_re (s / 4) (s % 4) c && z_ok g (s / 4) t (s % 4)) s)) _ ?_ cd_N 48 _ (by decide) ⟨0, Z, rfl, rfl, rfl, rfl, fun t ht => i_sum_0 _ (fun i hi => h2 i (by omega))⟩
    rintro m y ⟨s, Y, hm, rfl, y0, y1, y2⟩
    by_cases hs : s < 48
    · have hY := h.row y0 y1
      obtain ⟨s0, s1, s2, s3, -⟩ := hY s hs
      have su : ∀ x, q_sum (fun s => if z_re (s / 4) (s % 4) c = true then 0 else e s - b s) (s + 1) = x ↔ q_sum (fun s => if z_re (s / 4) (s % 4) c = true then 0 else e s - b s) s + (if z_re (s / 4) (s % 4) c = true then 0 else e s - b s) = x := fun x => Iff.rfl
      have cs : ∀ t, q_cnt (fun s => z_re (s / 4) (s % 4) c && z_ok g (s / 4) t (s % 4)) (s + 1) = q_cnt (fun s => z_re (s / 4) (s % 4) c && z_ok g (s / 4) t (s % 4)) s + (if (z_re (s / 4) (s % 4) c && z_ok g (s / 4) t (s % 4)) = true then 1 else 0) := fun t => rfl
      by_cases hr : z_re (s / 4) (s % 4) c = true
      · have e1 : q_sum (fun s => if z_re (s / 4) (s % 4) c = true then 0 else e s - b s) (s + 1) = q_sum (fun s => if z_re (s / 4) (s % 4) c = true then 0 else e s - b s) s := (su _).mpr (by rw [if_pos hr]; rfl)
        by_cases hbe : e s ≤ b s
        · refine Or.inr ⟨m - 1, (nI (q_sum (fun s => if z_re (s / 4) (s % 4) c = true then 0 else e s - b s) (s + 1)), nI (s + 1), Y), by omega, ?_, s + 1, Y, by omega, rfl, y0, y1, fun t ht => ?_⟩
          · unfold f_X2_mostLeft_b38
            dsimp only
            rw [q_l 48, if_neg (nI_ge hs (by decide)), e_reaches hs hc, Option.bind_some, hr, if_neg q_bt, hY.cnt hs, Option.bind_some, if_pos ((q_pos0 (by omega)).mpr (by omega)), nI_1, e1]
          · rw [y2 t ht, cs t, if_neg (fun q => ?_), Nat.add_zero]
            rw [Bool.and_eq_true] at q
            have := (h.ok hs ht).mp q.2
            omega
        · have ra : cd_rd (Y 2) 62 (nI (b s)) = some (Y 2 (b s)) := cd_rd_nI (by omega) (by decide)
          have ia : cd_ix 62 (nI (b s)) = some (b s) := cd_ix_nI (by omega) (by decide)
          have rb : cd_rd (upd (Y 2) (b s) (Y 2 (b s) + 1)) 62 (nI (e s)) = some (upd (Y 2) (b s) (Y 2 (b s) + 1) (e s)) := cd_rd_nI (by omega) (by decide)
          have ib : cd_ix 62 (nI (e s)) = some (e s) := cd_ix_nI (by omega) (by decide)
          refine Or.inr ⟨m - 1, (nI (q_sum (fun s => if z_re (s / 4) (s % 4) c = true then 0 else e s - b s) (s + 1)), nI (s + 1), cd_set (cd_set Y 2 (b s) (Y 2 (b s) + 1)) 2 (e s) (upd (Y 2) (b s) (Y 2 (b s) + 1) (e s) - 1)), by omega, ?_, s + 1, _, by omega, rfl, ?_, ?_, fun t ht => ?_⟩
          · unfold f_X2_mostLeft_b38
            dsimp only
            rw [q_l 48, if_neg (nI_ge hs (by decide)), e_reaches hs hc, Option.bind_some, hr, if_neg q_bt, hY.cnt hs, Option.bind_some, if_neg (fun q => hbe (by have := (q_pos0 (by omega)).mp q; omega)), cd_rd_nI hs (by decide), Option.bind_some, s0, ra, Option.bind_some, ia, Option.bind_some, cd_rd_nI hs (by decide), Option.bind_some, s1, z_m1_1, rb, Option.bind_some, ib, Option.bind_some, nI_1, e1]
          · rw [cd_set_n _ _ (by decide), cd_set_n _ _ (by decide)]; exact y0
          · rw [cd_set_n _ _ (by decide), cd_set_n _ _ (by decide)]; exact y1
          · rw [cd_set_s, cd_set_s, Int32.sub_eq_add_neg, i_sum_upd, i_sum_upd, y2 t ht, cs t, hr, Bool.true_and]
            have q := h.ok (s := s) (t := t) hs ht
            by_cases h1 : b s < t + 1
            · rw [if_pos h1, nI_1]
              by_cases h2 : e s < t + 1
              · rw [if_pos h2, nI_dec, if_neg (fun x => by have := q.mp x; omega)]; rfl
              · rw [if_neg h2, Int32.add_zero, if_pos (q.mpr (by omega))]
            · rw [if_neg h1, if_neg (by omega), Int32.add_zero, Int32.add_zero, if_neg (fun x => by have := q.mp x; omega)]; rfl
      · have hr' : z_re (s / 4) (s % 4) c = false := by cases q : z_re (s / 4) (s % 4) c; rfl; exact absurd q hr
        have e1 : q_sum (fun s => if z_re (s / 4) (s % 4) c = true then 0 else e s - b s) (s + 1) = q_sum (fun s => if z_re (s / 4) (s % 4) c = true then 0 else e s - b s) s + (e s - b s) := (su _).mpr (by rw [if_neg hr])
        refine Or.inr ⟨m - 1, (nI (q_sum (fun s => if z_re (s / 4) (s % 4) c = true then 0 else e s - b s) (s + 1)), nI (s + 1), Y), by omega, ?_, s + 1, Y, by omega, rfl, y0, y1, fun t ht => ?_⟩
        · unfold f_X2_mostLeft_b38
          dsimp only
          rw [q_l 48, if_neg (nI_ge hs (by decide)), e_reaches hs hc, Option.bind_some, hr', if_pos q_bf, hY.cnt hs, Option.bind_some, nI_add, nI_1, e1]
        · rw [y2 t ht, cs t, hr', Bool.false_and, if_neg q_ft, Nat.add_zero]
    · have es : s = 48 := by omega
      subst es
      refine Or.inl ⟨(nI (q_sum (fun s => if z_re (s / 4) (s % 4) c = true then 0 else e s - b s) 48), Y), ?_, rfl, y0, y1, y2⟩
      unfold f_X2_mostLeft_b38
      dsimp only
      rw [q_l 48, if_pos (nI_le (Nat.le_refl _) (by decide))]
  obtain ⟨r, k1, k2, k3, k4, k5⟩ := k
  refine ⟨r.2, ?_, k3, k4, k5⟩
  rw [← k2]
  exact k1
theorem z_A_le (g : Nat → Nat → Nat) (c t : Nat) : z_A g c t ≤ 48 := q_cnt_le _ 48
theorem e_mostLeft (hT : q_T T g) (hg : q_ok g) (h : z_Z Z g b e) {c : Nat} (hc : c < 12) : ∃ r Z', f_X2_mostLeft (nI c) Z T = some (nI r, Z') ∧ z_Z Z' g b e ∧ r ≤ 12000 ∧ (∀ m, m ≤ z_B g c → z_N g c m ≤ r) ∧ ∃ m, m ≤ z_B g c ∧ r = z_N g c m := by
  obtain ⟨Z1, a1, a2, a3, a4⟩ := e_wipeZ Z
  have h1 := h.row a2 a3
  obtain ⟨Z2, c1, c2, c3, c4⟩ := e_spans h1 hc a4
  have h2 := h1.row c2 c3
  have hl : q_last g c ≤ 999 := q_lasts_le hg hc (g 1 c)
  have hB : z_B g c ≤ 60 := Nat.min_le_left _ _
  have hacc : q_sum (fun s => if z_re (s / 4) (s % 4) c = true then 0 else e s - b s) 48 ≤ 61 * 48 := q_sum_le 48 fun s hs => by
    have := (h s hs).2.2.2.1
    split <;> omega
  have hsu : ∀ t, t ≤ 61 → q_sum (fun u => if z_B g c ≤ u then z_A g c u else 0) t ≤ 48 * t := fun t _ => q_sum_le t fun u _ => by
    have := z_A_le g c u
    split <;> omega
  have hmx : ∀ t, z_mx (fun u => if u < z_B g c then z_A g c u else 0) t ≤ 48 := fun t => by
    rcases z_mx_ex (f := fun u => if u < z_B g c then z_A g c u else 0) t with q | ⟨u, _, q⟩
    · omega
    · rw [q]
      have := z_A_le g c u
      split <;> omega
  have k : ∃ r, cd_iter cd_N (f_X2_mostLeft_b126 (nI (q_last g c)) (nI (q_sum (fun s => if z_re (s / 4) (s % 4) c = true then 0 else e s - b s) 48), Z2)) (nI (q_sum (fun s => if z_re (s / 4) (s % 4) c = true then 0 else e s - b s) 48 + 0), nI 0, (0 : Int32), nI 0) = some r ∧ r = (nI (z_N g c (z_B g c)), nI (z_mx (fun u => if u < z_B g c then z_A g c u else 0) 61)) := by
    refine cd_hoare (fun m y => ∃ t, m + t = 61 ∧ y = (nI (q_sum (fun s => if z_re (s / 4) (s % 4) c = true then 0 else e s - b s) 48 + q_sum (fun u => if z_B g c ≤ u then z_A g c u else 0) t), nI (z_mx (fun u => if u < z_B g c then z_A g c u else 0) t), i_sum (Z2 2) t, nI t)) _ ?_ cd_N 61 _ (by decide) ⟨0, rfl, rfl⟩
    rintro m y ⟨t, hm, rfl⟩
    by_cases ht : t ≤ 60
    · have hA := z_A_le g c t
      have hi : i_sum (Z2 2) t + Z2 2 t = nI (z_A g c t) := c4 t ht
      have hmin : cd_min (60 : Int32) (nI (q_last g c)) = nI (z_B g c) := w_min (a := 60) (by decide) (by omega)
      have hm1 := hmx t
      refine Or.inr ⟨m - 1, (nI (q_sum (fun s => if z_re (s / 4) (s % 4) c = true then 0 else e s - b s) 48 + q_sum (fun u => if z_B g c ≤ u then z_A g c u else 0) (t + 1)), nI (z_mx (fun u => if u < z_B g c then z_A g c u else 0) (t + 1)), i_sum (Z2 2) (t + 1), nI (t + 1)), by omega, ?_, t + 1, by omega, rfl⟩
      have s1 : q_sum (fun u => if z_B g c ≤ u then z_A g c u else 0) (t + 1) = q_sum (fun u => if z_B g c ≤ u then z_A g c u else 0) t + (if z_B g c ≤ t then z_A g c t else 0) := rfl
      have s2 : z_mx (fun u => if u < z_B g c then z_A g c u else 0) (t + 1) = max (z_mx (fun u => if u < z_B g c then z_A g c u else 0) t) (if t < z_B g c then z_A g c t else 0) := rfl
      have s3 : i_sum (Z2 2) (t + 1) = nI (z_A g c t) := hi
      rw [s1, s2, s3]
      unfold f_X2_mostLeft_b126
      dsimp only
      rw [q_l 60, if_neg (nI_nlt ht (by omega)), cd_rd_nI (show t < 62 by omega) (by decide), Option.bind_some, hi, ← q_l 60, hmin, nI_1]
      by_cases hb : z_B g c ≤ t
      · rw [if_pos (nI_le hb (by omega)), if_pos hb, if_neg (by omega), nI_add, Nat.max_eq_left (Nat.zero_le _), Nat.add_assoc]
      · rw [if_neg (nI_ge (by omega) (by omega)), if_neg hb, if_pos (by omega), w_max (by omega) (by omega)]
        rfl
    · have et : t = 61 := by omega
      subst et
      refine Or.inl ⟨(nI (z_N g c (z_B g c)), nI (z_mx (fun u => if u < z_B g c then z_A g c u else 0) 61)), ?_, rfl⟩
      unfold f_X2_mostLeft_b126
      dsimp only
      rw [q_l 60, if_pos (nI_lt (by decide) (by decide)), z_N_B h]
  obtain ⟨r, k1, rfl⟩ := k
  have hN : z_N g c (z_B g c) ≤ 12000 := q_cnt_le _ _
  have hm2 := hmx 61
  refine ⟨max (z_mx (fun u => if u < z_B g c then z_A g c u else 0) 61) (z_N g c (z_B g c)), Z2, ?_, h2, by omega, fun m hm => ?_, ?_⟩
  · unfold f_X2_mostLeft
    rw [a1, Option.bind_some, e_minutesLeft hT hg hc, Option.bind_some, c1, Option.bind_some]
    rw [show cd_iter cd_N (f_X2_mostLeft_b126 (nI (q_last g c)) (nI (q_sum (fun s => if z_re (s / 4) (s % 4) c = true then 0 else e s - b s) 48), Z2)) ((nI (q_sum (fun s => if z_re (s / 4) (s % 4) c = true then 0 else e s - b s) 48), Z2).1, (0 : Int32), (0 : Int32), (0 : Int32)) = some (nI (z_N g c (z_B g c)), nI (z_mx (fun u => if u < z_B g c then z_A g c u else 0) 61)) from k1, Option.bind_some]
    dsimp only
    rw [w_max (by omega) (by omega)]
  · by_cases hb : m < z_B g c
    · rw [z_N_lt hb]
      have q := z_mx_ge (f := fun u => if u < z_B g c then z_A g c u else 0) 61 m (by omega)
      try dsimp only at q
      rw [if_pos hb] at q
      omega
    · rw [show m = z_B g c by omega]
      omega
  · rcases Nat.le_total (z_mx (fun u => if u < z_B g c then z_A g c u else 0) 61) (z_N g c (z_B g c)) with q | q
    · exact ⟨z_B g c, Nat.le_refl _, Nat.max_eq_right q⟩
    · rcases z_mx_ex (f := fun u => if u < z_B g c then z_A g c u else 0) 61 with x | ⟨u, x1, x2⟩
      · exact ⟨z_B g c, Nat.le_refl _, by omega⟩
      · by_cases hb : u < z_B g c
        · refine ⟨u, by omega, ?_⟩
          rw [z_N_lt hb, Nat.max_eq_left q, x2, if_pos hb]
        · rw [if_neg hb] at x2
          exact ⟨z_B g c, Nat.le_refl _, by omega⟩
end LK
