/-! the candle to look at next: the reference, and both -/
def z_l (g : Nat → Nat → Nat) (c z : Nat) : Nat := z_lo g (z / 1000) (z / 10 % 100) (z % 10) c
def z_e (g : Nat → Nat → Nat) (c z : Nat) : Nat := z_ef g c (z / 1000) (z / 10 % 100) (z % 10)
def z_ar (g : Nat → Nat → Nat) (c L n : Nat) : Nat := q_cnt (fun z => z_P g z && decide (z_l g c z = L)) n
theorem z_P_v {g : Nat → Nat → Nat} {z : Nat} (h : z_P g z = true) : z / 10 % 100 ≤ 60 := by
  unfold z_P at h
  rw [Bool.and_eq_true, Bool.and_eq_true] at h
  exact of_decide_eq_true h.1.1
theorem z_N_eq (g : Nat → Nat → Nat) (c m : Nat) : z_N g c m = q_cnt (fun z => z_P g z && decide (z_e g c z = m)) 12000 := by
  unfold z_N
  refine q_cnt_congr 12000 fun z _ => ?_
  unfold z_G z_P z_e
  dsimp only
  generalize (decide (z / 10 % 100 ≤ 60) && decide (z % 10 ≤ 3)) = v
  rw [Bool.and_assoc]
theorem z_ar_eq {g : Nat → Nat → Nat} {c z0 : Nat} (h : z_P g z0 = true) : z_ar g c (z_l g c z0) 12000 = z_N g c (z_e g c z0) := by
  rw [z_N_eq]
  refine q_cnt_congr 12000 fun z _ => ?_
  try dsimp only
  cases hz : z_P g z
  · rfl
  · rw [Bool.true_and, Bool.true_and]
    have e1 : z_l g c z = min (g 0 c) (z_bu g c * z_e g c z) := z_lo_ef g c _ _ _ (z_P_v hz)
    have e2 : z_l g c z0 = min (g 0 c) (z_bu g c * z_e g c z0) := z_lo_ef g c _ _ _ (z_P_v h)
    have l1 : z_e g c z ≤ q_last g c := by unfold z_e z_ef z_B; omega
    have l2 : z_e g c z0 ≤ q_last g c := by unfold z_e z_ef z_B; omega
    by_cases q : z_e g c z = z_e g c z0
    · rw [decide_eq_true q, decide_eq_true (by rw [e1, e2, q])]
    · rw [decide_eq_false q, decide_eq_false (fun x => q (z_inj l1 l2 (by rw [← e1, ← e2]; exact x)))]
/-- how many are left at the most -/
def z_V (g : Nat → Nat → Nat) (c r : Nat) : Prop := r ≤ 12000 ∧ (∀ m, m ≤ z_B g c → z_N g c m ≤ r) ∧ ∃ m, m ≤ z_B g c ∧ r = z_N g c m
theorem z_V_un {g : Nat → Nat → Nat} {c r r' : Nat} (h : z_V g c r) (h' : z_V g c r') : r = r' := by
  obtain ⟨-, h1, m, h2, h3⟩ := h
  obtain ⟨-, k1, n, k2, k3⟩ := h'
  have a := h1 n k2
  have a' := k1 m h2
  omega
theorem z_V_pos {g : Nat → Nat → Nat} {c r : Nat} (h : z_V g c r) : 0 < r ↔ 0 < q_cnt (z_P g) 12000 := by
  obtain ⟨-, h1, m, h2, h3⟩ := h
  constructor
  · intro q
    have : z_N g c m ≤ q_cnt (z_P g) 12000 := by
      rw [z_N_eq]
      exact q_cnt_mono 12000 fun z _ e => (Bool.and_eq_true _ _ ▸ e).1
    omega
  · intro q
    obtain ⟨z, z1, z2⟩ := q_cnt_ex 12000 q
    have l : z_e g c z ≤ z_B g c := Nat.min_le_left _ _
    have a := h1 _ l
    have b : 0 < z_N g c (z_e g c z) := by
      rw [z_N_eq]
      have := q_cnt_mono (p := fun x => decide (x = z)) (q := fun x => z_P g x && decide (z_e g c x = z_e g c z)) 12000 fun x _ e => by
        have e' : x = z := of_decide_eq_true e
        rw [e', z2, decide_eq_true rfl]; rfl
      rw [q_cnt_pt, if_pos z1] at this
      omega
    omega
section LK6
variable {T Z M : Nat → Nat → Int32} {g : Nat → Nat → Nat} {b e : Nat → Nat}
theorem z_V_of {c best r : Nat} (hg : q_ok g) (hc : c < 12) (hr : z_V g c r) (h1 : ∀ L, L < 1000 → z_ar g c L 12000 ≤ best) (h2 : best = 0 ∨ ∃ L, L < 1000 ∧ z_ar g c L 12000 = best) : best = r := by
  obtain ⟨-, k1, m, k2, k3⟩ := hr
  refine Nat.le_antisymm ?_ ?_
  · rcases h2 with q | ⟨L, q1, q2⟩
    · omega
    · rcases Nat.eq_zero_or_pos best with q | q
      · omega
      · obtain ⟨z, z1, z2⟩ := q_cnt_ex 12000 (show 0 < z_ar g c L 12000 by omega)
        rw [Bool.and_eq_true] at z2
        have z3 : z_l g c z = L := of_decide_eq_true z2.2
        rw [← q2, ← z3, z_ar_eq z2.1]
        exact k1 _ (Nat.min_le_left _ _)
  · rcases Nat.eq_zero_or_pos r with q | q
    · omega
    · have q' : 0 < z_N g c m := by omega
      rw [z_N_eq] at q'
      obtain ⟨z, z1, z2⟩ := q_cnt_ex 12000 q'
      rw [Bool.and_eq_true] at z2
      have z3 : z_e g c z = m := of_decide_eq_true z2.2
      rw [k3, ← z3, ← z_ar_eq z2.1]
      exact h1 _ (Nat.lt_succ_of_le (z_lo_le hg hc _ _ _))
theorem e6_wipe (M : Nat → Nat → Int32) : ∃ M', cd_iter cd_N f_X6_look_b38 ((0 : Int32), M) = some M' ∧ q_same M M' ∧ M' 16 = M 16 ∧ ∀ j, j < 1000 → M' 17 j = 0 := by
  refine cd_upto' 1000 (fun i z => q_same M z ∧ z 16 = M 16 ∧ ∀ j, j < i → z 17 j = 0) (by decide) (fun i z hi q => ⟨cd_set z 17 i 0, ?_, q.1.tr (q_same.of fun k hk => cd_set_n _ _ (by omega)), ?_, fun j hj => ?_⟩) _ (fun z q => ⟨z, ?_, q⟩) ⟨q_same.rf M, rfl, fun j hj => absurd hj (Nat.not_lt_zero j)⟩
  · unfold f_X6_look_b38
    dsimp only
    rw [q_l 1000, if_neg (nI_ge hi (by decide)), cd_ix_nI hi (by decide), Option.bind_some, nI_1]
  · rw [cd_set_n _ _ (by decide)]; exact q.2.1
  · rw [cd_set_s]
    by_cases ej : j = i
    · rw [ej, pk_us]
    · rw [pk_un ej]; exact q.2.2 j (by omega)
  · unfold f_X6_look_b38
    dsimp only
    rw [q_l 1000, if_pos (nI_le (Nat.le_refl _) (by decide))]
theorem e6_left (hX : q_X T M g) (h16 : ∀ c, c < 12 → M 16 c = nI (z_bu g c)) (h17 : ∀ j, j < 1000 → M 17 j = 0) {c : Nat} (hc : c < 12) (za zb : Int32) (zM : Nat → Nat → Int32) : ∃ best M', cd_iter cd_N (f_X6_look_b63 (za, zb, nI c, zM)) ((0 : Int32), (0 : Int32), M) = some (nI best, M') ∧ q_same M M' ∧ M' 16 = M 16 ∧ best ≤ 12000 ∧ (∀ L, L < 1000 → z_ar g c L 12000 ≤ best) ∧ (best = 0 ∨ ∃ L, L < 1000 ∧ z_ar g c L 12000 = best) := by
  have hg := hX.2.2.2.2
  have k : ∃ r, cd_iter cd_N (f_X6_look_b63 (za, zb, nI c, zM)) (nI 0, nI 0, M) = some r ∧ ∃ best, r.1 = nI best ∧ q_same M r.2 ∧ r.2 16 = M 16 ∧ best ≤ 12000 ∧ (∀ L, L < 1000 → z_ar g c L 12000 ≤ best) ∧ (best = 0 ∨ ∃ L, L < 1000 ∧ z_ar g c L 12000 = best) := by
    refine cd_hoare (fun m y => ∃ z best Y, m + z = 12000 ∧ y = (nI best, nI z, Y) ∧ q_same M Y ∧ Y 16 = M 16 ∧ best ≤ z ∧ (∀ L, L < 1000 → Y 17 L = nI (z_ar g c L z)) ∧ (∀ L, L < 1000 → z_ar g c L z ≤ best) ∧ (best = 0 ∨ ∃ L, L < 1000 ∧ z_ar g c L z = best)) _ ?_ cd_N 12000 _ (by decide) ⟨0, 0, M, rfl, rfl, q_same.rf M, rfl, Nat.le_refl _, h17, fun L _ => Nat.le_refl _, Or.inl rfl⟩
    rintro m y ⟨z, best, Y, hm, rfl, y1, y2, y3, y4, y5, y6⟩
    by_cases hz : z < 12000
    · have hX1 := hX.same y1
      have h16' : ∀ c, c < 12 → Y 16 c = nI (z_bu g c) := fun c hc => by rw [y2]; exact h16 c hc
      have cs : ∀ L, z_ar g c L (z + 1) = z_ar g c L z + (if (z_P g z && decide (z_l g c z = L)) = true then 1 else 0) := fun L => rfl
      by_cases hp : z_P g z = true
      · have hlo : z_l g c z ≤ 999 := z_lo_le hg hc _ _ _
        have hle : z_ar g c (z_l g c z) z ≤ z := q_cnt_le _ _
        have c1 : z_ar g c (z_l g c z) (z + 1) = z_ar g c (z_l g c z) z + 1 := by rw [cs, hp, decide_eq_true rfl]; rfl
        have c0 : ∀ L, ¬ L = z_l g c z → z_ar g c L (z + 1) = z_ar g c L z := fun L hL => by rw [cs, hp, decide_eq_false (fun q => hL q.symm)]; rfl
        have row : ∀ L, L < 1000 → cd_set Y 17 (z_l g c z) (nI (z_ar g c (z_l g c z) z + 1)) 17 L = nI (z_ar g c L (z + 1)) := fun L hL => by
          rw [cd_set_s]
          by_cases el : L = z_l g c z
          · rw [el, pk_us, c1]
          · rw [pk_un el, c0 L el]; exact y4 L hL
        have sm : q_same M (cd_set Y 17 (z_l g c z) (nI (z_ar g c (z_l g c z) z + 1))) := y1.tr (q_same.of fun k hk => cd_set_n _ _ (by omega))
        have s16 : cd_set Y 17 (z_l g c z) (nI (z_ar g c (z_l g c z) z + 1)) 16 = M 16 := by rw [cd_set_n _ _ (by decide)]; exact y2
        have bd : f_X6_look_b63 (za, zb, nI c, zM) (nI best, nI z, Y) = if z_ar g c (z_l g c z) z + 1 ≤ best then some (.inr (nI best, nI (z + 1), cd_set Y 17 (z_l g c z) (nI (z_ar g c (z_l g c z) z + 1)))) else some (.inr (nI (z_ar g c (z_l g c z) z + 1), nI (z + 1), cd_set Y 17 (z_l g c z) (nI (z_ar g c (z_l g c z) z + 1)))) := by
          have lb : f_X6_lostBy (nI z) (nI c) Y = some (nI (z_l g c z)) := e6_lostBy hX1 h16' hz hc (z_P_v hp)
          have r1 : cd_rd (Y 17) 1000 (nI (z_l g c z)) = some (nI (z_ar g c (z_l g c z) z)) := by rw [cd_rd_nI (by omega) (by decide), y4 _ (by omega)]
          have i1 : cd_ix 1000 (nI (z_l g c z)) = some (z_l g c z) := cd_ix_nI (by omega) (by decide)
          have r2 : cd_rd (upd (Y 17) (z_l g c z) (nI (z_ar g c (z_l g c z) z + 1))) 1000 (nI (z_l g c z)) = some (nI (z_ar g c (z_l g c z) z + 1)) := by rw [cd_rd_nI (by omega) (by decide), pk_us]
          unfold f_X6_look_b63
          dsimp only
          rw [q_l 12000, if_neg (nI_ge hz (by decide)), e6_isSneeze hX1 h16' hz, Option.bind_some, hp, if_neg q_bt, lb, Option.bind_some, r1, Option.bind_some, i1, Option.bind_some, nI_1, nI_1, r2, Option.bind_some, Option.bind_some]
          by_cases h : z_ar g c (z_l g c z) z + 1 ≤ best
          · rw [if_pos h, if_pos (nI_le h (by omega))]
          · rw [if_neg h, if_neg (nI_ge (by omega) (by omega))]
        by_cases h : z_ar g c (z_l g c z) z + 1 ≤ best
        · rw [if_pos h] at bd
          refine Or.inr ⟨m - 1, _, by omega, bd, z + 1, best, _, by omega, rfl, sm, s16, by omega, row, fun L hL => ?_, ?_⟩
          · by_cases el : L = z_l g c z
            · rw [el, c1]; exact h
            · rw [c0 L el]; exact y5 L hL
          · rcases y6 with q | ⟨L, q1, q2⟩
            · exact Or.inl q
            · by_cases el : L = z_l g c z
              · rw [el] at q2; omega
              · exact Or.inr ⟨L, q1, by rw [c0 L el]; exact q2⟩
        · rw [if_neg h] at bd
          refine Or.inr ⟨m - 1, _, by omega, bd, z + 1, _, _, by omega, rfl, sm, s16, by omega, row, fun L hL => ?_, Or.inr ⟨z_l g c z, by omega, c1⟩⟩
          by_cases el : L = z_l g c z
          · rw [el, c1]; exact Nat.le_refl _
          · rw [c0 L el]; have := y5 L hL; omega
      · have hp' : z_P g z = false := by cases q : z_P g z; rfl; exact absurd q hp
        have c0 : ∀ L, z_ar g c L (z + 1) = z_ar g c L z := fun L => by rw [cs, hp']; rfl
        have bd : f_X6_look_b63 (za, zb, nI c, zM) (nI best, nI z, Y) = some (.inr (nI best, nI (z + 1), Y)) := by
          unfold f_X6_look_b63
          dsimp only
          rw [q_l 12000, if_neg (nI_ge hz (by decide)), e6_isSneeze hX1 h16' hz, Option.bind_some, hp', if_pos q_bf, nI_1]
        refine Or.inr ⟨m - 1, _, by omega, bd, z + 1, best, Y, by omega, rfl, y1, y2, by omega, fun L hL => by rw [c0 L]; exact y4 L hL, fun L hL => by rw [c0 L]; exact y5 L hL, ?_⟩
        rcases y6 with q | ⟨L, q1, q2⟩
        · exact Or.inl q
        · exact Or.inr ⟨L, q1, by rw [c0 L]; exact q2⟩
    · have ez : z = 12000 := by omega
      subst ez
      have bd : ∀ f : Int32, f_X6_look_b63 (za, zb, nI c, zM) (f, nI 12000, Y) = some (.inl (f, Y)) := fun f => by
        unfold f_X6_look_b63
        dsimp only
        rw [q_l 12000, if_pos (nI_le (Nat.le_refl _) (by decide))]
      exact Or.inl ⟨_, bd _, best, rfl, y1, y2, y3, y5, y6⟩
  obtain ⟨r, k1, best, k2, k3⟩ := k
  refine ⟨best, r.2, ?_, k3⟩
  rw [← k2]
  exact k1
/-- the first with the fewest -/
def z_W (g : Nat → Nat → Nat) (n a v : Nat) : Prop := a < n ∧ z_V g a v ∧ ∀ k, k < n → ∀ r, z_V g k r → v ≤ r ∧ (k < a → v < r)
theorem z_W_s {n a v r : Nat} (h : z_W g n a v) (hr : z_V g n r) : (v ≤ r → z_W g (n + 1) a v) ∧ (¬ v ≤ r → z_W g (n + 1) n r) := by
  obtain ⟨h1, h2, h3⟩ := h
  constructor
  · intro q
    refine ⟨by omega, h2, fun k hk r' hr' => ?_⟩
    by_cases ek : k = n
    · subst ek
      rw [← z_V_un hr hr']
      exact ⟨q, fun x => by omega⟩
    · exact h3 k (by omega) r' hr'
  · intro q
    refine ⟨by omega, hr, fun k hk r' hr' => ?_⟩
    by_cases ek : k = n
    · subst ek
      rw [← z_V_un hr hr']
      exact ⟨Nat.le_refl _, fun x => by omega⟩
    · have := (h3 k (by omega) r' hr').1
      exact ⟨by omega, fun _ => by omega⟩
theorem z_W_1 {r : Nat} (hr : z_V g 0 r) : z_W g 1 0 r := ⟨by decide, hr, fun k hk r' hr' => by
  have ek : k = 0 := by omega
  subst ek
  rw [← z_V_un hr hr']
  exact ⟨Nat.le_refl _, fun x => by omega⟩⟩
theorem z_W_un {n a v a' v' : Nat} (h : z_W g n a v) (h' : z_W g n a' v') : a = a' ∧ v = v' := by
  obtain ⟨h1, h2, h3⟩ := h
  obtain ⟨k1, k2, k3⟩ := h'
  have x := h3 a' k1 v' k2
  have y := k3 a h1 v h2
  have ev : v = v' := by omega
  refine ⟨?_, ev⟩
  rcases Nat.lt_trichotomy a a' with q | q | q
  · have := y.2 q; omega
  · exact q
  · have := x.2 q; omega
theorem e_lookAll (hT : q_T T g) (hg : q_ok g) (h : z_Z Z g b e) : ∃ a v Z', ((f_X2_mostLeft (0 : Int32) Z T).bind (fun r6 => cd_iter cd_N (f_X5_look_b54 T) ((0 : Int32), r6.1, (1 : Int32), r6.2))) = some (nI a, nI v, Z') ∧ z_W g 12 a v := by
  obtain ⟨r0, Z1, a1, a2, a3⟩ := e_mostLeft hT hg h (c := 0) (by decide)
  have k : ∃ r, cd_iter cd_N (f_X5_look_b54 T) (nI 0, nI r0, nI 1, Z1) = some r ∧ ∃ a v, r = (nI a, nI v, r.2.2) ∧ z_W g 12 a v := by
    refine cd_hoare (fun m y => ∃ c a v Y, m + c = 12 ∧ y = (nI a, nI v, nI c, Y) ∧ z_W g c a v ∧ z_Z Y g b e) _ ?_ cd_N 11 _ (by decide) ⟨1, 0, r0, Z1, rfl, rfl, z_W_1 a3, a2⟩
    rintro m y ⟨c, a, v, Y, hm, rfl, hw, hY⟩
    by_cases hc : c < 12
    · obtain ⟨r, Y1, l1, l2, l3⟩ := e_mostLeft hT hg hY hc
      have hv := hw.2.1.1
      have hr := l3.1
      have bd : f_X5_look_b54 T (nI a, nI v, nI c, Y) = if v ≤ r then some (.inr (nI a, nI v, nI (c + 1), Y1)) else some (.inr (nI c, nI r, nI (c + 1), Y1)) := by
        unfold f_X5_look_b54
        dsimp only
        rw [q_l 12, if_neg (nI_ge hc (by decide)), l1, Option.bind_some, nI_1]
        dsimp only
        by_cases q : v ≤ r
        · rw [if_pos q, if_pos (nI_le q (by omega))]
        · rw [if_neg q, if_neg (nI_ge (by omega) (by omega))]
      by_cases q : v ≤ r
      · rw [if_pos q] at bd
        exact Or.inr ⟨m - 1, _, by omega, bd, c + 1, a, v, Y1, by omega, rfl, (z_W_s hw l3).1 q, l2⟩
      · rw [if_neg q] at bd
        exact Or.inr ⟨m - 1, _, by omega, bd, c + 1, c, r, Y1, by omega, rfl, (z_W_s hw l3).2 q, l2⟩
    · have ec : c = 12 := by omega
      subst ec
      refine Or.inl ⟨(nI a, nI v, Y), ?_, a, v, rfl, hw⟩
      unfold f_X5_look_b54
      dsimp only
      rw [q_l 12, if_pos (nI_le (Nat.le_refl _) (by decide))]
  obtain ⟨r, k1, a, v, k2, k3⟩ := k
  refine ⟨a, v, r.2.2, ?_, k3⟩
  rw [show f_X2_mostLeft (0 : Int32) Z T = some (nI r0, Z1) from a1, Option.bind_some, ← k2]
  exact k1
theorem e6_lookAll (hX : q_X T M g) (h16 : ∀ c, c < 12 → M 16 c = nI (z_bu g c)) (hv : ∀ c, c < 12 → ∃ r, z_V g c r) : ∃ M' t, cd_iter cd_N f_X6_look_b25 ((-6 : Int32), (1000000 : Int32), (0 : Int32), M) = some (t.1, t.2, M') ∧ q_same M M' ∧ ((q_cnt (z_P g) 12000 = 0 ∧ t = ((-6 : Int32), nI 1000000)) ∨ (0 < q_cnt (z_P g) 12000 ∧ ∃ a v, t = (nI a, nI v) ∧ z_W g 12 a v)) := by
  have hg := hX.2.2.2.2
  have k : ∃ r, cd_iter cd_N f_X6_look_b25 ((-6 : Int32), nI 1000000, nI 0, M) = some r ∧ q_same M r.2.2 ∧ ((q_cnt (z_P g) 12000 = 0 ∧ (r.1, r.2.1) = ((-6 : Int32), nI 1000000)) ∨ (0 < q_cnt (z_P g) 12000 ∧ ∃ a v, (r.1, r.2.1) = (nI a, nI v) ∧ z_W g 12 a v)) := by
    refine cd_hoare (fun m y => ∃ c p Y, m + c = 12 ∧ y = (p.1, p.2, nI c, Y) ∧ q_same M Y ∧ Y 16 = M 16 ∧ (((q_cnt (z_P g) 12000 = 0 ∨ c = 0) ∧ p = ((-6 : Int32), nI 1000000)) ∨ (0 < q_cnt (z_P g) 12000 ∧ ∃ a v, p = (nI a, nI v) ∧ z_W g c a v))) _ ?_ cd_N 12 _ (by decide) ⟨0, ((-6 : Int32), nI 1000000), M, rfl, rfl, q_same.rf M, rfl, Or.inl ⟨Or.inr rfl, rfl⟩⟩
    rintro m y ⟨c, ⟨pa, pb⟩, Y, hm, rfl, y1, y2, y3⟩
    dsimp only at y3 ⊢
    by_cases hc : c < 12
    · obtain ⟨Y1, w1, w2, w3, w4⟩ := e6_wipe Y
      have hX1 := hX.same (y1.tr w2)
      have h16' : ∀ c, c < 12 → Y1 16 c = nI (z_bu g c) := fun c hc => by rw [w3, y2]; exact h16 c hc
      obtain ⟨best, Y2, l1, l2, l3, l4, l5, l6⟩ := e6_left hX1 h16' w4 hc pa pb Y
      obtain ⟨r, hr⟩ := hv c hc
      have eb := z_V_of hg hc hr l5 l6
      subst eb
      clear l5 l6
      have sm := y1.tr (w2.tr l2)
      have s16 : Y2 16 = M 16 := l3.trans (w3.trans y2)
      have pos := z_V_pos hr
      have bd : f_X6_look_b25 (pa, pb, nI c, Y) = ((if nI best ≤ 0 then some (0 : Int32) else (if pb ≤ nI best then some (0 : Int32) else some (1 : Int32))).bind (fun (x19 : Int32) => ((if x19 = 0 then some pa else some (nI c))).bind (fun (x20 : Int32) => (if x19 = 0 then some (.inr (x20, pb, nI (c + 1), Y2)) else some (.inr (x20, nI best, nI (c + 1), Y2)))))) := by
        unfold f_X6_look_b25
        dsimp only
        rw [q_l 12, if_neg (nI_ge hc (by decide)), w1, Option.bind_some, l1, Option.bind_some, nI_1]
      by_cases hN : q_cnt (z_P g) 12000 = 0
      · have b0 : best = 0 := by omega
        rw [if_pos ((q_pos0 (by omega)).mpr b0), Option.bind_some, if_pos rfl, Option.bind_some, if_pos rfl] at bd
        rcases y3 with ⟨-, y3⟩ | ⟨q, -⟩
        · exact Or.inr ⟨m - 1, _, by omega, bd, c + 1, (pa, pb), Y2, by omega, rfl, sm, s16, Or.inl ⟨Or.inl hN, y3⟩⟩
        · omega
      · have bp : ¬ best = 0 := by omega
        rw [if_neg (fun q => bp ((q_pos0 (by omega)).mp q))] at bd
        rcases y3 with ⟨q, y3⟩ | ⟨-, a, v, y3, y4⟩
        · have c0 : c = 0 := q.resolve_left hN
          subst c0
          cases y3
          have b6 : best < 1000000 := by omega
          rw [if_neg (nI_ge b6 (by decide)), Option.bind_some, if_neg (by decide), Option.bind_some, if_neg (by decide)] at bd
          exact Or.inr ⟨m - 1, _, by omega, bd, 1, (nI 0, nI best), Y2, by omega, rfl, sm, s16, Or.inr ⟨by omega, 0, best, rfl, z_W_1 hr⟩⟩
        · cases y3
          have hvv := y4.2.1.1
          by_cases q : v ≤ best
          · rw [if_pos (nI_le q (by omega)), Option.bind_some, if_pos rfl, Option.bind_some, if_pos rfl] at bd
            exact Or.inr ⟨m - 1, _, by omega, bd, c + 1, (nI a, nI v), Y2, by omega, rfl, sm, s16, Or.inr ⟨by omega, a, v, rfl, (z_W_s y4 hr).1 q⟩⟩
          · rw [if_neg (nI_ge (by omega) (by omega)), Option.bind_some, if_neg (by decide), Option.bind_some, if_neg (by decide)] at bd
            exact Or.inr ⟨m - 1, _, by omega, bd, c + 1, (nI c, nI best), Y2, by omega, rfl, sm, s16, Or.inr ⟨by omega, c, best, rfl, (z_W_s y4 hr).2 q⟩⟩
    · have ec : c = 12 := by omega
      subst ec
      have bd : f_X6_look_b25 (pa, pb, nI 12, Y) = some (.inl (pa, pb, Y)) := by
        unfold f_X6_look_b25
        dsimp only
        rw [q_l 12, if_pos (nI_le (Nat.le_refl _) (by decide))]
      refine Or.inl ⟨_, bd, y1, ?_⟩
      rcases y3 with ⟨q, y3⟩ | y3
      · exact Or.inl ⟨q.resolve_right (by decide), y3⟩
      · exact Or.inr y3
  obtain ⟨r, k1, k2, k3⟩ := k
  exact ⟨r.2.2, (r.1, r.2.1), k1, k2, k3⟩
theorem m_look (hX : q_X T M g) (K Z : Nat → Nat → Int32) (a0 : Int32) : ∃ v Z' M', f_X5_look a0 K T Z = some (v, Z') ∧ f_X6_look a0 M = some (v, M') ∧ q_same M M' := by
  have hg := hX.2.2.2.2
  unfold f_X5_look f_X6_look
  rw [e_within, e_in, q_br, q_br]
  by_cases h1 : 0 ≤ a0 ∧ a0 ≤ 1
  · rw [if_pos h1, if_pos h1]
    obtain ⟨Z1, b, e, f1, f2⟩ := e_fit hX.1 hg Z
    obtain ⟨M1, l1, l2, l3⟩ := e6_layBurns hX
    have hX1 := hX.same l2
    have cap : q_cnt (z_P g) 12000 ≤ 12000 := q_cnt_le _ _
    have hv : ∀ c, c < 12 → ∃ r, z_V g c r := fun c hc => by
      obtain ⟨r, _, _, _, q⟩ := e_mostLeft hX.1 hg f2 hc
      exact ⟨r, q⟩
    obtain ⟨M2, t, t1, t2, t3⟩ := e6_lookAll hX1 l3 hv
    rw [f1, Option.bind_some, e_howManyZ f2, Option.bind_some, l1, Option.bind_some, t1, Option.bind_some]
    rcases t3 with ⟨n0, rfl⟩ | ⟨n0, a, v, rfl, hw⟩
    · rw [if_pos (by rw [n0]; rfl)]
      exact ⟨_, Z1, M2, rfl, rfl, l2.tr t2⟩
    · rw [if_neg (nI_ne0 n0 (by omega))]
      obtain ⟨a', v', Z2, w1, w2⟩ := e_lookAll hX.1 hg f2
      obtain ⟨rfl, rfl⟩ := z_W_un hw w2
      obtain ⟨r6, x1, x2⟩ := cd_bind_some w1
      rw [x1, Option.bind_some, x2, Option.bind_some]
      have ha : a < 12 := hw.1
      dsimp only
      rw [if_neg (nI_pos (by omega))]
      by_cases h0 : a0 = 0
      · simp only [if_pos h0]
        exact ⟨_, Z2, M2, rfl, rfl, l2.tr t2⟩
      · simp only [if_neg h0]
        exact ⟨_, Z2, M2, rfl, rfl, l2.tr t2⟩
  · rw [if_neg h1, if_neg h1]
    exact ⟨_, Z, M, rfl, rfl, q_same.rf M⟩
end LK6
