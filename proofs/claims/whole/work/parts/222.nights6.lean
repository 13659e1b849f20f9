/-! a night in the reference against the same run -/
section NIGHTM
variable {M : Nat → Nat → Int32} {s : Nat → Nat} {n : Nat} {g g0 : Nat → Nat → Nat}
theorem q_0or (x : Int32) : 0 ||| x = x := by
  apply Int32.toBitVec_inj.1
  show 0#32 ||| x.toBitVec = x.toBitVec
  exact BitVec.zero_or
theorem e6_actAt (hd : q_pd s n) (h6 : q_P6 M s n) (hB : q_B (M 1) g) (hC : q_C M g) (hg : q_ok g) {p k a b p' : Nat} (hp : p < n) (hs : q_st s n p = .inr (k, a, b, p')) : ∃ M2, (if nI (s p) = (46 : Int32) then (f_X6_minute (cd_fld M 11 (0 : Int32))).bind (fun r15 => some ((nI p + (1 : Int32)), (cd_fld r15.2 12 r15.1))) else (if nI (s p) = (119 : Int32) then (cd_rd (M 7) 60 (nI p + (1 : Int32))).bind (fun v17 => (cd_rd (M 7) 60 (nI p + (2 : Int32))).bind (fun v18 => (f_X6_blow (v17 - (97 : Int32)) (v18 - (48 : Int32)) (cd_fld M 11 (0 : Int32))).bind (fun r19 => some ((nI p + (3 : Int32)), (cd_fld r19.2 12 r19.1))))) else (cd_rd (M 7) 60 (nI p + (1 : Int32))).bind (fun v20 => ((if v20 = (62 : Int32) then (cd_rd (M 7) 60 (nI p + (2 : Int32))).bind (fun v24 => some v24) else some (97 : Int32))).bind (fun (x21 : Int32) => (f_X6_candleAct (nI (s p) - (97 : Int32)) v20 x21 (cd_fld M 11 (0 : Int32))).bind (fun r22 => ((if v20 = (62 : Int32) then some (3 : Int32) else some (2 : Int32))).bind (fun (x23 : Int32) => some ((nI p + x23), (cd_fld r22.2 12 r22.1))))))) : Option (Int32 × (Nat → Nat → Int32))) = some (nI p', cd_fld M2 12 (nI (q_why k a b g))) ∧ q_A6 M M2 k a b g := by
  have hn := hd.1
  have hB0 : q_B ((cd_fld M 11 0) 1) g := by rw [cd_fld_n _ _ (by decide)]; exact hB
  have hv := (q_st_ok hp hs).2.2
  rcases q_st_cases hp hs with ⟨e0, rfl, rfl, rfl, rfl⟩ | ⟨e0, e1, rfl, e2, e3, rfl, ha, hb⟩ | ⟨e0, ha, e1, e2, rfl, e3, hb, rfl⟩ | ⟨e0, ha, e1, e2, hk, rfl, rfl⟩
  · obtain ⟨M2, m1, m2, m3⟩ := e6_minute hB0 hg
    refine ⟨M2, ?_, fun q r hr => by rw [m2 q, cd_fld_n _ _ hr], fun q => ⟨(m3 q).1, ?_, ?_, fun r r1 _ r11 => by rw [(m3 q).2.2 r r1 r11, cd_fld_n _ _ r11]⟩⟩
    · rw [e0, if_pos (show nI 46 = 46 from rfl), m1, Option.bind_some, nI_1]
      rfl
    · rw [(m3 q).2.2 8 (by decide) (by decide), cd_fld_n _ _ (by decide)]
      show _ = _ + nI 0
      rw [q_a0]
    · rw [(m3 q).2.1, cd_fld_s, q_0or]
      rfl
  · obtain ⟨M2, m1, m2, m3⟩ := e6_blow hB0 hg ha hb
    refine ⟨M2, ?_, fun q r hr => by rw [m2 q, cd_fld_n _ _ hr], fun q => ⟨(m3 q).1, ?_, ?_, fun r r1 _ r11 => by rw [(m3 q).2 r r1, cd_fld_n _ _ r11]⟩⟩
    · rw [e0, if_neg (by decide), if_pos (show nI 119 = 119 from rfl), nI_1, q_nIp2, q_nIp3, cd_rd_nI (by omega) (by decide), Option.bind_some, cd_rd_nI (by omega) (by decide), Option.bind_some, h6.2 _ (by omega), h6.2 _ e1, e2, e3, q_l 97, q_l 48, pk_sub (by omega), pk_sub (by omega), show 97 + a - 97 = a by omega, show 48 + b - 48 = b by omega, m1, Option.bind_some]
      rfl
    · rw [(m3 q).2 8 (by decide), cd_fld_n _ _ (by decide)]
      show _ = _ + nI 0
      rw [q_a0]
    · rw [(m3 q).2 11 (by decide), cd_fld_s]
      rfl
  · obtain ⟨M2, m1, m2⟩ := e6_act hB hC hg hv (by omega)
    refine ⟨M2, ?_, m2⟩
    have hx : nI (s p) - nI 97 = nI a := by rw [e0, pk_sub (by omega), show 97 + a - 97 = a by omega]
    have n46 : ¬ nI (s p) = nI 46 := by rw [nI_eq (by omega) (by omega)]; omega
    have n119 : ¬ nI (s p) = nI 119 := by rw [nI_eq (by omega) (by omega)]; omega
    rw [q_l 46, q_l 119, q_l 97, if_neg n46, if_neg n119, nI_1, q_nIp2, cd_rd_nI (by omega) (by decide), Option.bind_some, h6.2 _ (by omega), e2, q_l 62, if_pos rfl, if_pos rfl, cd_rd_nI (by omega) (by decide), Option.bind_some, Option.bind_some, h6.2 _ e1, e3, hx, m1, Option.bind_some, Option.bind_some, q_nIp3]
  · obtain ⟨M2, m1, m2⟩ := e6_act hB hC hg hv (by omega)
    refine ⟨M2, ?_, m2⟩
    have hx : nI (s p) - nI 97 = nI a := by rw [e0, pk_sub (by omega), show 97 + a - 97 = a by omega]
    have n46 : ¬ nI (s p) = nI 46 := by rw [nI_eq (by omega) (by omega)]; omega
    have n119 : ¬ nI (s p) = nI 119 := by rw [nI_eq (by omega) (by omega)]; omega
    have n62 : ¬ nI k = nI 62 := by rw [nI_eq (by omega) (by omega)]; omega
    rw [q_l 46, q_l 119, q_l 97, if_neg n46, if_neg n119, nI_1, cd_rd_nI (by omega) (by decide), Option.bind_some, h6.2 _ e1, e2, q_l 62, if_neg n62, if_neg n62, Option.bind_some, hx, show nI 97 = nI (97 + 0) from rfl, m1, Option.bind_some, Option.bind_some, q_nIp2]
/-- one turn of the reference's loop -/
theorem e6_turn (hd : q_pd s n) (h6 : q_P6 M s n) (hB : q_B (M 1) g) (hC : q_C M g) (hg : q_ok g) {p k a b p' act paid : Nat} {o : Option (Nat × Nat)} (hp : p < n) (hs : q_st s n p = .inr (k, a, b, p')) (hact : act < 2 ^ 31) (h13 : M 13 0 = nI act) (h8 : M 8 0 = nI paid) (h9 : M 9 0 = q_o1 o) (h10 : M 10 0 = q_o2 o) (hoo : q_oo o act) :
    (q_why k a b g = 0 → ∃ M', f_X6_goNights_b11 (nI p, M) = some (Sum.inr (nI p', M')) ∧ q_B (M' 1) (q_do k a b g) ∧ M' 13 0 = nI (act + 1) ∧ M' 8 0 = nI (paid + q_pay k a g) ∧ M' 9 0 = q_o1 (q_on o act (q_go k g)) ∧ M' 10 0 = q_o2 (q_on o act (q_go k g)) ∧ ∀ r, r ≠ 1 → r ≠ 8 → r ≠ 9 → r ≠ 10 → r ≠ 11 → r ≠ 12 → r ≠ 13 → M' r = M r) ∧
    (q_why k a b g ≠ 0 → ∃ M', f_X6_goNights_b11 (nI p, M) = some (Sum.inl (Sum.inl (nI act, M'))) ∧ M' 12 0 = nI (q_why k a b g) ∧ ∀ r, r ≠ 11 → r ≠ 12 → M' r = M r) := by
  have hn := hd.1
  obtain ⟨M2, m1, m2, m3⟩ := e6_actAt hd h6 hB hC hg hp hs
  have hwb : q_why k a b g < 100 := by
    unfold q_why q_why1 q_why2 q_why3 q_why4 q_why5 q_why6 q_why7
    repeat (first | omega | split)
  have hbody : f_X6_goNights_b11 (nI p, M) = (some (nI p', cd_fld M2 12 (nI (q_why k a b g)))).bind (fun (x5 : Int32 × (Nat → Nat → Int32)) => (if (x5.2 12 0) ≤ 0 then (cd_iter cd_N f_X6_goNights_b163 ((11 : Int32), x5.2)).bind (fun (t7 : (Nat → Nat → Int32)) => some (Sum.inr (x5.1, (cd_fld t7 13 ((t7 13 0) + (1 : Int32)))))) else some (Sum.inl (Sum.inl ((x5.2 13 0), x5.2))))) := by
    rw [← m1]
    unfold f_X6_goNights_b11
    simp only [h6.1]
    rw [if_neg (nI_ge hp (by omega)), cd_rd_nI (by omega) (by decide), Option.bind_some, h6.2 p hp]
  rw [Option.bind_some] at hbody
  dsimp only at hbody
  simp only [cd_fld_s] at hbody
  constructor
  · intro hw
    obtain ⟨b1, b2, b3, b4⟩ := m3 hw
    rw [hw, if_pos (show nI 0 ≤ 0 by decide)] at hbody
    have f : ∀ r, r ≠ 12 → (cd_fld M2 12 (nI 0)) r = M2 r := fun r hr => cd_fld_n _ _ hr
    obtain ⟨M4, o1, o2, o3, o4⟩ := e6_outs (M := cd_fld M2 12 (nI 0)) (o := o) (acts := act) (go := q_go k g) (q_go_lt k g) hact (by rw [f 9 (by decide), b4 9 (by decide) (by decide) (by decide)]; exact h9) (by rw [f 10 (by decide), b4 10 (by decide) (by decide) (by decide)]; exact h10) (by rw [f 11 (by decide)]; exact b3) (by rw [f 13 (by decide), b4 13 (by decide) (by decide) (by decide)]; exact h13) hoo
    rw [o1, Option.bind_some] at hbody
    refine ⟨_, hbody, ?_, ?_, ?_, ?_, ?_, fun r r1 r8 r9 r10 r11 r12 r13 => ?_⟩
    · rw [cd_fld_n _ _ (by decide), o4 1 (by decide) (by decide), f 1 (by decide)]; exact b1
    · rw [cd_fld_s, o4 13 (by decide) (by decide), f 13 (by decide), b4 13 (by decide) (by decide) (by decide), h13, nI_1]
    · rw [cd_fld_n _ _ (by decide), o4 8 (by decide) (by decide), f 8 (by decide), b2, h8, nI_add]
    · rw [cd_fld_n _ _ (by decide)]; exact o2
    · rw [cd_fld_n _ _ (by decide)]; exact o3
    · rw [cd_fld_n _ _ r13, o4 r r9 r10, f r r12, b4 r r1 r8 r11]
  · intro hw
    have hr := m2 hw
    rw [if_neg (fun q => hw ((q_pos0 (by omega)).mp q))] at hbody
    refine ⟨cd_fld M2 12 (nI (q_why k a b g)), ?_, cd_fld_s _ _ _ _, fun r r11 r12 => by rw [cd_fld_n _ _ r12, hr r r11]⟩
    rw [hbody, cd_fld_n _ _ (by decide), hr 13 (by decide), h13]
theorem e6_night (hd : q_pd s n) (h6 : q_P6 M s n) (hB : q_B (M 0) g0) (hC : q_C M g0) (hg : q_ok g0) (hnf : q_flt s n 61 0 = none) :
    ∃ w g acts paid o M', q_nt s n 61 0 (g0, 0, 0, none) = (w, g, acts, paid, o) ∧ f_X6_goNights M = some (if w = 0 then -6 else nI acts, M') ∧ q_same M M' ∧ q_B (M' 1) g ∧ (∀ r j, r = 3 ∨ r = 4 ∨ r = 8 ∨ r = 9 ∨ r = 10 → g r j = g0 r j) ∧ M' 13 0 = nI acts ∧ M' 8 0 = nI paid ∧ M' 9 0 = q_o1 o ∧ M' 10 0 = q_o2 o ∧ (w ≠ 0 → M' 12 0 = nI w) := by
  have hn := hd.1
  obtain ⟨M1, n1, n2, n3, n4, n5, n6, n7⟩ := e6_now hB
  obtain ⟨r, h1, h2⟩ := cd_hoare (b := f_X6_goNights_b11) (fun m z => ∃ p act g paid o M2, m + p = n ∧ act ≤ p ∧ z = (nI p, M2) ∧ q_same M M2 ∧ q_B (M2 1) g ∧ q_ok g ∧ (∀ r j, r = 3 ∨ r = 4 ∨ r = 8 ∨ r = 9 ∨ r = 10 → g r j = g0 r j) ∧ M2 13 0 = nI act ∧ M2 8 0 = nI paid ∧ M2 9 0 = q_o1 o ∧ M2 10 0 = q_o2 o ∧ q_oo o act ∧ q_flt s n (61 - act) p = none ∧ q_nt s n 61 0 (g0, 0, 0, none) = q_nt s n (61 - act) p (g, act, paid, o))
    (fun r => ∃ w g acts paid o, q_nt s n 61 0 (g0, 0, 0, none) = (w, g, acts, paid, o) ∧ (∀ r j, r = 3 ∨ r = 4 ∨ r = 8 ∨ r = 9 ∨ r = 10 → g r j = g0 r j) ∧ Sum.elim (fun x => w ≠ 0 ∧ x.1 = nI acts ∧ x.2 12 0 = nI w ∧ q_same M x.2 ∧ q_B (x.2 1) g ∧ x.2 13 0 = nI acts ∧ x.2 8 0 = nI paid ∧ x.2 9 0 = q_o1 o ∧ x.2 10 0 = q_o2 o) (fun x => w = 0 ∧ q_same M x ∧ q_B (x 1) g ∧ x 13 0 = nI acts ∧ x 8 0 = nI paid ∧ x 9 0 = q_o1 o ∧ x 10 0 = q_o2 o) r) (by
    rintro m z ⟨p, act, g, paid, o, M2, hm, ha, rfl, hsm, hB2, hok, hrw, i13, i8, i9, i10, hoo, hfl, hnt⟩
    have h62 : q_P6 M2 s n := ⟨by rw [hsm.2.2.2.2.2.1]; exact h6.1, fun i hi => by rw [hsm.2.2.2.2.2.2.1]; exact h6.2 i hi⟩
    have hC2 : q_C M2 g := ⟨fun j hj => by rw [hsm.2.1, hrw 3 j (by omega)]; exact hC.1 j hj, fun j hj => by rw [hsm.2.2.1, hrw 4 j (by omega)]; exact hC.2 j hj⟩
    by_cases hp : p < n
    · rw [show 61 - act = (60 - act) + 1 by omega] at hfl hnt
      obtain ⟨k, a, b, p', hs, hfl'⟩ := q_flt_none hp hfl
      obtain ⟨hpp, hpn, hv⟩ := q_st_ok hp hs
      rw [q_nt_in hp hs] at hnt
      obtain ⟨t1, t2⟩ := e6_turn hd h62 hB2 hC2 hok hp hs (by omega) i13 i8 i9 i10 hoo
      by_cases hw : q_why k a b g = 0
      · obtain ⟨M3, u1, u2, u3, u4, u5, u6, u7⟩ := t1 hw
        rw [if_pos hw] at hnt
        refine Or.inr ⟨n - p', _, by omega, u1, p', act + 1, q_do k a b g, paid + q_pay k a g, q_on o act (q_go k g), M3, by omega, by omega, rfl, hsm.tr (q_same.of (fun r hr => u7 r (by omega) (by omega) (by omega) (by omega) (by omega) (by omega) (by omega))), u2, q_do_ok hv hok hw, fun r j hr => by rw [q_do_k hv hr, hrw r j hr], u3, u4, u5, u6, q_on_oo hoo _, ?_, ?_⟩
        · rw [show 61 - (act + 1) = 60 - act by omega]; exact hfl'
        · rw [show 61 - (act + 1) = 60 - act by omega]; exact hnt
      · obtain ⟨M3, u1, u2, u3⟩ := t2 hw
        rw [if_neg hw] at hnt
        exact Or.inl ⟨_, u1, q_why k a b g, g, act, paid, o, hnt, hrw, hw, rfl, u2, hsm.tr (q_same.of (fun r hr => u3 r (by omega) (by omega))), by show q_B (M3 1) g; rw [u3 1 (by decide) (by decide)]; exact hB2, by show M3 13 0 = _; rw [u3 13 (by decide) (by decide)]; exact i13, by show M3 8 0 = _; rw [u3 8 (by decide) (by decide)]; exact i8, by show M3 9 0 = _; rw [u3 9 (by decide) (by decide)]; exact i9, by show M3 10 0 = _; rw [u3 10 (by decide) (by decide)]; exact i10⟩
    · rw [q_nt_end (f := 61 - act) (p := p) (by omega)] at hnt
      refine Or.inl ⟨Sum.inr M2, ?_, 0, g, act, paid, o, hnt, hrw, rfl, hsm, hB2, i13, i8, i9, i10⟩
      unfold f_X6_goNights_b11
      simp only [h62.1]
      rw [if_pos (nI_le (by omega) (by omega))]) cd_N n (nI 0, cd_fld M1 13 0) (by have e : cd_N = 20000 := rfl; omega) ⟨0, 0, g0, 0, none, cd_fld M1 13 0, by omega, by omega, rfl, n2.tr (q_same.of (fun r hr => cd_fld_n _ _ (by omega))), by rw [cd_fld_n _ _ (by decide)]; exact n3, hg, fun _ _ _ => rfl, cd_fld_s _ _ _ _, by rw [cd_fld_n _ _ (by decide)]; exact n5, by rw [cd_fld_n _ _ (by decide)]; exact n6, by rw [cd_fld_n _ _ (by decide)]; exact n7, (fun x hx => by cases hx), hnf, rfl⟩
  have h1' : cd_iter cd_N f_X6_goNights_b11 ((0 : Int32), cd_fld M1 13 0) = some r := h1
  obtain ⟨w, g, acts, paid, o, k1, k2, k3⟩ := h2
  cases r with
  | inl x =>
    obtain ⟨j1, j2, j3, j4, j5, j6, j7, j8, j9⟩ := k3
    refine ⟨w, g, acts, paid, o, x.2, k1, ?_, j4, j5, k2, j6, j7, j8, j9, fun _ => j3⟩
    unfold f_X6_goNights
    rw [n1, Option.bind_some, h1', Option.bind_some, if_neg j1]
    show some x = _
    rw [← show x.1 = nI acts from j2]
  | inr x =>
    obtain ⟨j1, j4, j5, j6, j7, j8, j9⟩ := k3
    refine ⟨w, g, acts, paid, o, x, k1, ?_, j4, j5, k2, j6, j7, j8, j9, fun q => absurd j1 q⟩
    unfold f_X6_goNights
    rw [n1, Option.bind_some, h1', Option.bind_some, if_pos j1]
    rfl
end NIGHTM
