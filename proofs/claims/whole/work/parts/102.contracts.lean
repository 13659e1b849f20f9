abbrev rm_X2_countOf : Room := { frames := 1, cells := 0, slots := 0, locals := 13 }
theorem nw_X2_countOf_X2 : ∀ w ∈ u_ws RX2 TX2 3, w ∈ wsX2_countOf := by decide +kernel
set_option maxHeartbeats 4000000 in
set_option maxRecDepth 100000 in
theorem c_X2_countOf (l : Launch) (G : va_G) (cI cZ : ClassId) (sa sb : Nat) (h : Nat → Nat) (Z : Nat → Nat → Int32) (a0 : Int32) (o : Int32) (hf : f_X2_countOf a0 Z = some o) : cd_Ct l G cI cZ sa sb yX2_countOf wsX2_countOf rm_X2_countOf [.ref (h 0), .int a0] ((pc_snz cI h Z)) ((pc_snz cI h Z)) (some (.int o)) := by
  refine cd_of (cc := cX2_countOf) (maxL := 2) (ret := (some .int)) (by decide) rfl (Nat.le_of_ble_eq_true rfl) ?_
  intro p e s m ag below meth c A ls Q C0 hl hw hQ
  have C0 : cd_CX G cI cZ sa sb p s m ag meth c cX2_countOf 2 (some .int) wsX2_countOf RX2 A := C0
  obtain ⟨⟨hx, hb, hml, hown, hts⟩, hr, hlocks, hA, hE⟩ := id C0
  have hK := hE.1
  have hL0 := hts (.fieldLink RX2 15 "CandleDebts$Sneezing" "ends" "[I") (by decide +kernel)
  have hL1 := hts (.fieldLink RX2 9 "CandleDebts$Sneezing" "begins" "[I") (by decide +kernel)
  have hL2 := hts (.methodLink RX2 48 Lib.Math.max.name) (by decide +kernel)
  have hL3 := hts (.static Lib.Math.max.name) (by decide +kernel)
  have hL4 := hts (.initialized "java/lang/Math") (by decide +kernel)
  have hL5 := hts (.code Lib.Math.max.name Lib.Math.max.code 2 (some .int)) (by decide +kernel)
  have hl : lv_has ls 2 [(0, .ref (h 0)), (1, .int a0)] := hl
  unfold f_X2_countOf at hf
  refine lv_iconst (v := (0 : Int32)) hx hb dX2_countOf_0 (by decide) ?_
  refine lv_aload_n hx hb dX2_countOf_1 rfl (lv_at hl 0 rfl) ?_
  refine va_get (D := G) (ci := 2) (v := .ref (h 2)) (C := RX2) (T := TX2) (N := 3) hx hb hts nw_X2_countOf_X2 hown hK hw.1 0 rfl rfl 1 (by decide) hL0 (fun _ h9 => h9) rfl dX2_countOf_2 ?_
  refine lv_iload_n hx hb dX2_countOf_5 rfl (lv_at hl 1 rfl) ?_
  obtain ⟨v1, e1, hf⟩ := cd_bind_some hf
  refine cd_iald hx hb hK hw 2 rfl e1 dX2_countOf_6 ?_
  refine lv_aload_n hx hb dX2_countOf_7 rfl (lv_at hl 0 rfl) ?_
  refine va_get (D := G) (ci := 2) (v := .ref (h 1)) (C := RX2) (T := TX2) (N := 3) hx hb hts nw_X2_countOf_X2 hown hK hw.1 0 rfl rfl 0 (by decide) hL1 (fun _ h9 => h9) rfl dX2_countOf_8 ?_
  refine lv_iload_n hx hb dX2_countOf_11 rfl (lv_at hl 1 rfl) ?_
  obtain ⟨v2, e2, hf⟩ := cd_bind_some hf
  refine cd_iald hx hb hK hw 1 rfl e2 dX2_countOf_12 ?_
  refine lv_isub hx hb dX2_countOf_13 ?_
  refine lv_iconst (v := (1 : Int32)) hx hb dX2_countOf_14 (by decide) ?_
  refine lv_iadd hx hb dX2_countOf_15 ?_
  refine cd_mmax hx hb (hml.trans hl.1.symm) hown hL2 hL3 hL4 hL5 (Nat.le_of_ble_eq_true rfl) (Nat.le_of_ble_eq_true rfl) dX2_countOf_16 ?_
  have z : some (cd_max (0 : Int32) ((v1 - v2) + (1 : Int32))) = some o := hf
  cases z
  rw [hQ]
  exact cd_reti C0 hw dX2_countOf_19
abbrev rm_X2_atWindow : Room := { frames := 1, cells := 0, slots := 0, locals := 22 }
theorem nw_X2_atWindow_X2 : ∀ w ∈ u_ws RX2 TX2 3, w ∈ wsX2_atWindow := by decide +kernel
set_option maxHeartbeats 4000000 in
set_option maxRecDepth 100000 in
theorem c_X2_atWindow (l : Launch) (G : va_G) (cI cZ : ClassId) (sa sb : Nat) (h : Nat → Nat) (Z : Nat → Nat → Int32) (a0 : Int32) (a1 : Int32) (o : Int32) (hf : f_X2_atWindow a0 a1 Z = some o) : cd_Ct l G cI cZ sa sb yX2_atWindow wsX2_atWindow rm_X2_atWindow [.ref (h 0), .int a0, .int a1] ((pc_snz cI h Z)) ((pc_snz cI h Z)) (some (.int o)) := by
  refine cd_of (cc := cX2_atWindow) (maxL := 7) (ret := (some .int)) (by decide) rfl (Nat.le_of_ble_eq_true rfl) ?_
  intro p e s m ag below meth c A ls Q C0 hl hw hQ
  have C0 : cd_CX G cI cZ sa sb p s m ag meth c cX2_atWindow 7 (some .int) wsX2_atWindow RX2 A := C0
  obtain ⟨⟨hx, hb, hml, hown, hts⟩, hr, hlocks, hA, hE⟩ := id C0
  have hK := hE.1
  have hL0 := hts (.fieldLink RX2 9 "CandleDebts$Sneezing" "begins" "[I") (by decide +kernel)
  have hL1 := hts (.fieldLink RX2 15 "CandleDebts$Sneezing" "ends" "[I") (by decide +kernel)
  have hL2 := hts (.initialized RX5) (by decide +kernel)
  have hL3 := hts (.static yX5_within) (by decide +kernel)
  have hl : lv_has ls 7 [(0, .ref (h 0)), (1, .int a0), (2, .int a1)] := hl
  unfold f_X2_atWindow at hf
  refine lv_iload_n hx hb dX2_atWindow_0 rfl (lv_at hl 2 rfl) ?_
  refine lv_istore_n (lv' := [(3, .int a1), (0, .ref (h 0)), (1, .int a0), (2, .int a1)]) hx hb dX2_atWindow_1 rfl hl (by decide) rfl (fun ls hl => ?_)
  refine lv_iconst (v := (0 : Int32)) hx hb dX2_atWindow_2 (by decide) ?_
  refine lv_istore (lv' := [(4, .int (0 : Int32)), (3, .int a1), (0, .ref (h 0)), (1, .int a0), (2, .int a1)]) hx hb dX2_atWindow_3 hl (by decide) rfl (fun ls hl => ?_)
  obtain ⟨x1, e1, hf⟩ := cd_bind_some hf
  have K1 : ∀ (t1 : Unit), Sum.inr t1 = x1 → ∀ (ls : Array Slot) (H : Heap) (locs : List Loc), lv_has ls 7 [] → cd_WS G A s.heap H locs ((pc_snz cI h Z)) → W p l e rm_X2_atWindow s m ag below meth c H locs 0 0 Q (F0 m 85 ls []) := by
    intro t1 hs_1
    subst hs_1
    intro ls H locs hl hw
    refine lv_bipush (v := (-6 : Int32)) hx hb dX2_atWindow_85 (by decide) ?_
    have z : some (-6 : Int32) = some o := hf
    cases z
    rw [hQ]
    exact cd_reti C0 hw dX2_atWindow_87
  refine cd_iter_ind (body := (f_X2_atWindow_b5 a0 Z)) (K := fun r => r = x1) (P := fun (z1 : Int32 × Int32) => ∀ (ls : Array Slot) (H : Heap) (locs : List Loc), lv_has ls 7 [(0, .ref (h 0)), (1, .int a0), (3, .int z1.1), (4, .int z1.2)] → cd_WS G A s.heap H locs ((pc_snz cI h Z)) → W p l e rm_X2_atWindow s m ag below meth c H locs 0 0 Q (F0 m 5 ls [])) ?_ cd_N (a1, (0 : Int32)) x1 e1 rfl _ _ _ (lv_sub hl [2, 3, 1, 0] rfl) hw
  intro z1 o1 hb1 hk1 ls H locs hl hw
  unfold f_X2_atWindow_b5 at hb1
  refine lv_iload hx hb dX2_atWindow_5 (lv_at hl 3 rfl) ?_
  refine lv_bipush (v := (60 : Int32)) hx hb dX2_atWindow_7 (by decide) ?_
  refine lv_icmp_gt (tgt := 85) hx hb dX2_atWindow_9 (by decide) (fun c2 => ?_) (fun c2 => ?_)
  · have hb1 := cd_ite_t c2 hb1
    have z : some (Sum.inl (Sum.inr ())) = some o1 := hb1
    cases z
    exact K1 _ hk1 _ _ _ (lv_sub hl [] rfl) hw
  · have hb1 := cd_ite_f c2 hb1
    refine lv_iconst (v := (0 : Int32)) hx hb dX2_atWindow_12 (by decide) ?_
    refine lv_istore (lv' := [(5, .int (0 : Int32)), (0, .ref (h 0)), (1, .int a0), (3, .int z1.1), (4, .int z1.2)]) hx hb dX2_atWindow_13 hl (by decide) rfl (fun ls hl => ?_)
    obtain ⟨x3, e3, hb1⟩ := cd_bind_some hb1
    have K3 : ∀ (t3 : Int32), Sum.inr t3 = x3 → ∀ (ls : Array Slot) (H : Heap) (locs : List Loc), lv_has ls 7 [(0, .ref (h 0)), (1, .int a0), (3, .int t3), (4, .int z1.2)] → cd_WS G A s.heap H locs ((pc_snz cI h Z)) → W p l e rm_X2_atWindow s m ag below meth c H locs 0 0 Q (F0 m 79 ls []) := by
      intro t3 hs_3
      subst hs_3
      intro ls H locs hl hw
      refine lv_iinc (v := (z1.2 + (1 : Int32))) (lv' := [(4, .int (z1.2 + (1 : Int32))), (0, .ref (h 0)), (1, .int a0), (3, .int t3)]) hx hb dX2_atWindow_79 hl (k := 3) rfl rfl (by decide) rfl (fun ls hl => ?_)
      refine lv_goto (tgt := 5) hx hb dX2_atWindow_82 (by decide) ?_
      have z : some (Sum.inr (t3, (z1.2 + (1 : Int32)))) = some o1 := hb1
      cases z
      exact hk1 _ _ _ (lv_sub hl [1, 2, 3, 0] rfl) hw
    refine cd_iter_ind (body := (f_X2_atWindow_b15 a0 Z z1)) (K := fun r => r = x3) (P := fun (z3 : Int32 × Int32) => ∀ (ls : Array Slot) (H : Heap) (locs : List Loc), lv_has ls 7 [(0, .ref (h 0)), (1, .int a0), (3, .int z3.1), (4, .int z1.2), (5, .int z3.2)] → cd_WS G A s.heap H locs ((pc_snz cI h Z)) → W p l e rm_X2_atWindow s m ag below meth c H locs 0 0 Q (F0 m 15 ls [])) ?_ cd_N (z1.1, (0 : Int32)) x3 e3 rfl _ _ _ (lv_sub hl [1, 2, 3, 4, 0] rfl) hw
    intro z3 o3 hb3 hk3 ls H locs hl hw
    unfold f_X2_atWindow_b15 at hb3
    refine lv_iload hx hb dX2_atWindow_15 (lv_at hl 4 rfl) ?_
    refine lv_iconst (v := (4 : Int32)) hx hb dX2_atWindow_17 (by decide) ?_
    refine lv_icmp_ge (tgt := 79) hx hb dX2_atWindow_18 (by decide) (fun c4 => ?_) (fun c4 => ?_)
    · have hb3 := cd_ite_t c4 hb3
      have z : some (Sum.inl (Sum.inr z3.1)) = some o3 := hb3
      cases z
      exact K3 _ hk3 _ _ _ (lv_sub hl [0, 1, 2, 3] rfl) hw
    · have hb3 := cd_ite_f c4 hb3
      refine lv_iload_n hx hb dX2_atWindow_21 rfl (lv_at hl 1 rfl) ?_
      refine lv_iconst (v := (4 : Int32)) hx hb dX2_atWindow_22 (by decide) ?_
      refine lv_imul hx hb dX2_atWindow_23 ?_
      refine lv_iload hx hb dX2_atWindow_24 (lv_at hl 4 rfl) ?_
      refine lv_iadd hx hb dX2_atWindow_26 ?_
      refine lv_istore (lv' := [(6, .int ((a0 * (4 : Int32)) + z3.2)), (0, .ref (h 0)), (1, .int a0), (3, .int z3.1), (4, .int z1.2), (5, .int z3.2)]) hx hb dX2_atWindow_27 hl (by decide) rfl (fun ls hl => ?_)
      refine lv_iload hx hb dX2_atWindow_29 (lv_at hl 4 rfl) ?_
      refine lv_aload_n hx hb dX2_atWindow_31 rfl (lv_at hl 1 rfl) ?_
      refine va_get (D := G) (ci := 2) (v := .ref (h 1)) (C := RX2) (T := TX2) (N := 3) hx hb hts nw_X2_atWindow_X2 hown hK hw.1 0 rfl rfl 0 (by decide) hL0 (fun _ h9 => h9) rfl dX2_atWindow_32 ?_
      refine lv_iload hx hb dX2_atWindow_35 (lv_at hl 0 rfl) ?_
      obtain ⟨v5, e5, hb3⟩ := cd_bind_some hb3
      refine cd_iald hx hb hK hw 1 rfl e5 dX2_atWindow_37 ?_
      refine lv_aload_n hx hb dX2_atWindow_38 rfl (lv_at hl 1 rfl) ?_
      refine va_get (D := G) (ci := 2) (v := .ref (h 2)) (C := RX2) (T := TX2) (N := 3) hx hb hts nw_X2_atWindow_X2 hown hK hw.1 0 rfl rfl 1 (by decide) hL1 (fun _ h9 => h9) rfl dX2_atWindow_39 ?_
      refine lv_iload hx hb dX2_atWindow_42 (lv_at hl 0 rfl) ?_
      obtain ⟨v6, e6, hb3⟩ := cd_bind_some hb3
      refine cd_iald hx hb hK hw 2 rfl e6 dX2_atWindow_44 ?_
      obtain ⟨r7, e7, hb3⟩ := cd_bind_some hb3
      refine cd_callSN (As := [.int z1.2, .int v5, .int v6]) (rest := []) C0 hw (c_X5_within l G cI cZ sa sb z1.2 v5 v6 r7 e7) [] rfl rfl ⟨va_cnB 3 hts ggX2_atWindow_X5_within rfl rfl rfl (hE.2.1 (.methodLinkNest RX2 73 yX5_within RX5) (by simp [cd_nest])) hL2 (by decide +kernel) ⟨Nat.le_of_ble_eq_true rfl, Nat.le_of_ble_eq_true rfl⟩, hL3, trivial⟩ rfl hl.1 (lv_room (Nat.le_of_ble_eq_true rfl)) dX2_atWindow_45 (fun H locs hw => ?_)
      refine lv_if_eq (tgt := 73) hx hb dX2_atWindow_48 (by decide) (fun c8 => ?_) (fun c8 => ?_)
      · have hb3 := cd_ite_t c8 hb3
        refine lv_iinc (v := (z3.2 + (1 : Int32))) (lv' := [(5, .int (z3.2 + (1 : Int32))), (6, .int ((a0 * (4 : Int32)) + z3.2)), (0, .ref (h 0)), (1, .int a0), (3, .int z3.1), (4, .int z1.2)]) hx hb dX2_atWindow_73 hl (k := 5) rfl rfl (by decide) rfl (fun ls hl => ?_)
        refine lv_goto (tgt := 15) hx hb dX2_atWindow_76 (by decide) ?_
        have z : some (Sum.inr (z3.1, (z3.2 + (1 : Int32)))) = some o3 := hb3
        cases z
        exact hk3 _ _ _ (lv_sub hl [2, 3, 4, 5, 0] rfl) hw
      · have hb3 := cd_ite_f c8 hb3
        refine lv_iload_n hx hb dX2_atWindow_51 rfl (lv_at hl 3 rfl) ?_
        refine lv_if_ne (tgt := 70) hx hb dX2_atWindow_52 (by decide) (fun c9 => ?_) (fun c9 => ?_)
        · have hb3 := cd_ite_f c9 hb3
          refine lv_iinc (v := (z3.1 + (-1 : Int32))) (lv' := [(3, .int (z3.1 + (-1 : Int32))), (6, .int ((a0 * (4 : Int32)) + z3.2)), (0, .ref (h 0)), (1, .int a0), (4, .int z1.2), (5, .int z3.2)]) hx hb dX2_atWindow_70 hl (k := 3) rfl rfl (by decide) rfl (fun ls hl => ?_)
          refine lv_iinc (v := (z3.2 + (1 : Int32))) (lv' := [(5, .int (z3.2 + (1 : Int32))), (3, .int (z3.1 + (-1 : Int32))), (6, .int ((a0 * (4 : Int32)) + z3.2)), (0, .ref (h 0)), (1, .int a0), (4, .int z1.2)]) hx hb dX2_atWindow_73 hl (k := 5) rfl rfl (by decide) rfl (fun ls hl => ?_)
          refine lv_goto (tgt := 15) hx hb dX2_atWindow_76 (by decide) ?_
          have z : some (Sum.inr ((z3.1 + (-1 : Int32)), (z3.2 + (1 : Int32)))) = some o3 := hb3
          cases z
          exact hk3 _ _ _ (lv_sub hl [3, 4, 1, 5, 0] rfl) hw
        · have hb3 := cd_ite_t c9 hb3
          refine lv_sipush (v := (1000 : Int32)) hx hb dX2_atWindow_55 (by decide) ?_
          refine lv_iload_n hx hb dX2_atWindow_58 rfl (lv_at hl 2 rfl) ?_
          refine lv_imul hx hb dX2_atWindow_59 ?_
          refine lv_bipush (v := (10 : Int32)) hx hb dX2_atWindow_60 (by decide) ?_
          refine lv_iload hx hb dX2_atWindow_62 (lv_at hl 4 rfl) ?_
          refine lv_imul hx hb dX2_atWindow_64 ?_
          refine lv_iadd hx hb dX2_atWindow_65 ?_
          refine lv_iload hx hb dX2_atWindow_66 (lv_at hl 5 rfl) ?_
          refine lv_iadd hx hb dX2_atWindow_68 ?_
          have z : some (Sum.inl (Sum.inl ((((1000 : Int32) * a0) + ((10 : Int32) * z1.2)) + z3.2))) = some o3 := hb3
          cases z
          have y3 : Sum.inl ((((1000 : Int32) * a0) + ((10 : Int32) * z1.2)) + z3.2) = x3 := hk3
          subst y3
          have z : some (Sum.inl (Sum.inl ((((1000 : Int32) * a0) + ((10 : Int32) * z1.2)) + z3.2))) = some o1 := hb1
          cases z
          have y1 : Sum.inl ((((1000 : Int32) * a0) + ((10 : Int32) * z1.2)) + z3.2) = x1 := hk1
          subst y1
          have z : some ((((1000 : Int32) * a0) + ((10 : Int32) * z1.2)) + z3.2) = some o := hf
          cases z
          rw [hQ]
          exact cd_reti C0 hw dX2_atWindow_69
abbrev rm_X2_at : Room := { frames := 2, cells := 0, slots := 0, locals := 48 }
set_option maxHeartbeats 4000000 in
set_option maxRecDepth 100000 in
theorem c_X2_at (l : Launch) (G : va_G) (cI cZ : ClassId) (sa sb : Nat) (h : Nat → Nat) (Z : Nat → Nat → Int32) (a0 : Int32) (o : Int32) (hf : f_X2_at a0 Z = some o) : cd_Ct l G cI cZ sa sb yX2_at wsX2_at rm_X2_at [.ref (h 0), .int a0] ((pc_snz cI h Z)) ((pc_snz cI h Z)) (some (.int o)) := by
  refine cd_of (cc := cX2_at) (maxL := 6) (ret := (some .int)) (by decide) rfl (Nat.le_of_ble_eq_true rfl) ?_
  intro p e s m ag below meth c A ls Q C0 hl hw hQ
  have C0 : cd_CX G cI cZ sa sb p s m ag meth c cX2_at 6 (some .int) wsX2_at RX2 A := C0
  obtain ⟨⟨hx, hb, hml, hown, hts⟩, hr, hlocks, hA, hE⟩ := id C0
  have hK := hE.1
  have hl : lv_has ls 6 [(0, .ref (h 0)), (1, .int a0)] := hl
  unfold f_X2_at at hf
  refine lv_iload_n hx hb dX2_at_0 rfl (lv_at hl 1 rfl) ?_
  refine lv_istore_n (lv' := [(2, .int a0), (0, .ref (h 0)), (1, .int a0)]) hx hb dX2_at_1 rfl hl (by decide) rfl (fun ls hl => ?_)
  refine lv_iconst (v := (0 : Int32)) hx hb dX2_at_2 (by decide) ?_
  refine lv_istore_n (lv' := [(3, .int (0 : Int32)), (2, .int a0), (0, .ref (h 0)), (1, .int a0)]) hx hb dX2_at_3 rfl hl (by decide) rfl (fun ls hl => ?_)
  obtain ⟨x1, e1, hf⟩ := cd_bind_some hf
  have K1 : ∀ (t1 : Unit), Sum.inr t1 = x1 → ∀ (ls : Array Slot) (H : Heap) (locs : List Loc), lv_has ls 6 [] → cd_WS G A s.heap H locs ((pc_snz cI h Z)) → W p l e rm_X2_at s m ag below meth c H locs 0 0 Q (F0 m 71 ls []) := by
    intro t1 hs_1
    subst hs_1
    intro ls H locs hl hw
    refine lv_bipush (v := (-6 : Int32)) hx hb dX2_at_71 (by decide) ?_
    have z : some (-6 : Int32) = some o := hf
    cases z
    rw [hQ]
    exact cd_reti C0 hw dX2_at_73
  refine cd_iter_ind (body := (f_X2_at_b4 Z)) (K := fun r => r = x1) (P := fun (z1 : Int32 × Int32) => ∀ (ls : Array Slot) (H : Heap) (locs : List Loc), lv_has ls 6 [(0, .ref (h 0)), (2, .int z1.1), (3, .int z1.2)] → cd_WS G A s.heap H locs ((pc_snz cI h Z)) → W p l e rm_X2_at s m ag below meth c H locs 0 0 Q (F0 m 4 ls [])) ?_ cd_N (a0, (0 : Int32)) x1 e1 rfl _ _ _ (lv_sub hl [2, 1, 0] rfl) hw
  intro z1 o1 hb1 hk1 ls H locs hl hw
  unfold f_X2_at_b4 at hb1
  refine lv_iload_n hx hb dX2_at_4 rfl (lv_at hl 2 rfl) ?_
  refine lv_bipush (v := (12 : Int32)) hx hb dX2_at_5 (by decide) ?_
  refine lv_icmp_ge (tgt := 71) hx hb dX2_at_7 (by decide) (fun c2 => ?_) (fun c2 => ?_)
  · have hb1 := cd_ite_t c2 hb1
    have z : some (Sum.inl (Sum.inr ())) = some o1 := hb1
    cases z
    exact K1 _ hk1 _ _ _ (lv_sub hl [] rfl) hw
  · have hb1 := cd_ite_f c2 hb1
    refine lv_iload_n hx hb dX2_at_10 rfl (lv_at hl 1 rfl) ?_
    refine lv_if_lt (tgt := 71) hx hb dX2_at_11 (by decide) (fun c3 => ?_) (fun c3 => ?_)
    · have hb1 := cd_ite_t c3 hb1
      have z : some (Sum.inl (Sum.inr ())) = some o1 := hb1
      cases z
      exact K1 _ hk1 _ _ _ (lv_sub hl [] rfl) hw
    · have hb1 := cd_ite_f c3 hb1
      refine lv_iconst (v := (0 : Int32)) hx hb dX2_at_14 (by decide) ?_
      refine lv_istore (lv' := [(4, .int (0 : Int32)), (0, .ref (h 0)), (2, .int z1.1), (3, .int z1.2)]) hx hb dX2_at_15 hl (by decide) rfl (fun ls hl => ?_)
      refine lv_iconst (v := (0 : Int32)) hx hb dX2_at_17 (by decide) ?_
      refine lv_istore (lv' := [(5, .int (0 : Int32)), (4, .int (0 : Int32)), (0, .ref (h 0)), (2, .int z1.1), (3, .int z1.2)]) hx hb dX2_at_18 hl (by decide) rfl (fun ls hl => ?_)
      obtain ⟨x4, e4, hb1⟩ := cd_bind_some hb1
      have K4 : ∀ (t4 : Int32), t4 = x4 → ∀ (ls : Array Slot) (H : Heap) (locs : List Loc), lv_has ls 6 [(0, .ref (h 0)), (2, .int z1.1), (3, .int z1.2), (4, .int t4)] → cd_WS G A s.heap H locs ((pc_snz cI h Z)) → W p l e rm_X2_at s m ag below meth c H locs 0 0 Q (F0 m 47 ls []) := by
        intro t4 hs_4
        subst hs_4
        intro ls H locs hl hw
        refine lv_iload_n hx hb dX2_at_47 rfl (lv_at hl 1 rfl) ?_
        refine lv_iload hx hb dX2_at_48 (lv_at hl 3 rfl) ?_
        refine lv_icmp_ge (tgt := 60) hx hb dX2_at_50 (by decide) (fun c7 => ?_) (fun c7 => ?_)
        · have hb1 := cd_ite_t c7 hb1
          refine lv_iload_n hx hb dX2_at_60 rfl (lv_at hl 1 rfl) ?_
          refine lv_iload hx hb dX2_at_61 (lv_at hl 3 rfl) ?_
          refine lv_isub hx hb dX2_at_63 ?_
          refine lv_istore_n (lv' := [(2, .int (z1.1 - t4)), (0, .ref (h 0)), (3, .int z1.2), (4, .int t4)]) hx hb dX2_at_64 rfl hl (by decide) rfl (fun ls hl => ?_)
          refine lv_iinc (v := (z1.2 + (1 : Int32))) (lv' := [(3, .int (z1.2 + (1 : Int32))), (2, .int (z1.1 - t4)), (0, .ref (h 0)), (4, .int t4)]) hx hb dX2_at_65 hl (k := 2) rfl rfl (by decide) rfl (fun ls hl => ?_)
          refine lv_goto (tgt := 4) hx hb dX2_at_68 (by decide) ?_
          have z : some (Sum.inr ((z1.1 - t4), (z1.2 + (1 : Int32)))) = some o1 := hb1
          cases z
          exact hk1 _ _ _ (lv_sub hl [2, 1, 0] rfl) hw
        · have hb1 := cd_ite_f c7 hb1
          refine lv_aload_n hx hb dX2_at_53 rfl (lv_at hl 0 rfl) ?_
          refine lv_iload_n hx hb dX2_at_54 rfl (lv_at hl 2 rfl) ?_
          refine lv_iload_n hx hb dX2_at_55 rfl (lv_at hl 1 rfl) ?_
          obtain ⟨r8, e8, hb1⟩ := cd_bind_some hb1
          refine cd_callV (As := [.int z1.2, .int z1.1]) (rest := []) C0 hw (c_X2_atWindow l G cI cZ sa sb h Z z1.2 z1.1 r8 e8) [0, 1, 2, 3] rfl rfl 0 2 rfl rfl rfl (cwV 2 hts gX2_at_X2_atWindow rfl rfl rfl (by decide +kernel) ⟨Nat.le_of_ble_eq_true rfl, Nat.le_of_ble_eq_true rfl⟩) rfl hl.1 (lv_room (Nat.le_of_ble_eq_true rfl)) dX2_at_56 (fun H locs hw => ?_)
          have z : some (Sum.inl (Sum.inl r8)) = some o1 := hb1
          cases z
          have y1 : Sum.inl r8 = x1 := hk1
          subst y1
          have z : some r8 = some o := hf
          cases z
          rw [hQ]
          exact cd_reti C0 hw dX2_at_59
      refine cd_iter_ind (body := (f_X2_at_b20 Z z1)) (K := fun r => r = x4) (P := fun (z4 : Int32 × Int32) => ∀ (ls : Array Slot) (H : Heap) (locs : List Loc), lv_has ls 6 [(0, .ref (h 0)), (2, .int z1.1), (3, .int z1.2), (4, .int z4.1), (5, .int z4.2)] → cd_WS G A s.heap H locs ((pc_snz cI h Z)) → W p l e rm_X2_at s m ag below meth c H locs 0 0 Q (F0 m 20 ls [])) ?_ cd_N ((0 : Int32), (0 : Int32)) x4 e4 rfl _ _ _ (lv_sub hl [2, 3, 4, 1, 0] rfl) hw
      intro z4 o4 hb4 hk4 ls H locs hl hw
      unfold f_X2_at_b20 at hb4
      refine lv_iload hx hb dX2_at_20 (lv_at hl 4 rfl) ?_
      refine lv_iconst (v := (4 : Int32)) hx hb dX2_at_22 (by decide) ?_
      refine lv_icmp_ge (tgt := 47) hx hb dX2_at_23 (by decide) (fun c5 => ?_) (fun c5 => ?_)
      · have hb4 := cd_ite_t c5 hb4
        have z : some (Sum.inl z4.1) = some o4 := hb4
        cases z
        exact K4 _ hk4 _ _ _ (lv_sub hl [0, 1, 2, 3] rfl) hw
      · have hb4 := cd_ite_f c5 hb4
        refine lv_iload hx hb dX2_at_26 (lv_at hl 3 rfl) ?_
        refine lv_aload_n hx hb dX2_at_28 rfl (lv_at hl 0 rfl) ?_
        refine lv_iload_n hx hb dX2_at_29 rfl (lv_at hl 2 rfl) ?_
        refine lv_iconst (v := (4 : Int32)) hx hb dX2_at_30 (by decide) ?_
        refine lv_imul hx hb dX2_at_31 ?_
        refine lv_iload hx hb dX2_at_32 (lv_at hl 4 rfl) ?_
        refine lv_iadd hx hb dX2_at_34 ?_
        obtain ⟨r6, e6, hb4⟩ := cd_bind_some hb4
        refine cd_callV (As := [.int ((z1.2 * (4 : Int32)) + z4.2)]) (rest := [.int z4.1]) C0 hw (c_X2_countOf l G cI cZ sa sb h Z ((z1.2 * (4 : Int32)) + z4.2) r6 e6) [0, 1, 2, 3] rfl rfl 0 2 rfl rfl rfl (cwV 1 hts gX2_at_X2_countOf rfl rfl rfl (by decide +kernel) ⟨Nat.le_of_ble_eq_true rfl, Nat.le_of_ble_eq_true rfl⟩) rfl hl.1 (lv_room (Nat.le_of_ble_eq_true rfl)) dX2_at_35 (fun H locs hw => ?_)
        refine lv_iadd hx hb dX2_at_38 ?_
        refine lv_istore (lv' := [(4, .int (z4.1 + r6)), (0, .ref (h 0)), (2, .int z1.1), (3, .int z1.2), (5, .int z4.2)]) hx hb dX2_at_39 hl (by decide) rfl (fun ls hl => ?_)
        refine lv_iinc (v := (z4.2 + (1 : Int32))) (lv' := [(5, .int (z4.2 + (1 : Int32))), (4, .int (z4.1 + r6)), (0, .ref (h 0)), (2, .int z1.1), (3, .int z1.2)]) hx hb dX2_at_41 hl (k := 4) rfl rfl (by decide) rfl (fun ls hl => ?_)
        refine lv_goto (tgt := 20) hx hb dX2_at_44 (by decide) ?_
        have z : some (Sum.inr ((z4.1 + r6), (z4.2 + (1 : Int32)))) = some o4 := hb4
        cases z
        exact hk4 _ _ _ (lv_sub hl [2, 3, 4, 1, 0] rfl) hw
abbrev rm_X3_minutesLeftTrimmed : Room := { frames := 1, cells := 0, slots := 0, locals := 23 }
theorem nw_X3_minutesLeftTrimmed_X3 : ∀ w ∈ u_ws RX3 TX3 14, w ∈ wsX3_minutesLeftTrimmed := by decide +kernel
set_option maxHeartbeats 4000000 in
set_option maxRecDepth 100000 in
theorem c_X3_minutesLeftTrimmed (l : Launch) (G : va_G) (cI cZ : ClassId) (sa sb : Nat) (h : Nat → Nat) (T : Nat → Nat → Int32) (a0 : Int32) (a1 : Int32) (o : Int32) (hf : f_X3_minutesLeftTrimmed a0 a1 T = some o) : cd_Ct l G cI cZ sa sb yX3_minutesLeftTrimmed wsX3_minutesLeftTrimmed rm_X3_minutesLeftTrimmed [.ref (h 0), .int a0, .int a1] ((pc_town cI h T)) ((pc_town cI h T)) (some (.int o)) := by
  refine cd_of (cc := cX3_minutesLeftTrimmed) (maxL := 4) (ret := (some .int)) (by decide) rfl (Nat.le_of_ble_eq_true rfl) ?_
  intro p e s m ag below meth c A ls Q C0 hl hw hQ
  have C0 : cd_CX G cI cZ sa sb p s m ag meth c cX3_minutesLeftTrimmed 4 (some .int) wsX3_minutesLeftTrimmed RX3 A := C0
  obtain ⟨⟨hx, hb, hml, hown, hts⟩, hr, hlocks, hA, hE⟩ := id C0
  have hK := hE.1
  have hL0 := hts (.fieldLink RX3 9 "CandleDebts$Town" "wax" "[I") (by decide +kernel)
  have hl : lv_has ls 4 [(0, .ref (h 0)), (1, .int a0), (2, .int a1)] := hl
  unfold f_X3_minutesLeftTrimmed at hf
  refine lv_aload_n hx hb dX3_minutesLeftTrimmed_0 rfl (lv_at hl 0 rfl) ?_
  refine lv_iload_n hx hb dX3_minutesLeftTrimmed_1 rfl (lv_at hl 1 rfl) ?_
  refine lv_iload_n hx hb dX3_minutesLeftTrimmed_2 rfl (lv_at hl 2 rfl) ?_
  obtain ⟨r1, e1, hf⟩ := cd_bind_some hf
  refine cd_callV (As := [.int a0, .int a1]) (rest := []) C0 hw (c_X3_burnTrimmed l G cI cZ sa sb h T a0 a1 r1 e1) [0, 1, 2, 3, 4, 5, 6, 7, 8, 9, 10] rfl rfl 0 3 rfl rfl rfl (cwV 2 hts gX3_minutesLeftTrimmed_X3_burnTrimmed rfl rfl rfl (by decide +kernel) ⟨Nat.le_of_ble_eq_true rfl, Nat.le_of_ble_eq_true rfl⟩) rfl hl.1 (lv_room (Nat.le_of_ble_eq_true rfl)) dX3_minutesLeftTrimmed_3 (fun H locs hw => ?_)
  refine lv_istore_n (lv' := [(3, .int r1), (0, .ref (h 0)), (1, .int a0), (2, .int a1)]) hx hb dX3_minutesLeftTrimmed_6 rfl hl (by decide) rfl (fun ls hl => ?_)
  refine lv_aload_n hx hb dX3_minutesLeftTrimmed_7 rfl (lv_at hl 1 rfl) ?_
  refine va_get (D := G) (ci := 3) (v := .ref (h 1)) (C := RX3) (T := TX3) (N := 14) hx hb hts nw_X3_minutesLeftTrimmed_X3 hown hK hw.1 0 rfl rfl 0 (by decide) hL0 (fun _ h9 => h9) rfl dX3_minutesLeftTrimmed_8 ?_
  refine lv_iload_n hx hb dX3_minutesLeftTrimmed_11 rfl (lv_at hl 2 rfl) ?_
  obtain ⟨v2, e2, hf⟩ := cd_bind_some hf
  refine cd_iald hx hb hK hw 1 rfl e2 dX3_minutesLeftTrimmed_12 ?_
  refine lv_iload_n hx hb dX3_minutesLeftTrimmed_13 rfl (lv_at hl 0 rfl) ?_
  refine lv_iadd hx hb dX3_minutesLeftTrimmed_14 ?_
  refine lv_iconst (v := (1 : Int32)) hx hb dX3_minutesLeftTrimmed_15 (by decide) ?_
  refine lv_isub hx hb dX3_minutesLeftTrimmed_16 ?_
  refine lv_iload_n hx hb dX3_minutesLeftTrimmed_17 rfl (lv_at hl 0 rfl) ?_
  obtain ⟨u3, e3, hf⟩ := cd_bind_some hf
  refine lv_idiv hx hb dX3_minutesLeftTrimmed_18 (cd_nz_eq e3) ?_
  have z : some (((v2 + r1) - (1 : Int32)) / r1) = some o := hf
  cases z
  rw [hQ]
  exact cd_reti C0 hw dX3_minutesLeftTrimmed_19
abbrev rm_X3_minutesLeft : Room := { frames := 2, cells := 0, slots := 0, locals := 46 }
theorem nw_X3_minutesLeft_X3 : ∀ w ∈ u_ws RX3 TX3 14, w ∈ wsX3_minutesLeft := by decide +kernel
set_option maxHeartbeats 4000000 in
set_option maxRecDepth 100000 in
theorem c_X3_minutesLeft (l : Launch) (G : va_G) (cI cZ : ClassId) (sa sb : Nat) (h : Nat → Nat) (T : Nat → Nat → Int32) (a0 : Int32) (o : Int32) (hf : f_X3_minutesLeft a0 T = some o) : cd_Ct l G cI cZ sa sb yX3_minutesLeft wsX3_minutesLeft rm_X3_minutesLeft [.ref (h 0), .int a0] ((pc_town cI h T)) ((pc_town cI h T)) (some (.int o)) := by
  refine cd_of (cc := cX3_minutesLeft) (maxL := 2) (ret := (some .int)) (by decide) rfl (Nat.le_of_ble_eq_true rfl) ?_
  intro p e s m ag below meth c A ls Q C0 hl hw hQ
  have C0 : cd_CX G cI cZ sa sb p s m ag meth c cX3_minutesLeft 2 (some .int) wsX3_minutesLeft RX3 A := C0
  obtain ⟨⟨hx, hb, hml, hown, hts⟩, hr, hlocks, hA, hE⟩ := id C0
  have hK := hE.1
  have hL0 := hts (.fieldLink RX3 15 "CandleDebts$Town" "trimmed" "[I") (by decide +kernel)
  have hl : lv_has ls 2 [(0, .ref (h 0)), (1, .int a0)] := hl
  unfold f_X3_minutesLeft at hf
  refine lv_aload_n hx hb dX3_minutesLeft_0 rfl (lv_at hl 0 rfl) ?_
  refine lv_iload_n hx hb dX3_minutesLeft_1 rfl (lv_at hl 1 rfl) ?_
  refine lv_aload_n hx hb dX3_minutesLeft_2 rfl (lv_at hl 0 rfl) ?_
  refine va_get (D := G) (ci := 3) (v := .ref (h 2)) (C := RX3) (T := TX3) (N := 14) hx hb hts nw_X3_minutesLeft_X3 hown hK hw.1 0 rfl rfl 1 (by decide) hL0 (fun _ h9 => h9) rfl dX3_minutesLeft_3 ?_
  refine lv_iload_n hx hb dX3_minutesLeft_6 rfl (lv_at hl 1 rfl) ?_
  obtain ⟨v1, e1, hf⟩ := cd_bind_some hf
  refine cd_iald hx hb hK hw 2 rfl e1 dX3_minutesLeft_7 ?_
  obtain ⟨r2, e2, hf⟩ := cd_bind_some hf
  refine cd_callV (As := [.int a0, .int v1]) (rest := []) C0 hw (c_X3_minutesLeftTrimmed l G cI cZ sa sb h T a0 v1 r2 e2) [0, 1, 2, 3, 4, 5, 6, 7, 8, 9, 10] rfl rfl 0 3 rfl rfl rfl (cwV 2 hts gX3_minutesLeft_X3_minutesLeftTrimmed rfl rfl rfl (by decide +kernel) ⟨Nat.le_of_ble_eq_true rfl, Nat.le_of_ble_eq_true rfl⟩) rfl hl.1 (lv_room (Nat.le_of_ble_eq_true rfl)) dX3_minutesLeft_8 (fun H locs hw => ?_)
  have z : some r2 = some o := hf
  cases z
  rw [hQ]
  exact cd_reti C0 hw dX3_minutesLeft_11
abbrev rm_X2_earliestFor : Room := { frames := 3, cells := 0, slots := 0, locals := 67 }
theorem nw_X2_earliestFor_X3 : ∀ w ∈ u_ws RX3 TX3 14, w ∈ wsX2_earliestFor := by decide +kernel
set_option maxHeartbeats 4000000 in
set_option maxRecDepth 100000 in
theorem c_X2_earliestFor (l : Launch) (G : va_G) (cI cZ : ClassId) (sa sb : Nat) (ht : Nat → Nat) (T : Nat → Nat → Int32) (a0 : Int32) (a1 : Int32) (o : Int32) (hf : f_X2_earliestFor a0 a1 T = some o) : cd_Ct l G cI cZ sa sb yX2_earliestFor wsX2_earliestFor rm_X2_earliestFor [.ref (ht 0), .int a0, .int a1] ((pc_town cI ht T)) ((pc_town cI ht T)) (some (.int o)) := by
  refine cd_of (cc := cX2_earliestFor) (maxL := 4) (ret := (some .int)) (by decide) rfl (Nat.le_of_ble_eq_true rfl) ?_
  intro p e s m ag below meth c A ls Q C0 hl hw hQ
  have C0 : cd_CX G cI cZ sa sb p s m ag meth c cX2_earliestFor 4 (some .int) wsX2_earliestFor RX2 A := C0
  obtain ⟨⟨hx, hb, hml, hown, hts⟩, hr, hlocks, hA, hE⟩ := id C0
  have hK := hE.1
  have hL0 := hts (.fieldLink RX2 41 "CandleDebts$Town" "wax" "[I") (by decide +kernel)
  have hl : lv_has ls 4 [(0, .ref (ht 0)), (1, .int a0), (2, .int a1)] := hl
  unfold f_X2_earliestFor at hf
  refine lv_iload_n hx hb dX2_earliestFor_0 rfl (lv_at hl 2 rfl) ?_
  refine lv_aload_n hx hb dX2_earliestFor_1 rfl (lv_at hl 0 rfl) ?_
  refine va_get (D := G) (ci := 3) (v := .ref (ht 1)) (C := RX3) (T := TX3) (N := 14) hx hb hts nw_X2_earliestFor_X3 hown hK hw.1 0 rfl rfl 0 (by decide) hL0 (fun _ h9 => h9) rfl dX2_earliestFor_2 ?_
  refine lv_iload_n hx hb dX2_earliestFor_5 rfl (lv_at hl 1 rfl) ?_
  obtain ⟨v1, e1, hf⟩ := cd_bind_some hf
  refine cd_iald hx hb hK hw 1 rfl e1 dX2_earliestFor_6 ?_
  refine lv_icmp_ne (tgt := 16) hx hb dX2_earliestFor_7 (by decide) (fun c2 => ?_) (fun c2 => ?_)
  · have hf := cd_ite_f c2 hf
    refine lv_aload_n hx hb dX2_earliestFor_16 rfl (lv_at hl 0 rfl) ?_
    refine lv_iload_n hx hb dX2_earliestFor_17 rfl (lv_at hl 1 rfl) ?_
    obtain ⟨r4, e4, hf⟩ := cd_bind_some hf
    refine cd_callV (As := [.int a0]) (rest := []) C0 hw (c_X3_burnOf l G cI cZ sa sb ht T a0 r4 e4) [0, 1, 2, 3, 4, 5, 6, 7, 8, 9, 10] rfl rfl 0 3 rfl rfl rfl (cwV 1 hts gX2_earliestFor_X3_burnOf rfl rfl rfl (by decide +kernel) ⟨Nat.le_of_ble_eq_true rfl, Nat.le_of_ble_eq_true rfl⟩) rfl hl.1 (lv_room (Nat.le_of_ble_eq_true rfl)) dX2_earliestFor_18 (fun H locs hw => ?_)
    refine lv_istore_n (lv' := [(3, .int r4), (0, .ref (ht 0)), (1, .int a0), (2, .int a1)]) hx hb dX2_earliestFor_21 rfl hl (by decide) rfl (fun ls hl => ?_)
    refine lv_iload_n hx hb dX2_earliestFor_22 rfl (lv_at hl 3 rfl) ?_
    refine lv_aload_n hx hb dX2_earliestFor_23 rfl (lv_at hl 1 rfl) ?_
    refine va_get (D := G) (ci := 3) (v := .ref (ht 1)) (C := RX3) (T := TX3) (N := 14) hx hb hts nw_X2_earliestFor_X3 hown hK hw.1 0 rfl rfl 0 (by decide) hL0 (fun _ h9 => h9) rfl dX2_earliestFor_24 ?_
    refine lv_iload_n hx hb dX2_earliestFor_27 rfl (lv_at hl 2 rfl) ?_
    obtain ⟨v5, e5, hf⟩ := cd_bind_some hf
    refine cd_iald hx hb hK hw 1 rfl e5 dX2_earliestFor_28 ?_
    obtain ⟨x6, e6, hf⟩ := cd_bind_some hf
    have K6 : ∀ (ls : Array Slot) (H : Heap) (locs : List Loc), lv_has ls 4 [] → cd_WS G A s.heap H locs ((pc_town cI ht T)) → W p l e rm_X2_earliestFor s m ag below meth c H locs 0 0 Q (F0 m 46 ls [.int x6]) := by
      intro ls H locs hl hw
      have z : some x6 = some o := hf
      cases z
      rw [hQ]
      exact cd_reti C0 hw dX2_earliestFor_46
    refine lv_icmp_ge (tgt := 44) hx hb dX2_earliestFor_29 (by decide) (fun c6 => ?_) (fun c6 => ?_)
    · have e6 := cd_ite_t c6 e6
      refine lv_bipush (v := (61 : Int32)) hx hb dX2_earliestFor_44 (by decide) ?_
      have z : some (61 : Int32) = some x6 := e6
      cases z
      exact K6 _ _ _ (lv_sub hl [] rfl) hw
    · have e6 := cd_ite_f c6 e6
      refine lv_iload_n hx hb dX2_earliestFor_32 rfl (lv_at hl 3 rfl) ?_
      refine lv_iload_n hx hb dX2_earliestFor_33 rfl (lv_at hl 0 rfl) ?_
      obtain ⟨u7, e7, e6⟩ := cd_bind_some e6
      refine lv_irem hx hb dX2_earliestFor_34 (cd_nz_eq e7) ?_
      refine lv_if_ne (tgt := 44) hx hb dX2_earliestFor_35 (by decide) (fun c8 => ?_) (fun c8 => ?_)
      · have e6 := cd_ite_f c8 e6
        refine lv_bipush (v := (61 : Int32)) hx hb dX2_earliestFor_44 (by decide) ?_
        have z : some (61 : Int32) = some x6 := e6
        cases z
        exact K6 _ _ _ (lv_sub hl [] rfl) hw
      · have e6 := cd_ite_t c8 e6
        refine lv_iload_n hx hb dX2_earliestFor_38 rfl (lv_at hl 3 rfl) ?_
        refine lv_iload_n hx hb dX2_earliestFor_39 rfl (lv_at hl 0 rfl) ?_
        obtain ⟨u9, e9, e6⟩ := cd_bind_some e6
        refine lv_idiv hx hb dX2_earliestFor_40 (cd_nz_eq e9) ?_
        refine lv_goto (tgt := 46) hx hb dX2_earliestFor_41 (by decide) ?_
        have z : some (a1 / r4) = some x6 := e6
        cases z
        exact K6 _ _ _ (lv_sub hl [] rfl) hw
  · have hf := cd_ite_t c2 hf
    refine lv_aload_n hx hb dX2_earliestFor_10 rfl (lv_at hl 0 rfl) ?_
    refine lv_iload_n hx hb dX2_earliestFor_11 rfl (lv_at hl 1 rfl) ?_
    obtain ⟨r3, e3, hf⟩ := cd_bind_some hf
    refine cd_callV (As := [.int a0]) (rest := []) C0 hw (c_X3_minutesLeft l G cI cZ sa sb ht T a0 r3 e3) [0, 1, 2, 3, 4, 5, 6, 7, 8, 9, 10] rfl rfl 0 3 rfl rfl rfl (cwV 1 hts gX2_earliestFor_X3_minutesLeft rfl rfl rfl (by decide +kernel) ⟨Nat.le_of_ble_eq_true rfl, Nat.le_of_ble_eq_true rfl⟩) rfl hl.1 (lv_room (Nat.le_of_ble_eq_true rfl)) dX2_earliestFor_12 (fun H locs hw => ?_)
    have z : some r3 = some o := hf
    cases z
    rw [hQ]
    exact cd_reti C0 hw dX2_earliestFor_15
abbrev rm_X2_reaches : Room := { frames := 1, cells := 0, slots := 0, locals := 13 }
set_option maxHeartbeats 4000000 in
set_option maxRecDepth 100000 in
theorem c_X2_reaches (l : Launch) (G : va_G) (cI cZ : ClassId) (sa sb : Nat) (a0 : Int32) (a1 : Int32) (o : Int32) (hf : f_X2_reaches a0 a1 = some o) : cd_Ct l G cI cZ sa sb yX2_reaches wsX2_reaches rm_X2_reaches [.int a0, .int a1] (([] : va_W)) (([] : va_W)) (some (.int o)) := by
  refine cd_of (cc := cX2_reaches) (maxL := 3) (ret := (some .boolean)) (by decide) rfl (Nat.le_of_ble_eq_true rfl) ?_
  intro p e s m ag below meth c A ls Q C0 hl hw hQ
  have C0 : cd_CX G cI cZ sa sb p s m ag meth c cX2_reaches 3 (some .boolean) wsX2_reaches RX2 A := C0
  obtain ⟨⟨hx, hb, hml, hown, hts⟩, hr, hlocks, hA, hE⟩ := id C0
  have hK := hE.1
  have hL0 := hts (.methodLink RX2 64 Lib.Math.abs.name) (by decide +kernel)
  have hL1 := hts (.static Lib.Math.abs.name) (by decide +kernel)
  have hL2 := hts (.initialized "java/lang/Math") (by decide +kernel)
  have hL3 := hts (.code Lib.Math.abs.name Lib.Math.abs.code 1 (some .int)) (by decide +kernel)
  have hl : lv_has ls 3 [(0, .int a0), (1, .int a1)] := hl
  unfold f_X2_reaches at hf
  refine lv_iload_n hx hb dX2_reaches_0 rfl (lv_at hl 0 rfl) ?_
  refine lv_iconst (v := (4 : Int32)) hx hb dX2_reaches_1 (by decide) ?_
  refine lv_idiv hx hb dX2_reaches_2 (by decide) ?_
  refine lv_istore_n (lv' := [(2, .int (a0 / (4 : Int32))), (0, .int a0), (1, .int a1)]) hx hb dX2_reaches_3 rfl hl (by decide) rfl (fun ls hl => ?_)
  refine lv_iload_n hx hb dX2_reaches_4 rfl (lv_at hl 2 rfl) ?_
  refine lv_iload_n hx hb dX2_reaches_5 rfl (lv_at hl 0 rfl) ?_
  refine lv_isub hx hb dX2_reaches_6 ?_
  refine cd_mabs hx hb (hml.trans hl.1.symm) hown hL0 hL1 hL2 hL3 (Nat.le_of_ble_eq_true rfl) (Nat.le_of_ble_eq_true rfl) dX2_reaches_7 ?_
  refine lv_iload_n hx hb dX2_reaches_10 rfl (lv_at hl 1 rfl) ?_
  refine lv_iconst (v := (4 : Int32)) hx hb dX2_reaches_11 (by decide) ?_
  refine lv_irem hx hb dX2_reaches_12 (by decide) ?_
  obtain ⟨x1, e1, hf⟩ := cd_bind_some hf
  have K1 : ∀ (ls : Array Slot) (H : Heap) (locs : List Loc), lv_has ls 3 [] → cd_WS G A s.heap H locs (([] : va_W)) → W p l e rm_X2_reaches s m ag below meth c H locs 0 0 Q (F0 m 21 ls [.int x1]) := by
    intro ls H locs hl hw
    obtain ⟨u2, e2, hf⟩ := cd_bind_some hf
    have z : some x1 = some o := hf
    cases z
    rw [hQ]
    exact cd_retz C0 hw (cd_zb_eq e2) dX2_reaches_21
  refine lv_icmp_gt (tgt := 20) hx hb dX2_reaches_13 (by decide) (fun c1 => ?_) (fun c1 => ?_)
  · have e1 := cd_ite_t c1 e1
    refine lv_iconst (v := (0 : Int32)) hx hb dX2_reaches_20 (by decide) ?_
    have z : some (0 : Int32) = some x1 := e1
    cases z
    exact K1 _ _ _ (lv_sub hl [] rfl) hw
  · have e1 := cd_ite_f c1 e1
    refine lv_iconst (v := (1 : Int32)) hx hb dX2_reaches_16 (by decide) ?_
    refine lv_goto (tgt := 21) hx hb dX2_reaches_17 (by decide) ?_
    have z : some (1 : Int32) = some x1 := e1
    cases z
    exact K1 _ _ _ (lv_sub hl [] rfl) hw
abbrev rm_X2_narrow : Room := { frames := 4, cells := 0, slots := 0, locals := 90 }
theorem nw_X2_narrow_X2 : ∀ w ∈ u_ws RX2 TX2 3, w ∈ wsX2_narrow := by decide +kernel
theorem nw_X2_narrow_X3 : ∀ w ∈ u_ws RX3 TX3 14, w ∈ wsX2_narrow := by decide +kernel
set_option maxHeartbeats 4000000 in
set_option maxRecDepth 100000 in
theorem c_X2_narrow (l : Launch) (G : va_G) (cI cZ : ClassId) (sa sb : Nat) (h ht : Nat → Nat) (Z T : Nat → Nat → Int32) (a0 : Int32) (a1 : Int32) (a2 : Int32) (o : (Nat → Nat → Int32)) (hf : f_X2_narrow a0 a1 a2 Z T = some o) : cd_Ct l G cI cZ sa sb yX2_narrow wsX2_narrow rm_X2_narrow [.ref (h 0), .int a0, .ref (ht 0), .int a1, .int a2] ((pc_snz cI h Z) ++ (pc_town cI ht T)) ((pc_snz cI h o) ++ (pc_town cI ht T)) none := by
  refine cd_of (cc := cX2_narrow) (maxL := 8) (ret := none) (by decide) rfl (Nat.le_of_ble_eq_true rfl) ?_
  intro p e s m ag below meth c A ls Q C0 hl hw hQ
  have C0 : cd_CX G cI cZ sa sb p s m ag meth c cX2_narrow 8 none wsX2_narrow RX2 A := C0
  obtain ⟨⟨hx, hb, hml, hown, hts⟩, hr, hlocks, hA, hE⟩ := id C0
  have hK := hE.1
  have hL0 := hts (.fieldLink RX2 41 "CandleDebts$Town" "wax" "[I") (by decide +kernel)
  have hL1 := hts (.fieldLink RX2 15 "CandleDebts$Sneezing" "ends" "[I") (by decide +kernel)
  have hL2 := hts (.fieldLink RX2 9 "CandleDebts$Sneezing" "begins" "[I") (by decide +kernel)
  have hL3 := hts (.methodLink RX2 48 Lib.Math.max.name) (by decide +kernel)
  have hL4 := hts (.static Lib.Math.max.name) (by decide +kernel)
  have hL5 := hts (.initialized "java/lang/Math") (by decide +kernel)
  have hL6 := hts (.code Lib.Math.max.name Lib.Math.max.code 2 (some .int)) (by decide +kernel)
  have hL7 := hts (.methodLink RX2 54 Lib.Math.min.name) (by decide +kernel)
  have hL8 := hts (.static Lib.Math.min.name) (by decide +kernel)
  have hL9 := hts (.code Lib.Math.min.name Lib.Math.min.code 2 (some .int)) (by decide +kernel)
  have hl : lv_has ls 8 [(0, .ref (h 0)), (1, .int a0), (2, .ref (ht 0)), (3, .int a1), (4, .int a2)] := hl
  unfold f_X2_narrow at hf
  refine lv_aload_n hx hb dX2_narrow_0 rfl (lv_at hl 2 rfl) ?_
  refine lv_iload_n hx hb dX2_narrow_1 rfl (lv_at hl 3 rfl) ?_
  refine lv_iload hx hb dX2_narrow_2 (lv_at hl 4 rfl) ?_
  obtain ⟨r1, e1, hf⟩ := cd_bind_some hf
  refine cd_callS (As := [.ref (ht 0), .int a1, .int a2]) (rest := []) C0 hw (c_X2_earliestFor l G cI cZ sa sb ht T a1 a2 r1 e1) [4, 5, 6, 7, 8, 9, 10, 11, 12, 13, 14] rfl rfl (va_cwS 3 hts gX2_narrow_X2_earliestFor rfl rfl rfl (by decide +kernel) ⟨Nat.le_of_ble_eq_true rfl, Nat.le_of_ble_eq_true rfl⟩) rfl hl.1 (lv_room (Nat.le_of_ble_eq_true rfl)) dX2_narrow_4 (fun H locs hw => ?_)
  refine lv_istore (lv' := [(5, .int r1), (0, .ref (h 0)), (1, .int a0), (2, .ref (ht 0)), (3, .int a1), (4, .int a2)]) hx hb dX2_narrow_7 hl (by decide) rfl (fun ls hl => ?_)
  refine lv_iload hx hb dX2_narrow_9 (lv_at hl 5 rfl) ?_
  refine lv_aload_n hx hb dX2_narrow_11 rfl (lv_at hl 3 rfl) ?_
  refine va_get (D := G) (ci := 3) (v := .ref (ht 1)) (C := RX3) (T := TX3) (N := 14) hx hb hts nw_X2_narrow_X3 hown hK hw.1 4 rfl rfl 0 (by decide) hL0 (fun _ h9 => h9) rfl dX2_narrow_12 ?_
  refine lv_iload_n hx hb dX2_narrow_15 rfl (lv_at hl 4 rfl) ?_
  obtain ⟨v2, e2, hf⟩ := cd_bind_some hf
  refine cd_iald hx hb hK hw 5 rfl e2 dX2_narrow_16 ?_
  obtain ⟨x3, e3, hf⟩ := cd_bind_some hf
  have K3 : ∀ (ls : Array Slot) (H : Heap) (locs : List Loc), lv_has ls 8 [(0, .ref (h 0)), (1, .int a0), (3, .int a1), (5, .int r1)] → cd_WS G A s.heap H locs ((pc_snz cI h Z) ++ (pc_town cI ht T)) → W p l e rm_X2_narrow s m ag below meth c H locs 0 0 Q (F0 m 25 ls [.int x3]) := by
    intro ls H locs hl hw
    refine lv_istore (lv' := [(6, .int x3), (0, .ref (h 0)), (1, .int a0), (3, .int a1), (5, .int r1)]) hx hb dX2_narrow_25 hl (by decide) rfl (fun ls hl => ?_)
    refine lv_iload hx hb dX2_narrow_27 (lv_at hl 0 rfl) ?_
    obtain ⟨x4, e4, hf⟩ := cd_bind_some hf
    have K4 : ∀ (ls : Array Slot) (H : Heap) (locs : List Loc), lv_has ls 8 [(0, .ref (h 0)), (1, .int a0), (3, .int a1), (5, .int r1)] → cd_WS G A s.heap H locs ((pc_snz cI h Z) ++ (pc_town cI ht T)) → W p l e rm_X2_narrow s m ag below meth c H locs 0 0 Q (F0 m 39 ls [.int x4]) := by
      intro ls H locs hl hw
      refine lv_istore (lv' := [(7, .int x4), (0, .ref (h 0)), (1, .int a0), (3, .int a1), (5, .int r1)]) hx hb dX2_narrow_39 hl (by decide) rfl (fun ls hl => ?_)
      refine lv_iload_n hx hb dX2_narrow_41 rfl (lv_at hl 2 rfl) ?_
      refine lv_iload_n hx hb dX2_narrow_42 rfl (lv_at hl 3 rfl) ?_
      obtain ⟨r5, e5, hf⟩ := cd_bind_some hf
      refine cd_callS (As := [.int a0, .int a1]) (rest := []) C0 hw (c_X2_reaches l G cI cZ sa sb a0 a1 r5 e5) [] rfl rfl (va_cwS 2 hts gX2_narrow_X2_reaches rfl rfl rfl (by decide +kernel) ⟨Nat.le_of_ble_eq_true rfl, Nat.le_of_ble_eq_true rfl⟩) rfl hl.1 (lv_room (Nat.le_of_ble_eq_true rfl)) dX2_narrow_43 (fun H locs hw => ?_)
      obtain ⟨x6, e6, hf⟩ := cd_bind_some hf
      have K6 : ∀ (ls : Array Slot) (H : Heap) (locs : List Loc), lv_has ls 8 [] → cd_WS G A s.heap H locs ((pc_snz cI h x6) ++ (pc_town cI ht T)) → W p l e rm_X2_narrow s m ag below meth c H locs 0 0 Q (F0 m 107 ls []) := by
        intro ls H locs hl hw
        have z : some x6 = some o := hf
        cases z
        rw [hQ]
        exact cd_retv C0 hw dX2_narrow_107
      refine lv_if_eq (tgt := 86) hx hb dX2_narrow_46 (by decide) (fun c6 => ?_) (fun c6 => ?_)
      · have e6 := cd_ite_t c6 e6
        refine lv_iload hx hb dX2_narrow_86 (lv_at hl 4 rfl) ?_
        refine lv_bipush (v := (60 : Int32)) hx hb dX2_narrow_88 (by decide) ?_
        refine lv_icmp_gt (tgt := 100) hx hb dX2_narrow_90 (by decide) (fun c7 => ?_) (fun c7 => ?_)
        · have e6 := cd_ite_t c7 e6
          refine lv_aload_n hx hb dX2_narrow_100 rfl (lv_at hl 1 rfl) ?_
          refine va_get (D := G) (ci := 2) (v := .ref (h 2)) (C := RX2) (T := TX2) (N := 3) hx hb hts nw_X2_narrow_X2 hown hK hw.1 0 rfl rfl 1 (by decide) hL1 (fun _ h9 => h9) rfl dX2_narrow_101 ?_
          refine lv_iload_n hx hb dX2_narrow_104 rfl (lv_at hl 2 rfl) ?_
          refine lv_iconst (v := (-1 : Int32)) hx hb dX2_narrow_105 (by decide) ?_
          obtain ⟨j8, e8, e6⟩ := cd_bind_some e6
          refine cd_iast (f := Z 1) hx hb hK hw 2 rfl e8 dX2_narrow_106 (fun H locs hw => ?_)
          have hw : cd_WS G A s.heap H locs ((pc_snz cI h (cd_set Z 1 j8 (-1 : Int32))) ++ (pc_town cI ht T)) := (show ∀ (s9 : Nat → Nat → Int32) (y9 : Int32), cd_WS G A s.heap H locs (((pc_snz cI h s9) ++ (pc_town cI ht T)).set 2 (h 2, .inl (cI, 48, .inl (upd (s9 1) j8 y9)))) → cd_WS G A s.heap H locs ((pc_snz cI h (cd_set s9 1 j8 y9)) ++ (pc_town cI ht T)) from fun _ _ hh => hh) Z (-1 : Int32) hw
          have z : some (cd_set Z 1 j8 (-1 : Int32)) = some x6 := e6
          cases z
          exact K6 _ _ _ (lv_sub hl [] rfl) hw
        · have e6 := cd_ite_f c7 e6
          refine lv_iload hx hb dX2_narrow_93 (lv_at hl 0 rfl) ?_
          refine lv_bipush (v := (60 : Int32)) hx hb dX2_narrow_95 (by decide) ?_
          refine lv_icmp_ge (tgt := 107) hx hb dX2_narrow_97 (by decide) (fun c9 => ?_) (fun c9 => ?_)
          · have e6 := cd_ite_t c9 e6
            have z : some Z = some x6 := e6
            cases z
            exact K6 _ _ _ (lv_sub hl [] rfl) hw
          · have e6 := cd_ite_f c9 e6
            refine lv_aload_n hx hb dX2_narrow_100 rfl (lv_at hl 1 rfl) ?_
            refine va_get (D := G) (ci := 2) (v := .ref (h 2)) (C := RX2) (T := TX2) (N := 3) hx hb hts nw_X2_narrow_X2 hown hK hw.1 0 rfl rfl 1 (by decide) hL1 (fun _ h9 => h9) rfl dX2_narrow_101 ?_
            refine lv_iload_n hx hb dX2_narrow_104 rfl (lv_at hl 2 rfl) ?_
            refine lv_iconst (v := (-1 : Int32)) hx hb dX2_narrow_105 (by decide) ?_
            obtain ⟨j10, e10, e6⟩ := cd_bind_some e6
            refine cd_iast (f := Z 1) hx hb hK hw 2 rfl e10 dX2_narrow_106 (fun H locs hw => ?_)
            have hw : cd_WS G A s.heap H locs ((pc_snz cI h (cd_set Z 1 j10 (-1 : Int32))) ++ (pc_town cI ht T)) := (show ∀ (s9 : Nat → Nat → Int32) (y9 : Int32), cd_WS G A s.heap H locs (((pc_snz cI h s9) ++ (pc_town cI ht T)).set 2 (h 2, .inl (cI, 48, .inl (upd (s9 1) j10 y9)))) → cd_WS G A s.heap H locs ((pc_snz cI h (cd_set s9 1 j10 y9)) ++ (pc_town cI ht T)) from fun _ _ hh => hh) Z (-1 : Int32) hw
            have z : some (cd_set Z 1 j10 (-1 : Int32)) = some x6 := e6
            cases z
            exact K6 _ _ _ (lv_sub hl [] rfl) hw
      · have e6 := cd_ite_f c6 e6
        refine lv_aload_n hx hb dX2_narrow_49 rfl (lv_at hl 1 rfl) ?_
        refine va_get (D := G) (ci := 2) (v := .ref (h 1)) (C := RX2) (T := TX2) (N := 3) hx hb hts nw_X2_narrow_X2 hown hK hw.1 0 rfl rfl 0 (by decide) hL2 (fun _ h9 => h9) rfl dX2_narrow_50 ?_
        refine lv_iload_n hx hb dX2_narrow_53 rfl (lv_at hl 2 rfl) ?_
        refine lv_aload_n hx hb dX2_narrow_54 rfl (lv_at hl 1 rfl) ?_
        refine va_get (D := G) (ci := 2) (v := .ref (h 1)) (C := RX2) (T := TX2) (N := 3) hx hb hts nw_X2_narrow_X2 hown hK hw.1 0 rfl rfl 0 (by decide) hL2 (fun _ h9 => h9) rfl dX2_narrow_55 ?_
        refine lv_iload_n hx hb dX2_narrow_58 rfl (lv_at hl 2 rfl) ?_
        obtain ⟨v11, e11, e6⟩ := cd_bind_some e6
        refine cd_iald hx hb hK hw 1 rfl e11 dX2_narrow_59 ?_
        refine lv_iload hx hb dX2_narrow_60 (lv_at hl 4 rfl) ?_
        refine cd_mmax hx hb (hml.trans hl.1.symm) hown hL3 hL4 hL5 hL6 (Nat.le_of_ble_eq_true rfl) (Nat.le_of_ble_eq_true rfl) dX2_narrow_62 ?_
        obtain ⟨j12, e12, e6⟩ := cd_bind_some e6
        refine cd_iast (f := Z 0) hx hb hK hw 1 rfl e12 dX2_narrow_65 (fun H locs hw => ?_)
        have hw : cd_WS G A s.heap H locs ((pc_snz cI h (cd_set Z 0 j12 (cd_max v11 r1))) ++ (pc_town cI ht T)) := (show ∀ (s9 : Nat → Nat → Int32) (y9 : Int32), cd_WS G A s.heap H locs (((pc_snz cI h s9) ++ (pc_town cI ht T)).set 1 (h 1, .inl (cI, 48, .inl (upd (s9 0) j12 y9)))) → cd_WS G A s.heap H locs ((pc_snz cI h (cd_set s9 0 j12 y9)) ++ (pc_town cI ht T)) from fun _ _ hh => hh) Z (cd_max v11 r1) hw
        refine lv_aload_n hx hb dX2_narrow_66 rfl (lv_at hl 1 rfl) ?_
        refine va_get (D := G) (ci := 2) (v := .ref (h 2)) (C := RX2) (T := TX2) (N := 3) hx hb hts nw_X2_narrow_X2 hown hK hw.1 0 rfl rfl 1 (by decide) hL1 (fun _ h9 => h9) rfl dX2_narrow_67 ?_
        refine lv_iload_n hx hb dX2_narrow_70 rfl (lv_at hl 2 rfl) ?_
        refine lv_aload_n hx hb dX2_narrow_71 rfl (lv_at hl 1 rfl) ?_
        refine va_get (D := G) (ci := 2) (v := .ref (h 2)) (C := RX2) (T := TX2) (N := 3) hx hb hts nw_X2_narrow_X2 hown hK hw.1 0 rfl rfl 1 (by decide) hL1 (fun _ h9 => h9) rfl dX2_narrow_72 ?_
        refine lv_iload_n hx hb dX2_narrow_75 rfl (lv_at hl 2 rfl) ?_
        obtain ⟨v13, e13, e6⟩ := cd_bind_some e6
        refine cd_iald hx hb hK hw 2 rfl e13 dX2_narrow_76 ?_
        refine lv_iload hx hb dX2_narrow_77 (lv_at hl 0 rfl) ?_
        refine cd_mmin hx hb (hml.trans hl.1.symm) hown hL7 hL8 hL5 hL9 (Nat.le_of_ble_eq_true rfl) (Nat.le_of_ble_eq_true rfl) dX2_narrow_79 ?_
        obtain ⟨j14, e14, e6⟩ := cd_bind_some e6
        refine cd_iast (f := (cd_set Z 0 j12 (cd_max v11 r1)) 1) hx hb hK hw 2 rfl e14 dX2_narrow_82 (fun H locs hw => ?_)
        have hw : cd_WS G A s.heap H locs ((pc_snz cI h (cd_set (cd_set Z 0 j12 (cd_max v11 r1)) 1 j14 (cd_min v13 x4))) ++ (pc_town cI ht T)) := (show ∀ (s9 : Nat → Nat → Int32) (y9 : Int32), cd_WS G A s.heap H locs (((pc_snz cI h s9) ++ (pc_town cI ht T)).set 2 (h 2, .inl (cI, 48, .inl (upd (s9 1) j14 y9)))) → cd_WS G A s.heap H locs ((pc_snz cI h (cd_set s9 1 j14 y9)) ++ (pc_town cI ht T)) from fun _ _ hh => hh) (cd_set Z 0 j12 (cd_max v11 r1)) (cd_min v13 x4) hw
        refine lv_goto (tgt := 107) hx hb dX2_narrow_83 (by decide) ?_
        have z : some (cd_set (cd_set Z 0 j12 (cd_max v11 r1)) 1 j14 (cd_min v13 x4)) = some x6 := e6
        cases z
        exact K6 _ _ _ (lv_sub hl [] rfl) hw
    refine lv_if_eq (tgt := 37) hx hb dX2_narrow_29 (by decide) (fun c4 => ?_) (fun c4 => ?_)
    · have e4 := cd_ite_t c4 e4
      refine lv_iload hx hb dX2_narrow_37 (lv_at hl 4 rfl) ?_
      have z : some r1 = some x4 := e4
      cases z
      exact K4 _ _ _ (lv_sub hl [1, 2, 3, 4] rfl) hw
    · have e4 := cd_ite_f c4 e4
      refine lv_bipush (v := (60 : Int32)) hx hb dX2_narrow_32 (by decide) ?_
      refine lv_goto (tgt := 39) hx hb dX2_narrow_34 (by decide) ?_
      have z : some (60 : Int32) = some x4 := e4
      cases z
      exact K4 _ _ _ (lv_sub hl [1, 2, 3, 4] rfl) hw
  refine lv_icmp_ne (tgt := 24) hx hb dX2_narrow_17 (by decide) (fun c3 => ?_) (fun c3 => ?_)
  · have e3 := cd_ite_f c3 e3
    refine lv_iconst (v := (0 : Int32)) hx hb dX2_narrow_24 (by decide) ?_
    have z : some (0 : Int32) = some x3 := e3
    cases z
    exact K3 _ _ _ (lv_sub hl [1, 2, 4, 0] rfl) hw
  · have e3 := cd_ite_t c3 e3
    refine lv_iconst (v := (1 : Int32)) hx hb dX2_narrow_20 (by decide) ?_
    refine lv_goto (tgt := 25) hx hb dX2_narrow_21 (by decide) ?_
    have z : some (1 : Int32) = some x3 := e3
    cases z
    exact K3 _ _ _ (lv_sub hl [1, 2, 4, 0] rfl) hw
abbrev rm_X2_fit : Room := { frames := 5, cells := 0, slots := 0, locals := 117 }
theorem nw_X2_fit_X2 : ∀ w ∈ u_ws RX2 TX2 3, w ∈ wsX2_fit := by decide +kernel
theorem nw_X2_fit_X3 : ∀ w ∈ u_ws RX3 TX3 14, w ∈ wsX2_fit := by decide +kernel
set_option maxHeartbeats 4000000 in
set_option maxRecDepth 100000 in
theorem c_X2_fit (l : Launch) (G : va_G) (cI cZ : ClassId) (sa sb : Nat) (h ht : Nat → Nat) (Z T : Nat → Nat → Int32) (o : (Nat → Nat → Int32)) (hf : f_X2_fit Z T = some o) : cd_Ct l G cI cZ sa sb yX2_fit wsX2_fit rm_X2_fit [.ref (h 0), .ref (ht 0)] ((pc_snz cI h Z) ++ (pc_town cI ht T)) ((pc_snz cI h o) ++ (pc_town cI ht T)) none := by
  refine cd_of (cc := cX2_fit) (maxL := 4) (ret := none) (by decide) rfl (Nat.le_of_ble_eq_true rfl) ?_
  intro p e s m ag below meth c A ls Q C0 hl hw hQ
  have C0 : cd_CX G cI cZ sa sb p s m ag meth c cX2_fit 4 none wsX2_fit RX2 A := C0
  obtain ⟨⟨hx, hb, hml, hown, hts⟩, hr, hlocks, hA, hE⟩ := id C0
  have hK := hE.1
  have hL0 := hts (.fieldLink RX2 9 "CandleDebts$Sneezing" "begins" "[I") (by decide +kernel)
  have hL1 := hts (.fieldLink RX2 15 "CandleDebts$Sneezing" "ends" "[I") (by decide +kernel)
  have hL2 := hts (.fieldLink RX2 21 "CandleDebts$Town" "sights" "I") (by decide +kernel)
  have hL3 := hts (.fieldLink RX2 27 "CandleDebts$Town" "sightCandles" "[I") (by decide +kernel)
  have hL4 := hts (.fieldLink RX2 30 "CandleDebts$Town" "sightLosses" "[I") (by decide +kernel)
  have hl : lv_has ls 4 [(0, .ref (h 0)), (1, .ref (ht 0))] := hl
  unfold f_X2_fit at hf
  refine lv_iconst (v := (0 : Int32)) hx hb dX2_fit_0 (by decide) ?_
  refine lv_istore_n (lv' := [(2, .int (0 : Int32)), (0, .ref (h 0)), (1, .ref (ht 0))]) hx hb dX2_fit_1 rfl hl (by decide) rfl (fun ls hl => ?_)
  obtain ⟨x1, e1, hf⟩ := cd_bind_some hf
  have K1 : ∀ (t1 : (Nat → Nat → Int32)), t1 = x1 → ∀ (ls : Array Slot) (H : Heap) (locs : List Loc), lv_has ls 4 [] → cd_WS G A s.heap H locs ((pc_snz cI h t1) ++ (pc_town cI ht T)) → W p l e rm_X2_fit s m ag below meth c H locs 0 0 Q (F0 m 69 ls []) := by
    intro t1 hs_1
    subst hs_1
    intro ls H locs hl hw
    have z : some t1 = some o := hf
    cases z
    rw [hQ]
    exact cd_retv C0 hw dX2_fit_69
  refine cd_iter_ind (body := (f_X2_fit_b2 T)) (K := fun r => r = x1) (P := fun (z1 : Int32 × (Nat → Nat → Int32)) => ∀ (ls : Array Slot) (H : Heap) (locs : List Loc), lv_has ls 4 [(0, .ref (h 0)), (1, .ref (ht 0)), (2, .int z1.1)] → cd_WS G A s.heap H locs ((pc_snz cI h z1.2) ++ (pc_town cI ht T)) → W p l e rm_X2_fit s m ag below meth c H locs 0 0 Q (F0 m 2 ls [])) ?_ cd_N ((0 : Int32), Z) x1 e1 rfl _ _ _ (lv_sub hl [1, 2, 0] rfl) hw
  intro z1 o1 hb1 hk1 ls H locs hl hw
  unfold f_X2_fit_b2 at hb1
  refine lv_iload_n hx hb dX2_fit_2 rfl (lv_at hl 2 rfl) ?_
  refine lv_bipush (v := (48 : Int32)) hx hb dX2_fit_3 (by decide) ?_
  refine lv_icmp_ge (tgt := 69) hx hb dX2_fit_5 (by decide) (fun c2 => ?_) (fun c2 => ?_)
  · have hb1 := cd_ite_t c2 hb1
    have z : some (Sum.inl z1.2) = some o1 := hb1
    cases z
    exact K1 _ hk1 _ _ _ (lv_sub hl [] rfl) hw
  · have hb1 := cd_ite_f c2 hb1
    refine lv_aload_n hx hb dX2_fit_8 rfl (lv_at hl 0 rfl) ?_
    refine va_get (D := G) (ci := 2) (v := .ref (h 1)) (C := RX2) (T := TX2) (N := 3) hx hb hts nw_X2_fit_X2 hown hK hw.1 0 rfl rfl 0 (by decide) hL0 (fun _ h9 => h9) rfl dX2_fit_9 ?_
    refine lv_iload_n hx hb dX2_fit_12 rfl (lv_at hl 2 rfl) ?_
    refine lv_iconst (v := (0 : Int32)) hx hb dX2_fit_13 (by decide) ?_
    obtain ⟨j3, e3, hb1⟩ := cd_bind_some hb1
    refine cd_iast (f := z1.2 0) hx hb hK hw 1 rfl e3 dX2_fit_14 (fun H locs hw => ?_)
    have hw : cd_WS G A s.heap H locs ((pc_snz cI h (cd_set z1.2 0 j3 (0 : Int32))) ++ (pc_town cI ht T)) := (show ∀ (s9 : Nat → Nat → Int32) (y9 : Int32), cd_WS G A s.heap H locs (((pc_snz cI h s9) ++ (pc_town cI ht T)).set 1 (h 1, .inl (cI, 48, .inl (upd (s9 0) j3 y9)))) → cd_WS G A s.heap H locs ((pc_snz cI h (cd_set s9 0 j3 y9)) ++ (pc_town cI ht T)) from fun _ _ hh => hh) z1.2 (0 : Int32) hw
    refine lv_aload_n hx hb dX2_fit_15 rfl (lv_at hl 0 rfl) ?_
    refine va_get (D := G) (ci := 2) (v := .ref (h 2)) (C := RX2) (T := TX2) (N := 3) hx hb hts nw_X2_fit_X2 hown hK hw.1 0 rfl rfl 1 (by decide) hL1 (fun _ h9 => h9) rfl dX2_fit_16 ?_
    refine lv_iload_n hx hb dX2_fit_19 rfl (lv_at hl 2 rfl) ?_
    refine lv_bipush (v := (60 : Int32)) hx hb dX2_fit_20 (by decide) ?_
    obtain ⟨j4, e4, hb1⟩ := cd_bind_some hb1
    refine cd_iast (f := (cd_set z1.2 0 j3 (0 : Int32)) 1) hx hb hK hw 2 rfl e4 dX2_fit_22 (fun H locs hw => ?_)
    have hw : cd_WS G A s.heap H locs ((pc_snz cI h (cd_set (cd_set z1.2 0 j3 (0 : Int32)) 1 j4 (60 : Int32))) ++ (pc_town cI ht T)) := (show ∀ (s9 : Nat → Nat → Int32) (y9 : Int32), cd_WS G A s.heap H locs (((pc_snz cI h s9) ++ (pc_town cI ht T)).set 2 (h 2, .inl (cI, 48, .inl (upd (s9 1) j4 y9)))) → cd_WS G A s.heap H locs ((pc_snz cI h (cd_set s9 1 j4 y9)) ++ (pc_town cI ht T)) from fun _ _ hh => hh) (cd_set z1.2 0 j3 (0 : Int32)) (60 : Int32) hw
    refine lv_iconst (v := (0 : Int32)) hx hb dX2_fit_23 (by decide) ?_
    refine lv_istore_n (lv' := [(3, .int (0 : Int32)), (0, .ref (h 0)), (1, .ref (ht 0)), (2, .int z1.1)]) hx hb dX2_fit_24 rfl hl (by decide) rfl (fun ls hl => ?_)
    obtain ⟨x5, e5, hb1⟩ := cd_bind_some hb1
    have K5 : ∀ (t5 : (Nat → Nat → Int32)), t5 = x5 → ∀ (ls : Array Slot) (H : Heap) (locs : List Loc), lv_has ls 4 [(0, .ref (h 0)), (1, .ref (ht 0)), (2, .int z1.1)] → cd_WS G A s.heap H locs ((pc_snz cI h t5) ++ (pc_town cI ht T)) → W p l e rm_X2_fit s m ag below meth c H locs 0 0 Q (F0 m 63 ls []) := by
      intro t5 hs_5
      subst hs_5
      intro ls H locs hl hw
      refine lv_iinc (v := (z1.1 + (1 : Int32))) (lv' := [(2, .int (z1.1 + (1 : Int32))), (0, .ref (h 0)), (1, .ref (ht 0))]) hx hb dX2_fit_63 hl (k := 2) rfl rfl (by decide) rfl (fun ls hl => ?_)
      refine lv_goto (tgt := 2) hx hb dX2_fit_66 (by decide) ?_
      have z : some (Sum.inr ((z1.1 + (1 : Int32)), t5)) = some o1 := hb1
      cases z
      exact hk1 _ _ _ (lv_sub hl [1, 2, 0] rfl) hw
    refine cd_iter_ind (body := (f_X2_fit_b25 T z1)) (K := fun r => r = x5) (P := fun (z5 : Int32 × (Nat → Nat → Int32)) => ∀ (ls : Array Slot) (H : Heap) (locs : List Loc), lv_has ls 4 [(0, .ref (h 0)), (1, .ref (ht 0)), (2, .int z1.1), (3, .int z5.1)] → cd_WS G A s.heap H locs ((pc_snz cI h z5.2) ++ (pc_town cI ht T)) → W p l e rm_X2_fit s m ag below meth c H locs 0 0 Q (F0 m 25 ls [])) ?_ cd_N ((0 : Int32), (cd_set (cd_set z1.2 0 j3 (0 : Int32)) 1 j4 (60 : Int32))) x5 e5 rfl _ _ _ (lv_sub hl [1, 2, 3, 0] rfl) hw
    intro z5 o5 hb5 hk5 ls H locs hl hw
    unfold f_X2_fit_b25 at hb5
    refine lv_iload_n hx hb dX2_fit_25 rfl (lv_at hl 3 rfl) ?_
    refine lv_aload_n hx hb dX2_fit_26 rfl (lv_at hl 1 rfl) ?_
    refine va_get (D := G) (ci := 3) (v := .int (T 10 0)) (C := RX3) (T := TX3) (N := 14) hx hb hts nw_X2_fit_X3 hown hK hw.1 4 rfl rfl 10 (by decide) hL2 (fun _ h9 => h9) rfl dX2_fit_27 ?_
    refine lv_icmp_ge (tgt := 63) hx hb dX2_fit_30 (by decide) (fun c6 => ?_) (fun c6 => ?_)
    · have hb5 := cd_ite_t c6 hb5
      have z : some (Sum.inl z5.2) = some o5 := hb5
      cases z
      exact K5 _ hk5 _ _ _ (lv_sub hl [0, 1, 2] rfl) hw
    · have hb5 := cd_ite_f c6 hb5
      refine lv_iload_n hx hb dX2_fit_33 rfl (lv_at hl 3 rfl) ?_
      refine lv_bipush (v := (8 : Int32)) hx hb dX2_fit_34 (by decide) ?_
      refine lv_icmp_ge (tgt := 63) hx hb dX2_fit_36 (by decide) (fun c7 => ?_) (fun c7 => ?_)
      · have hb5 := cd_ite_t c7 hb5
        have z : some (Sum.inl z5.2) = some o5 := hb5
        cases z
        exact K5 _ hk5 _ _ _ (lv_sub hl [0, 1, 2] rfl) hw
      · have hb5 := cd_ite_f c7 hb5
        refine lv_aload_n hx hb dX2_fit_39 rfl (lv_at hl 0 rfl) ?_
        refine lv_iload_n hx hb dX2_fit_40 rfl (lv_at hl 2 rfl) ?_
        refine lv_aload_n hx hb dX2_fit_41 rfl (lv_at hl 1 rfl) ?_
        refine lv_aload_n hx hb dX2_fit_42 rfl (lv_at hl 1 rfl) ?_
        refine va_get (D := G) (ci := 3) (v := .ref (ht 9)) (C := RX3) (T := TX3) (N := 14) hx hb hts nw_X2_fit_X3 hown hK hw.1 4 rfl rfl 8 (by decide) hL3 (fun _ h9 => h9) rfl dX2_fit_43 ?_
        refine lv_iload_n hx hb dX2_fit_46 rfl (lv_at hl 3 rfl) ?_
        obtain ⟨v8, e8, hb5⟩ := cd_bind_some hb5
        refine cd_iald hx hb hK hw 13 rfl e8 dX2_fit_47 ?_
        refine lv_aload_n hx hb dX2_fit_48 rfl (lv_at hl 1 rfl) ?_
        refine va_get (D := G) (ci := 3) (v := .ref (ht 10)) (C := RX3) (T := TX3) (N := 14) hx hb hts nw_X2_fit_X3 hown hK hw.1 4 rfl rfl 9 (by decide) hL4 (fun _ h9 => h9) rfl dX2_fit_49 ?_
        refine lv_iload_n hx hb dX2_fit_52 rfl (lv_at hl 3 rfl) ?_
        obtain ⟨v9, e9, hb5⟩ := cd_bind_some hb5
        refine cd_iald hx hb hK hw 14 rfl e9 dX2_fit_53 ?_
        obtain ⟨r10, e10, hb5⟩ := cd_bind_some hb5
        refine cd_callVw (As := [.int z1.1, .ref (ht 0), .int v8, .int v9]) (rest := []) (wr := ([] : va_W)) (wn := (pc_snz cI h r10) ++ (pc_town cI ht T)) C0 hw (c_X2_narrow l G cI cZ sa sb h ht z5.2 T z1.1 v8 v9 r10 e10) [0, 1, 2, 3, 4, 5, 6, 7, 8, 9, 10, 11, 12, 13, 14] [] [0, 1, 2, 3, 4, 5, 6, 7, 8, 9, 10, 11, 12, 13, 14] rfl rfl rfl rfl (by decide) rfl rfl 0 2 rfl rfl rfl (cwV 4 hts gX2_fit_X2_narrow rfl rfl rfl (by decide +kernel) ⟨Nat.le_of_ble_eq_true rfl, Nat.le_of_ble_eq_true rfl⟩) rfl hl.1 (lv_room (Nat.le_of_ble_eq_true rfl)) dX2_fit_54 (fun H locs hw => ?_)
        refine lv_iinc (v := (z5.1 + (1 : Int32))) (lv' := [(3, .int (z5.1 + (1 : Int32))), (0, .ref (h 0)), (1, .ref (ht 0)), (2, .int z1.1)]) hx hb dX2_fit_57 hl (k := 3) rfl rfl (by decide) rfl (fun ls hl => ?_)
        refine lv_goto (tgt := 25) hx hb dX2_fit_60 (by decide) ?_
        have z : some (Sum.inr ((z5.1 + (1 : Int32)), r10)) = some o5 := hb5
        cases z
        exact hk5 _ _ _ (lv_sub hl [1, 2, 3, 0] rfl) hw
abbrev rm_X2_howMany : Room := { frames := 2, cells := 0, slots := 0, locals := 34 }
set_option maxHeartbeats 4000000 in
set_option maxRecDepth 100000 in
theorem c_X2_howMany (l : Launch) (G : va_G) (cI cZ : ClassId) (sa sb : Nat) (h : Nat → Nat) (Z : Nat → Nat → Int32) (o : Int32) (hf : f_X2_howMany Z = some o) : cd_Ct l G cI cZ sa sb yX2_howMany wsX2_howMany rm_X2_howMany [.ref (h 0)] ((pc_snz cI h Z)) ((pc_snz cI h Z)) (some (.int o)) := by
  refine cd_of (cc := cX2_howMany) (maxL := 3) (ret := (some .int)) (by decide) rfl (Nat.le_of_ble_eq_true rfl) ?_
  intro p e s m ag below meth c A ls Q C0 hl hw hQ
  have C0 : cd_CX G cI cZ sa sb p s m ag meth c cX2_howMany 3 (some .int) wsX2_howMany RX2 A := C0
  obtain ⟨⟨hx, hb, hml, hown, hts⟩, hr, hlocks, hA, hE⟩ := id C0
  have hK := hE.1
  have hl : lv_has ls 3 [(0, .ref (h 0))] := hl
  unfold f_X2_howMany at hf
  refine lv_iconst (v := (0 : Int32)) hx hb dX2_howMany_0 (by decide) ?_
  refine lv_istore_n (lv' := [(1, .int (0 : Int32)), (0, .ref (h 0))]) hx hb dX2_howMany_1 rfl hl (by decide) rfl (fun ls hl => ?_)
  refine lv_iconst (v := (0 : Int32)) hx hb dX2_howMany_2 (by decide) ?_
  refine lv_istore_n (lv' := [(2, .int (0 : Int32)), (1, .int (0 : Int32)), (0, .ref (h 0))]) hx hb dX2_howMany_3 rfl hl (by decide) rfl (fun ls hl => ?_)
  obtain ⟨x1, e1, hf⟩ := cd_bind_some hf
  have K1 : ∀ (t1 : Int32), t1 = x1 → ∀ (ls : Array Slot) (H : Heap) (locs : List Loc), lv_has ls 3 [(1, .int t1)] → cd_WS G A s.heap H locs ((pc_snz cI h Z)) → W p l e rm_X2_howMany s m ag below meth c H locs 0 0 Q (F0 m 24 ls []) := by
    intro t1 hs_1
    subst hs_1
    intro ls H locs hl hw
    refine lv_iload_n hx hb dX2_howMany_24 rfl (lv_at hl 0 rfl) ?_
    have z : some t1 = some o := hf
    cases z
    rw [hQ]
    exact cd_reti C0 hw dX2_howMany_25
  refine cd_iter_ind (body := (f_X2_howMany_b4 Z)) (K := fun r => r = x1) (P := fun (z1 : Int32 × Int32) => ∀ (ls : Array Slot) (H : Heap) (locs : List Loc), lv_has ls 3 [(0, .ref (h 0)), (1, .int z1.1), (2, .int z1.2)] → cd_WS G A s.heap H locs ((pc_snz cI h Z)) → W p l e rm_X2_howMany s m ag below meth c H locs 0 0 Q (F0 m 4 ls [])) ?_ cd_N ((0 : Int32), (0 : Int32)) x1 e1 rfl _ _ _ (lv_sub hl [2, 1, 0] rfl) hw
  intro z1 o1 hb1 hk1 ls H locs hl hw
  unfold f_X2_howMany_b4 at hb1
  refine lv_iload_n hx hb dX2_howMany_4 rfl (lv_at hl 2 rfl) ?_
  refine lv_bipush (v := (48 : Int32)) hx hb dX2_howMany_5 (by decide) ?_
  refine lv_icmp_ge (tgt := 24) hx hb dX2_howMany_7 (by decide) (fun c2 => ?_) (fun c2 => ?_)
  · have hb1 := cd_ite_t c2 hb1
    have z : some (Sum.inl z1.1) = some o1 := hb1
    cases z
    exact K1 _ hk1 _ _ _ (lv_sub hl [1] rfl) hw
  · have hb1 := cd_ite_f c2 hb1
    refine lv_iload_n hx hb dX2_howMany_10 rfl (lv_at hl 1 rfl) ?_
    refine lv_aload_n hx hb dX2_howMany_11 rfl (lv_at hl 0 rfl) ?_
    refine lv_iload_n hx hb dX2_howMany_12 rfl (lv_at hl 2 rfl) ?_
    obtain ⟨r3, e3, hb1⟩ := cd_bind_some hb1
    refine cd_callV (As := [.int z1.2]) (rest := [.int z1.1]) C0 hw (c_X2_countOf l G cI cZ sa sb h Z z1.2 r3 e3) [0, 1, 2, 3] rfl rfl 0 2 rfl rfl rfl (cwV 1 hts gX2_howMany_X2_countOf rfl rfl rfl (by decide +kernel) ⟨Nat.le_of_ble_eq_true rfl, Nat.le_of_ble_eq_true rfl⟩) rfl hl.1 (lv_room (Nat.le_of_ble_eq_true rfl)) dX2_howMany_13 (fun H locs hw => ?_)
    refine lv_iadd hx hb dX2_howMany_16 ?_
    refine lv_istore_n (lv' := [(1, .int (z1.1 + r3)), (0, .ref (h 0)), (2, .int z1.2)]) hx hb dX2_howMany_17 rfl hl (by decide) rfl (fun ls hl => ?_)
    refine lv_iinc (v := (z1.2 + (1 : Int32))) (lv' := [(2, .int (z1.2 + (1 : Int32))), (1, .int (z1.1 + r3)), (0, .ref (h 0))]) hx hb dX2_howMany_18 hl (k := 2) rfl rfl (by decide) rfl (fun ls hl => ?_)
    refine lv_goto (tgt := 4) hx hb dX2_howMany_21 (by decide) ?_
    have z : some (Sum.inr ((z1.1 + r3), (z1.2 + (1 : Int32)))) = some o1 := hb1
    cases z
    exact hk1 _ _ _ (lv_sub hl [2, 1, 0] rfl) hw
abbrev rm_X2_mostLeft : Room := { frames := 3, cells := 0, slots := 0, locals := 67 }
theorem nw_X2_mostLeft_X2 : ∀ w ∈ u_ws RX2 TX2 3, w ∈ wsX2_mostLeft := by decide +kernel
set_option maxHeartbeats 4000000 in
set_option maxRecDepth 100000 in
theorem c_X2_mostLeft (l : Launch) (G : va_G) (cI cZ : ClassId) (sa sb : Nat) (h ht : Nat → Nat) (Z T : Nat → Nat → Int32) (a0 : Int32) (o : Int32 × (Nat → Nat → Int32)) (hf : f_X2_mostLeft a0 Z T = some o) : cd_Ct l G cI cZ sa sb yX2_mostLeft wsX2_mostLeft rm_X2_mostLeft [.ref (h 0), .ref (ht 0), .int a0] ((pc_snz cI h Z) ++ (pc_town cI ht T)) ((pc_snz cI h o.2) ++ (pc_town cI ht T)) (some (.int o.1)) := by
  refine cd_of (cc := cX2_mostLeft) (maxL := 8) (ret := (some .int)) (by decide) rfl (Nat.le_of_ble_eq_true rfl) ?_
  intro p e s m ag below meth c A ls Q C0 hl hw hQ
  have C0 : cd_CX G cI cZ sa sb p s m ag meth c cX2_mostLeft 8 (some .int) wsX2_mostLeft RX2 A := C0
  obtain ⟨⟨hx, hb, hml, hown, hts⟩, hr, hlocks, hA, hE⟩ := id C0
  have hK := hE.1
  have hL0 := hts (.fieldLink RX2 18 "CandleDebts$Sneezing" "changes" "[I") (by decide +kernel)
  have hL1 := hts (.methodLink RX2 54 Lib.Math.min.name) (by decide +kernel)
  have hL2 := hts (.static Lib.Math.min.name) (by decide +kernel)
  have hL3 := hts (.initialized "java/lang/Math") (by decide +kernel)
  have hL4 := hts (.code Lib.Math.min.name Lib.Math.min.code 2 (some .int)) (by decide +kernel)
  have hL5 := hts (.fieldLink RX2 9 "CandleDebts$Sneezing" "begins" "[I") (by decide +kernel)
  have hL6 := hts (.fieldLink RX2 15 "CandleDebts$Sneezing" "ends" "[I") (by decide +kernel)
  have hL7 := hts (.methodLink RX2 48 Lib.Math.max.name) (by decide +kernel)
  have hL8 := hts (.static Lib.Math.max.name) (by decide +kernel)
  have hL9 := hts (.code Lib.Math.max.name Lib.Math.max.code 2 (some .int)) (by decide +kernel)
  have hl : lv_has ls 8 [(0, .ref (h 0)), (1, .ref (ht 0)), (2, .int a0)] := hl
  unfold f_X2_mostLeft at hf
  refine lv_iconst (v := (0 : Int32)) hx hb dX2_mostLeft_0 (by decide) ?_
  refine lv_istore_n (lv' := [(3, .int (0 : Int32)), (0, .ref (h 0)), (1, .ref (ht 0)), (2, .int a0)]) hx hb dX2_mostLeft_1 rfl hl (by decide) rfl (fun ls hl => ?_)
  obtain ⟨x1, e1, hf⟩ := cd_bind_some hf
  have K1 : ∀ (t1 : (Nat → Nat → Int32)), t1 = x1 → ∀ (ls : Array Slot) (H : Heap) (locs : List Loc), lv_has ls 8 [(0, .ref (h 0)), (1, .ref (ht 0)), (2, .int a0)] → cd_WS G A s.heap H locs ((pc_snz cI h t1) ++ (pc_town cI ht T)) → W p l e rm_X2_mostLeft s m ag below meth c H locs 0 0 Q (F0 m 21 ls []) := by
    intro t1 hs_1
    subst hs_1
    intro ls H locs hl hw
    refine lv_bipush (v := (60 : Int32)) hx hb dX2_mostLeft_21 (by decide) ?_
    refine lv_aload_n hx hb dX2_mostLeft_23 rfl (lv_at hl 1 rfl) ?_
    refine lv_iload_n hx hb dX2_mostLeft_24 rfl (lv_at hl 2 rfl) ?_
    obtain ⟨r4, e4, hf⟩ := cd_bind_some hf
    refine cd_callV (As := [.int a0]) (rest := [.int (60 : Int32)]) C0 hw (c_X3_minutesLeft l G cI cZ sa sb ht T a0 r4 e4) [4, 5, 6, 7, 8, 9, 10, 11, 12, 13, 14] rfl rfl 0 3 rfl rfl rfl (cwV 1 hts gX2_mostLeft_X3_minutesLeft rfl rfl rfl (by decide +kernel) ⟨Nat.le_of_ble_eq_true rfl, Nat.le_of_ble_eq_true rfl⟩) rfl hl.1 (lv_room (Nat.le_of_ble_eq_true rfl)) dX2_mostLeft_25 (fun H locs hw => ?_)
    refine cd_mmin hx hb (hml.trans hl.1.symm) hown hL1 hL2 hL3 hL4 (Nat.le_of_ble_eq_true rfl) (Nat.le_of_ble_eq_true rfl) dX2_mostLeft_28 ?_
    refine lv_istore_n (lv' := [(3, .int (cd_min (60 : Int32) r4)), (0, .ref (h 0)), (1, .ref (ht 0)), (2, .int a0)]) hx hb dX2_mostLeft_31 rfl hl (by decide) rfl (fun ls hl => ?_)
    refine lv_iconst (v := (0 : Int32)) hx hb dX2_mostLeft_32 (by decide) ?_
    refine lv_istore (lv' := [(4, .int (0 : Int32)), (3, .int (cd_min (60 : Int32) r4)), (0, .ref (h 0)), (1, .ref (ht 0)), (2, .int a0)]) hx hb dX2_mostLeft_33 hl (by decide) rfl (fun ls hl => ?_)
    refine lv_iconst (v := (0 : Int32)) hx hb dX2_mostLeft_35 (by decide) ?_
    refine lv_istore (lv' := [(5, .int (0 : Int32)), (4, .int (0 : Int32)), (3, .int (cd_min (60 : Int32) r4)), (0, .ref (h 0)), (1, .ref (ht 0)), (2, .int a0)]) hx hb dX2_mostLeft_36 hl (by decide) rfl (fun ls hl => ?_)
    obtain ⟨x5, e5, hf⟩ := cd_bind_some hf
    have K5 : ∀ (t5 : Int32 × (Nat → Nat → Int32)), t5 = x5 → ∀ (ls : Array Slot) (H : Heap) (locs : List Loc), lv_has ls 8 [(0, .ref (h 0)), (3, .int (cd_min (60 : Int32) r4)), (4, .int t5.1)] → cd_WS G A s.heap H locs ((pc_snz cI h t5.2) ++ (pc_town cI ht T)) → W p l e rm_X2_mostLeft s m ag below meth c H locs 0 0 Q (F0 m 117 ls []) := by
      intro t5 hs_5
      subst hs_5
      intro ls H locs hl hw
      refine lv_iconst (v := (0 : Int32)) hx hb dX2_mostLeft_117 (by decide) ?_
      refine lv_istore (lv' := [(5, .int (0 : Int32)), (0, .ref (h 0)), (3, .int (cd_min (60 : Int32) r4)), (4, .int t5.1)]) hx hb dX2_mostLeft_118 hl (by decide) rfl (fun ls hl => ?_)
      refine lv_iconst (v := (0 : Int32)) hx hb dX2_mostLeft_120 (by decide) ?_
      refine lv_istore (lv' := [(6, .int (0 : Int32)), (5, .int (0 : Int32)), (0, .ref (h 0)), (3, .int (cd_min (60 : Int32) r4)), (4, .int t5.1)]) hx hb dX2_mostLeft_121 hl (by decide) rfl (fun ls hl => ?_)
      refine lv_iconst (v := (0 : Int32)) hx hb dX2_mostLeft_123 (by decide) ?_
      refine lv_istore (lv' := [(7, .int (0 : Int32)), (6, .int (0 : Int32)), (5, .int (0 : Int32)), (0, .ref (h 0)), (3, .int (cd_min (60 : Int32) r4)), (4, .int t5.1)]) hx hb dX2_mostLeft_124 hl (by decide) rfl (fun ls hl => ?_)
      obtain ⟨x18, e18, hf⟩ := cd_bind_some hf
      have K18 : ∀ (t18 : Int32 × Int32), t18 = x18 → ∀ (ls : Array Slot) (H : Heap) (locs : List Loc), lv_has ls 8 [(4, .int t18.1), (5, .int t18.2)] → cd_WS G A s.heap H locs ((pc_snz cI h t5.2) ++ (pc_town cI ht T)) → W p l e rm_X2_mostLeft s m ag below meth c H locs 0 0 Q (F0 m 176 ls []) := by
        intro t18 hs_18
        subst hs_18
        intro ls H locs hl hw
        refine lv_iload hx hb dX2_mostLeft_176 (lv_at hl 1 rfl) ?_
        refine lv_iload hx hb dX2_mostLeft_178 (lv_at hl 0 rfl) ?_
        refine cd_mmax hx hb (hml.trans hl.1.symm) hown hL7 hL8 hL3 hL9 (Nat.le_of_ble_eq_true rfl) (Nat.le_of_ble_eq_true rfl) dX2_mostLeft_180 ?_
        have z : some ((cd_max t18.2 t18.1), t5.2) = some o := hf
        cases z
        rw [hQ]
        exact cd_reti C0 hw dX2_mostLeft_183
      refine cd_iter_ind (body := (f_X2_mostLeft_b126 r4 t5)) (K := fun r => r = x18) (P := fun (z18 : Int32 × Int32 × Int32 × Int32) => ∀ (ls : Array Slot) (H : Heap) (locs : List Loc), lv_has ls 8 [(0, .ref (h 0)), (3, .int (cd_min (60 : Int32) r4)), (4, .int z18.1), (5, .int z18.2.1), (6, .int z18.2.2.1), (7, .int z18.2.2.2)] → cd_WS G A s.heap H locs ((pc_snz cI h t5.2) ++ (pc_town cI ht T)) → W p l e rm_X2_mostLeft s m ag below meth c H locs 0 0 Q (F0 m 126 ls [])) ?_ cd_N (t5.1, (0 : Int32), (0 : Int32), (0 : Int32)) x18 e18 rfl _ _ _ (lv_sub hl [3, 4, 5, 2, 1, 0] rfl) hw
      intro z18 o18 hb18 hk18 ls H locs hl hw
      unfold f_X2_mostLeft_b126 at hb18
      refine lv_iload hx hb dX2_mostLeft_126 (lv_at hl 5 rfl) ?_
      refine lv_bipush (v := (60 : Int32)) hx hb dX2_mostLeft_128 (by decide) ?_
      refine lv_icmp_gt (tgt := 176) hx hb dX2_mostLeft_130 (by decide) (fun c19 => ?_) (fun c19 => ?_)
      · have hb18 := cd_ite_t c19 hb18
        have z : some (Sum.inl (z18.1, z18.2.1)) = some o18 := hb18
        cases z
        exact K18 _ hk18 _ _ _ (lv_sub hl [2, 3] rfl) hw
      · have hb18 := cd_ite_f c19 hb18
        refine lv_iload hx hb dX2_mostLeft_133 (lv_at hl 4 rfl) ?_
        refine lv_aload_n hx hb dX2_mostLeft_135 rfl (lv_at hl 0 rfl) ?_
        refine va_get (D := G) (ci := 2) (v := .ref (h 3)) (C := RX2) (T := TX2) (N := 3) hx hb hts nw_X2_mostLeft_X2 hown hK hw.1 0 rfl rfl 2 (by decide) hL0 (fun _ h9 => h9) rfl dX2_mostLeft_136 ?_
        refine lv_iload hx hb dX2_mostLeft_139 (lv_at hl 5 rfl) ?_
        obtain ⟨v20, e20, hb18⟩ := cd_bind_some hb18
        refine cd_iald hx hb hK hw 3 rfl e20 dX2_mostLeft_141 ?_
        refine lv_iadd hx hb dX2_mostLeft_142 ?_
        refine lv_istore (lv' := [(6, .int (z18.2.2.1 + v20)), (0, .ref (h 0)), (3, .int (cd_min (60 : Int32) r4)), (4, .int z18.1), (5, .int z18.2.1), (7, .int z18.2.2.2)]) hx hb dX2_mostLeft_143 hl (by decide) rfl (fun ls hl => ?_)
        refine lv_iload hx hb dX2_mostLeft_145 (lv_at hl 5 rfl) ?_
        refine lv_iload_n hx hb dX2_mostLeft_147 rfl (lv_at hl 2 rfl) ?_
        refine lv_icmp_ge (tgt := 163) hx hb dX2_mostLeft_148 (by decide) (fun c21 => ?_) (fun c21 => ?_)
        · have hb18 := cd_ite_t c21 hb18
          refine lv_iload hx hb dX2_mostLeft_163 (lv_at hl 3 rfl) ?_
          refine lv_iload hx hb dX2_mostLeft_165 (lv_at hl 0 rfl) ?_
          refine lv_iadd hx hb dX2_mostLeft_167 ?_
          refine lv_istore (lv' := [(4, .int (z18.1 + (z18.2.2.1 + v20))), (6, .int (z18.2.2.1 + v20)), (0, .ref (h 0)), (3, .int (cd_min (60 : Int32) r4)), (5, .int z18.2.1), (7, .int z18.2.2.2)]) hx hb dX2_mostLeft_168 hl (by decide) rfl (fun ls hl => ?_)
          refine lv_iinc (v := (z18.2.2.2 + (1 : Int32))) (lv' := [(7, .int (z18.2.2.2 + (1 : Int32))), (4, .int (z18.1 + (z18.2.2.1 + v20))), (6, .int (z18.2.2.1 + v20)), (0, .ref (h 0)), (3, .int (cd_min (60 : Int32) r4)), (5, .int z18.2.1)]) hx hb dX2_mostLeft_170 hl (k := 5) rfl rfl (by decide) rfl (fun ls hl => ?_)
          refine lv_goto (tgt := 126) hx hb dX2_mostLeft_173 (by decide) ?_
          have z : some (Sum.inr ((z18.1 + (z18.2.2.1 + v20)), z18.2.1, (z18.2.2.1 + v20), (z18.2.2.2 + (1 : Int32)))) = some o18 := hb18
          cases z
          exact hk18 _ _ _ (lv_sub hl [3, 4, 1, 5, 2, 0] rfl) hw
        · have hb18 := cd_ite_f c21 hb18
          refine lv_iload hx hb dX2_mostLeft_151 (lv_at hl 4 rfl) ?_
          refine lv_iload hx hb dX2_mostLeft_153 (lv_at hl 0 rfl) ?_
          refine cd_mmax hx hb (hml.trans hl.1.symm) hown hL7 hL8 hL3 hL9 (Nat.le_of_ble_eq_true rfl) (Nat.le_of_ble_eq_true rfl) dX2_mostLeft_155 ?_
          refine lv_istore (lv' := [(5, .int (cd_max z18.2.1 (z18.2.2.1 + v20))), (6, .int (z18.2.2.1 + v20)), (0, .ref (h 0)), (3, .int (cd_min (60 : Int32) r4)), (4, .int z18.1), (7, .int z18.2.2.2)]) hx hb dX2_mostLeft_158 hl (by decide) rfl (fun ls hl => ?_)
          refine lv_goto (tgt := 170) hx hb dX2_mostLeft_160 (by decide) ?_
          refine lv_iinc (v := (z18.2.2.2 + (1 : Int32))) (lv' := [(7, .int (z18.2.2.2 + (1 : Int32))), (5, .int (cd_max z18.2.1 (z18.2.2.1 + v20))), (6, .int (z18.2.2.1 + v20)), (0, .ref (h 0)), (3, .int (cd_min (60 : Int32) r4)), (4, .int z18.1)]) hx hb dX2_mostLeft_170 hl (k := 5) rfl rfl (by decide) rfl (fun ls hl => ?_)
          refine lv_goto (tgt := 126) hx hb dX2_mostLeft_173 (by decide) ?_
          have z : some (Sum.inr (z18.1, (cd_max z18.2.1 (z18.2.2.1 + v20)), (z18.2.2.1 + v20), (z18.2.2.2 + (1 : Int32)))) = some o18 := hb18
          cases z
          exact hk18 _ _ _ (lv_sub hl [3, 4, 5, 1, 2, 0] rfl) hw
    refine cd_iter_ind (body := (f_X2_mostLeft_b38 a0)) (K := fun r => r = x5) (P := fun (z5 : Int32 × Int32 × (Nat → Nat → Int32)) => ∀ (ls : Array Slot) (H : Heap) (locs : List Loc), lv_has ls 8 [(0, .ref (h 0)), (2, .int a0), (3, .int (cd_min (60 : Int32) r4)), (4, .int z5.1), (5, .int z5.2.1)] → cd_WS G A s.heap H locs ((pc_snz cI h z5.2.2) ++ (pc_town cI ht T)) → W p l e rm_X2_mostLeft s m ag below meth c H locs 0 0 Q (F0 m 38 ls [])) ?_ cd_N ((0 : Int32), (0 : Int32), t1) x5 e5 rfl _ _ _ (lv_sub hl [3, 5, 2, 1, 0] rfl) hw
    intro z5 o5 hb5 hk5 ls H locs hl hw
    unfold f_X2_mostLeft_b38 at hb5
    refine lv_iload hx hb dX2_mostLeft_38 (lv_at hl 4 rfl) ?_
    refine lv_bipush (v := (48 : Int32)) hx hb dX2_mostLeft_40 (by decide) ?_
    refine lv_icmp_ge (tgt := 117) hx hb dX2_mostLeft_42 (by decide) (fun c6 => ?_) (fun c6 => ?_)
    · have hb5 := cd_ite_t c6 hb5
      have z : some (Sum.inl (z5.1, z5.2.2)) = some o5 := hb5
      cases z
      exact K5 _ hk5 _ _ _ (lv_sub hl [0, 2, 3] rfl) hw
    · have hb5 := cd_ite_f c6 hb5
      refine lv_iload hx hb dX2_mostLeft_45 (lv_at hl 4 rfl) ?_
      refine lv_iload_n hx hb dX2_mostLeft_47 rfl (lv_at hl 1 rfl) ?_
      obtain ⟨r7, e7, hb5⟩ := cd_bind_some hb5
      refine cd_callS (As := [.int z5.2.1, .int a0]) (rest := []) C0 hw (c_X2_reaches l G cI cZ sa sb z5.2.1 a0 r7 e7) [] rfl rfl (va_cwS 2 hts gX2_mostLeft_X2_reaches rfl rfl rfl (by decide +kernel) ⟨Nat.le_of_ble_eq_true rfl, Nat.le_of_ble_eq_true rfl⟩) rfl hl.1 (lv_room (Nat.le_of_ble_eq_true rfl)) dX2_mostLeft_48 (fun H locs hw => ?_)
      refine lv_if_ne (tgt := 68) hx hb dX2_mostLeft_51 (by decide) (fun c8 => ?_) (fun c8 => ?_)
      · have hb5 := cd_ite_f c8 hb5
        refine lv_aload_n hx hb dX2_mostLeft_68 rfl (lv_at hl 0 rfl) ?_
        refine lv_iload hx hb dX2_mostLeft_69 (lv_at hl 4 rfl) ?_
        obtain ⟨r10, e10, hb5⟩ := cd_bind_some hb5
        refine cd_callV (As := [.int z5.2.1]) (rest := []) C0 hw (c_X2_countOf l G cI cZ sa sb h z5.2.2 z5.2.1 r10 e10) [0, 1, 2, 3] rfl rfl 0 2 rfl rfl rfl (cwV 1 hts gX2_mostLeft_X2_countOf rfl rfl rfl (by decide +kernel) ⟨Nat.le_of_ble_eq_true rfl, Nat.le_of_ble_eq_true rfl⟩) rfl hl.1 (lv_room (Nat.le_of_ble_eq_true rfl)) dX2_mostLeft_71 (fun H locs hw => ?_)
        refine lv_if_le (tgt := 111) hx hb dX2_mostLeft_74 (by decide) (fun c11 => ?_) (fun c11 => ?_)
        · have hb5 := cd_ite_t c11 hb5
          refine lv_iinc (v := (z5.2.1 + (1 : Int32))) (lv' := [(5, .int (z5.2.1 + (1 : Int32))), (0, .ref (h 0)), (2, .int a0), (3, .int (cd_min (60 : Int32) r4)), (4, .int z5.1)]) hx hb dX2_mostLeft_111 hl (k := 4) rfl rfl (by decide) rfl (fun ls hl => ?_)
          refine lv_goto (tgt := 38) hx hb dX2_mostLeft_114 (by decide) ?_
          have z : some (Sum.inr (z5.1, (z5.2.1 + (1 : Int32)), z5.2.2)) = some o5 := hb5
          cases z
          exact hk5 _ _ _ (lv_sub hl [1, 2, 3, 4, 0] rfl) hw
        · have hb5 := cd_ite_f c11 hb5
          refine lv_aload_n hx hb dX2_mostLeft_77 rfl (lv_at hl 0 rfl) ?_
          refine va_get (D := G) (ci := 2) (v := .ref (h 3)) (C := RX2) (T := TX2) (N := 3) hx hb hts nw_X2_mostLeft_X2 hown hK hw.1 0 rfl rfl 2 (by decide) hL0 (fun _ h9 => h9) rfl dX2_mostLeft_78 ?_
          refine lv_aload_n hx hb dX2_mostLeft_81 rfl (lv_at hl 0 rfl) ?_
          refine va_get (D := G) (ci := 2) (v := .ref (h 1)) (C := RX2) (T := TX2) (N := 3) hx hb hts nw_X2_mostLeft_X2 hown hK hw.1 0 rfl rfl 0 (by decide) hL5 (fun _ h9 => h9) rfl dX2_mostLeft_82 ?_
          refine lv_iload hx hb dX2_mostLeft_85 (lv_at hl 4 rfl) ?_
          obtain ⟨v12, e12, hb5⟩ := cd_bind_some hb5
          refine cd_iald hx hb hK hw 1 rfl e12 dX2_mostLeft_87 ?_
          refine lv_dup2_11 hx hb dX2_mostLeft_88 rfl rfl ?_
          obtain ⟨v13, e13, hb5⟩ := cd_bind_some hb5
          refine cd_iald hx hb hK hw 3 rfl e13 dX2_mostLeft_89 ?_
          refine lv_iconst (v := (1 : Int32)) hx hb dX2_mostLeft_90 (by decide) ?_
          refine lv_iadd hx hb dX2_mostLeft_91 ?_
          obtain ⟨j14, e14, hb5⟩ := cd_bind_some hb5
          refine cd_iast (f := z5.2.2 2) hx hb hK hw 3 rfl e14 dX2_mostLeft_92 (fun H locs hw => ?_)
          have hw : cd_WS G A s.heap H locs ((pc_snz cI h (cd_set z5.2.2 2 j14 (v13 + (1 : Int32)))) ++ (pc_town cI ht T)) := (show ∀ (s9 : Nat → Nat → Int32) (y9 : Int32), cd_WS G A s.heap H locs (((pc_snz cI h s9) ++ (pc_town cI ht T)).set 3 (h 3, .inl (cI, 62, .inl (upd (s9 2) j14 y9)))) → cd_WS G A s.heap H locs ((pc_snz cI h (cd_set s9 2 j14 y9)) ++ (pc_town cI ht T)) from fun _ _ hh => hh) z5.2.2 (v13 + (1 : Int32)) hw
          refine lv_aload_n hx hb dX2_mostLeft_93 rfl (lv_at hl 0 rfl) ?_
          refine va_get (D := G) (ci := 2) (v := .ref (h 3)) (C := RX2) (T := TX2) (N := 3) hx hb hts nw_X2_mostLeft_X2 hown hK hw.1 0 rfl rfl 2 (by decide) hL0 (fun _ h9 => h9) rfl dX2_mostLeft_94 ?_
          refine lv_aload_n hx hb dX2_mostLeft_97 rfl (lv_at hl 0 rfl) ?_
          refine va_get (D := G) (ci := 2) (v := .ref (h 2)) (C := RX2) (T := TX2) (N := 3) hx hb hts nw_X2_mostLeft_X2 hown hK hw.1 0 rfl rfl 1 (by decide) hL6 (fun _ h9 => h9) rfl dX2_mostLeft_98 ?_
          refine lv_iload hx hb dX2_mostLeft_101 (lv_at hl 4 rfl) ?_
          obtain ⟨v15, e15, hb5⟩ := cd_bind_some hb5
          refine cd_iald hx hb hK hw 2 rfl e15 dX2_mostLeft_103 ?_
          refine lv_iconst (v := (1 : Int32)) hx hb dX2_mostLeft_104 (by decide) ?_
          refine lv_iadd hx hb dX2_mostLeft_105 ?_
          refine lv_dup2_11 hx hb dX2_mostLeft_106 rfl rfl ?_
          obtain ⟨v16, e16, hb5⟩ := cd_bind_some hb5
          refine cd_iald hx hb hK hw 3 rfl e16 dX2_mostLeft_107 ?_
          refine lv_iconst (v := (1 : Int32)) hx hb dX2_mostLeft_108 (by decide) ?_
          refine lv_isub hx hb dX2_mostLeft_109 ?_
          obtain ⟨j17, e17, hb5⟩ := cd_bind_some hb5
          refine cd_iast (f := (cd_set z5.2.2 2 j14 (v13 + (1 : Int32))) 2) hx hb hK hw 3 rfl e17 dX2_mostLeft_110 (fun H locs hw => ?_)
          have hw : cd_WS G A s.heap H locs ((pc_snz cI h (cd_set (cd_set z5.2.2 2 j14 (v13 + (1 : Int32))) 2 j17 (v16 - (1 : Int32)))) ++ (pc_town cI ht T)) := (show ∀ (s9 : Nat → Nat → Int32) (y9 : Int32), cd_WS G A s.heap H locs (((pc_snz cI h s9) ++ (pc_town cI ht T)).set 3 (h 3, .inl (cI, 62, .inl (upd (s9 2) j17 y9)))) → cd_WS G A s.heap H locs ((pc_snz cI h (cd_set s9 2 j17 y9)) ++ (pc_town cI ht T)) from fun _ _ hh => hh) (cd_set z5.2.2 2 j14 (v13 + (1 : Int32))) (v16 - (1 : Int32)) hw
          refine lv_iinc (v := (z5.2.1 + (1 : Int32))) (lv' := [(5, .int (z5.2.1 + (1 : Int32))), (0, .ref (h 0)), (2, .int a0), (3, .int (cd_min (60 : Int32) r4)), (4, .int z5.1)]) hx hb dX2_mostLeft_111 hl (k := 4) rfl rfl (by decide) rfl (fun ls hl => ?_)
          refine lv_goto (tgt := 38) hx hb dX2_mostLeft_114 (by decide) ?_
          have z : some (Sum.inr (z5.1, (z5.2.1 + (1 : Int32)), (cd_set (cd_set z5.2.2 2 j14 (v13 + (1 : Int32))) 2 j17 (v16 - (1 : Int32))))) = some o5 := hb5
          cases z
          exact hk5 _ _ _ (lv_sub hl [1, 2, 3, 4, 0] rfl) hw
      · have hb5 := cd_ite_t c8 hb5
        refine lv_iload hx hb dX2_mostLeft_54 (lv_at hl 3 rfl) ?_
        refine lv_aload_n hx hb dX2_mostLeft_56 rfl (lv_at hl 0 rfl) ?_
        refine lv_iload hx hb dX2_mostLeft_57 (lv_at hl 4 rfl) ?_
        obtain ⟨r9, e9, hb5⟩ := cd_bind_some hb5
        refine cd_callV (As := [.int z5.2.1]) (rest := [.int z5.1]) C0 hw (c_X2_countOf l G cI cZ sa sb h z5.2.2 z5.2.1 r9 e9) [0, 1, 2, 3] rfl rfl 0 2 rfl rfl rfl (cwV 1 hts gX2_mostLeft_X2_countOf rfl rfl rfl (by decide +kernel) ⟨Nat.le_of_ble_eq_true rfl, Nat.le_of_ble_eq_true rfl⟩) rfl hl.1 (lv_room (Nat.le_of_ble_eq_true rfl)) dX2_mostLeft_59 (fun H locs hw => ?_)
        refine lv_iadd hx hb dX2_mostLeft_62 ?_
        refine lv_istore (lv' := [(4, .int (z5.1 + r9)), (0, .ref (h 0)), (2, .int a0), (3, .int (cd_min (60 : Int32) r4)), (5, .int z5.2.1)]) hx hb dX2_mostLeft_63 hl (by decide) rfl (fun ls hl => ?_)
        refine lv_goto (tgt := 111) hx hb dX2_mostLeft_65 (by decide) ?_
        refine lv_iinc (v := (z5.2.1 + (1 : Int32))) (lv' := [(5, .int (z5.2.1 + (1 : Int32))), (4, .int (z5.1 + r9)), (0, .ref (h 0)), (2, .int a0), (3, .int (cd_min (60 : Int32) r4))]) hx hb dX2_mostLeft_111 hl (k := 4) rfl rfl (by decide) rfl (fun ls hl => ?_)
        refine lv_goto (tgt := 38) hx hb dX2_mostLeft_114 (by decide) ?_
        have z : some (Sum.inr ((z5.1 + r9), (z5.2.1 + (1 : Int32)), z5.2.2)) = some o5 := hb5
        cases z
        exact hk5 _ _ _ (lv_sub hl [2, 3, 4, 1, 0] rfl) hw
  refine cd_iter_ind (body := f_X2_mostLeft_b2) (K := fun r => r = x1) (P := fun (z1 : Int32 × (Nat → Nat → Int32)) => ∀ (ls : Array Slot) (H : Heap) (locs : List Loc), lv_has ls 8 [(0, .ref (h 0)), (1, .ref (ht 0)), (2, .int a0), (3, .int z1.1)] → cd_WS G A s.heap H locs ((pc_snz cI h z1.2) ++ (pc_town cI ht T)) → W p l e rm_X2_mostLeft s m ag below meth c H locs 0 0 Q (F0 m 2 ls [])) ?_ cd_N ((0 : Int32), Z) x1 e1 rfl _ _ _ (lv_sub hl [1, 2, 3, 0] rfl) hw
  intro z1 o1 hb1 hk1 ls H locs hl hw
  unfold f_X2_mostLeft_b2 at hb1
  refine lv_iload_n hx hb dX2_mostLeft_2 rfl (lv_at hl 3 rfl) ?_
  refine lv_bipush (v := (62 : Int32)) hx hb dX2_mostLeft_3 (by decide) ?_
  refine lv_icmp_ge (tgt := 21) hx hb dX2_mostLeft_5 (by decide) (fun c2 => ?_) (fun c2 => ?_)
  · have hb1 := cd_ite_t c2 hb1
    have z : some (Sum.inl z1.2) = some o1 := hb1
    cases z
    exact K1 _ hk1 _ _ _ (lv_sub hl [0, 1, 2] rfl) hw
  · have hb1 := cd_ite_f c2 hb1
    refine lv_aload_n hx hb dX2_mostLeft_8 rfl (lv_at hl 0 rfl) ?_
    refine va_get (D := G) (ci := 2) (v := .ref (h 3)) (C := RX2) (T := TX2) (N := 3) hx hb hts nw_X2_mostLeft_X2 hown hK hw.1 0 rfl rfl 2 (by decide) hL0 (fun _ h9 => h9) rfl dX2_mostLeft_9 ?_
    refine lv_iload_n hx hb dX2_mostLeft_12 rfl (lv_at hl 3 rfl) ?_
    refine lv_iconst (v := (0 : Int32)) hx hb dX2_mostLeft_13 (by decide) ?_
    obtain ⟨j3, e3, hb1⟩ := cd_bind_some hb1
    refine cd_iast (f := z1.2 2) hx hb hK hw 3 rfl e3 dX2_mostLeft_14 (fun H locs hw => ?_)
    have hw : cd_WS G A s.heap H locs ((pc_snz cI h (cd_set z1.2 2 j3 (0 : Int32))) ++ (pc_town cI ht T)) := (show ∀ (s9 : Nat → Nat → Int32) (y9 : Int32), cd_WS G A s.heap H locs (((pc_snz cI h s9) ++ (pc_town cI ht T)).set 3 (h 3, .inl (cI, 62, .inl (upd (s9 2) j3 y9)))) → cd_WS G A s.heap H locs ((pc_snz cI h (cd_set s9 2 j3 y9)) ++ (pc_town cI ht T)) from fun _ _ hh => hh) z1.2 (0 : Int32) hw
    refine lv_iinc (v := (z1.1 + (1 : Int32))) (lv' := [(3, .int (z1.1 + (1 : Int32))), (0, .ref (h 0)), (1, .ref (ht 0)), (2, .int a0)]) hx hb dX2_mostLeft_15 hl (k := 3) rfl rfl (by decide) rfl (fun ls hl => ?_)
    refine lv_goto (tgt := 2) hx hb dX2_mostLeft_18 (by decide) ?_
    have z : some (Sum.inr ((z1.1 + (1 : Int32)), (cd_set z1.2 2 j3 (0 : Int32)))) = some o1 := hb1
    cases z
    exact hk1 _ _ _ (lv_sub hl [1, 2, 3, 0] rfl) hw
abbrev rm_X3_addSight : Room := { frames := 0, cells := 0, slots := 0, locals := 0 }
theorem nw_X3_addSight_X3 : ∀ w ∈ u_ws RX3 TX3 14, w ∈ wsX3_addSight := by decide +kernel
set_option maxHeartbeats 4000000 in
set_option maxRecDepth 100000 in
theorem c_X3_addSight (l : Launch) (G : va_G) (cI cZ : ClassId) (sa sb : Nat) (h : Nat → Nat) (T : Nat → Nat → Int32) (a0 : Int32) (a1 : Int32) (o : Int32 × (Nat → Nat → Int32)) (hf : f_X3_addSight a0 a1 T = some o) : cd_Ct l G cI cZ sa sb yX3_addSight wsX3_addSight rm_X3_addSight [.ref (h 0), .int a0, .int a1] ((pc_town cI h T)) ((pc_town cI h o.2)) (some (.int o.1)) := by
  refine cd_of (cc := cX3_addSight) (maxL := 3) (ret := (some .boolean)) (by decide) rfl (Nat.le_of_ble_eq_true rfl) ?_
  intro p e s m ag below meth c A ls Q C0 hl hw hQ
  have C0 : cd_CX G cI cZ sa sb p s m ag meth c cX3_addSight 3 (some .boolean) wsX3_addSight RX3 A := C0
  obtain ⟨⟨hx, hb, hml, hown, hts⟩, hr, hlocks, hA, hE⟩ := id C0
  have hK := hE.1
  have hL0 := hts (.fieldLink RX3 56 "CandleDebts$Town" "sights" "I") (by decide +kernel)
  have hL1 := hts (.fieldLink RX3 36 "CandleDebts$Town" "sightCandles" "[I") (by decide +kernel)
  have hL2 := hts (.fieldLink RX3 39 "CandleDebts$Town" "sightLosses" "[I") (by decide +kernel)
  have hl : lv_has ls 3 [(0, .ref (h 0)), (1, .int a0), (2, .int a1)] := hl
  unfold f_X3_addSight at hf
  refine lv_aload_n hx hb dX3_addSight_0 rfl (lv_at hl 0 rfl) ?_
  refine va_get (D := G) (ci := 3) (v := .int (T 10 0)) (C := RX3) (T := TX3) (N := 14) hx hb hts nw_X3_addSight_X3 hown hK hw.1 0 rfl rfl 10 (by decide) hL0 (fun _ h9 => h9) rfl dX3_addSight_1 ?_
  refine lv_bipush (v := (8 : Int32)) hx hb dX3_addSight_4 (by decide) ?_
  refine lv_icmp_lt (tgt := 11) hx hb dX3_addSight_6 (by decide) (fun c1 => ?_) (fun c1 => ?_)
  · have hf := cd_ite_t c1 hf
    refine lv_aload_n hx hb dX3_addSight_11 rfl (lv_at hl 0 rfl) ?_
    refine va_get (D := G) (ci := 3) (v := .ref (h 9)) (C := RX3) (T := TX3) (N := 14) hx hb hts nw_X3_addSight_X3 hown hK hw.1 0 rfl rfl 8 (by decide) hL1 (fun _ h9 => h9) rfl dX3_addSight_12 ?_
    refine lv_aload_n hx hb dX3_addSight_15 rfl (lv_at hl 0 rfl) ?_
    refine va_get (D := G) (ci := 3) (v := .int (T 10 0)) (C := RX3) (T := TX3) (N := 14) hx hb hts nw_X3_addSight_X3 hown hK hw.1 0 rfl rfl 10 (by decide) hL0 (fun _ h9 => h9) rfl dX3_addSight_16 ?_
    refine lv_iload_n hx hb dX3_addSight_19 rfl (lv_at hl 1 rfl) ?_
    obtain ⟨j2, e2, hf⟩ := cd_bind_some hf
    refine cd_iast (f := T 8) hx hb hK hw 9 rfl e2 dX3_addSight_20 (fun H locs hw => ?_)
    have hw : cd_WS G A s.heap H locs ((pc_town cI h (cd_set T 8 j2 a0))) := (show ∀ (s9 : Nat → Nat → Int32) (y9 : Int32), cd_WS G A s.heap H locs (((pc_town cI h s9)).set 9 (h 9, .inl (cI, 8, .inl (upd (s9 8) j2 y9)))) → cd_WS G A s.heap H locs ((pc_town cI h (cd_set s9 8 j2 y9))) from fun _ _ hh => hh) T a0 hw
    refine lv_aload_n hx hb dX3_addSight_21 rfl (lv_at hl 0 rfl) ?_
    refine va_get (D := G) (ci := 3) (v := .ref (h 10)) (C := RX3) (T := TX3) (N := 14) hx hb hts nw_X3_addSight_X3 hown hK hw.1 0 rfl rfl 9 (by decide) hL2 (fun _ h9 => h9) rfl dX3_addSight_22 ?_
    refine lv_aload_n hx hb dX3_addSight_25 rfl (lv_at hl 0 rfl) ?_
    refine va_get (D := G) (ci := 3) (v := .int (T 10 0)) (C := RX3) (T := TX3) (N := 14) hx hb hts nw_X3_addSight_X3 hown hK hw.1 0 rfl rfl 10 (by decide) hL0 (fun _ h9 => h9) rfl dX3_addSight_26 ?_
    refine lv_iload_n hx hb dX3_addSight_29 rfl (lv_at hl 2 rfl) ?_
    obtain ⟨j3, e3, hf⟩ := cd_bind_some hf
    refine cd_iast (f := (cd_set T 8 j2 a0) 9) hx hb hK hw 10 rfl e3 dX3_addSight_30 (fun H locs hw => ?_)
    have hw : cd_WS G A s.heap H locs ((pc_town cI h (cd_set (cd_set T 8 j2 a0) 9 j3 a1))) := (show ∀ (s9 : Nat → Nat → Int32) (y9 : Int32), cd_WS G A s.heap H locs (((pc_town cI h s9)).set 10 (h 10, .inl (cI, 8, .inl (upd (s9 9) j3 y9)))) → cd_WS G A s.heap H locs ((pc_town cI h (cd_set s9 9 j3 y9))) from fun _ _ hh => hh) (cd_set T 8 j2 a0) a1 hw
    refine lv_aload_n hx hb dX3_addSight_31 rfl (lv_at hl 0 rfl) ?_
    refine lv_dup hx hb dX3_addSight_32 rfl ?_
    refine va_get (D := G) (ci := 3) (v := .int (T 10 0)) (C := RX3) (T := TX3) (N := 14) hx hb hts nw_X3_addSight_X3 hown hK hw.1 0 rfl rfl 10 (by decide) hL0 (fun _ h9 => h9) rfl dX3_addSight_33 ?_
    refine lv_iconst (v := (1 : Int32)) hx hb dX3_addSight_36 (by decide) ?_
    refine lv_iadd hx hb dX3_addSight_37 ?_
    refine va_put (D := G) (ci := 3) (v := .int ((T 10 0) + (1 : Int32))) (ty := .int) (C := RX3) (T := TX3) (N := 14) hx hb hts nw_X3_addSight_X3 tyX3 tyX3_ok nmX3 hown hK hw.1 hw.2.1 hw.2.2 0 rfl rfl 10 (by decide) hL0 (fun _ h9 => h9) rfl (by decide +kernel) rfl rfl (Nat.le_of_ble_eq_true rfl) dX3_addSight_38 (fun H locs hP hD hS => ?_)
    have hw : cd_WS G A s.heap H locs ((pc_town cI h (cd_fld (cd_set (cd_set T 8 j2 a0) 9 j3 a1) 10 ((T 10 0) + (1 : Int32))))) := ⟨hP, hD, hS⟩
    refine lv_iconst (v := (1 : Int32)) hx hb dX3_addSight_41 (by decide) ?_
    have z : some ((1 : Int32), (cd_fld (cd_set (cd_set T 8 j2 a0) 9 j3 a1) 10 ((T 10 0) + (1 : Int32)))) = some o := hf
    cases z
    rw [hQ]
    exact cd_retz C0 hw (Or.inr rfl) dX3_addSight_42
  · have hf := cd_ite_f c1 hf
    refine lv_iconst (v := (0 : Int32)) hx hb dX3_addSight_9 (by decide) ?_
    have z : some ((0 : Int32), T) = some o := hf
    cases z
    rw [hQ]
    exact cd_retz C0 hw (Or.inl rfl) dX3_addSight_10
abbrev rm_X3_canBeAsked : Room := { frames := 1, cells := 0, slots := 0, locals := 21 }
theorem nw_X3_canBeAsked_X3 : ∀ w ∈ u_ws RX3 TX3 14, w ∈ wsX3_canBeAsked := by decide +kernel
set_option maxHeartbeats 4000000 in
set_option maxRecDepth 100000 in
theorem c_X3_canBeAsked (l : Launch) (G : va_G) (cI cZ : ClassId) (sa sb : Nat) (h : Nat → Nat) (T : Nat → Nat → Int32) (a0 : Int32) (o : Int32) (hf : f_X3_canBeAsked a0 T = some o) : cd_Ct l G cI cZ sa sb yX3_canBeAsked wsX3_canBeAsked rm_X3_canBeAsked [.ref (h 0), .int a0] ((pc_town cI h T)) ((pc_town cI h T)) (some (.int o)) := by
  refine cd_of (cc := cX3_canBeAsked) (maxL := 2) (ret := (some .boolean)) (by decide) rfl (Nat.le_of_ble_eq_true rfl) ?_
  intro p e s m ag below meth c A ls Q C0 hl hw hQ
  have C0 : cd_CX G cI cZ sa sb p s m ag meth c cX3_canBeAsked 2 (some .boolean) wsX3_canBeAsked RX3 A := C0
  obtain ⟨⟨hx, hb, hml, hown, hts⟩, hr, hlocks, hA, hE⟩ := id C0
  have hK := hE.1
  have hL0 := hts (.fieldLink RX3 27 "CandleDebts$Town" "sums" "[I") (by decide +kernel)
  have hl : lv_has ls 2 [(0, .ref (h 0)), (1, .int a0)] := hl
  unfold f_X3_canBeAsked at hf
  refine lv_aload_n hx hb dX3_canBeAsked_0 rfl (lv_at hl 0 rfl) ?_
  refine lv_iload_n hx hb dX3_canBeAsked_1 rfl (lv_at hl 1 rfl) ?_
  obtain ⟨r1, e1, hf⟩ := cd_bind_some hf
  refine cd_callV (As := [.int a0]) (rest := []) C0 hw (c_X3_isLit l G cI cZ sa sb h T a0 r1 e1) [0, 1, 2, 3, 4, 5, 6, 7, 8, 9, 10] rfl rfl 0 3 rfl rfl rfl (cwV 1 hts gX3_canBeAsked_X3_isLit rfl rfl rfl (by decide +kernel) ⟨Nat.le_of_ble_eq_true rfl, Nat.le_of_ble_eq_true rfl⟩) rfl hl.1 (lv_room (Nat.le_of_ble_eq_true rfl)) dX3_canBeAsked_2 (fun H locs hw => ?_)
  obtain ⟨x2, e2, hf⟩ := cd_bind_some hf
  have K2 : ∀ (ls : Array Slot) (H : Heap) (locs : List Loc), lv_has ls 2 [] → cd_WS G A s.heap H locs ((pc_town cI h T)) → W p l e rm_X3_canBeAsked s m ag below meth c H locs 0 0 Q (F0 m 22 ls [.int x2]) := by
    intro ls H locs hl hw
    obtain ⟨u3, e3, hf⟩ := cd_bind_some hf
    have z : some x2 = some o := hf
    cases z
    rw [hQ]
    exact cd_retz C0 hw (cd_zb_eq e3) dX3_canBeAsked_22
  refine lv_if_eq (tgt := 21) hx hb dX3_canBeAsked_5 (by decide) (fun c2 => ?_) (fun c2 => ?_)
  · have e2 := cd_ite_t c2 e2
    refine lv_iconst (v := (0 : Int32)) hx hb dX3_canBeAsked_21 (by decide) ?_
    have z : some (0 : Int32) = some x2 := e2
    cases z
    exact K2 _ _ _ (lv_sub hl [] rfl) hw
  · have e2 := cd_ite_f c2 e2
    refine lv_aload_n hx hb dX3_canBeAsked_8 rfl (lv_at hl 0 rfl) ?_
    refine va_get (D := G) (ci := 3) (v := .ref (h 6)) (C := RX3) (T := TX3) (N := 14) hx hb hts nw_X3_canBeAsked_X3 hown hK hw.1 0 rfl rfl 5 (by decide) hL0 (fun _ h9 => h9) rfl dX3_canBeAsked_9 ?_
    refine lv_iload_n hx hb dX3_canBeAsked_12 rfl (lv_at hl 1 rfl) ?_
    obtain ⟨v4, e4, e2⟩ := cd_bind_some e2
    refine cd_iald hx hb hK hw 6 rfl e4 dX3_canBeAsked_13 ?_
    refine lv_if_le (tgt := 21) hx hb dX3_canBeAsked_14 (by decide) (fun c5 => ?_) (fun c5 => ?_)
    · have e2 := cd_ite_t c5 e2
      refine lv_iconst (v := (0 : Int32)) hx hb dX3_canBeAsked_21 (by decide) ?_
      have z : some (0 : Int32) = some x2 := e2
      cases z
      exact K2 _ _ _ (lv_sub hl [] rfl) hw
    · have e2 := cd_ite_f c5 e2
      refine lv_iconst (v := (1 : Int32)) hx hb dX3_canBeAsked_17 (by decide) ?_
      refine lv_goto (tgt := 22) hx hb dX3_canBeAsked_18 (by decide) ?_
      have z : some (1 : Int32) = some x2 := e2
      cases z
      exact K2 _ _ _ (lv_sub hl [] rfl) hw
abbrev rm_X3_outlasts : Room := { frames := 3, cells := 0, slots := 0, locals := 67 }
set_option maxHeartbeats 4000000 in
set_option maxRecDepth 100000 in
theorem c_X3_outlasts (l : Launch) (G : va_G) (cI cZ : ClassId) (sa sb : Nat) (h : Nat → Nat) (T : Nat → Nat → Int32) (a0 : Int32) (a1 : Int32) (o : Int32) (hf : f_X3_outlasts a0 a1 T = some o) : cd_Ct l G cI cZ sa sb yX3_outlasts wsX3_outlasts rm_X3_outlasts [.ref (h 0), .int a0, .int a1] ((pc_town cI h T)) ((pc_town cI h T)) (some (.int o)) := by
  refine cd_of (cc := cX3_outlasts) (maxL := 3) (ret := (some .boolean)) (by decide) rfl (Nat.le_of_ble_eq_true rfl) ?_
  intro p e s m ag below meth c A ls Q C0 hl hw hQ
  have C0 : cd_CX G cI cZ sa sb p s m ag meth c cX3_outlasts 3 (some .boolean) wsX3_outlasts RX3 A := C0
  obtain ⟨⟨hx, hb, hml, hown, hts⟩, hr, hlocks, hA, hE⟩ := id C0
  have hK := hE.1
  have hl : lv_has ls 3 [(0, .ref (h 0)), (1, .int a0), (2, .int a1)] := hl
  unfold f_X3_outlasts at hf
  refine lv_aload_n hx hb dX3_outlasts_0 rfl (lv_at hl 0 rfl) ?_
  refine lv_iload_n hx hb dX3_outlasts_1 rfl (lv_at hl 1 rfl) ?_
  obtain ⟨r1, e1, hf⟩ := cd_bind_some hf
  refine cd_callV (As := [.int a0]) (rest := []) C0 hw (c_X3_isLit l G cI cZ sa sb h T a0 r1 e1) [0, 1, 2, 3, 4, 5, 6, 7, 8, 9, 10] rfl rfl 0 3 rfl rfl rfl (cwV 1 hts gX3_outlasts_X3_isLit rfl rfl rfl (by decide +kernel) ⟨Nat.le_of_ble_eq_true rfl, Nat.le_of_ble_eq_true rfl⟩) rfl hl.1 (lv_room (Nat.le_of_ble_eq_true rfl)) dX3_outlasts_2 (fun H locs hw => ?_)
  obtain ⟨x2, e2, hf⟩ := cd_bind_some hf
  have K2 : ∀ (ls : Array Slot) (H : Heap) (locs : List Loc), lv_has ls 3 [] → cd_WS G A s.heap H locs ((pc_town cI h T)) → W p l e rm_X3_outlasts s m ag below meth c H locs 0 0 Q (F0 m 22 ls [.int x2]) := by
    intro ls H locs hl hw
    obtain ⟨u3, e3, hf⟩ := cd_bind_some hf
    have z : some x2 = some o := hf
    cases z
    rw [hQ]
    exact cd_retz C0 hw (cd_zb_eq e3) dX3_outlasts_22
  refine lv_if_eq (tgt := 21) hx hb dX3_outlasts_5 (by decide) (fun c2 => ?_) (fun c2 => ?_)
  · have e2 := cd_ite_t c2 e2
    refine lv_iconst (v := (0 : Int32)) hx hb dX3_outlasts_21 (by decide) ?_
    have z : some (0 : Int32) = some x2 := e2
    cases z
    exact K2 _ _ _ (lv_sub hl [] rfl) hw
  · have e2 := cd_ite_f c2 e2
    refine lv_aload_n hx hb dX3_outlasts_8 rfl (lv_at hl 0 rfl) ?_
    refine lv_iload_n hx hb dX3_outlasts_9 rfl (lv_at hl 1 rfl) ?_
    obtain ⟨r4, e4, e2⟩ := cd_bind_some e2
    refine cd_callV (As := [.int a0]) (rest := []) C0 hw (c_X3_minutesLeft l G cI cZ sa sb h T a0 r4 e4) [0, 1, 2, 3, 4, 5, 6, 7, 8, 9, 10] rfl rfl 0 3 rfl rfl rfl (cwV 1 hts gX3_outlasts_X3_minutesLeft rfl rfl rfl (by decide +kernel) ⟨Nat.le_of_ble_eq_true rfl, Nat.le_of_ble_eq_true rfl⟩) rfl hl.1 (lv_room (Nat.le_of_ble_eq_true rfl)) dX3_outlasts_10 (fun H locs hw => ?_)
    refine lv_iload_n hx hb dX3_outlasts_13 rfl (lv_at hl 2 rfl) ?_
    refine lv_icmp_le (tgt := 21) hx hb dX3_outlasts_14 (by decide) (fun c5 => ?_) (fun c5 => ?_)
    · have e2 := cd_ite_t c5 e2
      refine lv_iconst (v := (0 : Int32)) hx hb dX3_outlasts_21 (by decide) ?_
      have z : some (0 : Int32) = some x2 := e2
      cases z
      exact K2 _ _ _ (lv_sub hl [] rfl) hw
    · have e2 := cd_ite_f c5 e2
      refine lv_iconst (v := (1 : Int32)) hx hb dX3_outlasts_17 (by decide) ?_
      refine lv_goto (tgt := 22) hx hb dX3_outlasts_18 (by decide) ?_
      have z : some (1 : Int32) = some x2 := e2
      cases z
      exact K2 _ _ _ (lv_sub hl [] rfl) hw
abbrev rm_X3_howManyOutlast : Room := { frames := 4, cells := 0, slots := 0, locals := 89 }
set_option maxHeartbeats 4000000 in
set_option maxRecDepth 100000 in
theorem c_X3_howManyOutlast (l : Launch) (G : va_G) (cI cZ : ClassId) (sa sb : Nat) (h : Nat → Nat) (T : Nat → Nat → Int32) (a0 : Int32) (o : Int32) (hf : f_X3_howManyOutlast a0 T = some o) : cd_Ct l G cI cZ sa sb yX3_howManyOutlast wsX3_howManyOutlast rm_X3_howManyOutlast [.ref (h 0), .int a0] ((pc_town cI h T)) ((pc_town cI h T)) (some (.int o)) := by
  refine cd_of (cc := cX3_howManyOutlast) (maxL := 4) (ret := (some .int)) (by decide) rfl (Nat.le_of_ble_eq_true rfl) ?_
  intro p e s m ag below meth c A ls Q C0 hl hw hQ
  have C0 : cd_CX G cI cZ sa sb p s m ag meth c cX3_howManyOutlast 4 (some .int) wsX3_howManyOutlast RX3 A := C0
  obtain ⟨⟨hx, hb, hml, hown, hts⟩, hr, hlocks, hA, hE⟩ := id C0
  have hK := hE.1
  have hl : lv_has ls 4 [(0, .ref (h 0)), (1, .int a0)] := hl
  unfold f_X3_howManyOutlast at hf
  refine lv_iconst (v := (0 : Int32)) hx hb dX3_howManyOutlast_0 (by decide) ?_
  refine lv_istore_n (lv' := [(2, .int (0 : Int32)), (0, .ref (h 0)), (1, .int a0)]) hx hb dX3_howManyOutlast_1 rfl hl (by decide) rfl (fun ls hl => ?_)
  refine lv_iconst (v := (0 : Int32)) hx hb dX3_howManyOutlast_2 (by decide) ?_
  refine lv_istore_n (lv' := [(3, .int (0 : Int32)), (2, .int (0 : Int32)), (0, .ref (h 0)), (1, .int a0)]) hx hb dX3_howManyOutlast_3 rfl hl (by decide) rfl (fun ls hl => ?_)
  obtain ⟨x1, e1, hf⟩ := cd_bind_some hf
  have K1 : ∀ (t1 : Int32), t1 = x1 → ∀ (ls : Array Slot) (H : Heap) (locs : List Loc), lv_has ls 4 [(2, .int t1)] → cd_WS G A s.heap H locs ((pc_town cI h T)) → W p l e rm_X3_howManyOutlast s m ag below meth c H locs 0 0 Q (F0 m 33 ls []) := by
    intro t1 hs_1
    subst hs_1
    intro ls H locs hl hw
    refine lv_iload_n hx hb dX3_howManyOutlast_33 rfl (lv_at hl 0 rfl) ?_
    have z : some t1 = some o := hf
    cases z
    rw [hQ]
    exact cd_reti C0 hw dX3_howManyOutlast_34
  refine cd_iter_ind (body := (f_X3_howManyOutlast_b4 a0 T)) (K := fun r => r = x1) (P := fun (z1 : Int32 × Int32) => ∀ (ls : Array Slot) (H : Heap) (locs : List Loc), lv_has ls 4 [(0, .ref (h 0)), (1, .int a0), (2, .int z1.1), (3, .int z1.2)] → cd_WS G A s.heap H locs ((pc_town cI h T)) → W p l e rm_X3_howManyOutlast s m ag below meth c H locs 0 0 Q (F0 m 4 ls [])) ?_ cd_N ((0 : Int32), (0 : Int32)) x1 e1 rfl _ _ _ (lv_sub hl [2, 3, 1, 0] rfl) hw
  intro z1 o1 hb1 hk1 ls H locs hl hw
  unfold f_X3_howManyOutlast_b4 at hb1
  refine lv_iload_n hx hb dX3_howManyOutlast_4 rfl (lv_at hl 3 rfl) ?_
  refine lv_bipush (v := (12 : Int32)) hx hb dX3_howManyOutlast_5 (by decide) ?_
  refine lv_icmp_ge (tgt := 33) hx hb dX3_howManyOutlast_7 (by decide) (fun c2 => ?_) (fun c2 => ?_)
  · have hb1 := cd_ite_t c2 hb1
    have z : some (Sum.inl z1.1) = some o1 := hb1
    cases z
    exact K1 _ hk1 _ _ _ (lv_sub hl [2] rfl) hw
  · have hb1 := cd_ite_f c2 hb1
    refine lv_iload_n hx hb dX3_howManyOutlast_10 rfl (lv_at hl 2 rfl) ?_
    refine lv_aload_n hx hb dX3_howManyOutlast_11 rfl (lv_at hl 0 rfl) ?_
    refine lv_iload_n hx hb dX3_howManyOutlast_12 rfl (lv_at hl 3 rfl) ?_
    refine lv_iload_n hx hb dX3_howManyOutlast_13 rfl (lv_at hl 1 rfl) ?_
    obtain ⟨r3, e3, hb1⟩ := cd_bind_some hb1
    refine cd_callV (As := [.int z1.2, .int a0]) (rest := [.int z1.1]) C0 hw (c_X3_outlasts l G cI cZ sa sb h T z1.2 a0 r3 e3) [0, 1, 2, 3, 4, 5, 6, 7, 8, 9, 10] rfl rfl 0 3 rfl rfl rfl (cwV 2 hts gX3_howManyOutlast_X3_outlasts rfl rfl rfl (by decide +kernel) ⟨Nat.le_of_ble_eq_true rfl, Nat.le_of_ble_eq_true rfl⟩) rfl hl.1 (lv_room (Nat.le_of_ble_eq_true rfl)) dX3_howManyOutlast_14 (fun H locs hw => ?_)
    obtain ⟨x4, e4, hb1⟩ := cd_bind_some hb1
    have K4 : ∀ (ls : Array Slot) (H : Heap) (locs : List Loc), lv_has ls 4 [(0, .ref (h 0)), (1, .int a0), (3, .int z1.2)] → cd_WS G A s.heap H locs ((pc_town cI h T)) → W p l e rm_X3_howManyOutlast s m ag below meth c H locs 0 0 Q (F0 m 25 ls [.int x4, .int z1.1]) := by
      intro ls H locs hl hw
      refine lv_iadd hx hb dX3_howManyOutlast_25 ?_
      refine lv_istore_n (lv' := [(2, .int (z1.1 + x4)), (0, .ref (h 0)), (1, .int a0), (3, .int z1.2)]) hx hb dX3_howManyOutlast_26 rfl hl (by decide) rfl (fun ls hl => ?_)
      refine lv_iinc (v := (z1.2 + (1 : Int32))) (lv' := [(3, .int (z1.2 + (1 : Int32))), (2, .int (z1.1 + x4)), (0, .ref (h 0)), (1, .int a0)]) hx hb dX3_howManyOutlast_27 hl (k := 3) rfl rfl (by decide) rfl (fun ls hl => ?_)
      refine lv_goto (tgt := 4) hx hb dX3_howManyOutlast_30 (by decide) ?_
      have z : some (Sum.inr ((z1.1 + x4), (z1.2 + (1 : Int32)))) = some o1 := hb1
      cases z
      exact hk1 _ _ _ (lv_sub hl [2, 3, 1, 0] rfl) hw
    refine lv_if_eq (tgt := 24) hx hb dX3_howManyOutlast_17 (by decide) (fun c4 => ?_) (fun c4 => ?_)
    · have e4 := cd_ite_t c4 e4
      refine lv_iconst (v := (0 : Int32)) hx hb dX3_howManyOutlast_24 (by decide) ?_
      have z : some (0 : Int32) = some x4 := e4
      cases z
      exact K4 _ _ _ (lv_sub hl [0, 1, 3] rfl) hw
    · have e4 := cd_ite_f c4 e4
      refine lv_iconst (v := (1 : Int32)) hx hb dX3_howManyOutlast_20 (by decide) ?_
      refine lv_goto (tgt := 25) hx hb dX3_howManyOutlast_21 (by decide) ?_
      have z : some (1 : Int32) = some x4 := e4
      cases z
      exact K4 _ _ _ (lv_sub hl [0, 1, 3] rfl) hw
