abbrev rm_X0_signAt : Room := { frames := 0, cells := 0, slots := 0, locals := 0 }
theorem nw_X0_signAt_X0 : ∀ w ∈ u_ws RX0 TX0 6, w ∈ wsX0_signAt := by decide +kernel
set_option maxHeartbeats 4000000 in
set_option maxRecDepth 100000 in
theorem c_X0_signAt (l : Launch) (G : va_G) (cI cZ : ClassId) (sa sb : Nat) (h : Nat → Nat) (P : Nat → Nat → Int32) (a0 : Int32) (o : Int32) (hf : f_X0_signAt a0 P = some o) : cd_Ct l G cI cZ sa sb yX0_signAt wsX0_signAt rm_X0_signAt [.ref (h 0), .int a0] ((pc_pad cI h P)) ((pc_pad cI h P)) (some (.int o)) := by
  refine cd_of (cc := cX0_signAt) (maxL := 2) (ret := (some .int)) (by decide) rfl (Nat.le_of_ble_eq_true rfl) ?_
  intro p e s m ag below meth c A ls Q C0 hl hw hQ
  have C0 : cd_CX G cI cZ sa sb p s m ag meth c cX0_signAt 2 (some .int) wsX0_signAt RX0 A := C0
  obtain ⟨⟨hx, hb, hml, hown, hts⟩, hr, hlocks, hA, hE⟩ := id C0
  have hK := hE.1
  have hL0 := hts (.fieldLink RX0 15 "CandleDebts$Pad" "count" "I") (by decide +kernel)
  have hL1 := hts (.fieldLink RX0 9 "CandleDebts$Pad" "signs" "[I") (by decide +kernel)
  have hl : lv_has ls 2 [(0, .ref (h 0)), (1, .int a0)] := hl
  unfold f_X0_signAt at hf
  refine lv_iload_n hx hb dX0_signAt_0 rfl (lv_at hl 1 rfl) ?_
  obtain ⟨x1, e1, hf⟩ := cd_bind_some hf
  have K1 : ∀ (ls : Array Slot) (H : Heap) (locs : List Loc), lv_has ls 2 [] → cd_WS G A s.heap H locs ((pc_pad cI h P)) → W p l e rm_X0_signAt s m ag below meth c H locs 0 0 Q (F0 m 28 ls [.int x1]) := by
    intro ls H locs hl hw
    have z : some x1 = some o := hf
    cases z
    rw [hQ]
    exact cd_reti C0 hw dX0_signAt_28
  refine lv_if_lt (tgt := 27) hx hb dX0_signAt_1 (by decide) (fun c1 => ?_) (fun c1 => ?_)
  · have e1 := cd_ite_t c1 e1
    refine lv_iconst (v := (-1 : Int32)) hx hb dX0_signAt_27 (by decide) ?_
    have z : some (-1 : Int32) = some x1 := e1
    cases z
    exact K1 _ _ _ (lv_sub hl [] rfl) hw
  · have e1 := cd_ite_f c1 e1
    refine lv_iload_n hx hb dX0_signAt_4 rfl (lv_at hl 1 rfl) ?_
    refine lv_aload_n hx hb dX0_signAt_5 rfl (lv_at hl 0 rfl) ?_
    refine va_get (D := G) (ci := 0) (v := .int (P 1 0)) (C := RX0) (T := TX0) (N := 6) hx hb hts nw_X0_signAt_X0 hown hK hw.1 0 rfl rfl 1 (by decide) hL0 (fun _ h9 => h9) rfl dX0_signAt_6 ?_
    refine lv_icmp_ge (tgt := 27) hx hb dX0_signAt_9 (by decide) (fun c2 => ?_) (fun c2 => ?_)
    · have e1 := cd_ite_t c2 e1
      refine lv_iconst (v := (-1 : Int32)) hx hb dX0_signAt_27 (by decide) ?_
      have z : some (-1 : Int32) = some x1 := e1
      cases z
      exact K1 _ _ _ (lv_sub hl [] rfl) hw
    · have e1 := cd_ite_f c2 e1
      refine lv_iload_n hx hb dX0_signAt_12 rfl (lv_at hl 1 rfl) ?_
      refine lv_bipush (v := (60 : Int32)) hx hb dX0_signAt_13 (by decide) ?_
      refine lv_icmp_ge (tgt := 27) hx hb dX0_signAt_15 (by decide) (fun c3 => ?_) (fun c3 => ?_)
      · have e1 := cd_ite_t c3 e1
        refine lv_iconst (v := (-1 : Int32)) hx hb dX0_signAt_27 (by decide) ?_
        have z : some (-1 : Int32) = some x1 := e1
        cases z
        exact K1 _ _ _ (lv_sub hl [] rfl) hw
      · have e1 := cd_ite_f c3 e1
        refine lv_aload_n hx hb dX0_signAt_18 rfl (lv_at hl 0 rfl) ?_
        refine va_get (D := G) (ci := 0) (v := .ref (h 1)) (C := RX0) (T := TX0) (N := 6) hx hb hts nw_X0_signAt_X0 hown hK hw.1 0 rfl rfl 0 (by decide) hL1 (fun _ h9 => h9) rfl dX0_signAt_19 ?_
        refine lv_iload_n hx hb dX0_signAt_22 rfl (lv_at hl 1 rfl) ?_
        obtain ⟨v4, e4, e1⟩ := cd_bind_some e1
        refine cd_iald hx hb hK hw 1 rfl e4 dX0_signAt_23 ?_
        refine lv_goto (tgt := 28) hx hb dX0_signAt_24 (by decide) ?_
        have z : some v4 = some x1 := e1
        cases z
        exact K1 _ _ _ (lv_sub hl [] rfl) hw
abbrev rm_X5_within : Room := { frames := 0, cells := 0, slots := 0, locals := 0 }
set_option maxHeartbeats 4000000 in
set_option maxRecDepth 100000 in
theorem c_X5_within (l : Launch) (G : va_G) (cI cZ : ClassId) (sa sb : Nat) (a0 : Int32) (a1 : Int32) (a2 : Int32) (o : Int32) (hf : f_X5_within a0 a1 a2 = some o) : cd_Ct l G cI cZ sa sb yX5_within wsX5_within rm_X5_within [.int a0, .int a1, .int a2] (([] : va_W)) (([] : va_W)) (some (.int o)) := by
  refine cd_of (cc := cX5_within) (maxL := 3) (ret := (some .boolean)) (by decide) rfl (Nat.le_of_ble_eq_true rfl) ?_
  intro p e s m ag below meth c A ls Q C0 hl hw hQ
  have C0 : cd_CX G cI cZ sa sb p s m ag meth c cX5_within 3 (some .boolean) wsX5_within RX5 A := C0
  obtain ⟨⟨hx, hb, hml, hown, hts⟩, hr, hlocks, hA, hE⟩ := id C0
  have hK := hE.1
  have hl : lv_has ls 3 [(0, .int a0), (1, .int a1), (2, .int a2)] := hl
  unfold f_X5_within at hf
  refine lv_iload_n hx hb dX5_within_0 rfl (lv_at hl 0 rfl) ?_
  refine lv_iload_n hx hb dX5_within_1 rfl (lv_at hl 1 rfl) ?_
  obtain ⟨x1, e1, hf⟩ := cd_bind_some hf
  have K1 : ∀ (ls : Array Slot) (H : Heap) (locs : List Loc), lv_has ls 3 [] → cd_WS G A s.heap H locs (([] : va_W)) → W p l e rm_X5_within s m ag below meth c H locs 0 0 Q (F0 m 15 ls [.int x1]) := by
    intro ls H locs hl hw
    obtain ⟨u2, e2, hf⟩ := cd_bind_some hf
    have z : some x1 = some o := hf
    cases z
    rw [hQ]
    exact cd_retz C0 hw (cd_zb_eq e2) dX5_within_15
  refine lv_icmp_lt (tgt := 14) hx hb dX5_within_2 (by decide) (fun c1 => ?_) (fun c1 => ?_)
  · have e1 := cd_ite_t c1 e1
    refine lv_iconst (v := (0 : Int32)) hx hb dX5_within_14 (by decide) ?_
    have z : some (0 : Int32) = some x1 := e1
    cases z
    exact K1 _ _ _ (lv_sub hl [] rfl) hw
  · have e1 := cd_ite_f c1 e1
    refine lv_iload_n hx hb dX5_within_5 rfl (lv_at hl 0 rfl) ?_
    refine lv_iload_n hx hb dX5_within_6 rfl (lv_at hl 2 rfl) ?_
    refine lv_icmp_gt (tgt := 14) hx hb dX5_within_7 (by decide) (fun c3 => ?_) (fun c3 => ?_)
    · have e1 := cd_ite_t c3 e1
      refine lv_iconst (v := (0 : Int32)) hx hb dX5_within_14 (by decide) ?_
      have z : some (0 : Int32) = some x1 := e1
      cases z
      exact K1 _ _ _ (lv_sub hl [] rfl) hw
    · have e1 := cd_ite_f c3 e1
      refine lv_iconst (v := (1 : Int32)) hx hb dX5_within_10 (by decide) ?_
      refine lv_goto (tgt := 15) hx hb dX5_within_11 (by decide) ?_
      have z : some (1 : Int32) = some x1 := e1
      cases z
      exact K1 _ _ _ (lv_sub hl [] rfl) hw
abbrev rm_X0_digitAt : Room := { frames := 1, cells := 0, slots := 0, locals := 22 }
set_option maxHeartbeats 4000000 in
set_option maxRecDepth 100000 in
theorem c_X0_digitAt (l : Launch) (G : va_G) (cI cZ : ClassId) (sa sb : Nat) (h : Nat → Nat) (P : Nat → Nat → Int32) (a0 : Int32) (o : Int32) (hf : f_X0_digitAt a0 P = some o) : cd_Ct l G cI cZ sa sb yX0_digitAt wsX0_digitAt rm_X0_digitAt [.ref (h 0), .int a0] ((pc_pad cI h P)) ((pc_pad cI h P)) (some (.int o)) := by
  refine cd_of (cc := cX0_digitAt) (maxL := 3) (ret := (some .int)) (by decide) rfl (Nat.le_of_ble_eq_true rfl) ?_
  intro p e s m ag below meth c A ls Q C0 hl hw hQ
  have C0 : cd_CX G cI cZ sa sb p s m ag meth c cX0_digitAt 3 (some .int) wsX0_digitAt RX0 A := C0
  obtain ⟨⟨hx, hb, hml, hown, hts⟩, hr, hlocks, hA, hE⟩ := id C0
  have hK := hE.1
  have hL0 := hts (.initialized RX5) (by decide +kernel)
  have hL1 := hts (.static yX5_within) (by decide +kernel)
  have hl : lv_has ls 3 [(0, .ref (h 0)), (1, .int a0)] := hl
  unfold f_X0_digitAt at hf
  refine lv_aload_n hx hb dX0_digitAt_0 rfl (lv_at hl 0 rfl) ?_
  refine lv_iload_n hx hb dX0_digitAt_1 rfl (lv_at hl 1 rfl) ?_
  obtain ⟨r1, e1, hf⟩ := cd_bind_some hf
  refine cd_callV (As := [.int a0]) (rest := []) C0 hw (c_X0_signAt l G cI cZ sa sb h P a0 r1 e1) [0, 1] rfl rfl 0 0 rfl rfl rfl (cwV 1 hts gX0_digitAt_X0_signAt rfl rfl rfl (by decide +kernel) ⟨Nat.le_of_ble_eq_true rfl, Nat.le_of_ble_eq_true rfl⟩) rfl hl.1 (lv_room (Nat.le_of_ble_eq_true rfl)) dX0_digitAt_2 (fun H locs hw => ?_)
  refine lv_istore_n (lv' := [(2, .int r1), (0, .ref (h 0)), (1, .int a0)]) hx hb dX0_digitAt_5 rfl hl (by decide) rfl (fun ls hl => ?_)
  refine lv_iload_n hx hb dX0_digitAt_6 rfl (lv_at hl 0 rfl) ?_
  refine lv_bipush (v := (48 : Int32)) hx hb dX0_digitAt_7 (by decide) ?_
  refine lv_bipush (v := (57 : Int32)) hx hb dX0_digitAt_9 (by decide) ?_
  obtain ⟨r2, e2, hf⟩ := cd_bind_some hf
  refine cd_callSN (As := [.int r1, .int (48 : Int32), .int (57 : Int32)]) (rest := []) C0 hw (c_X5_within l G cI cZ sa sb r1 (48 : Int32) (57 : Int32) r2 e2) [] rfl rfl ⟨va_cnB 3 hts ggX0_digitAt_X5_within rfl rfl rfl (hE.2.1 (.methodLinkNest RX0 50 yX5_within RX5) (by simp [cd_nest])) hL0 (by decide +kernel) ⟨Nat.le_of_ble_eq_true rfl, Nat.le_of_ble_eq_true rfl⟩, hL1, trivial⟩ rfl hl.1 (lv_room (Nat.le_of_ble_eq_true rfl)) dX0_digitAt_11 (fun H locs hw => ?_)
  obtain ⟨x3, e3, hf⟩ := cd_bind_some hf
  have K3 : ∀ (ls : Array Slot) (H : Heap) (locs : List Loc), lv_has ls 3 [] → cd_WS G A s.heap H locs ((pc_pad cI h P)) → W p l e rm_X0_digitAt s m ag below meth c H locs 0 0 Q (F0 m 25 ls [.int x3]) := by
    intro ls H locs hl hw
    have z : some x3 = some o := hf
    cases z
    rw [hQ]
    exact cd_reti C0 hw dX0_digitAt_25
  refine lv_if_eq (tgt := 24) hx hb dX0_digitAt_14 (by decide) (fun c3 => ?_) (fun c3 => ?_)
  · have e3 := cd_ite_t c3 e3
    refine lv_iconst (v := (-1 : Int32)) hx hb dX0_digitAt_24 (by decide) ?_
    have z : some (-1 : Int32) = some x3 := e3
    cases z
    exact K3 _ _ _ (lv_sub hl [] rfl) hw
  · have e3 := cd_ite_f c3 e3
    refine lv_iload_n hx hb dX0_digitAt_17 rfl (lv_at hl 0 rfl) ?_
    refine lv_bipush (v := (48 : Int32)) hx hb dX0_digitAt_18 (by decide) ?_
    refine lv_isub hx hb dX0_digitAt_20 ?_
    refine lv_goto (tgt := 25) hx hb dX0_digitAt_21 (by decide) ?_
    have z : some (r1 - (48 : Int32)) = some x3 := e3
    cases z
    exact K3 _ _ _ (lv_sub hl [] rfl) hw
abbrev rm_X0_letterAt : Room := { frames := 1, cells := 0, slots := 0, locals := 22 }
set_option maxHeartbeats 4000000 in
set_option maxRecDepth 100000 in
theorem c_X0_letterAt (l : Launch) (G : va_G) (cI cZ : ClassId) (sa sb : Nat) (h : Nat → Nat) (P : Nat → Nat → Int32) (a0 : Int32) (o : Int32) (hf : f_X0_letterAt a0 P = some o) : cd_Ct l G cI cZ sa sb yX0_letterAt wsX0_letterAt rm_X0_letterAt [.ref (h 0), .int a0] ((pc_pad cI h P)) ((pc_pad cI h P)) (some (.int o)) := by
  refine cd_of (cc := cX0_letterAt) (maxL := 3) (ret := (some .int)) (by decide) rfl (Nat.le_of_ble_eq_true rfl) ?_
  intro p e s m ag below meth c A ls Q C0 hl hw hQ
  have C0 : cd_CX G cI cZ sa sb p s m ag meth c cX0_letterAt 3 (some .int) wsX0_letterAt RX0 A := C0
  obtain ⟨⟨hx, hb, hml, hown, hts⟩, hr, hlocks, hA, hE⟩ := id C0
  have hK := hE.1
  have hL0 := hts (.initialized RX5) (by decide +kernel)
  have hL1 := hts (.static yX5_within) (by decide +kernel)
  have hl : lv_has ls 3 [(0, .ref (h 0)), (1, .int a0)] := hl
  unfold f_X0_letterAt at hf
  refine lv_aload_n hx hb dX0_letterAt_0 rfl (lv_at hl 0 rfl) ?_
  refine lv_iload_n hx hb dX0_letterAt_1 rfl (lv_at hl 1 rfl) ?_
  obtain ⟨r1, e1, hf⟩ := cd_bind_some hf
  refine cd_callV (As := [.int a0]) (rest := []) C0 hw (c_X0_signAt l G cI cZ sa sb h P a0 r1 e1) [0, 1] rfl rfl 0 0 rfl rfl rfl (cwV 1 hts gX0_letterAt_X0_signAt rfl rfl rfl (by decide +kernel) ⟨Nat.le_of_ble_eq_true rfl, Nat.le_of_ble_eq_true rfl⟩) rfl hl.1 (lv_room (Nat.le_of_ble_eq_true rfl)) dX0_letterAt_2 (fun H locs hw => ?_)
  refine lv_istore_n (lv' := [(2, .int r1), (0, .ref (h 0)), (1, .int a0)]) hx hb dX0_letterAt_5 rfl hl (by decide) rfl (fun ls hl => ?_)
  refine lv_iload_n hx hb dX0_letterAt_6 rfl (lv_at hl 0 rfl) ?_
  refine lv_bipush (v := (97 : Int32)) hx hb dX0_letterAt_7 (by decide) ?_
  refine lv_bipush (v := (108 : Int32)) hx hb dX0_letterAt_9 (by decide) ?_
  obtain ⟨r2, e2, hf⟩ := cd_bind_some hf
  refine cd_callSN (As := [.int r1, .int (97 : Int32), .int (108 : Int32)]) (rest := []) C0 hw (c_X5_within l G cI cZ sa sb r1 (97 : Int32) (108 : Int32) r2 e2) [] rfl rfl ⟨va_cnB 3 hts ggX0_letterAt_X5_within rfl rfl rfl (hE.2.1 (.methodLinkNest RX0 50 yX5_within RX5) (by simp [cd_nest])) hL0 (by decide +kernel) ⟨Nat.le_of_ble_eq_true rfl, Nat.le_of_ble_eq_true rfl⟩, hL1, trivial⟩ rfl hl.1 (lv_room (Nat.le_of_ble_eq_true rfl)) dX0_letterAt_11 (fun H locs hw => ?_)
  obtain ⟨x3, e3, hf⟩ := cd_bind_some hf
  have K3 : ∀ (ls : Array Slot) (H : Heap) (locs : List Loc), lv_has ls 3 [] → cd_WS G A s.heap H locs ((pc_pad cI h P)) → W p l e rm_X0_letterAt s m ag below meth c H locs 0 0 Q (F0 m 25 ls [.int x3]) := by
    intro ls H locs hl hw
    have z : some x3 = some o := hf
    cases z
    rw [hQ]
    exact cd_reti C0 hw dX0_letterAt_25
  refine lv_if_eq (tgt := 24) hx hb dX0_letterAt_14 (by decide) (fun c3 => ?_) (fun c3 => ?_)
  · have e3 := cd_ite_t c3 e3
    refine lv_iconst (v := (-1 : Int32)) hx hb dX0_letterAt_24 (by decide) ?_
    have z : some (-1 : Int32) = some x3 := e3
    cases z
    exact K3 _ _ _ (lv_sub hl [] rfl) hw
  · have e3 := cd_ite_f c3 e3
    refine lv_iload_n hx hb dX0_letterAt_17 rfl (lv_at hl 0 rfl) ?_
    refine lv_bipush (v := (97 : Int32)) hx hb dX0_letterAt_18 (by decide) ?_
    refine lv_isub hx hb dX0_letterAt_20 ?_
    refine lv_goto (tgt := 25) hx hb dX0_letterAt_21 (by decide) ?_
    have z : some (r1 - (97 : Int32)) = some x3 := e3
    cases z
    exact K3 _ _ _ (lv_sub hl [] rfl) hw
abbrev rm_X0_readDraught : Room := { frames := 2, cells := 0, slots := 0, locals := 44 }
theorem nw_X0_readDraught_X0 : ∀ w ∈ u_ws RX0 TX0 6, w ∈ wsX0_readDraught := by decide +kernel
set_option maxHeartbeats 4000000 in
set_option maxRecDepth 100000 in
theorem c_X0_readDraught (l : Launch) (G : va_G) (cI cZ : ClassId) (sa sb : Nat) (h : Nat → Nat) (P : Nat → Nat → Int32) (a0 : Int32) (o : Int32 × (Nat → Nat → Int32)) (hf : f_X0_readDraught a0 P = some o) : cd_Ct l G cI cZ sa sb yX0_readDraught wsX0_readDraught rm_X0_readDraught [.ref (h 0), .int a0] ((pc_pad cI h P)) ((pc_pad cI h o.2)) (some (.int o.1)) := by
  refine cd_of (cc := cX0_readDraught) (maxL := 2) (ret := (some .int)) (by decide) rfl (Nat.le_of_ble_eq_true rfl) ?_
  intro p e s m ag below meth c A ls Q C0 hl hw hQ
  have C0 : cd_CX G cI cZ sa sb p s m ag meth c cX0_readDraught 2 (some .int) wsX0_readDraught RX0 A := C0
  obtain ⟨⟨hx, hb, hml, hown, hts⟩, hr, hlocks, hA, hE⟩ := id C0
  have hK := hE.1
  have hL0 := hts (.fieldLink RX0 32 "CandleDebts$Pad" "first" "I") (by decide +kernel)
  have hL1 := hts (.fieldLink RX0 35 "CandleDebts$Pad" "second" "I") (by decide +kernel)
  have hL2 := hts (.fieldLink RX0 23 "CandleDebts$Pad" "next" "I") (by decide +kernel)
  have hl : lv_has ls 2 [(0, .ref (h 0)), (1, .int a0)] := hl
  unfold f_X0_readDraught at hf
  refine lv_aload_n hx hb dX0_readDraught_0 rfl (lv_at hl 0 rfl) ?_
  refine lv_aload_n hx hb dX0_readDraught_1 rfl (lv_at hl 0 rfl) ?_
  refine lv_iload_n hx hb dX0_readDraught_2 rfl (lv_at hl 1 rfl) ?_
  refine lv_iconst (v := (1 : Int32)) hx hb dX0_readDraught_3 (by decide) ?_
  refine lv_iadd hx hb dX0_readDraught_4 ?_
  obtain ⟨r1, e1, hf⟩ := cd_bind_some hf
  refine cd_callV (As := [.int (a0 + (1 : Int32))]) (rest := [.ref (h 0)]) C0 hw (c_X0_letterAt l G cI cZ sa sb h P (a0 + (1 : Int32)) r1 e1) [0, 1] rfl rfl 0 0 rfl rfl rfl (cwV 1 hts gX0_readDraught_X0_letterAt rfl rfl rfl (by decide +kernel) ⟨Nat.le_of_ble_eq_true rfl, Nat.le_of_ble_eq_true rfl⟩) rfl hl.1 (lv_room (Nat.le_of_ble_eq_true rfl)) dX0_readDraught_5 (fun H locs hw => ?_)
  refine va_put (D := G) (ci := 0) (v := .int r1) (ty := .int) (C := RX0) (T := TX0) (N := 6) hx hb hts nw_X0_readDraught_X0 tyX0 tyX0_ok nmX0 hown hK hw.1 hw.2.1 hw.2.2 0 rfl rfl 3 (by decide) hL0 (fun _ h9 => h9) rfl (by decide +kernel) rfl rfl (Nat.le_of_ble_eq_true rfl) dX0_readDraught_8 (fun H locs hP hD hS => ?_)
  have hw : cd_WS G A s.heap H locs ((pc_pad cI h (cd_fld P 3 r1))) := ⟨hP, hD, hS⟩
  refine lv_aload_n hx hb dX0_readDraught_11 rfl (lv_at hl 0 rfl) ?_
  refine lv_aload_n hx hb dX0_readDraught_12 rfl (lv_at hl 0 rfl) ?_
  refine lv_iload_n hx hb dX0_readDraught_13 rfl (lv_at hl 1 rfl) ?_
  refine lv_iconst (v := (2 : Int32)) hx hb dX0_readDraught_14 (by decide) ?_
  refine lv_iadd hx hb dX0_readDraught_15 ?_
  obtain ⟨r2, e2, hf⟩ := cd_bind_some hf
  refine cd_callV (As := [.int (a0 + (2 : Int32))]) (rest := [.ref (h 0)]) C0 hw (c_X0_digitAt l G cI cZ sa sb h (cd_fld P 3 r1) (a0 + (2 : Int32)) r2 e2) [0, 1] rfl rfl 0 0 rfl rfl rfl (cwV 1 hts gX0_readDraught_X0_digitAt rfl rfl rfl (by decide +kernel) ⟨Nat.le_of_ble_eq_true rfl, Nat.le_of_ble_eq_true rfl⟩) rfl hl.1 (lv_room (Nat.le_of_ble_eq_true rfl)) dX0_readDraught_16 (fun H locs hw => ?_)
  refine va_put (D := G) (ci := 0) (v := .int r2) (ty := .int) (C := RX0) (T := TX0) (N := 6) hx hb hts nw_X0_readDraught_X0 tyX0 tyX0_ok nmX0 hown hK hw.1 hw.2.1 hw.2.2 0 rfl rfl 4 (by decide) hL1 (fun _ h9 => h9) rfl (by decide +kernel) rfl rfl (Nat.le_of_ble_eq_true rfl) dX0_readDraught_19 (fun H locs hP hD hS => ?_)
  have hw : cd_WS G A s.heap H locs ((pc_pad cI h (cd_fld (cd_fld P 3 r1) 4 r2))) := ⟨hP, hD, hS⟩
  refine lv_aload_n hx hb dX0_readDraught_22 rfl (lv_at hl 0 rfl) ?_
  refine lv_iload_n hx hb dX0_readDraught_23 rfl (lv_at hl 1 rfl) ?_
  refine lv_iconst (v := (3 : Int32)) hx hb dX0_readDraught_24 (by decide) ?_
  refine lv_iadd hx hb dX0_readDraught_25 ?_
  refine va_put (D := G) (ci := 0) (v := .int (a0 + (3 : Int32))) (ty := .int) (C := RX0) (T := TX0) (N := 6) hx hb hts nw_X0_readDraught_X0 tyX0 tyX0_ok nmX0 hown hK hw.1 hw.2.1 hw.2.2 0 rfl rfl 5 (by decide) hL2 (fun _ h9 => h9) rfl (by decide +kernel) rfl rfl (Nat.le_of_ble_eq_true rfl) dX0_readDraught_26 (fun H locs hP hD hS => ?_)
  have hw : cd_WS G A s.heap H locs ((pc_pad cI h (cd_fld (cd_fld (cd_fld P 3 r1) 4 r2) 5 (a0 + (3 : Int32))))) := ⟨hP, hD, hS⟩
  refine lv_aload_n hx hb dX0_readDraught_29 rfl (lv_at hl 0 rfl) ?_
  refine va_get (D := G) (ci := 0) (v := .int r1) (C := RX0) (T := TX0) (N := 6) hx hb hts nw_X0_readDraught_X0 hown hK hw.1 0 rfl rfl 3 (by decide) hL0 (fun _ h9 => h9) rfl dX0_readDraught_30 ?_
  refine lv_iconst (v := (-1 : Int32)) hx hb dX0_readDraught_33 (by decide) ?_
  refine lv_icmp_ne (tgt := 41) hx hb dX0_readDraught_34 (by decide) (fun c3 => ?_) (fun c3 => ?_)
  · have hf := cd_ite_f c3 hf
    refine lv_aload_n hx hb dX0_readDraught_41 rfl (lv_at hl 0 rfl) ?_
    refine va_get (D := G) (ci := 0) (v := .int r2) (C := RX0) (T := TX0) (N := 6) hx hb hts nw_X0_readDraught_X0 hown hK hw.1 0 rfl rfl 4 (by decide) hL1 (fun _ h9 => h9) rfl dX0_readDraught_42 ?_
    refine lv_iconst (v := (-1 : Int32)) hx hb dX0_readDraught_45 (by decide) ?_
    obtain ⟨x4, e4, hf⟩ := cd_bind_some hf
    have K4 : ∀ (ls : Array Slot) (H : Heap) (locs : List Loc), lv_has ls 2 [] → cd_WS G A s.heap H locs ((pc_pad cI h (cd_fld (cd_fld (cd_fld P 3 r1) 4 r2) 5 (a0 + (3 : Int32))))) → W p l e rm_X0_readDraught s m ag below meth c H locs 0 0 Q (F0 m 57 ls [.int x4]) := by
      intro ls H locs hl hw
      have z : some (x4, (cd_fld (cd_fld (cd_fld P 3 r1) 4 r2) 5 (a0 + (3 : Int32)))) = some o := hf
      cases z
      rw [hQ]
      exact cd_reti C0 hw dX0_readDraught_57
    refine lv_icmp_ne (tgt := 55) hx hb dX0_readDraught_46 (by decide) (fun c4 => ?_) (fun c4 => ?_)
    · have e4 := cd_ite_f c4 e4
      refine lv_bipush (v := (-6 : Int32)) hx hb dX0_readDraught_55 (by decide) ?_
      have z : some (-6 : Int32) = some x4 := e4
      cases z
      exact K4 _ _ _ (lv_sub hl [] rfl) hw
    · have e4 := cd_ite_t c4 e4
      refine lv_iload_n hx hb dX0_readDraught_49 rfl (lv_at hl 1 rfl) ?_
      refine lv_iconst (v := (2 : Int32)) hx hb dX0_readDraught_50 (by decide) ?_
      refine lv_iadd hx hb dX0_readDraught_51 ?_
      refine lv_goto (tgt := 57) hx hb dX0_readDraught_52 (by decide) ?_
      have z : some (a0 + (2 : Int32)) = some x4 := e4
      cases z
      exact K4 _ _ _ (lv_sub hl [] rfl) hw
  · have hf := cd_ite_t c3 hf
    refine lv_iload_n hx hb dX0_readDraught_37 rfl (lv_at hl 1 rfl) ?_
    refine lv_iconst (v := (1 : Int32)) hx hb dX0_readDraught_38 (by decide) ?_
    refine lv_iadd hx hb dX0_readDraught_39 ?_
    have z : some ((a0 + (1 : Int32)), (cd_fld (cd_fld (cd_fld P 3 r1) 4 r2) 5 (a0 + (3 : Int32)))) = some o := hf
    cases z
    rw [hQ]
    exact cd_reti C0 hw dX0_readDraught_40
abbrev rm_X0_readOfCandle : Room := { frames := 2, cells := 0, slots := 0, locals := 44 }
theorem nw_X0_readOfCandle_X0 : ∀ w ∈ u_ws RX0 TX0 6, w ∈ wsX0_readOfCandle := by decide +kernel
set_option maxHeartbeats 4000000 in
set_option maxRecDepth 100000 in
theorem c_X0_readOfCandle (l : Launch) (G : va_G) (cI cZ : ClassId) (sa sb : Nat) (h : Nat → Nat) (P : Nat → Nat → Int32) (a0 : Int32) (o : Int32 × (Nat → Nat → Int32)) (hf : f_X0_readOfCandle a0 P = some o) : cd_Ct l G cI cZ sa sb yX0_readOfCandle wsX0_readOfCandle rm_X0_readOfCandle [.ref (h 0), .int a0] ((pc_pad cI h P)) ((pc_pad cI h o.2)) (some (.int o.1)) := by
  refine cd_of (cc := cX0_readOfCandle) (maxL := 3) (ret := (some .int)) (by decide) rfl (Nat.le_of_ble_eq_true rfl) ?_
  intro p e s m ag below meth c A ls Q C0 hl hw hQ
  have C0 : cd_CX G cI cZ sa sb p s m ag meth c cX0_readOfCandle 3 (some .int) wsX0_readOfCandle RX0 A := C0
  obtain ⟨⟨hx, hb, hml, hown, hts⟩, hr, hlocks, hA, hE⟩ := id C0
  have hK := hE.1
  have hL0 := hts (.fieldLink RX0 32 "CandleDebts$Pad" "first" "I") (by decide +kernel)
  have hL1 := hts (.fieldLink RX0 29 "CandleDebts$Pad" "kind" "I") (by decide +kernel)
  have hL2 := hts (.fieldLink RX0 23 "CandleDebts$Pad" "next" "I") (by decide +kernel)
  have hL3 := hts (.fieldLink RX0 35 "CandleDebts$Pad" "second" "I") (by decide +kernel)
  have hl : lv_has ls 3 [(0, .ref (h 0)), (1, .int a0)] := hl
  unfold f_X0_readOfCandle at hf
  refine lv_aload_n hx hb dX0_readOfCandle_0 rfl (lv_at hl 0 rfl) ?_
  refine lv_aload_n hx hb dX0_readOfCandle_1 rfl (lv_at hl 0 rfl) ?_
  refine lv_iload_n hx hb dX0_readOfCandle_2 rfl (lv_at hl 1 rfl) ?_
  obtain ⟨r1, e1, hf⟩ := cd_bind_some hf
  refine cd_callV (As := [.int a0]) (rest := [.ref (h 0)]) C0 hw (c_X0_letterAt l G cI cZ sa sb h P a0 r1 e1) [0, 1] rfl rfl 0 0 rfl rfl rfl (cwV 1 hts gX0_readOfCandle_X0_letterAt rfl rfl rfl (by decide +kernel) ⟨Nat.le_of_ble_eq_true rfl, Nat.le_of_ble_eq_true rfl⟩) rfl hl.1 (lv_room (Nat.le_of_ble_eq_true rfl)) dX0_readOfCandle_3 (fun H locs hw => ?_)
  refine va_put (D := G) (ci := 0) (v := .int r1) (ty := .int) (C := RX0) (T := TX0) (N := 6) hx hb hts nw_X0_readOfCandle_X0 tyX0 tyX0_ok nmX0 hown hK hw.1 hw.2.1 hw.2.2 0 rfl rfl 3 (by decide) hL0 (fun _ h9 => h9) rfl (by decide +kernel) rfl rfl (Nat.le_of_ble_eq_true rfl) dX0_readOfCandle_6 (fun H locs hP hD hS => ?_)
  have hw : cd_WS G A s.heap H locs ((pc_pad cI h (cd_fld P 3 r1))) := ⟨hP, hD, hS⟩
  refine lv_aload_n hx hb dX0_readOfCandle_9 rfl (lv_at hl 0 rfl) ?_
  refine lv_aload_n hx hb dX0_readOfCandle_10 rfl (lv_at hl 0 rfl) ?_
  refine lv_iload_n hx hb dX0_readOfCandle_11 rfl (lv_at hl 1 rfl) ?_
  refine lv_iconst (v := (1 : Int32)) hx hb dX0_readOfCandle_12 (by decide) ?_
  refine lv_iadd hx hb dX0_readOfCandle_13 ?_
  obtain ⟨r2, e2, hf⟩ := cd_bind_some hf
  refine cd_callV (As := [.int (a0 + (1 : Int32))]) (rest := [.ref (h 0)]) C0 hw (c_X0_signAt l G cI cZ sa sb h (cd_fld P 3 r1) (a0 + (1 : Int32)) r2 e2) [0, 1] rfl rfl 0 0 rfl rfl rfl (cwV 1 hts gX0_readOfCandle_X0_signAt rfl rfl rfl (by decide +kernel) ⟨Nat.le_of_ble_eq_true rfl, Nat.le_of_ble_eq_true rfl⟩) rfl hl.1 (lv_room (Nat.le_of_ble_eq_true rfl)) dX0_readOfCandle_14 (fun H locs hw => ?_)
  refine va_put (D := G) (ci := 0) (v := .int r2) (ty := .int) (C := RX0) (T := TX0) (N := 6) hx hb hts nw_X0_readOfCandle_X0 tyX0 tyX0_ok nmX0 hown hK hw.1 hw.2.1 hw.2.2 0 rfl rfl 2 (by decide) hL1 (fun _ h9 => h9) rfl (by decide +kernel) rfl rfl (Nat.le_of_ble_eq_true rfl) dX0_readOfCandle_17 (fun H locs hP hD hS => ?_)
  have hw : cd_WS G A s.heap H locs ((pc_pad cI h (cd_fld (cd_fld P 3 r1) 2 r2))) := ⟨hP, hD, hS⟩
  refine lv_aload_n hx hb dX0_readOfCandle_20 rfl (lv_at hl 0 rfl) ?_
  refine lv_iload_n hx hb dX0_readOfCandle_21 rfl (lv_at hl 1 rfl) ?_
  refine lv_iconst (v := (2 : Int32)) hx hb dX0_readOfCandle_22 (by decide) ?_
  refine lv_iadd hx hb dX0_readOfCandle_23 ?_
  refine va_put (D := G) (ci := 0) (v := .int (a0 + (2 : Int32))) (ty := .int) (C := RX0) (T := TX0) (N := 6) hx hb hts nw_X0_readOfCandle_X0 tyX0 tyX0_ok nmX0 hown hK hw.1 hw.2.1 hw.2.2 0 rfl rfl 5 (by decide) hL2 (fun _ h9 => h9) rfl (by decide +kernel) rfl rfl (Nat.le_of_ble_eq_true rfl) dX0_readOfCandle_24 (fun H locs hP hD hS => ?_)
  have hw : cd_WS G A s.heap H locs ((pc_pad cI h (cd_fld (cd_fld (cd_fld P 3 r1) 2 r2) 5 (a0 + (2 : Int32))))) := ⟨hP, hD, hS⟩
  refine lv_aload_n hx hb dX0_readOfCandle_27 rfl (lv_at hl 0 rfl) ?_
  refine va_get (D := G) (ci := 0) (v := .int r1) (C := RX0) (T := TX0) (N := 6) hx hb hts nw_X0_readOfCandle_X0 hown hK hw.1 0 rfl rfl 3 (by decide) hL0 (fun _ h9 => h9) rfl dX0_readOfCandle_28 ?_
  refine lv_iconst (v := (-1 : Int32)) hx hb dX0_readOfCandle_31 (by decide) ?_
  refine lv_icmp_ne (tgt := 37) hx hb dX0_readOfCandle_32 (by decide) (fun c3 => ?_) (fun c3 => ?_)
  · have hf := cd_ite_f c3 hf
    refine lv_aload_n hx hb dX0_readOfCandle_37 rfl (lv_at hl 0 rfl) ?_
    refine va_get (D := G) (ci := 0) (v := .int r2) (C := RX0) (T := TX0) (N := 6) hx hb hts nw_X0_readOfCandle_X0 hown hK hw.1 0 rfl rfl 2 (by decide) hL1 (fun _ h9 => h9) rfl dX0_readOfCandle_38 ?_
    refine lv_bipush (v := (62 : Int32)) hx hb dX0_readOfCandle_41 (by decide) ?_
    refine lv_icmp_ne (tgt := 81) hx hb dX0_readOfCandle_43 (by decide) (fun c4 => ?_) (fun c4 => ?_)
    · have hf := cd_ite_f c4 hf
      refine lv_aload_n hx hb dX0_readOfCandle_81 rfl (lv_at hl 0 rfl) ?_
      refine va_get (D := G) (ci := 0) (v := .int r2) (C := RX0) (T := TX0) (N := 6) hx hb hts nw_X0_readOfCandle_X0 hown hK hw.1 0 rfl rfl 2 (by decide) hL1 (fun _ h9 => h9) rfl dX0_readOfCandle_82 ?_
      refine lv_bipush (v := (42 : Int32)) hx hb dX0_readOfCandle_85 (by decide) ?_
      obtain ⟨x7, e7, hf⟩ := cd_bind_some hf
      have K7 : ∀ (ls : Array Slot) (H : Heap) (locs : List Loc), lv_has ls 3 [(1, .int a0)] → cd_WS G A s.heap H locs ((pc_pad cI h (cd_fld (cd_fld (cd_fld P 3 r1) 2 r2) 5 (a0 + (2 : Int32))))) → W p l e rm_X0_readOfCandle s m ag below meth c H locs 0 0 Q (F0 m 122 ls [.int x7]) := by
        intro ls H locs hl hw
        refine lv_istore_n (lv' := [(2, .int x7), (1, .int a0)]) hx hb dX0_readOfCandle_122 rfl hl (by decide) rfl (fun ls hl => ?_)
        refine lv_iload_n hx hb dX0_readOfCandle_123 rfl (lv_at hl 0 rfl) ?_
        obtain ⟨x8, e8, hf⟩ := cd_bind_some hf
        have K8 : ∀ (ls : Array Slot) (H : Heap) (locs : List Loc), lv_has ls 3 [] → cd_WS G A s.heap H locs ((pc_pad cI h (cd_fld (cd_fld (cd_fld P 3 r1) 2 r2) 5 (a0 + (2 : Int32))))) → W p l e rm_X0_readOfCandle s m ag below meth c H locs 0 0 Q (F0 m 135 ls [.int x8]) := by
          intro ls H locs hl hw
          have z : some (x8, (cd_fld (cd_fld (cd_fld P 3 r1) 2 r2) 5 (a0 + (2 : Int32)))) = some o := hf
          cases z
          rw [hQ]
          exact cd_reti C0 hw dX0_readOfCandle_135
        refine lv_if_eq (tgt := 132) hx hb dX0_readOfCandle_124 (by decide) (fun c8 => ?_) (fun c8 => ?_)
        · have e8 := cd_ite_t c8 e8
          refine lv_iload_n hx hb dX0_readOfCandle_132 rfl (lv_at hl 1 rfl) ?_
          refine lv_iconst (v := (1 : Int32)) hx hb dX0_readOfCandle_133 (by decide) ?_
          refine lv_iadd hx hb dX0_readOfCandle_134 ?_
          have z : some (a0 + (1 : Int32)) = some x8 := e8
          cases z
          exact K8 _ _ _ (lv_sub hl [] rfl) hw
        · have e8 := cd_ite_f c8 e8
          refine lv_bipush (v := (-6 : Int32)) hx hb dX0_readOfCandle_127 (by decide) ?_
          refine lv_goto (tgt := 135) hx hb dX0_readOfCandle_129 (by decide) ?_
          have z : some (-6 : Int32) = some x8 := e8
          cases z
          exact K8 _ _ _ (lv_sub hl [] rfl) hw
      refine lv_icmp_eq (tgt := 117) hx hb dX0_readOfCandle_87 (by decide) (fun c7 => ?_) (fun c7 => ?_)
      · have e7 := cd_ite_t c7 e7
        refine lv_iconst (v := (1 : Int32)) hx hb dX0_readOfCandle_117 (by decide) ?_
        refine lv_goto (tgt := 122) hx hb dX0_readOfCandle_118 (by decide) ?_
        have z : some (1 : Int32) = some x7 := e7
        cases z
        exact K7 _ _ _ (lv_sub hl [1] rfl) hw
      · have e7 := cd_ite_f c7 e7
        refine lv_aload_n hx hb dX0_readOfCandle_90 rfl (lv_at hl 0 rfl) ?_
        refine va_get (D := G) (ci := 0) (v := .int r2) (C := RX0) (T := TX0) (N := 6) hx hb hts nw_X0_readOfCandle_X0 hown hK hw.1 0 rfl rfl 2 (by decide) hL1 (fun _ h9 => h9) rfl dX0_readOfCandle_91 ?_
        refine lv_bipush (v := (45 : Int32)) hx hb dX0_readOfCandle_94 (by decide) ?_
        refine lv_icmp_eq (tgt := 117) hx hb dX0_readOfCandle_96 (by decide) (fun c9 => ?_) (fun c9 => ?_)
        · have e7 := cd_ite_t c9 e7
          refine lv_iconst (v := (1 : Int32)) hx hb dX0_readOfCandle_117 (by decide) ?_
          refine lv_goto (tgt := 122) hx hb dX0_readOfCandle_118 (by decide) ?_
          have z : some (1 : Int32) = some x7 := e7
          cases z
          exact K7 _ _ _ (lv_sub hl [1] rfl) hw
        · have e7 := cd_ite_f c9 e7
          refine lv_aload_n hx hb dX0_readOfCandle_99 rfl (lv_at hl 0 rfl) ?_
          refine va_get (D := G) (ci := 0) (v := .int r2) (C := RX0) (T := TX0) (N := 6) hx hb hts nw_X0_readOfCandle_X0 hown hK hw.1 0 rfl rfl 2 (by decide) hL1 (fun _ h9 => h9) rfl dX0_readOfCandle_100 ?_
          refine lv_bipush (v := (33 : Int32)) hx hb dX0_readOfCandle_103 (by decide) ?_
          refine lv_icmp_eq (tgt := 117) hx hb dX0_readOfCandle_105 (by decide) (fun c10 => ?_) (fun c10 => ?_)
          · have e7 := cd_ite_t c10 e7
            refine lv_iconst (v := (1 : Int32)) hx hb dX0_readOfCandle_117 (by decide) ?_
            refine lv_goto (tgt := 122) hx hb dX0_readOfCandle_118 (by decide) ?_
            have z : some (1 : Int32) = some x7 := e7
            cases z
            exact K7 _ _ _ (lv_sub hl [1] rfl) hw
          · have e7 := cd_ite_f c10 e7
            refine lv_aload_n hx hb dX0_readOfCandle_108 rfl (lv_at hl 0 rfl) ?_
            refine va_get (D := G) (ci := 0) (v := .int r2) (C := RX0) (T := TX0) (N := 6) hx hb hts nw_X0_readOfCandle_X0 hown hK hw.1 0 rfl rfl 2 (by decide) hL1 (fun _ h9 => h9) rfl dX0_readOfCandle_109 ?_
            refine lv_bipush (v := (94 : Int32)) hx hb dX0_readOfCandle_112 (by decide) ?_
            refine lv_icmp_ne (tgt := 121) hx hb dX0_readOfCandle_114 (by decide) (fun c11 => ?_) (fun c11 => ?_)
            · have e7 := cd_ite_f c11 e7
              refine lv_iconst (v := (0 : Int32)) hx hb dX0_readOfCandle_121 (by decide) ?_
              have z : some (0 : Int32) = some x7 := e7
              cases z
              exact K7 _ _ _ (lv_sub hl [1] rfl) hw
            · have e7 := cd_ite_t c11 e7
              refine lv_iconst (v := (1 : Int32)) hx hb dX0_readOfCandle_117 (by decide) ?_
              refine lv_goto (tgt := 122) hx hb dX0_readOfCandle_118 (by decide) ?_
              have z : some (1 : Int32) = some x7 := e7
              cases z
              exact K7 _ _ _ (lv_sub hl [1] rfl) hw
    · have hf := cd_ite_t c4 hf
      refine lv_aload_n hx hb dX0_readOfCandle_46 rfl (lv_at hl 0 rfl) ?_
      refine lv_aload_n hx hb dX0_readOfCandle_47 rfl (lv_at hl 0 rfl) ?_
      refine lv_iload_n hx hb dX0_readOfCandle_48 rfl (lv_at hl 1 rfl) ?_
      refine lv_iconst (v := (2 : Int32)) hx hb dX0_readOfCandle_49 (by decide) ?_
      refine lv_iadd hx hb dX0_readOfCandle_50 ?_
      obtain ⟨r5, e5, hf⟩ := cd_bind_some hf
      refine cd_callV (As := [.int (a0 + (2 : Int32))]) (rest := [.ref (h 0)]) C0 hw (c_X0_letterAt l G cI cZ sa sb h (cd_fld (cd_fld (cd_fld P 3 r1) 2 r2) 5 (a0 + (2 : Int32))) (a0 + (2 : Int32)) r5 e5) [0, 1] rfl rfl 0 0 rfl rfl rfl (cwV 1 hts gX0_readOfCandle_X0_letterAt rfl rfl rfl (by decide +kernel) ⟨Nat.le_of_ble_eq_true rfl, Nat.le_of_ble_eq_true rfl⟩) rfl hl.1 (lv_room (Nat.le_of_ble_eq_true rfl)) dX0_readOfCandle_51 (fun H locs hw => ?_)
      refine va_put (D := G) (ci := 0) (v := .int r5) (ty := .int) (C := RX0) (T := TX0) (N := 6) hx hb hts nw_X0_readOfCandle_X0 tyX0 tyX0_ok nmX0 hown hK hw.1 hw.2.1 hw.2.2 0 rfl rfl 4 (by decide) hL3 (fun _ h9 => h9) rfl (by decide +kernel) rfl rfl (Nat.le_of_ble_eq_true rfl) dX0_readOfCandle_54 (fun H locs hP hD hS => ?_)
      have hw : cd_WS G A s.heap H locs ((pc_pad cI h (cd_fld (cd_fld (cd_fld (cd_fld P 3 r1) 2 r2) 5 (a0 + (2 : Int32))) 4 r5))) := ⟨hP, hD, hS⟩
      refine lv_aload_n hx hb dX0_readOfCandle_57 rfl (lv_at hl 0 rfl) ?_
      refine lv_iload_n hx hb dX0_readOfCandle_58 rfl (lv_at hl 1 rfl) ?_
      refine lv_iconst (v := (3 : Int32)) hx hb dX0_readOfCandle_59 (by decide) ?_
      refine lv_iadd hx hb dX0_readOfCandle_60 ?_
      refine va_put (D := G) (ci := 0) (v := .int (a0 + (3 : Int32))) (ty := .int) (C := RX0) (T := TX0) (N := 6) hx hb hts nw_X0_readOfCandle_X0 tyX0 tyX0_ok nmX0 hown hK hw.1 hw.2.1 hw.2.2 0 rfl rfl 5 (by decide) hL2 (fun _ h9 => h9) rfl (by decide +kernel) rfl rfl (Nat.le_of_ble_eq_true rfl) dX0_readOfCandle_61 (fun H locs hP hD hS => ?_)
      have hw : cd_WS G A s.heap H locs ((pc_pad cI h (cd_fld (cd_fld (cd_fld (cd_fld (cd_fld P 3 r1) 2 r2) 5 (a0 + (2 : Int32))) 4 r5) 5 (a0 + (3 : Int32))))) := ⟨hP, hD, hS⟩
      refine lv_aload_n hx hb dX0_readOfCandle_64 rfl (lv_at hl 0 rfl) ?_
      refine va_get (D := G) (ci := 0) (v := .int r5) (C := RX0) (T := TX0) (N := 6) hx hb hts nw_X0_readOfCandle_X0 hown hK hw.1 0 rfl rfl 4 (by decide) hL3 (fun _ h9 => h9) rfl dX0_readOfCandle_65 ?_
      refine lv_iconst (v := (-1 : Int32)) hx hb dX0_readOfCandle_68 (by decide) ?_
      obtain ⟨x6, e6, hf⟩ := cd_bind_some hf
      have K6 : ∀ (ls : Array Slot) (H : Heap) (locs : List Loc), lv_has ls 3 [] → cd_WS G A s.heap H locs ((pc_pad cI h (cd_fld (cd_fld (cd_fld (cd_fld (cd_fld P 3 r1) 2 r2) 5 (a0 + (2 : Int32))) 4 r5) 5 (a0 + (3 : Int32))))) → W p l e rm_X0_readOfCandle s m ag below meth c H locs 0 0 Q (F0 m 80 ls [.int x6]) := by
        intro ls H locs hl hw
        have z : some (x6, (cd_fld (cd_fld (cd_fld (cd_fld (cd_fld P 3 r1) 2 r2) 5 (a0 + (2 : Int32))) 4 r5) 5 (a0 + (3 : Int32)))) = some o := hf
        cases z
        rw [hQ]
        exact cd_reti C0 hw dX0_readOfCandle_80
      refine lv_icmp_ne (tgt := 78) hx hb dX0_readOfCandle_69 (by decide) (fun c6 => ?_) (fun c6 => ?_)
      · have e6 := cd_ite_f c6 e6
        refine lv_bipush (v := (-6 : Int32)) hx hb dX0_readOfCandle_78 (by decide) ?_
        have z : some (-6 : Int32) = some x6 := e6
        cases z
        exact K6 _ _ _ (lv_sub hl [] rfl) hw
      · have e6 := cd_ite_t c6 e6
        refine lv_iload_n hx hb dX0_readOfCandle_72 rfl (lv_at hl 1 rfl) ?_
        refine lv_iconst (v := (2 : Int32)) hx hb dX0_readOfCandle_73 (by decide) ?_
        refine lv_iadd hx hb dX0_readOfCandle_74 ?_
        refine lv_goto (tgt := 80) hx hb dX0_readOfCandle_75 (by decide) ?_
        have z : some (a0 + (2 : Int32)) = some x6 := e6
        cases z
        exact K6 _ _ _ (lv_sub hl [] rfl) hw
  · have hf := cd_ite_t c3 hf
    refine lv_iload_n hx hb dX0_readOfCandle_35 rfl (lv_at hl 1 rfl) ?_
    have z : some (a0, (cd_fld (cd_fld (cd_fld P 3 r1) 2 r2) 5 (a0 + (2 : Int32)))) = some o := hf
    cases z
    rw [hQ]
    exact cd_reti C0 hw dX0_readOfCandle_36
abbrev rm_X0_readAct : Room := { frames := 3, cells := 0, slots := 0, locals := 66 }
theorem nw_X0_readAct_X0 : ∀ w ∈ u_ws RX0 TX0 6, w ∈ wsX0_readAct := by decide +kernel
set_option maxHeartbeats 4000000 in
set_option maxRecDepth 100000 in
theorem c_X0_readAct (l : Launch) (G : va_G) (cI cZ : ClassId) (sa sb : Nat) (h : Nat → Nat) (P : Nat → Nat → Int32) (a0 : Int32) (o : Int32 × (Nat → Nat → Int32)) (hf : f_X0_readAct a0 P = some o) : cd_Ct l G cI cZ sa sb yX0_readAct wsX0_readAct rm_X0_readAct [.ref (h 0), .int a0] ((pc_pad cI h P)) ((pc_pad cI h o.2)) (some (.int o.1)) := by
  refine cd_of (cc := cX0_readAct) (maxL := 2) (ret := (some .int)) (by decide) rfl (Nat.le_of_ble_eq_true rfl) ?_
  intro p e s m ag below meth c A ls Q C0 hl hw hQ
  have C0 : cd_CX G cI cZ sa sb p s m ag meth c cX0_readAct 2 (some .int) wsX0_readAct RX0 A := C0
  obtain ⟨⟨hx, hb, hml, hown, hts⟩, hr, hlocks, hA, hE⟩ := id C0
  have hK := hE.1
  have hL0 := hts (.fieldLink RX0 29 "CandleDebts$Pad" "kind" "I") (by decide +kernel)
  have hL1 := hts (.fieldLink RX0 32 "CandleDebts$Pad" "first" "I") (by decide +kernel)
  have hL2 := hts (.fieldLink RX0 35 "CandleDebts$Pad" "second" "I") (by decide +kernel)
  have hL3 := hts (.fieldLink RX0 23 "CandleDebts$Pad" "next" "I") (by decide +kernel)
  have hl : lv_has ls 2 [(0, .ref (h 0)), (1, .int a0)] := hl
  unfold f_X0_readAct at hf
  refine lv_aload_n hx hb dX0_readAct_0 rfl (lv_at hl 0 rfl) ?_
  refine lv_aload_n hx hb dX0_readAct_1 rfl (lv_at hl 0 rfl) ?_
  refine lv_iload_n hx hb dX0_readAct_2 rfl (lv_at hl 1 rfl) ?_
  obtain ⟨r1, e1, hf⟩ := cd_bind_some hf
  refine cd_callV (As := [.int a0]) (rest := [.ref (h 0)]) C0 hw (c_X0_signAt l G cI cZ sa sb h P a0 r1 e1) [0, 1] rfl rfl 0 0 rfl rfl rfl (cwV 1 hts gX0_readAct_X0_signAt rfl rfl rfl (by decide +kernel) ⟨Nat.le_of_ble_eq_true rfl, Nat.le_of_ble_eq_true rfl⟩) rfl hl.1 (lv_room (Nat.le_of_ble_eq_true rfl)) dX0_readAct_3 (fun H locs hw => ?_)
  refine va_put (D := G) (ci := 0) (v := .int r1) (ty := .int) (C := RX0) (T := TX0) (N := 6) hx hb hts nw_X0_readAct_X0 tyX0 tyX0_ok nmX0 hown hK hw.1 hw.2.1 hw.2.2 0 rfl rfl 2 (by decide) hL0 (fun _ h9 => h9) rfl (by decide +kernel) rfl rfl (Nat.le_of_ble_eq_true rfl) dX0_readAct_6 (fun H locs hP hD hS => ?_)
  have hw : cd_WS G A s.heap H locs ((pc_pad cI h (cd_fld P 2 r1))) := ⟨hP, hD, hS⟩
  refine lv_aload_n hx hb dX0_readAct_9 rfl (lv_at hl 0 rfl) ?_
  refine lv_iconst (v := (0 : Int32)) hx hb dX0_readAct_10 (by decide) ?_
  refine va_put (D := G) (ci := 0) (v := .int (0 : Int32)) (ty := .int) (C := RX0) (T := TX0) (N := 6) hx hb hts nw_X0_readAct_X0 tyX0 tyX0_ok nmX0 hown hK hw.1 hw.2.1 hw.2.2 0 rfl rfl 3 (by decide) hL1 (fun _ h9 => h9) rfl (by decide +kernel) rfl rfl (Nat.le_of_ble_eq_true rfl) dX0_readAct_11 (fun H locs hP hD hS => ?_)
  have hw : cd_WS G A s.heap H locs ((pc_pad cI h (cd_fld (cd_fld P 2 r1) 3 (0 : Int32)))) := ⟨hP, hD, hS⟩
  refine lv_aload_n hx hb dX0_readAct_14 rfl (lv_at hl 0 rfl) ?_
  refine lv_iconst (v := (0 : Int32)) hx hb dX0_readAct_15 (by decide) ?_
  refine va_put (D := G) (ci := 0) (v := .int (0 : Int32)) (ty := .int) (C := RX0) (T := TX0) (N := 6) hx hb hts nw_X0_readAct_X0 tyX0 tyX0_ok nmX0 hown hK hw.1 hw.2.1 hw.2.2 0 rfl rfl 4 (by decide) hL2 (fun _ h9 => h9) rfl (by decide +kernel) rfl rfl (Nat.le_of_ble_eq_true rfl) dX0_readAct_16 (fun H locs hP hD hS => ?_)
  have hw : cd_WS G A s.heap H locs ((pc_pad cI h (cd_fld (cd_fld (cd_fld P 2 r1) 3 (0 : Int32)) 4 (0 : Int32)))) := ⟨hP, hD, hS⟩
  refine lv_aload_n hx hb dX0_readAct_19 rfl (lv_at hl 0 rfl) ?_
  refine lv_iload_n hx hb dX0_readAct_20 rfl (lv_at hl 1 rfl) ?_
  refine lv_iconst (v := (1 : Int32)) hx hb dX0_readAct_21 (by decide) ?_
  refine lv_iadd hx hb dX0_readAct_22 ?_
  refine va_put (D := G) (ci := 0) (v := .int (a0 + (1 : Int32))) (ty := .int) (C := RX0) (T := TX0) (N := 6) hx hb hts nw_X0_readAct_X0 tyX0 tyX0_ok nmX0 hown hK hw.1 hw.2.1 hw.2.2 0 rfl rfl 5 (by decide) hL3 (fun _ h9 => h9) rfl (by decide +kernel) rfl rfl (Nat.le_of_ble_eq_true rfl) dX0_readAct_23 (fun H locs hP hD hS => ?_)
  have hw : cd_WS G A s.heap H locs ((pc_pad cI h (cd_fld (cd_fld (cd_fld (cd_fld P 2 r1) 3 (0 : Int32)) 4 (0 : Int32)) 5 (a0 + (1 : Int32))))) := ⟨hP, hD, hS⟩
  refine lv_aload_n hx hb dX0_readAct_26 rfl (lv_at hl 0 rfl) ?_
  refine va_get (D := G) (ci := 0) (v := .int r1) (C := RX0) (T := TX0) (N := 6) hx hb hts nw_X0_readAct_X0 hown hK hw.1 0 rfl rfl 2 (by decide) hL0 (fun _ h9 => h9) rfl dX0_readAct_27 ?_
  refine lv_bipush (v := (46 : Int32)) hx hb dX0_readAct_30 (by decide) ?_
  refine lv_icmp_ne (tgt := 38) hx hb dX0_readAct_32 (by decide) (fun c2 => ?_) (fun c2 => ?_)
  · have hf := cd_ite_f c2 hf
    refine lv_aload_n hx hb dX0_readAct_38 rfl (lv_at hl 0 rfl) ?_
    refine va_get (D := G) (ci := 0) (v := .int r1) (C := RX0) (T := TX0) (N := 6) hx hb hts nw_X0_readAct_X0 hown hK hw.1 0 rfl rfl 2 (by decide) hL0 (fun _ h9 => h9) rfl dX0_readAct_39 ?_
    refine lv_bipush (v := (119 : Int32)) hx hb dX0_readAct_42 (by decide) ?_
    refine lv_icmp_ne (tgt := 53) hx hb dX0_readAct_44 (by decide) (fun c3 => ?_) (fun c3 => ?_)
    · have hf := cd_ite_f c3 hf
      refine lv_aload_n hx hb dX0_readAct_53 rfl (lv_at hl 0 rfl) ?_
      refine lv_iload_n hx hb dX0_readAct_54 rfl (lv_at hl 1 rfl) ?_
      obtain ⟨r5, e5, hf⟩ := cd_bind_some hf
      refine cd_callVw (As := [.int a0]) (rest := []) (wr := ([] : va_W)) (wn := (pc_pad cI h r5.2)) C0 hw (c_X0_readOfCandle l G cI cZ sa sb h (cd_fld (cd_fld (cd_fld (cd_fld P 2 r1) 3 (0 : Int32)) 4 (0 : Int32)) 5 (a0 + (1 : Int32))) a0 r5 e5) [0, 1] [] [0, 1] rfl rfl rfl rfl (by decide) rfl rfl 0 0 rfl rfl rfl (cwV 1 hts gX0_readAct_X0_readOfCandle rfl rfl rfl (by decide +kernel) ⟨Nat.le_of_ble_eq_true rfl, Nat.le_of_ble_eq_true rfl⟩) rfl hl.1 (lv_room (Nat.le_of_ble_eq_true rfl)) dX0_readAct_55 (fun H locs hw => ?_)
      have z : some (r5.1, r5.2) = some o := hf
      cases z
      rw [hQ]
      exact cd_reti C0 hw dX0_readAct_58
    · have hf := cd_ite_t c3 hf
      refine lv_aload_n hx hb dX0_readAct_47 rfl (lv_at hl 0 rfl) ?_
      refine lv_iload_n hx hb dX0_readAct_48 rfl (lv_at hl 1 rfl) ?_
      obtain ⟨r4, e4, hf⟩ := cd_bind_some hf
      refine cd_callVw (As := [.int a0]) (rest := []) (wr := ([] : va_W)) (wn := (pc_pad cI h r4.2)) C0 hw (c_X0_readDraught l G cI cZ sa sb h (cd_fld (cd_fld (cd_fld (cd_fld P 2 r1) 3 (0 : Int32)) 4 (0 : Int32)) 5 (a0 + (1 : Int32))) a0 r4 e4) [0, 1] [] [0, 1] rfl rfl rfl rfl (by decide) rfl rfl 0 0 rfl rfl rfl (cwV 1 hts gX0_readAct_X0_readDraught rfl rfl rfl (by decide +kernel) ⟨Nat.le_of_ble_eq_true rfl, Nat.le_of_ble_eq_true rfl⟩) rfl hl.1 (lv_room (Nat.le_of_ble_eq_true rfl)) dX0_readAct_49 (fun H locs hw => ?_)
      have z : some (r4.1, r4.2) = some o := hf
      cases z
      rw [hQ]
      exact cd_reti C0 hw dX0_readAct_52
  · have hf := cd_ite_t c2 hf
    refine lv_bipush (v := (-6 : Int32)) hx hb dX0_readAct_35 (by decide) ?_
    have z : some ((-6 : Int32), (cd_fld (cd_fld (cd_fld (cd_fld P 2 r1) 3 (0 : Int32)) 4 (0 : Int32)) 5 (a0 + (1 : Int32)))) = some o := hf
    cases z
    rw [hQ]
    exact cd_reti C0 hw dX0_readAct_37
abbrev rm_X0_firstFault : Room := { frames := 4, cells := 0, slots := 0, locals := 87 }
theorem nw_X0_firstFault_X0 : ∀ w ∈ u_ws RX0 TX0 6, w ∈ wsX0_firstFault := by decide +kernel
set_option maxHeartbeats 4000000 in
set_option maxRecDepth 100000 in
theorem c_X0_firstFault (l : Launch) (G : va_G) (cI cZ : ClassId) (sa sb : Nat) (h : Nat → Nat) (P : Nat → Nat → Int32) (o : Int32 × (Nat → Nat → Int32)) (hf : f_X0_firstFault P = some o) : cd_Ct l G cI cZ sa sb yX0_firstFault wsX0_firstFault rm_X0_firstFault [.ref (h 0)] ((pc_pad cI h P)) ((pc_pad cI h o.2)) (some (.int o.1)) := by
  refine cd_of (cc := cX0_firstFault) (maxL := 4) (ret := (some .int)) (by decide) rfl (Nat.le_of_ble_eq_true rfl) ?_
  intro p e s m ag below meth c A ls Q C0 hl hw hQ
  have C0 : cd_CX G cI cZ sa sb p s m ag meth c cX0_firstFault 4 (some .int) wsX0_firstFault RX0 A := C0
  obtain ⟨⟨hx, hb, hml, hown, hts⟩, hr, hlocks, hA, hE⟩ := id C0
  have hK := hE.1
  have hL0 := hts (.fieldLink RX0 15 "CandleDebts$Pad" "count" "I") (by decide +kernel)
  have hL1 := hts (.fieldLink RX0 23 "CandleDebts$Pad" "next" "I") (by decide +kernel)
  have hl : lv_has ls 4 [(0, .ref (h 0))] := hl
  unfold f_X0_firstFault at hf
  refine lv_iconst (v := (0 : Int32)) hx hb dX0_firstFault_0 (by decide) ?_
  refine lv_istore_n (lv' := [(1, .int (0 : Int32)), (0, .ref (h 0))]) hx hb dX0_firstFault_1 rfl hl (by decide) rfl (fun ls hl => ?_)
  refine lv_iconst (v := (0 : Int32)) hx hb dX0_firstFault_2 (by decide) ?_
  refine lv_istore_n (lv' := [(2, .int (0 : Int32)), (1, .int (0 : Int32)), (0, .ref (h 0))]) hx hb dX0_firstFault_3 rfl hl (by decide) rfl (fun ls hl => ?_)
  obtain ⟨x1, e1, hf⟩ := cd_bind_some hf
  have K1 : ∀ (t1 : (Nat → Nat → Int32)), Sum.inr t1 = x1 → ∀ (ls : Array Slot) (H : Heap) (locs : List Loc), lv_has ls 4 [] → cd_WS G A s.heap H locs ((pc_pad cI h t1)) → W p l e rm_X0_firstFault s m ag below meth c H locs 0 0 Q (F0 m 43 ls []) := by
    intro t1 hs_1
    subst hs_1
    intro ls H locs hl hw
    refine lv_bipush (v := (-6 : Int32)) hx hb dX0_firstFault_43 (by decide) ?_
    have z : some ((-6 : Int32), t1) = some o := hf
    cases z
    rw [hQ]
    exact cd_reti C0 hw dX0_firstFault_45
  refine cd_iter_ind (body := f_X0_firstFault_b4) (K := fun r => r = x1) (P := fun (z1 : Int32 × Int32 × (Nat → Nat → Int32)) => ∀ (ls : Array Slot) (H : Heap) (locs : List Loc), lv_has ls 4 [(0, .ref (h 0)), (1, .int z1.1), (2, .int z1.2.1)] → cd_WS G A s.heap H locs ((pc_pad cI h z1.2.2)) → W p l e rm_X0_firstFault s m ag below meth c H locs 0 0 Q (F0 m 4 ls [])) ?_ cd_N ((0 : Int32), (0 : Int32), P) x1 e1 rfl _ _ _ (lv_sub hl [2, 1, 0] rfl) hw
  intro z1 o1 hb1 hk1 ls H locs hl hw
  unfold f_X0_firstFault_b4 at hb1
  refine lv_iload_n hx hb dX0_firstFault_4 rfl (lv_at hl 2 rfl) ?_
  refine lv_bipush (v := (60 : Int32)) hx hb dX0_firstFault_5 (by decide) ?_
  refine lv_icmp_ge (tgt := 43) hx hb dX0_firstFault_7 (by decide) (fun c2 => ?_) (fun c2 => ?_)
  · have hb1 := cd_ite_t c2 hb1
    have z : some (Sum.inl (Sum.inr z1.2.2)) = some o1 := hb1
    cases z
    exact K1 _ hk1 _ _ _ (lv_sub hl [] rfl) hw
  · have hb1 := cd_ite_f c2 hb1
    refine lv_iload_n hx hb dX0_firstFault_10 rfl (lv_at hl 1 rfl) ?_
    refine lv_aload_n hx hb dX0_firstFault_11 rfl (lv_at hl 0 rfl) ?_
    refine va_get (D := G) (ci := 0) (v := .int (z1.2.2 1 0)) (C := RX0) (T := TX0) (N := 6) hx hb hts nw_X0_firstFault_X0 hown hK hw.1 0 rfl rfl 1 (by decide) hL0 (fun _ h9 => h9) rfl dX0_firstFault_12 ?_
    refine lv_icmp_ge (tgt := 43) hx hb dX0_firstFault_15 (by decide) (fun c3 => ?_) (fun c3 => ?_)
    · have hb1 := cd_ite_t c3 hb1
      have z : some (Sum.inl (Sum.inr z1.2.2)) = some o1 := hb1
      cases z
      exact K1 _ hk1 _ _ _ (lv_sub hl [] rfl) hw
    · have hb1 := cd_ite_f c3 hb1
      refine lv_aload_n hx hb dX0_firstFault_18 rfl (lv_at hl 0 rfl) ?_
      refine lv_iload_n hx hb dX0_firstFault_19 rfl (lv_at hl 1 rfl) ?_
      obtain ⟨r4, e4, hb1⟩ := cd_bind_some hb1
      refine cd_callVw (As := [.int z1.1]) (rest := []) (wr := ([] : va_W)) (wn := (pc_pad cI h r4.2)) C0 hw (c_X0_readAct l G cI cZ sa sb h z1.2.2 z1.1 r4 e4) [0, 1] [] [0, 1] rfl rfl rfl rfl (by decide) rfl rfl 0 0 rfl rfl rfl (cwV 1 hts gX0_firstFault_X0_readAct rfl rfl rfl (by decide +kernel) ⟨Nat.le_of_ble_eq_true rfl, Nat.le_of_ble_eq_true rfl⟩) rfl hl.1 (lv_room (Nat.le_of_ble_eq_true rfl)) dX0_firstFault_20 (fun H locs hw => ?_)
      refine lv_istore_n (lv' := [(3, .int r4.1), (0, .ref (h 0)), (1, .int z1.1), (2, .int z1.2.1)]) hx hb dX0_firstFault_23 rfl hl (by decide) rfl (fun ls hl => ?_)
      refine lv_iload_n hx hb dX0_firstFault_24 rfl (lv_at hl 0 rfl) ?_
      refine lv_bipush (v := (-6 : Int32)) hx hb dX0_firstFault_25 (by decide) ?_
      refine lv_icmp_eq (tgt := 32) hx hb dX0_firstFault_27 (by decide) (fun c5 => ?_) (fun c5 => ?_)
      · have hb1 := cd_ite_t c5 hb1
        refine lv_aload_n hx hb dX0_firstFault_32 rfl (lv_at hl 1 rfl) ?_
        refine va_get (D := G) (ci := 0) (v := .int (r4.2 5 0)) (C := RX0) (T := TX0) (N := 6) hx hb hts nw_X0_firstFault_X0 hown hK hw.1 0 rfl rfl 5 (by decide) hL1 (fun _ h9 => h9) rfl dX0_firstFault_33 ?_
        refine lv_istore_n (lv' := [(1, .int (r4.2 5 0)), (3, .int r4.1), (0, .ref (h 0)), (2, .int z1.2.1)]) hx hb dX0_firstFault_36 rfl hl (by decide) rfl (fun ls hl => ?_)
        refine lv_iinc (v := (z1.2.1 + (1 : Int32))) (lv' := [(2, .int (z1.2.1 + (1 : Int32))), (1, .int (r4.2 5 0)), (3, .int r4.1), (0, .ref (h 0))]) hx hb dX0_firstFault_37 hl (k := 3) rfl rfl (by decide) rfl (fun ls hl => ?_)
        refine lv_goto (tgt := 4) hx hb dX0_firstFault_40 (by decide) ?_
        have z : some (Sum.inr ((r4.2 5 0), (z1.2.1 + (1 : Int32)), r4.2)) = some o1 := hb1
        cases z
        exact hk1 _ _ _ (lv_sub hl [3, 1, 0] rfl) hw
      · have hb1 := cd_ite_f c5 hb1
        refine lv_iload_n hx hb dX0_firstFault_30 rfl (lv_at hl 0 rfl) ?_
        have z : some (Sum.inl (Sum.inl (r4.1, r4.2))) = some o1 := hb1
        cases z
        have y1 : Sum.inl (r4.1, r4.2) = x1 := hk1
        subst y1
        have z : some (r4.1, r4.2) = some o := hf
        cases z
        rw [hQ]
        exact cd_reti C0 hw dX0_firstFault_31
abbrev rm_X0_write : Room := { frames := 0, cells := 0, slots := 0, locals := 0 }
theorem nw_X0_write_X0 : ∀ w ∈ u_ws RX0 TX0 6, w ∈ wsX0_write := by decide +kernel
set_option maxHeartbeats 4000000 in
set_option maxRecDepth 100000 in
theorem c_X0_write (l : Launch) (G : va_G) (cI cZ : ClassId) (sa sb : Nat) (h : Nat → Nat) (P : Nat → Nat → Int32) (a0 : Int32) (o : Int32 × (Nat → Nat → Int32)) (hf : f_X0_write a0 P = some o) : cd_Ct l G cI cZ sa sb yX0_write wsX0_write rm_X0_write [.ref (h 0), .int a0] ((pc_pad cI h P)) ((pc_pad cI h o.2)) (some (.int o.1)) := by
  refine cd_of (cc := cX0_write) (maxL := 2) (ret := (some .boolean)) (by decide) rfl (Nat.le_of_ble_eq_true rfl) ?_
  intro p e s m ag below meth c A ls Q C0 hl hw hQ
  have C0 : cd_CX G cI cZ sa sb p s m ag meth c cX0_write 2 (some .boolean) wsX0_write RX0 A := C0
  obtain ⟨⟨hx, hb, hml, hown, hts⟩, hr, hlocks, hA, hE⟩ := id C0
  have hK := hE.1
  have hL0 := hts (.fieldLink RX0 15 "CandleDebts$Pad" "count" "I") (by decide +kernel)
  have hL1 := hts (.fieldLink RX0 9 "CandleDebts$Pad" "signs" "[I") (by decide +kernel)
  have hl : lv_has ls 2 [(0, .ref (h 0)), (1, .int a0)] := hl
  unfold f_X0_write at hf
  refine lv_aload_n hx hb dX0_write_0 rfl (lv_at hl 0 rfl) ?_
  refine va_get (D := G) (ci := 0) (v := .int (P 1 0)) (C := RX0) (T := TX0) (N := 6) hx hb hts nw_X0_write_X0 hown hK hw.1 0 rfl rfl 1 (by decide) hL0 (fun _ h9 => h9) rfl dX0_write_1 ?_
  refine lv_bipush (v := (60 : Int32)) hx hb dX0_write_4 (by decide) ?_
  refine lv_icmp_lt (tgt := 11) hx hb dX0_write_6 (by decide) (fun c1 => ?_) (fun c1 => ?_)
  · have hf := cd_ite_t c1 hf
    refine lv_aload_n hx hb dX0_write_11 rfl (lv_at hl 0 rfl) ?_
    refine va_get (D := G) (ci := 0) (v := .ref (h 1)) (C := RX0) (T := TX0) (N := 6) hx hb hts nw_X0_write_X0 hown hK hw.1 0 rfl rfl 0 (by decide) hL1 (fun _ h9 => h9) rfl dX0_write_12 ?_
    refine lv_aload_n hx hb dX0_write_15 rfl (lv_at hl 0 rfl) ?_
    refine va_get (D := G) (ci := 0) (v := .int (P 1 0)) (C := RX0) (T := TX0) (N := 6) hx hb hts nw_X0_write_X0 hown hK hw.1 0 rfl rfl 1 (by decide) hL0 (fun _ h9 => h9) rfl dX0_write_16 ?_
    refine lv_iload_n hx hb dX0_write_19 rfl (lv_at hl 1 rfl) ?_
    obtain ⟨j2, e2, hf⟩ := cd_bind_some hf
    refine cd_iast hx hb hK hw 1 rfl e2 dX0_write_20 (fun H locs hw => ?_)
    have hw : cd_WS G A s.heap H locs ((pc_pad cI h (cd_set P 0 j2 a0))) := hw
    refine lv_aload_n hx hb dX0_write_21 rfl (lv_at hl 0 rfl) ?_
    refine lv_dup hx hb dX0_write_22 rfl ?_
    refine va_get (D := G) (ci := 0) (v := .int (P 1 0)) (C := RX0) (T := TX0) (N := 6) hx hb hts nw_X0_write_X0 hown hK hw.1 0 rfl rfl 1 (by decide) hL0 (fun _ h9 => h9) rfl dX0_write_23 ?_
    refine lv_iconst (v := (1 : Int32)) hx hb dX0_write_26 (by decide) ?_
    refine lv_iadd hx hb dX0_write_27 ?_
    refine va_put (D := G) (ci := 0) (v := .int ((P 1 0) + (1 : Int32))) (ty := .int) (C := RX0) (T := TX0) (N := 6) hx hb hts nw_X0_write_X0 tyX0 tyX0_ok nmX0 hown hK hw.1 hw.2.1 hw.2.2 0 rfl rfl 1 (by decide) hL0 (fun _ h9 => h9) rfl (by decide +kernel) rfl rfl (Nat.le_of_ble_eq_true rfl) dX0_write_28 (fun H locs hP hD hS => ?_)
    have hw : cd_WS G A s.heap H locs ((pc_pad cI h (cd_fld (cd_set P 0 j2 a0) 1 ((P 1 0) + (1 : Int32))))) := ⟨hP, hD, hS⟩
    refine lv_iconst (v := (1 : Int32)) hx hb dX0_write_31 (by decide) ?_
    have z : some ((1 : Int32), (cd_fld (cd_set P 0 j2 a0) 1 ((P 1 0) + (1 : Int32)))) = some o := hf
    cases z
    rw [hQ]
    exact cd_retz C0 hw (by decide) dX0_write_32
  · have hf := cd_ite_f c1 hf
    refine lv_iconst (v := (0 : Int32)) hx hb dX0_write_9 (by decide) ?_
    have z : some ((0 : Int32), P) = some o := hf
    cases z
    rw [hQ]
    exact cd_retz C0 hw (by decide) dX0_write_10
abbrev rm_X5_holds : Room := { frames := 0, cells := 0, slots := 0, locals := 0 }
set_option maxHeartbeats 4000000 in
set_option maxRecDepth 100000 in
theorem c_X5_holds (l : Launch) (G : va_G) (cI cZ : ClassId) (sa sb : Nat) (a0 : Int32) (a1 : Int32) (o : Int32) (hf : f_X5_holds a0 a1 = some o) : cd_Ct l G cI cZ sa sb yX5_holds wsX5_holds rm_X5_holds [.int a0, .int a1] (([] : va_W)) (([] : va_W)) (some (.int o)) := by
  refine cd_of (cc := cX5_holds) (maxL := 2) (ret := (some .boolean)) (by decide) rfl (Nat.le_of_ble_eq_true rfl) ?_
  intro p e s m ag below meth c A ls Q C0 hl hw hQ
  have C0 : cd_CX G cI cZ sa sb p s m ag meth c cX5_holds 2 (some .boolean) wsX5_holds RX5 A := C0
  obtain ⟨⟨hx, hb, hml, hown, hts⟩, hr, hlocks, hA, hE⟩ := id C0
  have hK := hE.1
  have hl : lv_has ls 2 [(0, .int a0), (1, .int a1)] := hl
  unfold f_X5_holds at hf
  refine lv_iload_n hx hb dX5_holds_0 rfl (lv_at hl 0 rfl) ?_
  refine lv_iload_n hx hb dX5_holds_1 rfl (lv_at hl 1 rfl) ?_
  refine lv_ishr hx hb dX5_holds_2 ?_
  refine lv_iconst (v := (1 : Int32)) hx hb dX5_holds_3 (by decide) ?_
  refine lv_iand hx hb dX5_holds_4 ?_
  obtain ⟨x1, e1, hf⟩ := cd_bind_some hf
  have K1 : ∀ (ls : Array Slot) (H : Heap) (locs : List Loc), lv_has ls 2 [] → cd_WS G A s.heap H locs (([] : va_W)) → W p l e rm_X5_holds s m ag below meth c H locs 0 0 Q (F0 m 13 ls [.int x1]) := by
    intro ls H locs hl hw
    obtain ⟨u2, e2, hf⟩ := cd_bind_some hf
    have z : some x1 = some o := hf
    cases z
    rw [hQ]
    exact cd_retz C0 hw (cd_zb_eq e2) dX5_holds_13
  refine lv_if_eq (tgt := 12) hx hb dX5_holds_5 (by decide) (fun c1 => ?_) (fun c1 => ?_)
  · have e1 := cd_ite_t c1 e1
    refine lv_iconst (v := (0 : Int32)) hx hb dX5_holds_12 (by decide) ?_
    have z : some (0 : Int32) = some x1 := e1
    cases z
    exact K1 _ _ _ (lv_sub hl [] rfl) hw
  · have e1 := cd_ite_f c1 e1
    refine lv_iconst (v := (1 : Int32)) hx hb dX5_holds_8 (by decide) ?_
    refine lv_goto (tgt := 13) hx hb dX5_holds_9 (by decide) ?_
    have z : some (1 : Int32) = some x1 := e1
    cases z
    exact K1 _ _ _ (lv_sub hl [] rfl) hw
abbrev rm_X3_isLit : Room := { frames := 1, cells := 0, slots := 0, locals := 21 }
theorem nw_X3_isLit_X3 : ∀ w ∈ u_ws RX3 TX3 14, w ∈ wsX3_isLit := by decide +kernel
set_option maxHeartbeats 4000000 in
set_option maxRecDepth 100000 in
theorem c_X3_isLit (l : Launch) (G : va_G) (cI cZ : ClassId) (sa sb : Nat) (h : Nat → Nat) (T : Nat → Nat → Int32) (a0 : Int32) (o : Int32) (hf : f_X3_isLit a0 T = some o) : cd_Ct l G cI cZ sa sb yX3_isLit wsX3_isLit rm_X3_isLit [.ref (h 0), .int a0] ((pc_town cI h T)) ((pc_town cI h T)) (some (.int o)) := by
  refine cd_of (cc := cX3_isLit) (maxL := 2) (ret := (some .boolean)) (by decide) rfl (Nat.le_of_ble_eq_true rfl) ?_
  intro p e s m ag below meth c A ls Q C0 hl hw hQ
  have C0 : cd_CX G cI cZ sa sb p s m ag meth c cX3_isLit 2 (some .boolean) wsX3_isLit RX3 A := C0
  obtain ⟨⟨hx, hb, hml, hown, hts⟩, hr, hlocks, hA, hE⟩ := id C0
  have hK := hE.1
  have hL0 := hts (.fieldLink RX3 59 "CandleDebts$Town" "lit" "I") (by decide +kernel)
  have hL1 := hts (.initialized RX5) (by decide +kernel)
  have hL2 := hts (.static yX5_holds) (by decide +kernel)
  have hl : lv_has ls 2 [(0, .ref (h 0)), (1, .int a0)] := hl
  unfold f_X3_isLit at hf
  refine lv_aload_n hx hb dX3_isLit_0 rfl (lv_at hl 0 rfl) ?_
  refine va_get (D := G) (ci := 3) (v := .int (T 11 0)) (C := RX3) (T := TX3) (N := 14) hx hb hts nw_X3_isLit_X3 hown hK hw.1 0 rfl rfl 11 (by decide) hL0 (fun _ h9 => h9) rfl dX3_isLit_1 ?_
  refine lv_iload_n hx hb dX3_isLit_4 rfl (lv_at hl 1 rfl) ?_
  obtain ⟨r1, e1, hf⟩ := cd_bind_some hf
  refine cd_callSN (As := [.int (T 11 0), .int a0]) (rest := []) C0 hw (c_X5_holds l G cI cZ sa sb (T 11 0) a0 r1 e1) [] rfl rfl ⟨va_cnB 2 hts ggX3_isLit_X5_holds rfl rfl rfl (hE.2.1 (.methodLinkNest RX3 69 yX5_holds RX5) (by simp [cd_nest])) hL1 (by decide +kernel) ⟨Nat.le_of_ble_eq_true rfl, Nat.le_of_ble_eq_true rfl⟩, hL2, trivial⟩ rfl hl.1 (lv_room (Nat.le_of_ble_eq_true rfl)) dX3_isLit_5 (fun H locs hw => ?_)
  obtain ⟨u2, e2, hf⟩ := cd_bind_some hf
  have z : some r1 = some o := hf
  cases z
  rw [hQ]
  exact cd_retz C0 hw (cd_zb_eq e2) dX3_isLit_8
abbrev rm_X3_dueOf : Room := { frames := 0, cells := 0, slots := 0, locals := 0 }
theorem nw_X3_dueOf_X3 : ∀ w ∈ u_ws RX3 TX3 14, w ∈ wsX3_dueOf := by decide +kernel
set_option maxHeartbeats 4000000 in
set_option maxRecDepth 100000 in
theorem c_X3_dueOf (l : Launch) (G : va_G) (cI cZ : ClassId) (sa sb : Nat) (h : Nat → Nat) (T : Nat → Nat → Int32) (a0 : Int32) (o : Int32) (hf : f_X3_dueOf a0 T = some o) : cd_Ct l G cI cZ sa sb yX3_dueOf wsX3_dueOf rm_X3_dueOf [.ref (h 0), .int a0] ((pc_town cI h T)) ((pc_town cI h T)) (some (.int o)) := by
  refine cd_of (cc := cX3_dueOf) (maxL := 3) (ret := (some .int)) (by decide) rfl (Nat.le_of_ble_eq_true rfl) ?_
  intro p e s m ag below meth c A ls Q C0 hl hw hQ
  have C0 : cd_CX G cI cZ sa sb p s m ag meth c cX3_dueOf 3 (some .int) wsX3_dueOf RX3 A := C0
  obtain ⟨⟨hx, hb, hml, hown, hts⟩, hr, hlocks, hA, hE⟩ := id C0
  have hK := hE.1
  have hL0 := hts (.fieldLink RX3 33 "CandleDebts$Town" "purses" "[I") (by decide +kernel)
  have hL1 := hts (.fieldLink RX3 24 "CandleDebts$Town" "debtors" "[I") (by decide +kernel)
  have hL2 := hts (.fieldLink RX3 27 "CandleDebts$Town" "sums" "[I") (by decide +kernel)
  have hl : lv_has ls 3 [(0, .ref (h 0)), (1, .int a0)] := hl
  unfold f_X3_dueOf at hf
  refine lv_aload_n hx hb dX3_dueOf_0 rfl (lv_at hl 0 rfl) ?_
  refine va_get (D := G) (ci := 3) (v := .ref (h 8)) (C := RX3) (T := TX3) (N := 14) hx hb hts nw_X3_dueOf_X3 hown hK hw.1 0 rfl rfl 7 (by decide) hL0 (fun _ h9 => h9) rfl dX3_dueOf_1 ?_
  refine lv_aload_n hx hb dX3_dueOf_4 rfl (lv_at hl 0 rfl) ?_
  refine va_get (D := G) (ci := 3) (v := .ref (h 5)) (C := RX3) (T := TX3) (N := 14) hx hb hts nw_X3_dueOf_X3 hown hK hw.1 0 rfl rfl 4 (by decide) hL1 (fun _ h9 => h9) rfl dX3_dueOf_5 ?_
  refine lv_iload_n hx hb dX3_dueOf_8 rfl (lv_at hl 1 rfl) ?_
  obtain ⟨v1, e1, hf⟩ := cd_bind_some hf
  refine cd_iald hx hb hK hw 5 rfl e1 dX3_dueOf_9 ?_
  obtain ⟨v2, e2, hf⟩ := cd_bind_some hf
  refine cd_iald hx hb hK hw 8 rfl e2 dX3_dueOf_10 ?_
  refine lv_istore_n (lv' := [(2, .int v2), (0, .ref (h 0)), (1, .int a0)]) hx hb dX3_dueOf_11 rfl hl (by decide) rfl (fun ls hl => ?_)
  refine lv_iload_n hx hb dX3_dueOf_12 rfl (lv_at hl 0 rfl) ?_
  refine lv_aload_n hx hb dX3_dueOf_13 rfl (lv_at hl 1 rfl) ?_
  refine va_get (D := G) (ci := 3) (v := .ref (h 6)) (C := RX3) (T := TX3) (N := 14) hx hb hts nw_X3_dueOf_X3 hown hK hw.1 0 rfl rfl 5 (by decide) hL2 (fun _ h9 => h9) rfl dX3_dueOf_14 ?_
  refine lv_iload_n hx hb dX3_dueOf_17 rfl (lv_at hl 2 rfl) ?_
  obtain ⟨v3, e3, hf⟩ := cd_bind_some hf
  refine cd_iald hx hb hK hw 6 rfl e3 dX3_dueOf_18 ?_
  obtain ⟨x4, e4, hf⟩ := cd_bind_some hf
  have K4 : ∀ (ls : Array Slot) (H : Heap) (locs : List Loc), lv_has ls 3 [] → cd_WS G A s.heap H locs ((pc_town cI h T)) → W p l e rm_X3_dueOf s m ag below meth c H locs 0 0 Q (F0 m 32 ls [.int x4]) := by
    intro ls H locs hl hw
    have z : some x4 = some o := hf
    cases z
    rw [hQ]
    exact cd_reti C0 hw dX3_dueOf_32
  refine lv_icmp_ge (tgt := 26) hx hb dX3_dueOf_19 (by decide) (fun c4 => ?_) (fun c4 => ?_)
  · have e4 := cd_ite_t c4 e4
    refine lv_aload_n hx hb dX3_dueOf_26 rfl (lv_at hl 1 rfl) ?_
    refine va_get (D := G) (ci := 3) (v := .ref (h 6)) (C := RX3) (T := TX3) (N := 14) hx hb hts nw_X3_dueOf_X3 hown hK hw.1 0 rfl rfl 5 (by decide) hL2 (fun _ h9 => h9) rfl dX3_dueOf_27 ?_
    refine lv_iload_n hx hb dX3_dueOf_30 rfl (lv_at hl 2 rfl) ?_
    obtain ⟨v5, e5, e4⟩ := cd_bind_some e4
    refine cd_iald hx hb hK hw 6 rfl e5 dX3_dueOf_31 ?_
    have z : some v5 = some x4 := e4
    cases z
    exact K4 _ _ _ (lv_sub hl [] rfl) hw
  · have e4 := cd_ite_f c4 e4
    refine lv_iload_n hx hb dX3_dueOf_22 rfl (lv_at hl 0 rfl) ?_
    refine lv_goto (tgt := 32) hx hb dX3_dueOf_23 (by decide) ?_
    have z : some v2 = some x4 := e4
    cases z
    exact K4 _ _ _ (lv_sub hl [] rfl) hw
abbrev rm_X3_reasonAgainstAsking : Room := { frames := 2, cells := 0, slots := 0, locals := 42 }
theorem nw_X3_reasonAgainstAsking_X3 : ∀ w ∈ u_ws RX3 TX3 14, w ∈ wsX3_reasonAgainstAsking := by decide +kernel
set_option maxHeartbeats 4000000 in
set_option maxRecDepth 100000 in
theorem c_X3_reasonAgainstAsking (l : Launch) (G : va_G) (cI cZ : ClassId) (sa sb : Nat) (h : Nat → Nat) (T : Nat → Nat → Int32) (a0 : Int32) (o : Int32) (hf : f_X3_reasonAgainstAsking a0 T = some o) : cd_Ct l G cI cZ sa sb yX3_reasonAgainstAsking wsX3_reasonAgainstAsking rm_X3_reasonAgainstAsking [.ref (h 0), .int a0] ((pc_town cI h T)) ((pc_town cI h T)) (some (.int o)) := by
  refine cd_of (cc := cX3_reasonAgainstAsking) (maxL := 3) (ret := (some .int)) (by decide) rfl (Nat.le_of_ble_eq_true rfl) ?_
  intro p e s m ag below meth c A ls Q C0 hl hw hQ
  have C0 : cd_CX G cI cZ sa sb p s m ag meth c cX3_reasonAgainstAsking 3 (some .int) wsX3_reasonAgainstAsking RX3 A := C0
  obtain ⟨⟨hx, hb, hml, hown, hts⟩, hr, hlocks, hA, hE⟩ := id C0
  have hK := hE.1
  have hL0 := hts (.fieldLink RX3 27 "CandleDebts$Town" "sums" "[I") (by decide +kernel)
  have hL1 := hts (.fieldLink RX3 21 "CandleDebts$Town" "creditors" "[I") (by decide +kernel)
  have hL2 := hts (.fieldLink RX3 24 "CandleDebts$Town" "debtors" "[I") (by decide +kernel)
  have hL3 := hts (.fieldLink RX3 33 "CandleDebts$Town" "purses" "[I") (by decide +kernel)
  have hl : lv_has ls 3 [(0, .ref (h 0)), (1, .int a0)] := hl
  unfold f_X3_reasonAgainstAsking at hf
  refine lv_aload_n hx hb dX3_reasonAgainstAsking_0 rfl (lv_at hl 0 rfl) ?_
  refine lv_iload_n hx hb dX3_reasonAgainstAsking_1 rfl (lv_at hl 1 rfl) ?_
  obtain ⟨r1, e1, hf⟩ := cd_bind_some hf
  refine cd_callV (As := [.int a0]) (rest := []) C0 hw (c_X3_isLit l G cI cZ sa sb h T a0 r1 e1) [0, 1, 2, 3, 4, 5, 6, 7, 8, 9, 10] rfl rfl 0 3 rfl rfl rfl (cwV 1 hts gX3_reasonAgainstAsking_X3_isLit rfl rfl rfl (by decide +kernel) ⟨Nat.le_of_ble_eq_true rfl, Nat.le_of_ble_eq_true rfl⟩) rfl hl.1 (lv_room (Nat.le_of_ble_eq_true rfl)) dX3_reasonAgainstAsking_2 (fun H locs hw => ?_)
  refine lv_if_ne (tgt := 10) hx hb dX3_reasonAgainstAsking_5 (by decide) (fun c2 => ?_) (fun c2 => ?_)
  · have hf := cd_ite_f c2 hf
    refine lv_aload_n hx hb dX3_reasonAgainstAsking_10 rfl (lv_at hl 0 rfl) ?_
    refine va_get (D := G) (ci := 3) (v := .ref (h 6)) (C := RX3) (T := TX3) (N := 14) hx hb hts nw_X3_reasonAgainstAsking_X3 hown hK hw.1 0 rfl rfl 5 (by decide) hL0 (fun _ h9 => h9) rfl dX3_reasonAgainstAsking_11 ?_
    refine lv_iload_n hx hb dX3_reasonAgainstAsking_14 rfl (lv_at hl 1 rfl) ?_
    obtain ⟨v3, e3, hf⟩ := cd_bind_some hf
    refine cd_iald hx hb hK hw 6 rfl e3 dX3_reasonAgainstAsking_15 ?_
    refine lv_if_ne (tgt := 21) hx hb dX3_reasonAgainstAsking_16 (by decide) (fun c4 => ?_) (fun c4 => ?_)
    · have hf := cd_ite_f c4 hf
      refine lv_aload_n hx hb dX3_reasonAgainstAsking_21 rfl (lv_at hl 0 rfl) ?_
      refine va_get (D := G) (ci := 3) (v := .ref (h 4)) (C := RX3) (T := TX3) (N := 14) hx hb hts nw_X3_reasonAgainstAsking_X3 hown hK hw.1 0 rfl rfl 3 (by decide) hL1 (fun _ h9 => h9) rfl dX3_reasonAgainstAsking_22 ?_
      refine lv_iload_n hx hb dX3_reasonAgainstAsking_25 rfl (lv_at hl 1 rfl) ?_
      obtain ⟨v5, e5, hf⟩ := cd_bind_some hf
      refine cd_iald hx hb hK hw 4 rfl e5 dX3_reasonAgainstAsking_26 ?_
      refine lv_aload_n hx hb dX3_reasonAgainstAsking_27 rfl (lv_at hl 0 rfl) ?_
      refine va_get (D := G) (ci := 3) (v := .ref (h 5)) (C := RX3) (T := TX3) (N := 14) hx hb hts nw_X3_reasonAgainstAsking_X3 hown hK hw.1 0 rfl rfl 4 (by decide) hL2 (fun _ h9 => h9) rfl dX3_reasonAgainstAsking_28 ?_
      refine lv_iload_n hx hb dX3_reasonAgainstAsking_31 rfl (lv_at hl 1 rfl) ?_
      obtain ⟨v6, e6, hf⟩ := cd_bind_some hf
      refine cd_iald hx hb hK hw 5 rfl e6 dX3_reasonAgainstAsking_32 ?_
      obtain ⟨x7, e7, hf⟩ := cd_bind_some hf
      have K7 : ∀ (ls : Array Slot) (H : Heap) (locs : List Loc), lv_has ls 3 [(0, .ref (h 0)), (1, .int a0)] → cd_WS G A s.heap H locs ((pc_town cI h T)) → W p l e rm_X3_reasonAgainstAsking s m ag below meth c H locs 0 0 Q (F0 m 41 ls [.int x7]) := by
        intro ls H locs hl hw
        refine lv_istore_n (lv' := [(2, .int x7), (0, .ref (h 0)), (1, .int a0)]) hx hb dX3_reasonAgainstAsking_41 rfl hl (by decide) rfl (fun ls hl => ?_)
        refine lv_iload_n hx hb dX3_reasonAgainstAsking_42 rfl (lv_at hl 0 rfl) ?_
        obtain ⟨x8, e8, hf⟩ := cd_bind_some hf
        have K8 : ∀ (ls : Array Slot) (H : Heap) (locs : List Loc), lv_has ls 3 [] → cd_WS G A s.heap H locs ((pc_town cI h T)) → W p l e rm_X3_reasonAgainstAsking s m ag below meth c H locs 0 0 Q (F0 m 75 ls [.int x8]) := by
          intro ls H locs hl hw
          have z : some x8 = some o := hf
          cases z
          rw [hQ]
          exact cd_reti C0 hw dX3_reasonAgainstAsking_75
        refine lv_if_eq (tgt := 74) hx hb dX3_reasonAgainstAsking_43 (by decide) (fun c8 => ?_) (fun c8 => ?_)
        · have e8 := cd_ite_t c8 e8
          refine lv_iconst (v := (0 : Int32)) hx hb dX3_reasonAgainstAsking_74 (by decide) ?_
          have z : some (0 : Int32) = some x8 := e8
          cases z
          exact K8 _ _ _ (lv_sub hl [] rfl) hw
        · have e8 := cd_ite_f c8 e8
          refine lv_aload_n hx hb dX3_reasonAgainstAsking_46 rfl (lv_at hl 1 rfl) ?_
          refine va_get (D := G) (ci := 3) (v := .ref (h 8)) (C := RX3) (T := TX3) (N := 14) hx hb hts nw_X3_reasonAgainstAsking_X3 hown hK hw.1 0 rfl rfl 7 (by decide) hL3 (fun _ h9 => h9) rfl dX3_reasonAgainstAsking_47 ?_
          refine lv_aload_n hx hb dX3_reasonAgainstAsking_50 rfl (lv_at hl 1 rfl) ?_
          refine va_get (D := G) (ci := 3) (v := .ref (h 4)) (C := RX3) (T := TX3) (N := 14) hx hb hts nw_X3_reasonAgainstAsking_X3 hown hK hw.1 0 rfl rfl 3 (by decide) hL1 (fun _ h9 => h9) rfl dX3_reasonAgainstAsking_51 ?_
          refine lv_iload_n hx hb dX3_reasonAgainstAsking_54 rfl (lv_at hl 2 rfl) ?_
          obtain ⟨v9, e9, e8⟩ := cd_bind_some e8
          refine cd_iald hx hb hK hw 4 rfl e9 dX3_reasonAgainstAsking_55 ?_
          obtain ⟨v10, e10, e8⟩ := cd_bind_some e8
          refine cd_iald hx hb hK hw 8 rfl e10 dX3_reasonAgainstAsking_56 ?_
          refine lv_aload_n hx hb dX3_reasonAgainstAsking_57 rfl (lv_at hl 1 rfl) ?_
          refine lv_iload_n hx hb dX3_reasonAgainstAsking_58 rfl (lv_at hl 2 rfl) ?_
          obtain ⟨r11, e11, e8⟩ := cd_bind_some e8
          refine cd_callV (As := [.int a0]) (rest := [.int v10]) C0 hw (c_X3_dueOf l G cI cZ sa sb h T a0 r11 e11) [0, 1, 2, 3, 4, 5, 6, 7, 8, 9, 10] rfl rfl 0 3 rfl rfl rfl (cwV 1 hts gX3_reasonAgainstAsking_X3_dueOf rfl rfl rfl (by decide +kernel) ⟨Nat.le_of_ble_eq_true rfl, Nat.le_of_ble_eq_true rfl⟩) rfl hl.1 (lv_room (Nat.le_of_ble_eq_true rfl)) dX3_reasonAgainstAsking_59 (fun H locs hw => ?_)
          refine lv_iadd hx hb dX3_reasonAgainstAsking_62 ?_
          refine lv_sipush (v := (9999 : Int32)) hx hb dX3_reasonAgainstAsking_63 (by decide) ?_
          refine lv_icmp_le (tgt := 74) hx hb dX3_reasonAgainstAsking_66 (by decide) (fun c12 => ?_) (fun c12 => ?_)
          · have e8 := cd_ite_t c12 e8
            refine lv_iconst (v := (0 : Int32)) hx hb dX3_reasonAgainstAsking_74 (by decide) ?_
            have z : some (0 : Int32) = some x8 := e8
            cases z
            exact K8 _ _ _ (lv_sub hl [] rfl) hw
          · have e8 := cd_ite_f c12 e8
            refine lv_bipush (v := (6 : Int32)) hx hb dX3_reasonAgainstAsking_69 (by decide) ?_
            refine lv_goto (tgt := 75) hx hb dX3_reasonAgainstAsking_71 (by decide) ?_
            have z : some (6 : Int32) = some x8 := e8
            cases z
            exact K8 _ _ _ (lv_sub hl [] rfl) hw
      refine lv_icmp_eq (tgt := 40) hx hb dX3_reasonAgainstAsking_33 (by decide) (fun c7 => ?_) (fun c7 => ?_)
      · have e7 := cd_ite_t c7 e7
        refine lv_iconst (v := (0 : Int32)) hx hb dX3_reasonAgainstAsking_40 (by decide) ?_
        have z : some (0 : Int32) = some x7 := e7
        cases z
        exact K7 _ _ _ (lv_sub hl [0, 1] rfl) hw
      · have e7 := cd_ite_f c7 e7
        refine lv_iconst (v := (1 : Int32)) hx hb dX3_reasonAgainstAsking_36 (by decide) ?_
        refine lv_goto (tgt := 41) hx hb dX3_reasonAgainstAsking_37 (by decide) ?_
        have z : some (1 : Int32) = some x7 := e7
        cases z
        exact K7 _ _ _ (lv_sub hl [0, 1] rfl) hw
    · have hf := cd_ite_t c4 hf
      refine lv_iconst (v := (5 : Int32)) hx hb dX3_reasonAgainstAsking_19 (by decide) ?_
      have z : some (5 : Int32) = some o := hf
      cases z
      rw [hQ]
      exact cd_reti C0 hw dX3_reasonAgainstAsking_20
  · have hf := cd_ite_t c2 hf
    refine lv_iconst (v := (2 : Int32)) hx hb dX3_reasonAgainstAsking_8 (by decide) ?_
    have z : some (2 : Int32) = some o := hf
    cases z
    rw [hQ]
    exact cd_reti C0 hw dX3_reasonAgainstAsking_9
abbrev rm_X3_reasonAgainstLighting : Room := { frames := 2, cells := 0, slots := 0, locals := 42 }
theorem nw_X3_reasonAgainstLighting_X3 : ∀ w ∈ u_ws RX3 TX3 14, w ∈ wsX3_reasonAgainstLighting := by decide +kernel
set_option maxHeartbeats 4000000 in
set_option maxRecDepth 100000 in
theorem c_X3_reasonAgainstLighting (l : Launch) (G : va_G) (cI cZ : ClassId) (sa sb : Nat) (h : Nat → Nat) (T : Nat → Nat → Int32) (a0 : Int32) (a1 : Int32) (o : Int32) (hf : f_X3_reasonAgainstLighting a0 a1 T = some o) : cd_Ct l G cI cZ sa sb yX3_reasonAgainstLighting wsX3_reasonAgainstLighting rm_X3_reasonAgainstLighting [.ref (h 0), .int a0, .int a1] ((pc_town cI h T)) ((pc_town cI h T)) (some (.int o)) := by
  refine cd_of (cc := cX3_reasonAgainstLighting) (maxL := 3) (ret := (some .int)) (by decide) rfl (Nat.le_of_ble_eq_true rfl) ?_
  intro p e s m ag below meth c A ls Q C0 hl hw hQ
  have C0 : cd_CX G cI cZ sa sb p s m ag meth c cX3_reasonAgainstLighting 3 (some .int) wsX3_reasonAgainstLighting RX3 A := C0
  obtain ⟨⟨hx, hb, hml, hown, hts⟩, hr, hlocks, hA, hE⟩ := id C0
  have hK := hE.1
  have hL0 := hts (.fieldLink RX3 9 "CandleDebts$Town" "wax" "[I") (by decide +kernel)
  have hl : lv_has ls 3 [(0, .ref (h 0)), (1, .int a0), (2, .int a1)] := hl
  unfold f_X3_reasonAgainstLighting at hf
  refine lv_aload_n hx hb dX3_reasonAgainstLighting_0 rfl (lv_at hl 0 rfl) ?_
  refine va_get (D := G) (ci := 3) (v := .ref (h 1)) (C := RX3) (T := TX3) (N := 14) hx hb hts nw_X3_reasonAgainstLighting_X3 hown hK hw.1 0 rfl rfl 0 (by decide) hL0 (fun _ h9 => h9) rfl dX3_reasonAgainstLighting_1 ?_
  refine lv_iload_n hx hb dX3_reasonAgainstLighting_4 rfl (lv_at hl 2 rfl) ?_
  obtain ⟨v1, e1, hf⟩ := cd_bind_some hf
  refine cd_iald hx hb hK hw 1 rfl e1 dX3_reasonAgainstLighting_5 ?_
  refine lv_if_ne (tgt := 11) hx hb dX3_reasonAgainstLighting_6 (by decide) (fun c2 => ?_) (fun c2 => ?_)
  · have hf := cd_ite_f c2 hf
    refine lv_aload_n hx hb dX3_reasonAgainstLighting_11 rfl (lv_at hl 0 rfl) ?_
    refine lv_iload_n hx hb dX3_reasonAgainstLighting_12 rfl (lv_at hl 2 rfl) ?_
    obtain ⟨r3, e3, hf⟩ := cd_bind_some hf
    refine cd_callV (As := [.int a1]) (rest := []) C0 hw (c_X3_isLit l G cI cZ sa sb h T a1 r3 e3) [0, 1, 2, 3, 4, 5, 6, 7, 8, 9, 10] rfl rfl 0 3 rfl rfl rfl (cwV 1 hts gX3_reasonAgainstLighting_X3_isLit rfl rfl rfl (by decide +kernel) ⟨Nat.le_of_ble_eq_true rfl, Nat.le_of_ble_eq_true rfl⟩) rfl hl.1 (lv_room (Nat.le_of_ble_eq_true rfl)) dX3_reasonAgainstLighting_13 (fun H locs hw => ?_)
    refine lv_if_ne (tgt := 27) hx hb dX3_reasonAgainstLighting_16 (by decide) (fun c4 => ?_) (fun c4 => ?_)
    · have hf := cd_ite_f c4 hf
      refine lv_iconst (v := (2 : Int32)) hx hb dX3_reasonAgainstLighting_27 (by decide) ?_
      have z : some (2 : Int32) = some o := hf
      cases z
      rw [hQ]
      exact cd_reti C0 hw dX3_reasonAgainstLighting_28
    · have hf := cd_ite_t c4 hf
      refine lv_aload_n hx hb dX3_reasonAgainstLighting_19 rfl (lv_at hl 0 rfl) ?_
      refine lv_iload_n hx hb dX3_reasonAgainstLighting_20 rfl (lv_at hl 1 rfl) ?_
      obtain ⟨r5, e5, hf⟩ := cd_bind_some hf
      refine cd_callV (As := [.int a0]) (rest := []) C0 hw (c_X3_isLit l G cI cZ sa sb h T a0 r5 e5) [0, 1, 2, 3, 4, 5, 6, 7, 8, 9, 10] rfl rfl 0 3 rfl rfl rfl (cwV 1 hts gX3_reasonAgainstLighting_X3_isLit rfl rfl rfl (by decide +kernel) ⟨Nat.le_of_ble_eq_true rfl, Nat.le_of_ble_eq_true rfl⟩) rfl hl.1 (lv_room (Nat.le_of_ble_eq_true rfl)) dX3_reasonAgainstLighting_21 (fun H locs hw => ?_)
      refine lv_if_ne (tgt := 29) hx hb dX3_reasonAgainstLighting_24 (by decide) (fun c6 => ?_) (fun c6 => ?_)
      · have hf := cd_ite_f c6 hf
        refine lv_iload_n hx hb dX3_reasonAgainstLighting_29 rfl (lv_at hl 2 rfl) ?_
        refine lv_iload_n hx hb dX3_reasonAgainstLighting_30 rfl (lv_at hl 1 rfl) ?_
        refine lv_iconst (v := (1 : Int32)) hx hb dX3_reasonAgainstLighting_31 (by decide) ?_
        refine lv_isub hx hb dX3_reasonAgainstLighting_32 ?_
        obtain ⟨x7, e7, hf⟩ := cd_bind_some hf
        have K7 : ∀ (ls : Array Slot) (H : Heap) (locs : List Loc), lv_has ls 3 [] → cd_WS G A s.heap H locs ((pc_town cI h T)) → W p l e rm_X3_reasonAgainstLighting s m ag below meth c H locs 0 0 Q (F0 m 48 ls [.int x7]) := by
          intro ls H locs hl hw
          have z : some x7 = some o := hf
          cases z
          rw [hQ]
          exact cd_reti C0 hw dX3_reasonAgainstLighting_48
        refine lv_icmp_eq (tgt := 43) hx hb dX3_reasonAgainstLighting_33 (by decide) (fun c7 => ?_) (fun c7 => ?_)
        · have e7 := cd_ite_t c7 e7
          refine lv_iconst (v := (0 : Int32)) hx hb dX3_reasonAgainstLighting_43 (by decide) ?_
          refine lv_goto (tgt := 48) hx hb dX3_reasonAgainstLighting_44 (by decide) ?_
          have z : some (0 : Int32) = some x7 := e7
          cases z
          exact K7 _ _ _ (lv_sub hl [] rfl) hw
        · have e7 := cd_ite_f c7 e7
          refine lv_iload_n hx hb dX3_reasonAgainstLighting_36 rfl (lv_at hl 2 rfl) ?_
          refine lv_iload_n hx hb dX3_reasonAgainstLighting_37 rfl (lv_at hl 1 rfl) ?_
          refine lv_iconst (v := (1 : Int32)) hx hb dX3_reasonAgainstLighting_38 (by decide) ?_
          refine lv_iadd hx hb dX3_reasonAgainstLighting_39 ?_
          refine lv_icmp_ne (tgt := 47) hx hb dX3_reasonAgainstLighting_40 (by decide) (fun c8 => ?_) (fun c8 => ?_)
          · have e7 := cd_ite_f c8 e7
            refine lv_iconst (v := (4 : Int32)) hx hb dX3_reasonAgainstLighting_47 (by decide) ?_
            have z : some (4 : Int32) = some x7 := e7
            cases z
            exact K7 _ _ _ (lv_sub hl [] rfl) hw
          · have e7 := cd_ite_t c8 e7
            refine lv_iconst (v := (0 : Int32)) hx hb dX3_reasonAgainstLighting_43 (by decide) ?_
            refine lv_goto (tgt := 48) hx hb dX3_reasonAgainstLighting_44 (by decide) ?_
            have z : some (0 : Int32) = some x7 := e7
            cases z
            exact K7 _ _ _ (lv_sub hl [] rfl) hw
      · have hf := cd_ite_t c6 hf
        refine lv_iconst (v := (2 : Int32)) hx hb dX3_reasonAgainstLighting_27 (by decide) ?_
        have z : some (2 : Int32) = some o := hf
        cases z
        rw [hQ]
        exact cd_reti C0 hw dX3_reasonAgainstLighting_28
  · have hf := cd_ite_t c2 hf
    refine lv_iconst (v := (1 : Int32)) hx hb dX3_reasonAgainstLighting_9 (by decide) ?_
    have z : some (1 : Int32) = some o := hf
    cases z
    rw [hQ]
    exact cd_reti C0 hw dX3_reasonAgainstLighting_10
abbrev rm_X3_reasonAgainst : Room := { frames := 3, cells := 0, slots := 0, locals := 64 }
theorem nw_X3_reasonAgainst_X3 : ∀ w ∈ u_ws RX3 TX3 14, w ∈ wsX3_reasonAgainst := by decide +kernel
set_option maxHeartbeats 4000000 in
set_option maxRecDepth 100000 in
theorem c_X3_reasonAgainst (l : Launch) (G : va_G) (cI cZ : ClassId) (sa sb : Nat) (h : Nat → Nat) (T : Nat → Nat → Int32) (a0 : Int32) (a1 : Int32) (a2 : Int32) (o : Int32) (hf : f_X3_reasonAgainst a0 a1 a2 T = some o) : cd_Ct l G cI cZ sa sb yX3_reasonAgainst wsX3_reasonAgainst rm_X3_reasonAgainst [.ref (h 0), .int a0, .int a1, .int a2] ((pc_town cI h T)) ((pc_town cI h T)) (some (.int o)) := by
  refine cd_of (cc := cX3_reasonAgainst) (maxL := 4) (ret := (some .int)) (by decide) rfl (Nat.le_of_ble_eq_true rfl) ?_
  intro p e s m ag below meth c A ls Q C0 hl hw hQ
  have C0 : cd_CX G cI cZ sa sb p s m ag meth c cX3_reasonAgainst 4 (some .int) wsX3_reasonAgainst RX3 A := C0
  obtain ⟨⟨hx, hb, hml, hown, hts⟩, hr, hlocks, hA, hE⟩ := id C0
  have hK := hE.1
  have hL0 := hts (.fieldLink RX3 9 "CandleDebts$Town" "wax" "[I") (by decide +kernel)
  have hL1 := hts (.fieldLink RX3 42 "CandleDebts$Town" "matchesLeft" "I") (by decide +kernel)
  have hL2 := hts (.fieldLink RX3 15 "CandleDebts$Town" "trimmed" "[I") (by decide +kernel)
  have hL3 := hts (.fieldLink RX3 18 "CandleDebts$Town" "draughts" "[I") (by decide +kernel)
  have hL4 := hts (.fieldLink RX3 62 "CandleDebts$Town" "minute" "I") (by decide +kernel)
  have hl : lv_has ls 4 [(0, .ref (h 0)), (1, .int a0), (2, .int a1), (3, .int a2)] := hl
  unfold f_X3_reasonAgainst at hf
  refine lv_iload_n hx hb dX3_reasonAgainst_0 rfl (lv_at hl 1 rfl) ?_
  by_cases c1_0 : a0 = (33 : Int32)
  · have hf := cd_ite_t c1_0 hf
    refine lv_lookup (off := 111) (tgt := 112) hx hb dX3_reasonAgainst_1 (by decide) (by rw [c1_0]; decide) (by decide) ?_
    refine lv_aload_n hx hb dX3_reasonAgainst_112 rfl (lv_at hl 0 rfl) ?_
    refine lv_iload_n hx hb dX3_reasonAgainst_113 rfl (lv_at hl 2 rfl) ?_
    obtain ⟨r2, e2, hf⟩ := cd_bind_some hf
    refine cd_callV (As := [.int a1]) (rest := []) C0 hw (c_X3_reasonAgainstAsking l G cI cZ sa sb h T a1 r2 e2) [0, 1, 2, 3, 4, 5, 6, 7, 8, 9, 10] rfl rfl 0 3 rfl rfl rfl (cwV 1 hts gX3_reasonAgainst_X3_reasonAgainstAsking rfl rfl rfl (by decide +kernel) ⟨Nat.le_of_ble_eq_true rfl, Nat.le_of_ble_eq_true rfl⟩) rfl hl.1 (lv_room (Nat.le_of_ble_eq_true rfl)) dX3_reasonAgainst_114 (fun H locs hw => ?_)
    have z : some r2 = some o := hf
    cases z
    rw [hQ]
    exact cd_reti C0 hw dX3_reasonAgainst_117
  · have hf := cd_ite_f c1_0 hf
    by_cases c1_1 : a0 = (42 : Int32)
    · have hf := cd_ite_t c1_1 hf
      refine lv_lookup (off := 59) (tgt := 60) hx hb dX3_reasonAgainst_1 (by decide) (by rw [c1_1]; decide) (by decide) ?_
      refine lv_aload_n hx hb dX3_reasonAgainst_60 rfl (lv_at hl 0 rfl) ?_
      refine va_get (D := G) (ci := 3) (v := .ref (h 1)) (C := RX3) (T := TX3) (N := 14) hx hb hts nw_X3_reasonAgainst_X3 hown hK hw.1 0 rfl rfl 0 (by decide) hL0 (fun _ h9 => h9) rfl dX3_reasonAgainst_61 ?_
      refine lv_iload_n hx hb dX3_reasonAgainst_64 rfl (lv_at hl 2 rfl) ?_
      obtain ⟨v3, e3, hf⟩ := cd_bind_some hf
      refine cd_iald hx hb hK hw 1 rfl e3 dX3_reasonAgainst_65 ?_
      obtain ⟨x4, e4, hf⟩ := cd_bind_some hf
      have K4 : ∀ (ls : Array Slot) (H : Heap) (locs : List Loc), lv_has ls 4 [] → cd_WS G A s.heap H locs ((pc_town cI h T)) → W p l e rm_X3_reasonAgainst s m ag below meth c H locs 0 0 Q (F0 m 97 ls [.int x4]) := by
        intro ls H locs hl hw
        have z : some x4 = some o := hf
        cases z
        rw [hQ]
        exact cd_reti C0 hw dX3_reasonAgainst_97
      refine lv_if_ne (tgt := 73) hx hb dX3_reasonAgainst_66 (by decide) (fun c4 => ?_) (fun c4 => ?_)
      · have e4 := cd_ite_f c4 e4
        refine lv_aload_n hx hb dX3_reasonAgainst_73 rfl (lv_at hl 0 rfl) ?_
        refine lv_iload_n hx hb dX3_reasonAgainst_74 rfl (lv_at hl 2 rfl) ?_
        obtain ⟨r5, e5, e4⟩ := cd_bind_some e4
        refine cd_callV (As := [.int a1]) (rest := []) C0 hw (c_X3_isLit l G cI cZ sa sb h T a1 r5 e5) [0, 1, 2, 3, 4, 5, 6, 7, 8, 9, 10] rfl rfl 0 3 rfl rfl rfl (cwV 1 hts gX3_reasonAgainst_X3_isLit rfl rfl rfl (by decide +kernel) ⟨Nat.le_of_ble_eq_true rfl, Nat.le_of_ble_eq_true rfl⟩) rfl hl.1 (lv_room (Nat.le_of_ble_eq_true rfl)) dX3_reasonAgainst_75 (fun H locs hw => ?_)
        refine lv_if_eq (tgt := 85) hx hb dX3_reasonAgainst_78 (by decide) (fun c6 => ?_) (fun c6 => ?_)
        · have e4 := cd_ite_t c6 e4
          refine lv_aload_n hx hb dX3_reasonAgainst_85 rfl (lv_at hl 0 rfl) ?_
          refine va_get (D := G) (ci := 3) (v := .int (T 12 0)) (C := RX3) (T := TX3) (N := 14) hx hb hts nw_X3_reasonAgainst_X3 hown hK hw.1 0 rfl rfl 12 (by decide) hL1 (fun _ h9 => h9) rfl dX3_reasonAgainst_86 ?_
          refine lv_if_ne (tgt := 96) hx hb dX3_reasonAgainst_89 (by decide) (fun c7 => ?_) (fun c7 => ?_)
          · have e4 := cd_ite_f c7 e4
            refine lv_iconst (v := (0 : Int32)) hx hb dX3_reasonAgainst_96 (by decide) ?_
            have z : some (0 : Int32) = some x4 := e4
            cases z
            exact K4 _ _ _ (lv_sub hl [] rfl) hw
          · have e4 := cd_ite_t c7 e4
            refine lv_iconst (v := (3 : Int32)) hx hb dX3_reasonAgainst_92 (by decide) ?_
            refine lv_goto (tgt := 97) hx hb dX3_reasonAgainst_93 (by decide) ?_
            have z : some (3 : Int32) = some x4 := e4
            cases z
            exact K4 _ _ _ (lv_sub hl [] rfl) hw
        · have e4 := cd_ite_f c6 e4
          refine lv_iconst (v := (2 : Int32)) hx hb dX3_reasonAgainst_81 (by decide) ?_
          refine lv_goto (tgt := 97) hx hb dX3_reasonAgainst_82 (by decide) ?_
          have z : some (2 : Int32) = some x4 := e4
          cases z
          exact K4 _ _ _ (lv_sub hl [] rfl) hw
      · have e4 := cd_ite_t c4 e4
        refine lv_iconst (v := (1 : Int32)) hx hb dX3_reasonAgainst_69 (by decide) ?_
        refine lv_goto (tgt := 97) hx hb dX3_reasonAgainst_70 (by decide) ?_
        have z : some (1 : Int32) = some x4 := e4
        cases z
        exact K4 _ _ _ (lv_sub hl [] rfl) hw
    · have hf := cd_ite_f c1_1 hf
      by_cases c1_2 : a0 = (45 : Int32)
      · have hf := cd_ite_t c1_2 hf
        refine lv_lookup (off := 97) (tgt := 98) hx hb dX3_reasonAgainst_1 (by decide) (by rw [c1_2]; decide) (by decide) ?_
        refine lv_aload_n hx hb dX3_reasonAgainst_98 rfl (lv_at hl 0 rfl) ?_
        refine lv_iload_n hx hb dX3_reasonAgainst_99 rfl (lv_at hl 2 rfl) ?_
        obtain ⟨r8, e8, hf⟩ := cd_bind_some hf
        refine cd_callV (As := [.int a1]) (rest := []) C0 hw (c_X3_isLit l G cI cZ sa sb h T a1 r8 e8) [0, 1, 2, 3, 4, 5, 6, 7, 8, 9, 10] rfl rfl 0 3 rfl rfl rfl (cwV 1 hts gX3_reasonAgainst_X3_isLit rfl rfl rfl (by decide +kernel) ⟨Nat.le_of_ble_eq_true rfl, Nat.le_of_ble_eq_true rfl⟩) rfl hl.1 (lv_room (Nat.le_of_ble_eq_true rfl)) dX3_reasonAgainst_100 (fun H locs hw => ?_)
        obtain ⟨x9, e9, hf⟩ := cd_bind_some hf
        have K9 : ∀ (ls : Array Slot) (H : Heap) (locs : List Loc), lv_has ls 4 [] → cd_WS G A s.heap H locs ((pc_town cI h T)) → W p l e rm_X3_reasonAgainst s m ag below meth c H locs 0 0 Q (F0 m 111 ls [.int x9]) := by
          intro ls H locs hl hw
          have z : some x9 = some o := hf
          cases z
          rw [hQ]
          exact cd_reti C0 hw dX3_reasonAgainst_111
        refine lv_if_eq (tgt := 110) hx hb dX3_reasonAgainst_103 (by decide) (fun c9 => ?_) (fun c9 => ?_)
        · have e9 := cd_ite_t c9 e9
          refine lv_iconst (v := (2 : Int32)) hx hb dX3_reasonAgainst_110 (by decide) ?_
          have z : some (2 : Int32) = some x9 := e9
          cases z
          exact K9 _ _ _ (lv_sub hl [] rfl) hw
        · have e9 := cd_ite_f c9 e9
          refine lv_iconst (v := (0 : Int32)) hx hb dX3_reasonAgainst_106 (by decide) ?_
          refine lv_goto (tgt := 111) hx hb dX3_reasonAgainst_107 (by decide) ?_
          have z : some (0 : Int32) = some x9 := e9
          cases z
          exact K9 _ _ _ (lv_sub hl [] rfl) hw
      · have hf := cd_ite_f c1_2 hf
        by_cases c1_3 : a0 = (62 : Int32)
        · have hf := cd_ite_t c1_3 hf
          refine lv_lookup (off := 134) (tgt := 135) hx hb dX3_reasonAgainst_1 (by decide) (by rw [c1_3]; decide) (by decide) ?_
          refine lv_aload_n hx hb dX3_reasonAgainst_135 rfl (lv_at hl 0 rfl) ?_
          refine lv_iload_n hx hb dX3_reasonAgainst_136 rfl (lv_at hl 2 rfl) ?_
          refine lv_iload_n hx hb dX3_reasonAgainst_137 rfl (lv_at hl 3 rfl) ?_
          obtain ⟨r10, e10, hf⟩ := cd_bind_some hf
          refine cd_callV (As := [.int a1, .int a2]) (rest := []) C0 hw (c_X3_reasonAgainstLighting l G cI cZ sa sb h T a1 a2 r10 e10) [0, 1, 2, 3, 4, 5, 6, 7, 8, 9, 10] rfl rfl 0 3 rfl rfl rfl (cwV 2 hts gX3_reasonAgainst_X3_reasonAgainstLighting rfl rfl rfl (by decide +kernel) ⟨Nat.le_of_ble_eq_true rfl, Nat.le_of_ble_eq_true rfl⟩) rfl hl.1 (lv_room (Nat.le_of_ble_eq_true rfl)) dX3_reasonAgainst_138 (fun H locs hw => ?_)
          have z : some r10 = some o := hf
          cases z
          rw [hQ]
          exact cd_reti C0 hw dX3_reasonAgainst_141
        · have hf := cd_ite_f c1_3 hf
          by_cases c1_4 : a0 = (94 : Int32)
          · have hf := cd_ite_t c1_4 hf
            refine lv_lookup (off := 117) (tgt := 118) hx hb dX3_reasonAgainst_1 (by decide) (by rw [c1_4]; decide) (by decide) ?_
            refine lv_aload_n hx hb dX3_reasonAgainst_118 rfl (lv_at hl 0 rfl) ?_
            refine va_get (D := G) (ci := 3) (v := .ref (h 2)) (C := RX3) (T := TX3) (N := 14) hx hb hts nw_X3_reasonAgainst_X3 hown hK hw.1 0 rfl rfl 1 (by decide) hL2 (fun _ h9 => h9) rfl dX3_reasonAgainst_119 ?_
            refine lv_iload_n hx hb dX3_reasonAgainst_122 rfl (lv_at hl 2 rfl) ?_
            obtain ⟨v11, e11, hf⟩ := cd_bind_some hf
            refine cd_iald hx hb hK hw 2 rfl e11 dX3_reasonAgainst_123 ?_
            refine lv_bipush (v := (9 : Int32)) hx hb dX3_reasonAgainst_124 (by decide) ?_
            obtain ⟨x12, e12, hf⟩ := cd_bind_some hf
            have K12 : ∀ (ls : Array Slot) (H : Heap) (locs : List Loc), lv_has ls 4 [] → cd_WS G A s.heap H locs ((pc_town cI h T)) → W p l e rm_X3_reasonAgainst s m ag below meth c H locs 0 0 Q (F0 m 134 ls [.int x12]) := by
              intro ls H locs hl hw
              have z : some x12 = some o := hf
              cases z
              rw [hQ]
              exact cd_reti C0 hw dX3_reasonAgainst_134
            refine lv_icmp_lt (tgt := 133) hx hb dX3_reasonAgainst_126 (by decide) (fun c12 => ?_) (fun c12 => ?_)
            · have e12 := cd_ite_t c12 e12
              refine lv_iconst (v := (0 : Int32)) hx hb dX3_reasonAgainst_133 (by decide) ?_
              have z : some (0 : Int32) = some x12 := e12
              cases z
              exact K12 _ _ _ (lv_sub hl [] rfl) hw
            · have e12 := cd_ite_f c12 e12
              refine lv_iconst (v := (5 : Int32)) hx hb dX3_reasonAgainst_129 (by decide) ?_
              refine lv_goto (tgt := 134) hx hb dX3_reasonAgainst_130 (by decide) ?_
              have z : some (5 : Int32) = some x12 := e12
              cases z
              exact K12 _ _ _ (lv_sub hl [] rfl) hw
          · have hf := cd_ite_f c1_4 hf
            by_cases c1_5 : a0 = (119 : Int32)
            · have hf := cd_ite_t c1_5 hf
              refine lv_lookup (off := 141) (tgt := 142) hx hb dX3_reasonAgainst_1 (by decide) (by rw [c1_5]; decide) (by decide) ?_
              refine lv_aload_n hx hb dX3_reasonAgainst_142 rfl (lv_at hl 0 rfl) ?_
              refine va_get (D := G) (ci := 3) (v := .ref (h 3)) (C := RX3) (T := TX3) (N := 14) hx hb hts nw_X3_reasonAgainst_X3 hown hK hw.1 0 rfl rfl 2 (by decide) hL3 (fun _ h9 => h9) rfl dX3_reasonAgainst_143 ?_
              refine lv_iload_n hx hb dX3_reasonAgainst_146 rfl (lv_at hl 2 rfl) ?_
              obtain ⟨v13, e13, hf⟩ := cd_bind_some hf
              refine cd_iald hx hb hK hw 3 rfl e13 dX3_reasonAgainst_147 ?_
              refine lv_iload_n hx hb dX3_reasonAgainst_148 rfl (lv_at hl 3 rfl) ?_
              obtain ⟨x14, e14, hf⟩ := cd_bind_some hf
              have K14 : ∀ (ls : Array Slot) (H : Heap) (locs : List Loc), lv_has ls 4 [] → cd_WS G A s.heap H locs ((pc_town cI h T)) → W p l e rm_X3_reasonAgainst s m ag below meth c H locs 0 0 Q (F0 m 158 ls [.int x14]) := by
                intro ls H locs hl hw
                have z : some x14 = some o := hf
                cases z
                rw [hQ]
                exact cd_reti C0 hw dX3_reasonAgainst_158
              refine lv_icmp_ne (tgt := 157) hx hb dX3_reasonAgainst_149 (by decide) (fun c14 => ?_) (fun c14 => ?_)
              · have e14 := cd_ite_f c14 e14
                refine lv_iconst (v := (0 : Int32)) hx hb dX3_reasonAgainst_157 (by decide) ?_
                have z : some (0 : Int32) = some x14 := e14
                cases z
                exact K14 _ _ _ (lv_sub hl [] rfl) hw
              · have e14 := cd_ite_t c14 e14
                refine lv_bipush (v := (7 : Int32)) hx hb dX3_reasonAgainst_152 (by decide) ?_
                refine lv_goto (tgt := 158) hx hb dX3_reasonAgainst_154 (by decide) ?_
                have z : some (7 : Int32) = some x14 := e14
                cases z
                exact K14 _ _ _ (lv_sub hl [] rfl) hw
            · have hf := cd_ite_f c1_5 hf
              refine lv_lookup (off := 158) (tgt := 159) hx hb dX3_reasonAgainst_1 (by decide) (by have q0 : a0.toInt ≠ 33 := cd_ne c1_0; have q1 : a0.toInt ≠ 42 := cd_ne c1_1; have q2 : a0.toInt ≠ 45 := cd_ne c1_2; have q3 : a0.toInt ≠ 62 := cd_ne c1_3; have q4 : a0.toInt ≠ 94 := cd_ne c1_4; have q5 : a0.toInt ≠ 119 := cd_ne c1_5; simp [Op.lookupswitch.offset, q0, q1, q2, q3, q4, q5]) (by decide) ?_
              refine lv_aload_n hx hb dX3_reasonAgainst_159 rfl (lv_at hl 0 rfl) ?_
              refine va_get (D := G) (ci := 3) (v := .int (T 13 0)) (C := RX3) (T := TX3) (N := 14) hx hb hts nw_X3_reasonAgainst_X3 hown hK hw.1 0 rfl rfl 13 (by decide) hL4 (fun _ h9 => h9) rfl dX3_reasonAgainst_160 ?_
              refine lv_sipush (v := (999 : Int32)) hx hb dX3_reasonAgainst_163 (by decide) ?_
              obtain ⟨x15, e15, hf⟩ := cd_bind_some hf
              have K15 : ∀ (ls : Array Slot) (H : Heap) (locs : List Loc), lv_has ls 4 [] → cd_WS G A s.heap H locs ((pc_town cI h T)) → W p l e rm_X3_reasonAgainst s m ag below meth c H locs 0 0 Q (F0 m 175 ls [.int x15]) := by
                intro ls H locs hl hw
                have z : some x15 = some o := hf
                cases z
                rw [hQ]
                exact cd_reti C0 hw dX3_reasonAgainst_175
              refine lv_icmp_lt (tgt := 174) hx hb dX3_reasonAgainst_166 (by decide) (fun c15 => ?_) (fun c15 => ?_)
              · have e15 := cd_ite_t c15 e15
                refine lv_iconst (v := (0 : Int32)) hx hb dX3_reasonAgainst_174 (by decide) ?_
                have z : some (0 : Int32) = some x15 := e15
                cases z
                exact K15 _ _ _ (lv_sub hl [] rfl) hw
              · have e15 := cd_ite_f c15 e15
                refine lv_bipush (v := (8 : Int32)) hx hb dX3_reasonAgainst_169 (by decide) ?_
                refine lv_goto (tgt := 175) hx hb dX3_reasonAgainst_171 (by decide) ?_
                have z : some (8 : Int32) = some x15 := e15
                cases z
                exact K15 _ _ _ (lv_sub hl [] rfl) hw
abbrev rm_X5_bit : Room := { frames := 0, cells := 0, slots := 0, locals := 0 }
set_option maxHeartbeats 4000000 in
set_option maxRecDepth 100000 in
theorem c_X5_bit (l : Launch) (G : va_G) (cI cZ : ClassId) (sa sb : Nat) (a0 : Int32) (o : Int32) (hf : f_X5_bit a0 = some o) : cd_Ct l G cI cZ sa sb yX5_bit wsX5_bit rm_X5_bit [.int a0] (([] : va_W)) (([] : va_W)) (some (.int o)) := by
  refine cd_of (cc := cX5_bit) (maxL := 1) (ret := (some .int)) (by decide) rfl (Nat.le_of_ble_eq_true rfl) ?_
  intro p e s m ag below meth c A ls Q C0 hl hw hQ
  have C0 : cd_CX G cI cZ sa sb p s m ag meth c cX5_bit 1 (some .int) wsX5_bit RX5 A := C0
  obtain ⟨⟨hx, hb, hml, hown, hts⟩, hr, hlocks, hA, hE⟩ := id C0
  have hK := hE.1
  have hl : lv_has ls 1 [(0, .int a0)] := hl
  unfold f_X5_bit at hf
  refine lv_iconst (v := (1 : Int32)) hx hb dX5_bit_0 (by decide) ?_
  refine lv_iload_n hx hb dX5_bit_1 rfl (lv_at hl 0 rfl) ?_
  refine lv_ishl hx hb dX5_bit_2 ?_
  have z : some ((1 : Int32) <<< (a0 &&& 31)) = some o := hf
  cases z
  rw [hQ]
  exact cd_reti C0 hw dX5_bit_3
abbrev rm_X3_part : Room := { frames := 1, cells := 0, slots := 0, locals := 20 }
theorem nw_X3_part_X3 : ∀ w ∈ u_ws RX3 TX3 14, w ∈ wsX3_part := by decide +kernel
set_option maxHeartbeats 4000000 in
set_option maxRecDepth 100000 in
theorem c_X3_part (l : Launch) (G : va_G) (cI cZ : ClassId) (sa sb : Nat) (h : Nat → Nat) (T : Nat → Nat → Int32) (a0 : Int32) (o : (Nat → Nat → Int32)) (hf : f_X3_part a0 T = some o) : cd_Ct l G cI cZ sa sb yX3_part wsX3_part rm_X3_part [.ref (h 0), .int a0] ((pc_town cI h T)) ((pc_town cI h o)) none := by
  refine cd_of (cc := cX3_part) (maxL := 3) (ret := none) (by decide) rfl (Nat.le_of_ble_eq_true rfl) ?_
  intro p e s m ag below meth c A ls Q C0 hl hw hQ
  have C0 : cd_CX G cI cZ sa sb p s m ag meth c cX3_part 3 none wsX3_part RX3 A := C0
  obtain ⟨⟨hx, hb, hml, hown, hts⟩, hr, hlocks, hA, hE⟩ := id C0
  have hK := hE.1
  have hL0 := hts (.fieldLink RX3 30 "CandleDebts$Town" "groups" "[I") (by decide +kernel)
  have hL1 := hts (.initialized RX5) (by decide +kernel)
  have hL2 := hts (.static yX5_bit) (by decide +kernel)
  have hl : lv_has ls 3 [(0, .ref (h 0)), (1, .int a0)] := hl
  unfold f_X3_part at hf
  refine lv_iconst (v := (0 : Int32)) hx hb dX3_part_0 (by decide) ?_
  refine lv_istore_n (lv' := [(2, .int (0 : Int32)), (0, .ref (h 0)), (1, .int a0)]) hx hb dX3_part_1 rfl hl (by decide) rfl (fun ls hl => ?_)
  obtain ⟨x1, e1, hf⟩ := cd_bind_some hf
  have K1 : ∀ (t1 : (Nat → Nat → Int32)), t1 = x1 → ∀ (ls : Array Slot) (H : Heap) (locs : List Loc), lv_has ls 3 [(0, .ref (h 0)), (1, .int a0)] → cd_WS G A s.heap H locs ((pc_town cI h t1)) → W p l e rm_X3_part s m ag below meth c H locs 0 0 Q (F0 m 29 ls []) := by
    intro t1 hs_1
    subst hs_1
    intro ls H locs hl hw
    refine lv_aload_n hx hb dX3_part_29 rfl (lv_at hl 0 rfl) ?_
    refine va_get (D := G) (ci := 3) (v := .ref (h 7)) (C := RX3) (T := TX3) (N := 14) hx hb hts nw_X3_part_X3 hown hK hw.1 0 rfl rfl 6 (by decide) hL0 (fun _ h9 => h9) rfl dX3_part_30 ?_
    refine lv_iload_n hx hb dX3_part_33 rfl (lv_at hl 1 rfl) ?_
    refine lv_iload_n hx hb dX3_part_34 rfl (lv_at hl 1 rfl) ?_
    obtain ⟨r6, e6, hf⟩ := cd_bind_some hf
    refine cd_callSN (As := [.int a0]) (rest := [.int a0, .ref (h 7)]) C0 hw (c_X5_bit l G cI cZ sa sb a0 r6 e6) [] rfl rfl ⟨va_cnB 1 hts ggX3_part_X5_bit rfl rfl rfl (hE.2.1 (.methodLinkNest RX3 46 yX5_bit RX5) (by simp [cd_nest])) hL1 (by decide +kernel) ⟨Nat.le_of_ble_eq_true rfl, Nat.le_of_ble_eq_true rfl⟩, hL2, trivial⟩ rfl hl.1 (lv_room (Nat.le_of_ble_eq_true rfl)) dX3_part_35 (fun H locs hw => ?_)
    obtain ⟨j7, e7, hf⟩ := cd_bind_some hf
    refine cd_iast hx hb hK hw 7 rfl e7 dX3_part_38 (fun H locs hw => ?_)
    have hw : cd_WS G A s.heap H locs ((pc_town cI h (cd_set t1 6 j7 r6))) := hw
    have z : some (cd_set t1 6 j7 r6) = some o := hf
    cases z
    rw [hQ]
    exact cd_retv C0 hw dX3_part_39
  refine cd_iter_ind (body := (f_X3_part_b2 a0)) (K := fun r => r = x1) (P := fun (z1 : Int32 × (Nat → Nat → Int32)) => ∀ (ls : Array Slot) (H : Heap) (locs : List Loc), lv_has ls 3 [(0, .ref (h 0)), (1, .int a0), (2, .int z1.1)] → cd_WS G A s.heap H locs ((pc_town cI h z1.2)) → W p l e rm_X3_part s m ag below meth c H locs 0 0 Q (F0 m 2 ls [])) ?_ cd_N ((0 : Int32), T) x1 e1 rfl _ _ _ (lv_sub hl [1, 2, 0] rfl) hw
  intro z1 o1 hb1 hk1 ls H locs hl hw
  unfold f_X3_part_b2 at hb1
  refine lv_iload_n hx hb dX3_part_2 rfl (lv_at hl 2 rfl) ?_
  refine lv_bipush (v := (12 : Int32)) hx hb dX3_part_3 (by decide) ?_
  refine lv_icmp_ge (tgt := 29) hx hb dX3_part_5 (by decide) (fun c2 => ?_) (fun c2 => ?_)
  · have hb1 := cd_ite_t c2 hb1
    have z : some (Sum.inl z1.2) = some o1 := hb1
    cases z
    exact K1 _ hk1 _ _ _ (lv_sub hl [0, 1] rfl) hw
  · have hb1 := cd_ite_f c2 hb1
    refine lv_aload_n hx hb dX3_part_8 rfl (lv_at hl 0 rfl) ?_
    refine va_get (D := G) (ci := 3) (v := .ref (h 7)) (C := RX3) (T := TX3) (N := 14) hx hb hts nw_X3_part_X3 hown hK hw.1 0 rfl rfl 6 (by decide) hL0 (fun _ h9 => h9) rfl dX3_part_9 ?_
    refine lv_iload_n hx hb dX3_part_12 rfl (lv_at hl 2 rfl) ?_
    refine lv_dup2_11 hx hb dX3_part_13 rfl rfl ?_
    obtain ⟨v3, e3, hb1⟩ := cd_bind_some hb1
    refine cd_iald hx hb hK hw 7 rfl e3 dX3_part_14 ?_
    refine lv_iload_n hx hb dX3_part_15 rfl (lv_at hl 1 rfl) ?_
    obtain ⟨r4, e4, hb1⟩ := cd_bind_some hb1
    refine cd_callSN (As := [.int a0]) (rest := [.int v3, .int z1.1, .ref (h 7)]) C0 hw (c_X5_bit l G cI cZ sa sb a0 r4 e4) [] rfl rfl ⟨va_cnB 1 hts ggX3_part_X5_bit rfl rfl rfl (hE.2.1 (.methodLinkNest RX3 46 yX5_bit RX5) (by simp [cd_nest])) hL1 (by decide +kernel) ⟨Nat.le_of_ble_eq_true rfl, Nat.le_of_ble_eq_true rfl⟩, hL2, trivial⟩ rfl hl.1 (lv_room (Nat.le_of_ble_eq_true rfl)) dX3_part_16 (fun H locs hw => ?_)
    refine lv_iconst (v := (-1 : Int32)) hx hb dX3_part_19 (by decide) ?_
    refine lv_ixor hx hb dX3_part_20 ?_
    refine lv_iand hx hb dX3_part_21 ?_
    obtain ⟨j5, e5, hb1⟩ := cd_bind_some hb1
    refine cd_iast hx hb hK hw 7 rfl e5 dX3_part_22 (fun H locs hw => ?_)
    have hw : cd_WS G A s.heap H locs ((pc_town cI h (cd_set z1.2 6 j5 (v3 &&& (r4 ^^^ (-1 : Int32)))))) := hw
    refine lv_iinc (v := (z1.1 + (1 : Int32))) (lv' := [(2, .int (z1.1 + (1 : Int32))), (0, .ref (h 0)), (1, .int a0)]) hx hb dX3_part_23 hl (k := 2) rfl rfl (by decide) rfl (fun ls hl => ?_)
    refine lv_goto (tgt := 2) hx hb dX3_part_26 (by decide) ?_
    have z : some (Sum.inr ((z1.1 + (1 : Int32)), (cd_set z1.2 6 j5 (v3 &&& (r4 ^^^ (-1 : Int32)))))) = some o1 := hb1
    cases z
    exact hk1 _ _ _ (lv_sub hl [1, 2, 0] rfl) hw
abbrev rm_X3_lightByMatch : Room := { frames := 2, cells := 0, slots := 0, locals := 42 }
theorem nw_X3_lightByMatch_X3 : ∀ w ∈ u_ws RX3 TX3 14, w ∈ wsX3_lightByMatch := by decide +kernel
set_option maxHeartbeats 4000000 in
set_option maxRecDepth 100000 in
theorem c_X3_lightByMatch (l : Launch) (G : va_G) (cI cZ : ClassId) (sa sb : Nat) (h : Nat → Nat) (T : Nat → Nat → Int32) (a0 : Int32) (o : (Nat → Nat → Int32)) (hf : f_X3_lightByMatch a0 T = some o) : cd_Ct l G cI cZ sa sb yX3_lightByMatch wsX3_lightByMatch rm_X3_lightByMatch [.ref (h 0), .int a0] ((pc_town cI h T)) ((pc_town cI h o)) none := by
  refine cd_of (cc := cX3_lightByMatch) (maxL := 2) (ret := none) (by decide) rfl (Nat.le_of_ble_eq_true rfl) ?_
  intro p e s m ag below meth c A ls Q C0 hl hw hQ
  have C0 : cd_CX G cI cZ sa sb p s m ag meth c cX3_lightByMatch 2 none wsX3_lightByMatch RX3 A := C0
  obtain ⟨⟨hx, hb, hml, hown, hts⟩, hr, hlocks, hA, hE⟩ := id C0
  have hK := hE.1
  have hL0 := hts (.fieldLink RX3 42 "CandleDebts$Town" "matchesLeft" "I") (by decide +kernel)
  have hL1 := hts (.fieldLink RX3 59 "CandleDebts$Town" "lit" "I") (by decide +kernel)
  have hL2 := hts (.initialized RX5) (by decide +kernel)
  have hL3 := hts (.static yX5_bit) (by decide +kernel)
  have hl : lv_has ls 2 [(0, .ref (h 0)), (1, .int a0)] := hl
  unfold f_X3_lightByMatch at hf
  refine lv_aload_n hx hb dX3_lightByMatch_0 rfl (lv_at hl 0 rfl) ?_
  refine lv_dup hx hb dX3_lightByMatch_1 rfl ?_
  refine va_get (D := G) (ci := 3) (v := .int (T 12 0)) (C := RX3) (T := TX3) (N := 14) hx hb hts nw_X3_lightByMatch_X3 hown hK hw.1 0 rfl rfl 12 (by decide) hL0 (fun _ h9 => h9) rfl dX3_lightByMatch_2 ?_
  refine lv_iconst (v := (1 : Int32)) hx hb dX3_lightByMatch_5 (by decide) ?_
  refine lv_isub hx hb dX3_lightByMatch_6 ?_
  refine va_put (D := G) (ci := 3) (v := .int ((T 12 0) - (1 : Int32))) (ty := .int) (C := RX3) (T := TX3) (N := 14) hx hb hts nw_X3_lightByMatch_X3 tyX3 tyX3_ok nmX3 hown hK hw.1 hw.2.1 hw.2.2 0 rfl rfl 12 (by decide) hL0 (fun _ h9 => h9) rfl (by decide +kernel) rfl rfl (Nat.le_of_ble_eq_true rfl) dX3_lightByMatch_7 (fun H locs hP hD hS => ?_)
  have hw : cd_WS G A s.heap H locs ((pc_town cI h (cd_fld T 12 ((T 12 0) - (1 : Int32))))) := ⟨hP, hD, hS⟩
  refine lv_aload_n hx hb dX3_lightByMatch_10 rfl (lv_at hl 0 rfl) ?_
  refine lv_dup hx hb dX3_lightByMatch_11 rfl ?_
  refine va_get (D := G) (ci := 3) (v := .int (T 11 0)) (C := RX3) (T := TX3) (N := 14) hx hb hts nw_X3_lightByMatch_X3 hown hK hw.1 0 rfl rfl 11 (by decide) hL1 (fun _ h9 => h9) rfl dX3_lightByMatch_12 ?_
  refine lv_iload_n hx hb dX3_lightByMatch_15 rfl (lv_at hl 1 rfl) ?_
  obtain ⟨r1, e1, hf⟩ := cd_bind_some hf
  refine cd_callSN (As := [.int a0]) (rest := [.int (T 11 0), .ref (h 0)]) C0 hw (c_X5_bit l G cI cZ sa sb a0 r1 e1) [] rfl rfl ⟨va_cnB 1 hts ggX3_lightByMatch_X5_bit rfl rfl rfl (hE.2.1 (.methodLinkNest RX3 46 yX5_bit RX5) (by simp [cd_nest])) hL2 (by decide +kernel) ⟨Nat.le_of_ble_eq_true rfl, Nat.le_of_ble_eq_true rfl⟩, hL3, trivial⟩ rfl hl.1 (lv_room (Nat.le_of_ble_eq_true rfl)) dX3_lightByMatch_16 (fun H locs hw => ?_)
  refine lv_ior hx hb dX3_lightByMatch_19 ?_
  refine va_put (D := G) (ci := 3) (v := .int ((T 11 0) ||| r1)) (ty := .int) (C := RX3) (T := TX3) (N := 14) hx hb hts nw_X3_lightByMatch_X3 tyX3 tyX3_ok nmX3 hown hK hw.1 hw.2.1 hw.2.2 0 rfl rfl 11 (by decide) hL1 (fun _ h9 => h9) rfl (by decide +kernel) rfl rfl (Nat.le_of_ble_eq_true rfl) dX3_lightByMatch_20 (fun H locs hP hD hS => ?_)
  have hw : cd_WS G A s.heap H locs ((pc_town cI h (cd_fld (cd_fld T 12 ((T 12 0) - (1 : Int32))) 11 ((T 11 0) ||| r1)))) := ⟨hP, hD, hS⟩
  refine lv_aload_n hx hb dX3_lightByMatch_23 rfl (lv_at hl 0 rfl) ?_
  refine lv_iload_n hx hb dX3_lightByMatch_24 rfl (lv_at hl 1 rfl) ?_
  obtain ⟨r2, e2, hf⟩ := cd_bind_some hf
  refine cd_callVw (As := [.int a0]) (rest := []) (wr := ([] : va_W)) (wn := (pc_town cI h r2)) C0 hw (c_X3_part l G cI cZ sa sb h (cd_fld (cd_fld T 12 ((T 12 0) - (1 : Int32))) 11 ((T 11 0) ||| r1)) a0 r2 e2) [0, 1, 2, 3, 4, 5, 6, 7, 8, 9, 10] [] [0, 1, 2, 3, 4, 5, 6, 7, 8, 9, 10] rfl rfl rfl rfl (by decide) rfl rfl 0 3 rfl rfl rfl (cwV 1 hts gX3_lightByMatch_X3_part rfl rfl rfl (by decide +kernel) ⟨Nat.le_of_ble_eq_true rfl, Nat.le_of_ble_eq_true rfl⟩) rfl hl.1 (lv_room (Nat.le_of_ble_eq_true rfl)) dX3_lightByMatch_25 (fun H locs hw => ?_)
  have z : some r2 = some o := hf
  cases z
  rw [hQ]
  exact cd_retv C0 hw dX3_lightByMatch_28
abbrev rm_X3_putOut : Room := { frames := 0, cells := 0, slots := 0, locals := 0 }
theorem nw_X3_putOut_X3 : ∀ w ∈ u_ws RX3 TX3 14, w ∈ wsX3_putOut := by decide +kernel
set_option maxHeartbeats 4000000 in
set_option maxRecDepth 100000 in
theorem c_X3_putOut (l : Launch) (G : va_G) (cI cZ : ClassId) (sa sb : Nat) (h : Nat → Nat) (T : Nat → Nat → Int32) (a0 : Int32) (o : (Nat → Nat → Int32)) (hf : f_X3_putOut a0 T = some o) : cd_Ct l G cI cZ sa sb yX3_putOut wsX3_putOut rm_X3_putOut [.ref (h 0), .int a0] ((pc_town cI h T)) ((pc_town cI h o)) none := by
  refine cd_of (cc := cX3_putOut) (maxL := 2) (ret := none) (by decide) rfl (Nat.le_of_ble_eq_true rfl) ?_
  intro p e s m ag below meth c A ls Q C0 hl hw hQ
  have C0 : cd_CX G cI cZ sa sb p s m ag meth c cX3_putOut 2 none wsX3_putOut RX3 A := C0
  obtain ⟨⟨hx, hb, hml, hown, hts⟩, hr, hlocks, hA, hE⟩ := id C0
  have hK := hE.1
  have hL0 := hts (.fieldLink RX3 59 "CandleDebts$Town" "lit" "I") (by decide +kernel)
  have hL1 := hts (.fieldLink RX3 30 "CandleDebts$Town" "groups" "[I") (by decide +kernel)
  have hl : lv_has ls 2 [(0, .ref (h 0)), (1, .int a0)] := hl
  unfold f_X3_putOut at hf
  refine lv_aload_n hx hb dX3_putOut_0 rfl (lv_at hl 0 rfl) ?_
  refine lv_dup hx hb dX3_putOut_1 rfl ?_
  refine va_get (D := G) (ci := 3) (v := .int (T 11 0)) (C := RX3) (T := TX3) (N := 14) hx hb hts nw_X3_putOut_X3 hown hK hw.1 0 rfl rfl 11 (by decide) hL0 (fun _ h9 => h9) rfl dX3_putOut_2 ?_
  refine lv_aload_n hx hb dX3_putOut_5 rfl (lv_at hl 0 rfl) ?_
  refine va_get (D := G) (ci := 3) (v := .ref (h 7)) (C := RX3) (T := TX3) (N := 14) hx hb hts nw_X3_putOut_X3 hown hK hw.1 0 rfl rfl 6 (by decide) hL1 (fun _ h9 => h9) rfl dX3_putOut_6 ?_
  refine lv_iload_n hx hb dX3_putOut_9 rfl (lv_at hl 1 rfl) ?_
  obtain ⟨v1, e1, hf⟩ := cd_bind_some hf
  refine cd_iald hx hb hK hw 7 rfl e1 dX3_putOut_10 ?_
  refine lv_iconst (v := (-1 : Int32)) hx hb dX3_putOut_11 (by decide) ?_
  refine lv_ixor hx hb dX3_putOut_12 ?_
  refine lv_iand hx hb dX3_putOut_13 ?_
  refine va_put (D := G) (ci := 3) (v := .int ((T 11 0) &&& (v1 ^^^ (-1 : Int32)))) (ty := .int) (C := RX3) (T := TX3) (N := 14) hx hb hts nw_X3_putOut_X3 tyX3 tyX3_ok nmX3 hown hK hw.1 hw.2.1 hw.2.2 0 rfl rfl 11 (by decide) hL0 (fun _ h9 => h9) rfl (by decide +kernel) rfl rfl (Nat.le_of_ble_eq_true rfl) dX3_putOut_14 (fun H locs hP hD hS => ?_)
  have hw : cd_WS G A s.heap H locs ((pc_town cI h (cd_fld T 11 ((T 11 0) &&& (v1 ^^^ (-1 : Int32)))))) := ⟨hP, hD, hS⟩
  have z : some (cd_fld T 11 ((T 11 0) &&& (v1 ^^^ (-1 : Int32)))) = some o := hf
  cases z
  rw [hQ]
  exact cd_retv C0 hw dX3_putOut_17
abbrev rm_X3_pay : Room := { frames := 1, cells := 0, slots := 0, locals := 22 }
theorem nw_X3_pay_X3 : ∀ w ∈ u_ws RX3 TX3 14, w ∈ wsX3_pay := by decide +kernel
set_option maxHeartbeats 4000000 in
set_option maxRecDepth 100000 in
theorem c_X3_pay (l : Launch) (G : va_G) (cI cZ : ClassId) (sa sb : Nat) (h : Nat → Nat) (T : Nat → Nat → Int32) (a0 : Int32) (o : Int32 × (Nat → Nat → Int32)) (hf : f_X3_pay a0 T = some o) : cd_Ct l G cI cZ sa sb yX3_pay wsX3_pay rm_X3_pay [.ref (h 0), .int a0] ((pc_town cI h T)) ((pc_town cI h o.2)) (some (.int o.1)) := by
  refine cd_of (cc := cX3_pay) (maxL := 3) (ret := (some .int)) (by decide) rfl (Nat.le_of_ble_eq_true rfl) ?_
  intro p e s m ag below meth c A ls Q C0 hl hw hQ
  have C0 : cd_CX G cI cZ sa sb p s m ag meth c cX3_pay 3 (some .int) wsX3_pay RX3 A := C0
  obtain ⟨⟨hx, hb, hml, hown, hts⟩, hr, hlocks, hA, hE⟩ := id C0
  have hK := hE.1
  have hL0 := hts (.fieldLink RX3 33 "CandleDebts$Town" "purses" "[I") (by decide +kernel)
  have hL1 := hts (.fieldLink RX3 24 "CandleDebts$Town" "debtors" "[I") (by decide +kernel)
  have hL2 := hts (.fieldLink RX3 21 "CandleDebts$Town" "creditors" "[I") (by decide +kernel)
  have hL3 := hts (.fieldLink RX3 27 "CandleDebts$Town" "sums" "[I") (by decide +kernel)
  have hl : lv_has ls 3 [(0, .ref (h 0)), (1, .int a0)] := hl
  unfold f_X3_pay at hf
  refine lv_aload_n hx hb dX3_pay_0 rfl (lv_at hl 0 rfl) ?_
  refine lv_iload_n hx hb dX3_pay_1 rfl (lv_at hl 1 rfl) ?_
  obtain ⟨r1, e1, hf⟩ := cd_bind_some hf
  refine cd_callV (As := [.int a0]) (rest := []) C0 hw (c_X3_dueOf l G cI cZ sa sb h T a0 r1 e1) [0, 1, 2, 3, 4, 5, 6, 7, 8, 9, 10] rfl rfl 0 3 rfl rfl rfl (cwV 1 hts gX3_pay_X3_dueOf rfl rfl rfl (by decide +kernel) ⟨Nat.le_of_ble_eq_true rfl, Nat.le_of_ble_eq_true rfl⟩) rfl hl.1 (lv_room (Nat.le_of_ble_eq_true rfl)) dX3_pay_2 (fun H locs hw => ?_)
  refine lv_istore_n (lv' := [(2, .int r1), (0, .ref (h 0)), (1, .int a0)]) hx hb dX3_pay_5 rfl hl (by decide) rfl (fun ls hl => ?_)
  refine lv_aload_n hx hb dX3_pay_6 rfl (lv_at hl 1 rfl) ?_
  refine va_get (D := G) (ci := 3) (v := .ref (h 8)) (C := RX3) (T := TX3) (N := 14) hx hb hts nw_X3_pay_X3 hown hK hw.1 0 rfl rfl 7 (by decide) hL0 (fun _ h9 => h9) rfl dX3_pay_7 ?_
  refine lv_aload_n hx hb dX3_pay_10 rfl (lv_at hl 1 rfl) ?_
  refine va_get (D := G) (ci := 3) (v := .ref (h 5)) (C := RX3) (T := TX3) (N := 14) hx hb hts nw_X3_pay_X3 hown hK hw.1 0 rfl rfl 4 (by decide) hL1 (fun _ h9 => h9) rfl dX3_pay_11 ?_
  refine lv_iload_n hx hb dX3_pay_14 rfl (lv_at hl 2 rfl) ?_
  obtain ⟨v2, e2, hf⟩ := cd_bind_some hf
  refine cd_iald hx hb hK hw 5 rfl e2 dX3_pay_15 ?_
  refine lv_dup2_11 hx hb dX3_pay_16 rfl rfl ?_
  obtain ⟨v3, e3, hf⟩ := cd_bind_some hf
  refine cd_iald hx hb hK hw 8 rfl e3 dX3_pay_17 ?_
  refine lv_iload_n hx hb dX3_pay_18 rfl (lv_at hl 0 rfl) ?_
  refine lv_isub hx hb dX3_pay_19 ?_
  obtain ⟨j4, e4, hf⟩ := cd_bind_some hf
  refine cd_iast hx hb hK hw 8 rfl e4 dX3_pay_20 (fun H locs hw => ?_)
  have hw : cd_WS G A s.heap H locs ((pc_town cI h (cd_set T 7 j4 (v3 - r1)))) := hw
  refine lv_aload_n hx hb dX3_pay_21 rfl (lv_at hl 1 rfl) ?_
  refine va_get (D := G) (ci := 3) (v := .ref (h 8)) (C := RX3) (T := TX3) (N := 14) hx hb hts nw_X3_pay_X3 hown hK hw.1 0 rfl rfl 7 (by decide) hL0 (fun _ h9 => h9) rfl dX3_pay_22 ?_
  refine lv_aload_n hx hb dX3_pay_25 rfl (lv_at hl 1 rfl) ?_
  refine va_get (D := G) (ci := 3) (v := .ref (h 4)) (C := RX3) (T := TX3) (N := 14) hx hb hts nw_X3_pay_X3 hown hK hw.1 0 rfl rfl 3 (by decide) hL2 (fun _ h9 => h9) rfl dX3_pay_26 ?_
  refine lv_iload_n hx hb dX3_pay_29 rfl (lv_at hl 2 rfl) ?_
  obtain ⟨v5, e5, hf⟩ := cd_bind_some hf
  refine cd_iald hx hb hK hw 4 rfl e5 dX3_pay_30 ?_
  refine lv_dup2_11 hx hb dX3_pay_31 rfl rfl ?_
  obtain ⟨v6, e6, hf⟩ := cd_bind_some hf
  refine cd_iald hx hb hK hw 8 rfl e6 dX3_pay_32 ?_
  refine lv_iload_n hx hb dX3_pay_33 rfl (lv_at hl 0 rfl) ?_
  refine lv_iadd hx hb dX3_pay_34 ?_
  obtain ⟨j7, e7, hf⟩ := cd_bind_some hf
  refine cd_iast hx hb hK hw 8 rfl e7 dX3_pay_35 (fun H locs hw => ?_)
  have hw : cd_WS G A s.heap H locs ((pc_town cI h (cd_set (cd_set T 7 j4 (v3 - r1)) 7 j7 (v6 + r1)))) := hw
  refine lv_aload_n hx hb dX3_pay_36 rfl (lv_at hl 1 rfl) ?_
  refine va_get (D := G) (ci := 3) (v := .ref (h 6)) (C := RX3) (T := TX3) (N := 14) hx hb hts nw_X3_pay_X3 hown hK hw.1 0 rfl rfl 5 (by decide) hL3 (fun _ h9 => h9) rfl dX3_pay_37 ?_
  refine lv_iload_n hx hb dX3_pay_40 rfl (lv_at hl 2 rfl) ?_
  refine lv_dup2_11 hx hb dX3_pay_41 rfl rfl ?_
  obtain ⟨v8, e8, hf⟩ := cd_bind_some hf
  refine cd_iald hx hb hK hw 6 rfl e8 dX3_pay_42 ?_
  refine lv_iload_n hx hb dX3_pay_43 rfl (lv_at hl 0 rfl) ?_
  refine lv_isub hx hb dX3_pay_44 ?_
  obtain ⟨j9, e9, hf⟩ := cd_bind_some hf
  refine cd_iast hx hb hK hw 6 rfl e9 dX3_pay_45 (fun H locs hw => ?_)
  have hw : cd_WS G A s.heap H locs ((pc_town cI h (cd_set (cd_set (cd_set T 7 j4 (v3 - r1)) 7 j7 (v6 + r1)) 5 j9 (v8 - r1)))) := hw
  refine lv_iload_n hx hb dX3_pay_46 rfl (lv_at hl 0 rfl) ?_
  have z : some (r1, (cd_set (cd_set (cd_set T 7 j4 (v3 - r1)) 7 j7 (v6 + r1)) 5 j9 (v8 - r1))) = some o := hf
  cases z
  rw [hQ]
  exact cd_reti C0 hw dX3_pay_47
abbrev rm_X3_lightFrom : Room := { frames := 1, cells := 0, slots := 0, locals := 21 }
theorem nw_X3_lightFrom_X3 : ∀ w ∈ u_ws RX3 TX3 14, w ∈ wsX3_lightFrom := by decide +kernel
set_option maxHeartbeats 4000000 in
set_option maxRecDepth 100000 in
theorem c_X3_lightFrom (l : Launch) (G : va_G) (cI cZ : ClassId) (sa sb : Nat) (h : Nat → Nat) (T : Nat → Nat → Int32) (a0 : Int32) (a1 : Int32) (o : (Nat → Nat → Int32)) (hf : f_X3_lightFrom a0 a1 T = some o) : cd_Ct l G cI cZ sa sb yX3_lightFrom wsX3_lightFrom rm_X3_lightFrom [.ref (h 0), .int a0, .int a1] ((pc_town cI h T)) ((pc_town cI h o)) none := by
  refine cd_of (cc := cX3_lightFrom) (maxL := 5) (ret := none) (by decide) rfl (Nat.le_of_ble_eq_true rfl) ?_
  intro p e s m ag below meth c A ls Q C0 hl hw hQ
  have C0 : cd_CX G cI cZ sa sb p s m ag meth c cX3_lightFrom 5 none wsX3_lightFrom RX3 A := C0
  obtain ⟨⟨hx, hb, hml, hown, hts⟩, hr, hlocks, hA, hE⟩ := id C0
  have hK := hE.1
  have hL0 := hts (.fieldLink RX3 59 "CandleDebts$Town" "lit" "I") (by decide +kernel)
  have hL1 := hts (.initialized RX5) (by decide +kernel)
  have hL2 := hts (.static yX5_bit) (by decide +kernel)
  have hL3 := hts (.fieldLink RX3 30 "CandleDebts$Town" "groups" "[I") (by decide +kernel)
  have hL4 := hts (.static yX5_holds) (by decide +kernel)
  have hl : lv_has ls 5 [(0, .ref (h 0)), (1, .int a0), (2, .int a1)] := hl
  unfold f_X3_lightFrom at hf
  refine lv_aload_n hx hb dX3_lightFrom_0 rfl (lv_at hl 0 rfl) ?_
  refine lv_dup hx hb dX3_lightFrom_1 rfl ?_
  refine va_get (D := G) (ci := 3) (v := .int (T 11 0)) (C := RX3) (T := TX3) (N := 14) hx hb hts nw_X3_lightFrom_X3 hown hK hw.1 0 rfl rfl 11 (by decide) hL0 (fun _ h9 => h9) rfl dX3_lightFrom_2 ?_
  refine lv_iload_n hx hb dX3_lightFrom_5 rfl (lv_at hl 2 rfl) ?_
  obtain ⟨r1, e1, hf⟩ := cd_bind_some hf
  refine cd_callSN (As := [.int a1]) (rest := [.int (T 11 0), .ref (h 0)]) C0 hw (c_X5_bit l G cI cZ sa sb a1 r1 e1) [] rfl rfl ⟨va_cnB 1 hts ggX3_lightFrom_X5_bit rfl rfl rfl (hE.2.1 (.methodLinkNest RX3 46 yX5_bit RX5) (by simp [cd_nest])) hL1 (by decide +kernel) ⟨Nat.le_of_ble_eq_true rfl, Nat.le_of_ble_eq_true rfl⟩, hL2, trivial⟩ rfl hl.1 (lv_room (Nat.le_of_ble_eq_true rfl)) dX3_lightFrom_6 (fun H locs hw => ?_)
  refine lv_ior hx hb dX3_lightFrom_9 ?_
  refine va_put (D := G) (ci := 3) (v := .int ((T 11 0) ||| r1)) (ty := .int) (C := RX3) (T := TX3) (N := 14) hx hb hts nw_X3_lightFrom_X3 tyX3 tyX3_ok nmX3 hown hK hw.1 hw.2.1 hw.2.2 0 rfl rfl 11 (by decide) hL0 (fun _ h9 => h9) rfl (by decide +kernel) rfl rfl (Nat.le_of_ble_eq_true rfl) dX3_lightFrom_10 (fun H locs hP hD hS => ?_)
  have hw : cd_WS G A s.heap H locs ((pc_town cI h (cd_fld T 11 ((T 11 0) ||| r1)))) := ⟨hP, hD, hS⟩
  refine lv_aload_n hx hb dX3_lightFrom_13 rfl (lv_at hl 0 rfl) ?_
  refine va_get (D := G) (ci := 3) (v := .ref (h 7)) (C := RX3) (T := TX3) (N := 14) hx hb hts nw_X3_lightFrom_X3 hown hK hw.1 0 rfl rfl 6 (by decide) hL3 (fun _ h9 => h9) rfl dX3_lightFrom_14 ?_
  refine lv_iload_n hx hb dX3_lightFrom_17 rfl (lv_at hl 1 rfl) ?_
  obtain ⟨v2, e2, hf⟩ := cd_bind_some hf
  refine cd_iald hx hb hK hw 7 rfl e2 dX3_lightFrom_18 ?_
  refine lv_aload_n hx hb dX3_lightFrom_19 rfl (lv_at hl 0 rfl) ?_
  refine va_get (D := G) (ci := 3) (v := .ref (h 7)) (C := RX3) (T := TX3) (N := 14) hx hb hts nw_X3_lightFrom_X3 hown hK hw.1 0 rfl rfl 6 (by decide) hL3 (fun _ h9 => h9) rfl dX3_lightFrom_20 ?_
  refine lv_iload_n hx hb dX3_lightFrom_23 rfl (lv_at hl 2 rfl) ?_
  obtain ⟨v3, e3, hf⟩ := cd_bind_some hf
  refine cd_iald hx hb hK hw 7 rfl e3 dX3_lightFrom_24 ?_
  refine lv_ior hx hb dX3_lightFrom_25 ?_
  refine lv_istore_n (lv' := [(3, .int (v2 ||| v3)), (0, .ref (h 0)), (1, .int a0), (2, .int a1)]) hx hb dX3_lightFrom_26 rfl hl (by decide) rfl (fun ls hl => ?_)
  refine lv_iconst (v := (0 : Int32)) hx hb dX3_lightFrom_27 (by decide) ?_
  refine lv_istore (lv' := [(4, .int (0 : Int32)), (3, .int (v2 ||| v3)), (0, .ref (h 0)), (1, .int a0), (2, .int a1)]) hx hb dX3_lightFrom_28 hl (by decide) rfl (fun ls hl => ?_)
  obtain ⟨x4, e4, hf⟩ := cd_bind_some hf
  have K4 : ∀ (t4 : (Nat → Nat → Int32)), t4 = x4 → ∀ (ls : Array Slot) (H : Heap) (locs : List Loc), lv_has ls 5 [] → cd_WS G A s.heap H locs ((pc_town cI h t4)) → W p l e rm_X3_lightFrom s m ag below meth c H locs 0 0 Q (F0 m 60 ls []) := by
    intro t4 hs_4
    subst hs_4
    intro ls H locs hl hw
    have z : some t4 = some o := hf
    cases z
    rw [hQ]
    exact cd_retv C0 hw dX3_lightFrom_60
  refine cd_iter_ind (body := (f_X3_lightFrom_b30 v2 v3)) (K := fun r => r = x4) (P := fun (z4 : Int32 × (Nat → Nat → Int32)) => ∀ (ls : Array Slot) (H : Heap) (locs : List Loc), lv_has ls 5 [(0, .ref (h 0)), (3, .int (v2 ||| v3)), (4, .int z4.1)] → cd_WS G A s.heap H locs ((pc_town cI h z4.2)) → W p l e rm_X3_lightFrom s m ag below meth c H locs 0 0 Q (F0 m 30 ls [])) ?_ cd_N ((0 : Int32), (cd_fld T 11 ((T 11 0) ||| r1))) x4 e4 rfl _ _ _ (lv_sub hl [2, 1, 0] rfl) hw
  intro z4 o4 hb4 hk4 ls H locs hl hw
  unfold f_X3_lightFrom_b30 at hb4
  refine lv_iload hx hb dX3_lightFrom_30 (lv_at hl 2 rfl) ?_
  refine lv_bipush (v := (12 : Int32)) hx hb dX3_lightFrom_32 (by decide) ?_
  refine lv_icmp_ge (tgt := 60) hx hb dX3_lightFrom_34 (by decide) (fun c5 => ?_) (fun c5 => ?_)
  · have hb4 := cd_ite_t c5 hb4
    have z : some (Sum.inl z4.2) = some o4 := hb4
    cases z
    exact K4 _ hk4 _ _ _ (lv_sub hl [] rfl) hw
  · have hb4 := cd_ite_f c5 hb4
    refine lv_iload_n hx hb dX3_lightFrom_37 rfl (lv_at hl 1 rfl) ?_
    refine lv_iload hx hb dX3_lightFrom_38 (lv_at hl 2 rfl) ?_
    obtain ⟨r6, e6, hb4⟩ := cd_bind_some hb4
    refine cd_callSN (As := [.int (v2 ||| v3), .int z4.1]) (rest := []) C0 hw (c_X5_holds l G cI cZ sa sb (v2 ||| v3) z4.1 r6 e6) [] rfl rfl ⟨va_cnB 2 hts ggX3_lightFrom_X5_holds rfl rfl rfl (hE.2.1 (.methodLinkNest RX3 69 yX5_holds RX5) (by simp [cd_nest])) hL1 (by decide +kernel) ⟨Nat.le_of_ble_eq_true rfl, Nat.le_of_ble_eq_true rfl⟩, hL4, trivial⟩ rfl hl.1 (lv_room (Nat.le_of_ble_eq_true rfl)) dX3_lightFrom_40 (fun H locs hw => ?_)
    refine lv_if_eq (tgt := 54) hx hb dX3_lightFrom_43 (by decide) (fun c7 => ?_) (fun c7 => ?_)
    · have hb4 := cd_ite_t c7 hb4
      refine lv_iinc (v := (z4.1 + (1 : Int32))) (lv' := [(4, .int (z4.1 + (1 : Int32))), (0, .ref (h 0)), (3, .int (v2 ||| v3))]) hx hb dX3_lightFrom_54 hl (k := 2) rfl rfl (by decide) rfl (fun ls hl => ?_)
      refine lv_goto (tgt := 30) hx hb dX3_lightFrom_57 (by decide) ?_
      have z : some (Sum.inr ((z4.1 + (1 : Int32)), z4.2)) = some o4 := hb4
      cases z
      exact hk4 _ _ _ (lv_sub hl [1, 2, 0] rfl) hw
    · have hb4 := cd_ite_f c7 hb4
      refine lv_aload_n hx hb dX3_lightFrom_46 rfl (lv_at hl 0 rfl) ?_
      refine va_get (D := G) (ci := 3) (v := .ref (h 7)) (C := RX3) (T := TX3) (N := 14) hx hb hts nw_X3_lightFrom_X3 hown hK hw.1 0 rfl rfl 6 (by decide) hL3 (fun _ h9 => h9) rfl dX3_lightFrom_47 ?_
      refine lv_iload hx hb dX3_lightFrom_50 (lv_at hl 2 rfl) ?_
      refine lv_iload_n hx hb dX3_lightFrom_52 rfl (lv_at hl 1 rfl) ?_
      obtain ⟨j8, e8, hb4⟩ := cd_bind_some hb4
      refine cd_iast hx hb hK hw 7 rfl e8 dX3_lightFrom_53 (fun H locs hw => ?_)
      have hw : cd_WS G A s.heap H locs ((pc_town cI h (cd_set z4.2 6 j8 (v2 ||| v3)))) := hw
      refine lv_iinc (v := (z4.1 + (1 : Int32))) (lv' := [(4, .int (z4.1 + (1 : Int32))), (0, .ref (h 0)), (3, .int (v2 ||| v3))]) hx hb dX3_lightFrom_54 hl (k := 2) rfl rfl (by decide) rfl (fun ls hl => ?_)
      refine lv_goto (tgt := 30) hx hb dX3_lightFrom_57 (by decide) ?_
      have z : some (Sum.inr ((z4.1 + (1 : Int32)), (cd_set z4.2 6 j8 (v2 ||| v3)))) = some o4 := hb4
      cases z
      exact hk4 _ _ _ (lv_sub hl [1, 2, 0] rfl) hw
abbrev rm_X3_burnTrimmed : Room := { frames := 0, cells := 0, slots := 0, locals := 0 }
theorem nw_X3_burnTrimmed_X3 : ∀ w ∈ u_ws RX3 TX3 14, w ∈ wsX3_burnTrimmed := by decide +kernel
set_option maxHeartbeats 4000000 in
set_option maxRecDepth 100000 in
theorem c_X3_burnTrimmed (l : Launch) (G : va_G) (cI cZ : ClassId) (sa sb : Nat) (h : Nat → Nat) (T : Nat → Nat → Int32) (a0 : Int32) (a1 : Int32) (o : Int32) (hf : f_X3_burnTrimmed a0 a1 T = some o) : cd_Ct l G cI cZ sa sb yX3_burnTrimmed wsX3_burnTrimmed rm_X3_burnTrimmed [.ref (h 0), .int a0, .int a1] ((pc_town cI h T)) ((pc_town cI h T)) (some (.int o)) := by
  refine cd_of (cc := cX3_burnTrimmed) (maxL := 4) (ret := (some .int)) (by decide) rfl (Nat.le_of_ble_eq_true rfl) ?_
  intro p e s m ag below meth c A ls Q C0 hl hw hQ
  have C0 : cd_CX G cI cZ sa sb p s m ag meth c cX3_burnTrimmed 4 (some .int) wsX3_burnTrimmed RX3 A := C0
  obtain ⟨⟨hx, hb, hml, hown, hts⟩, hr, hlocks, hA, hE⟩ := id C0
  have hK := hE.1
  have hL0 := hts (.fieldLink RX3 18 "CandleDebts$Town" "draughts" "[I") (by decide +kernel)
  have hl : lv_has ls 4 [(0, .ref (h 0)), (1, .int a0), (2, .int a1)] := hl
  unfold f_X3_burnTrimmed at hf
  refine lv_iconst (v := (1 : Int32)) hx hb dX3_burnTrimmed_0 (by decide) ?_
  refine lv_aload_n hx hb dX3_burnTrimmed_1 rfl (lv_at hl 0 rfl) ?_
  refine va_get (D := G) (ci := 3) (v := .ref (h 3)) (C := RX3) (T := TX3) (N := 14) hx hb hts nw_X3_burnTrimmed_X3 hown hK hw.1 0 rfl rfl 2 (by decide) hL0 (fun _ h9 => h9) rfl dX3_burnTrimmed_2 ?_
  refine lv_iload_n hx hb dX3_burnTrimmed_5 rfl (lv_at hl 1 rfl) ?_
  obtain ⟨v1, e1, hf⟩ := cd_bind_some hf
  refine cd_iald hx hb hK hw 3 rfl e1 dX3_burnTrimmed_6 ?_
  refine lv_iadd hx hb dX3_burnTrimmed_7 ?_
  refine lv_iload_n hx hb dX3_burnTrimmed_8 rfl (lv_at hl 2 rfl) ?_
  refine lv_isub hx hb dX3_burnTrimmed_9 ?_
  refine lv_istore_n (lv' := [(3, .int (((1 : Int32) + v1) - a1)), (0, .ref (h 0)), (1, .int a0), (2, .int a1)]) hx hb dX3_burnTrimmed_10 rfl hl (by decide) rfl (fun ls hl => ?_)
  refine lv_iload_n hx hb dX3_burnTrimmed_11 rfl (lv_at hl 0 rfl) ?_
  refine lv_iconst (v := (1 : Int32)) hx hb dX3_burnTrimmed_12 (by decide) ?_
  obtain ⟨x2, e2, hf⟩ := cd_bind_some hf
  have K2 : ∀ (ls : Array Slot) (H : Heap) (locs : List Loc), lv_has ls 4 [] → cd_WS G A s.heap H locs ((pc_town cI h T)) → W p l e rm_X3_burnTrimmed s m ag below meth c H locs 0 0 Q (F0 m 21 ls [.int x2]) := by
    intro ls H locs hl hw
    have z : some x2 = some o := hf
    cases z
    rw [hQ]
    exact cd_reti C0 hw dX3_burnTrimmed_21
  refine lv_icmp_ge (tgt := 20) hx hb dX3_burnTrimmed_13 (by decide) (fun c2 => ?_) (fun c2 => ?_)
  · have e2 := cd_ite_t c2 e2
    refine lv_iload_n hx hb dX3_burnTrimmed_20 rfl (lv_at hl 0 rfl) ?_
    have z : some (((1 : Int32) + v1) - a1) = some x2 := e2
    cases z
    exact K2 _ _ _ (lv_sub hl [] rfl) hw
  · have e2 := cd_ite_f c2 e2
    refine lv_iconst (v := (1 : Int32)) hx hb dX3_burnTrimmed_16 (by decide) ?_
    refine lv_goto (tgt := 21) hx hb dX3_burnTrimmed_17 (by decide) ?_
    have z : some (1 : Int32) = some x2 := e2
    cases z
    exact K2 _ _ _ (lv_sub hl [] rfl) hw
abbrev rm_X3_burnOf : Room := { frames := 1, cells := 0, slots := 0, locals := 23 }
theorem nw_X3_burnOf_X3 : ∀ w ∈ u_ws RX3 TX3 14, w ∈ wsX3_burnOf := by decide +kernel
set_option maxHeartbeats 4000000 in
set_option maxRecDepth 100000 in
theorem c_X3_burnOf (l : Launch) (G : va_G) (cI cZ : ClassId) (sa sb : Nat) (h : Nat → Nat) (T : Nat → Nat → Int32) (a0 : Int32) (o : Int32) (hf : f_X3_burnOf a0 T = some o) : cd_Ct l G cI cZ sa sb yX3_burnOf wsX3_burnOf rm_X3_burnOf [.ref (h 0), .int a0] ((pc_town cI h T)) ((pc_town cI h T)) (some (.int o)) := by
  refine cd_of (cc := cX3_burnOf) (maxL := 2) (ret := (some .int)) (by decide) rfl (Nat.le_of_ble_eq_true rfl) ?_
  intro p e s m ag below meth c A ls Q C0 hl hw hQ
  have C0 : cd_CX G cI cZ sa sb p s m ag meth c cX3_burnOf 2 (some .int) wsX3_burnOf RX3 A := C0
  obtain ⟨⟨hx, hb, hml, hown, hts⟩, hr, hlocks, hA, hE⟩ := id C0
  have hK := hE.1
  have hL0 := hts (.fieldLink RX3 15 "CandleDebts$Town" "trimmed" "[I") (by decide +kernel)
  have hl : lv_has ls 2 [(0, .ref (h 0)), (1, .int a0)] := hl
  unfold f_X3_burnOf at hf
  refine lv_aload_n hx hb dX3_burnOf_0 rfl (lv_at hl 0 rfl) ?_
  refine lv_iload_n hx hb dX3_burnOf_1 rfl (lv_at hl 1 rfl) ?_
  refine lv_aload_n hx hb dX3_burnOf_2 rfl (lv_at hl 0 rfl) ?_
  refine va_get (D := G) (ci := 3) (v := .ref (h 2)) (C := RX3) (T := TX3) (N := 14) hx hb hts nw_X3_burnOf_X3 hown hK hw.1 0 rfl rfl 1 (by decide) hL0 (fun _ h9 => h9) rfl dX3_burnOf_3 ?_
  refine lv_iload_n hx hb dX3_burnOf_6 rfl (lv_at hl 1 rfl) ?_
  obtain ⟨v1, e1, hf⟩ := cd_bind_some hf
  refine cd_iald hx hb hK hw 2 rfl e1 dX3_burnOf_7 ?_
  obtain ⟨r2, e2, hf⟩ := cd_bind_some hf
  refine cd_callV (As := [.int a0, .int v1]) (rest := []) C0 hw (c_X3_burnTrimmed l G cI cZ sa sb h T a0 v1 r2 e2) [0, 1, 2, 3, 4, 5, 6, 7, 8, 9, 10] rfl rfl 0 3 rfl rfl rfl (cwV 2 hts gX3_burnOf_X3_burnTrimmed rfl rfl rfl (by decide +kernel) ⟨Nat.le_of_ble_eq_true rfl, Nat.le_of_ble_eq_true rfl⟩) rfl hl.1 (lv_room (Nat.le_of_ble_eq_true rfl)) dX3_burnOf_8 (fun H locs hw => ?_)
  have z : some r2 = some o := hf
  cases z
  rw [hQ]
  exact cd_reti C0 hw dX3_burnOf_11
abbrev rm_X3_passMinute : Room := { frames := 2, cells := 0, slots := 0, locals := 44 }
theorem nw_X3_passMinute_X3 : ∀ w ∈ u_ws RX3 TX3 14, w ∈ wsX3_passMinute := by decide +kernel
set_option maxHeartbeats 4000000 in
set_option maxRecDepth 100000 in
theorem c_X3_passMinute (l : Launch) (G : va_G) (cI cZ : ClassId) (sa sb : Nat) (h : Nat → Nat) (T : Nat → Nat → Int32) (o : Int32 × (Nat → Nat → Int32)) (hf : f_X3_passMinute T = some o) : cd_Ct l G cI cZ sa sb yX3_passMinute wsX3_passMinute rm_X3_passMinute [.ref (h 0)] ((pc_town cI h T)) ((pc_town cI h o.2)) (some (.int o.1)) := by
  refine cd_of (cc := cX3_passMinute) (maxL := 3) (ret := (some .int)) (by decide) rfl (Nat.le_of_ble_eq_true rfl) ?_
  intro p e s m ag below meth c A ls Q C0 hl hw hQ
  have C0 : cd_CX G cI cZ sa sb p s m ag meth c cX3_passMinute 3 (some .int) wsX3_passMinute RX3 A := C0
  obtain ⟨⟨hx, hb, hml, hown, hts⟩, hr, hlocks, hA, hE⟩ := id C0
  have hK := hE.1
  have hL0 := hts (.fieldLink RX3 62 "CandleDebts$Town" "minute" "I") (by decide +kernel)
  have hL1 := hts (.fieldLink RX3 9 "CandleDebts$Town" "wax" "[I") (by decide +kernel)
  have hL2 := hts (.methodLink RX3 102 Lib.Math.max.name) (by decide +kernel)
  have hL3 := hts (.static Lib.Math.max.name) (by decide +kernel)
  have hL4 := hts (.initialized "java/lang/Math") (by decide +kernel)
  have hL5 := hts (.code Lib.Math.max.name Lib.Math.max.code 2 (some .int)) (by decide +kernel)
  have hL6 := hts (.initialized RX5) (by decide +kernel)
  have hL7 := hts (.static yX5_bit) (by decide +kernel)
  have hL8 := hts (.fieldLink RX3 27 "CandleDebts$Town" "sums" "[I") (by decide +kernel)
  have hL9 := hts (.fieldLink RX3 59 "CandleDebts$Town" "lit" "I") (by decide +kernel)
  have hl : lv_has ls 3 [(0, .ref (h 0))] := hl
  unfold f_X3_passMinute at hf
  refine lv_aload_n hx hb dX3_passMinute_0 rfl (lv_at hl 0 rfl) ?_
  refine lv_dup hx hb dX3_passMinute_1 rfl ?_
  refine va_get (D := G) (ci := 3) (v := .int (T 13 0)) (C := RX3) (T := TX3) (N := 14) hx hb hts nw_X3_passMinute_X3 hown hK hw.1 0 rfl rfl 13 (by decide) hL0 (fun _ h9 => h9) rfl dX3_passMinute_2 ?_
  refine lv_iconst (v := (1 : Int32)) hx hb dX3_passMinute_5 (by decide) ?_
  refine lv_iadd hx hb dX3_passMinute_6 ?_
  refine va_put (D := G) (ci := 3) (v := .int ((T 13 0) + (1 : Int32))) (ty := .int) (C := RX3) (T := TX3) (N := 14) hx hb hts nw_X3_passMinute_X3 tyX3 tyX3_ok nmX3 hown hK hw.1 hw.2.1 hw.2.2 0 rfl rfl 13 (by decide) hL0 (fun _ h9 => h9) rfl (by decide +kernel) rfl rfl (Nat.le_of_ble_eq_true rfl) dX3_passMinute_7 (fun H locs hP hD hS => ?_)
  have hw : cd_WS G A s.heap H locs ((pc_town cI h (cd_fld T 13 ((T 13 0) + (1 : Int32))))) := ⟨hP, hD, hS⟩
  refine lv_iconst (v := (0 : Int32)) hx hb dX3_passMinute_10 (by decide) ?_
  refine lv_istore_n (lv' := [(1, .int (0 : Int32)), (0, .ref (h 0))]) hx hb dX3_passMinute_11 rfl hl (by decide) rfl (fun ls hl => ?_)
  refine lv_iconst (v := (0 : Int32)) hx hb dX3_passMinute_12 (by decide) ?_
  refine lv_istore_n (lv' := [(2, .int (0 : Int32)), (1, .int (0 : Int32)), (0, .ref (h 0))]) hx hb dX3_passMinute_13 rfl hl (by decide) rfl (fun ls hl => ?_)
  obtain ⟨x1, e1, hf⟩ := cd_bind_some hf
  have K1 : ∀ (t1 : Int32 × (Nat → Nat → Int32)), t1 = x1 → ∀ (ls : Array Slot) (H : Heap) (locs : List Loc), lv_has ls 3 [(0, .ref (h 0)), (1, .int t1.1)] → cd_WS G A s.heap H locs ((pc_town cI h t1.2)) → W p l e rm_X3_passMinute s m ag below meth c H locs 0 0 Q (F0 m 101 ls []) := by
    intro t1 hs_1
    subst hs_1
    intro ls H locs hl hw
    refine lv_aload_n hx hb dX3_passMinute_101 rfl (lv_at hl 0 rfl) ?_
    refine lv_dup hx hb dX3_passMinute_102 rfl ?_
    refine va_get (D := G) (ci := 3) (v := .int (t1.2 11 0)) (C := RX3) (T := TX3) (N := 14) hx hb hts nw_X3_passMinute_X3 hown hK hw.1 0 rfl rfl 11 (by decide) hL9 (fun _ h9 => h9) rfl dX3_passMinute_103 ?_
    refine lv_iload_n hx hb dX3_passMinute_106 rfl (lv_at hl 1 rfl) ?_
    refine lv_iconst (v := (-1 : Int32)) hx hb dX3_passMinute_107 (by decide) ?_
    refine lv_ixor hx hb dX3_passMinute_108 ?_
    refine lv_iand hx hb dX3_passMinute_109 ?_
    refine va_put (D := G) (ci := 3) (v := .int ((t1.2 11 0) &&& (t1.1 ^^^ (-1 : Int32)))) (ty := .int) (C := RX3) (T := TX3) (N := 14) hx hb hts nw_X3_passMinute_X3 tyX3 tyX3_ok nmX3 hown hK hw.1 hw.2.1 hw.2.2 0 rfl rfl 11 (by decide) hL9 (fun _ h9 => h9) rfl (by decide +kernel) rfl rfl (Nat.le_of_ble_eq_true rfl) dX3_passMinute_110 (fun H locs hP hD hS => ?_)
    have hw : cd_WS G A s.heap H locs ((pc_town cI h (cd_fld t1.2 11 ((t1.2 11 0) &&& (t1.1 ^^^ (-1 : Int32)))))) := ⟨hP, hD, hS⟩
    refine lv_iload_n hx hb dX3_passMinute_113 rfl (lv_at hl 1 rfl) ?_
    have z : some (t1.1, (cd_fld t1.2 11 ((t1.2 11 0) &&& (t1.1 ^^^ (-1 : Int32))))) = some o := hf
    cases z
    rw [hQ]
    exact cd_reti C0 hw dX3_passMinute_114
  refine cd_iter_ind (body := f_X3_passMinute_b14) (K := fun r => r = x1) (P := fun (z1 : Int32 × Int32 × (Nat → Nat → Int32)) => ∀ (ls : Array Slot) (H : Heap) (locs : List Loc), lv_has ls 3 [(0, .ref (h 0)), (1, .int z1.1), (2, .int z1.2.1)] → cd_WS G A s.heap H locs ((pc_town cI h z1.2.2)) → W p l e rm_X3_passMinute s m ag below meth c H locs 0 0 Q (F0 m 14 ls [])) ?_ cd_N ((0 : Int32), (0 : Int32), (cd_fld T 13 ((T 13 0) + (1 : Int32)))) x1 e1 rfl _ _ _ (lv_sub hl [2, 1, 0] rfl) hw
  intro z1 o1 hb1 hk1 ls H locs hl hw
  unfold f_X3_passMinute_b14 at hb1
  refine lv_iload_n hx hb dX3_passMinute_14 rfl (lv_at hl 2 rfl) ?_
  refine lv_bipush (v := (12 : Int32)) hx hb dX3_passMinute_15 (by decide) ?_
  refine lv_icmp_ge (tgt := 101) hx hb dX3_passMinute_17 (by decide) (fun c2 => ?_) (fun c2 => ?_)
  · have hb1 := cd_ite_t c2 hb1
    have z : some (Sum.inl (z1.1, z1.2.2)) = some o1 := hb1
    cases z
    exact K1 _ hk1 _ _ _ (lv_sub hl [0, 1] rfl) hw
  · have hb1 := cd_ite_f c2 hb1
    refine lv_aload_n hx hb dX3_passMinute_20 rfl (lv_at hl 0 rfl) ?_
    refine lv_iload_n hx hb dX3_passMinute_21 rfl (lv_at hl 2 rfl) ?_
    obtain ⟨r3, e3, hb1⟩ := cd_bind_some hb1
    refine cd_callV (As := [.int z1.2.1]) (rest := []) C0 hw (c_X3_isLit l G cI cZ sa sb h z1.2.2 z1.2.1 r3 e3) [0, 1, 2, 3, 4, 5, 6, 7, 8, 9, 10] rfl rfl 0 3 rfl rfl rfl (cwV 1 hts gX3_passMinute_X3_isLit rfl rfl rfl (by decide +kernel) ⟨Nat.le_of_ble_eq_true rfl, Nat.le_of_ble_eq_true rfl⟩) rfl hl.1 (lv_room (Nat.le_of_ble_eq_true rfl)) dX3_passMinute_22 (fun H locs hw => ?_)
    refine lv_if_eq (tgt := 95) hx hb dX3_passMinute_25 (by decide) (fun c4 => ?_) (fun c4 => ?_)
    · have hb1 := cd_ite_t c4 hb1
      refine lv_iinc (v := (z1.2.1 + (1 : Int32))) (lv' := [(2, .int (z1.2.1 + (1 : Int32))), (0, .ref (h 0)), (1, .int z1.1)]) hx hb dX3_passMinute_95 hl (k := 2) rfl rfl (by decide) rfl (fun ls hl => ?_)
      refine lv_goto (tgt := 14) hx hb dX3_passMinute_98 (by decide) ?_
      have z : some (Sum.inr (z1.1, (z1.2.1 + (1 : Int32)), z1.2.2)) = some o1 := hb1
      cases z
      exact hk1 _ _ _ (lv_sub hl [1, 2, 0] rfl) hw
    · have hb1 := cd_ite_f c4 hb1
      refine lv_aload_n hx hb dX3_passMinute_28 rfl (lv_at hl 0 rfl) ?_
      refine va_get (D := G) (ci := 3) (v := .ref (h 1)) (C := RX3) (T := TX3) (N := 14) hx hb hts nw_X3_passMinute_X3 hown hK hw.1 0 rfl rfl 0 (by decide) hL1 (fun _ h9 => h9) rfl dX3_passMinute_29 ?_
      refine lv_iload_n hx hb dX3_passMinute_32 rfl (lv_at hl 2 rfl) ?_
      refine lv_iconst (v := (0 : Int32)) hx hb dX3_passMinute_33 (by decide) ?_
      refine lv_aload_n hx hb dX3_passMinute_34 rfl (lv_at hl 0 rfl) ?_
      refine va_get (D := G) (ci := 3) (v := .ref (h 1)) (C := RX3) (T := TX3) (N := 14) hx hb hts nw_X3_passMinute_X3 hown hK hw.1 0 rfl rfl 0 (by decide) hL1 (fun _ h9 => h9) rfl dX3_passMinute_35 ?_
      refine lv_iload_n hx hb dX3_passMinute_38 rfl (lv_at hl 2 rfl) ?_
      obtain ⟨v5, e5, hb1⟩ := cd_bind_some hb1
      refine cd_iald hx hb hK hw 1 rfl e5 dX3_passMinute_39 ?_
      refine lv_aload_n hx hb dX3_passMinute_40 rfl (lv_at hl 0 rfl) ?_
      refine lv_iload_n hx hb dX3_passMinute_41 rfl (lv_at hl 2 rfl) ?_
      obtain ⟨r6, e6, hb1⟩ := cd_bind_some hb1
      refine cd_callV (As := [.int z1.2.1]) (rest := [.int v5, .int (0 : Int32), .int z1.2.1, .ref (h 1)]) C0 hw (c_X3_burnOf l G cI cZ sa sb h z1.2.2 z1.2.1 r6 e6) [0, 1, 2, 3, 4, 5, 6, 7, 8, 9, 10] rfl rfl 0 3 rfl rfl rfl (cwV 1 hts gX3_passMinute_X3_burnOf rfl rfl rfl (by decide +kernel) ⟨Nat.le_of_ble_eq_true rfl, Nat.le_of_ble_eq_true rfl⟩) rfl hl.1 (lv_room (Nat.le_of_ble_eq_true rfl)) dX3_passMinute_42 (fun H locs hw => ?_)
      refine lv_isub hx hb dX3_passMinute_45 ?_
      refine cd_mmax hx hb (hml.trans hl.1.symm) hown hL2 hL3 hL4 hL5 (Nat.le_of_ble_eq_true rfl) (Nat.le_of_ble_eq_true rfl) dX3_passMinute_46 ?_
      obtain ⟨j7, e7, hb1⟩ := cd_bind_some hb1
      refine cd_iast hx hb hK hw 1 rfl e7 dX3_passMinute_49 (fun H locs hw => ?_)
      have hw : cd_WS G A s.heap H locs ((pc_town cI h (cd_set z1.2.2 0 j7 (cd_max (0 : Int32) (v5 - r6))))) := hw
      refine lv_iload_n hx hb dX3_passMinute_50 rfl (lv_at hl 1 rfl) ?_
      refine lv_aload_n hx hb dX3_passMinute_51 rfl (lv_at hl 0 rfl) ?_
      refine va_get (D := G) (ci := 3) (v := .ref (h 1)) (C := RX3) (T := TX3) (N := 14) hx hb hts nw_X3_passMinute_X3 hown hK hw.1 0 rfl rfl 0 (by decide) hL1 (fun _ h9 => h9) rfl dX3_passMinute_52 ?_
      refine lv_iload_n hx hb dX3_passMinute_55 rfl (lv_at hl 2 rfl) ?_
      obtain ⟨v8, e8, hb1⟩ := cd_bind_some hb1
      refine cd_iald hx hb hK hw 1 rfl e8 dX3_passMinute_56 ?_
      obtain ⟨x9, e9, hb1⟩ := cd_bind_some hb1
      have K9 : ∀ (ls : Array Slot) (H : Heap) (locs : List Loc), lv_has ls 3 [(0, .ref (h 0)), (2, .int z1.2.1)] → cd_WS G A s.heap H locs ((pc_town cI h (cd_set z1.2.2 0 j7 (cd_max (0 : Int32) (v5 - r6))))) → W p l e rm_X3_passMinute s m ag below meth c H locs 0 0 Q (F0 m 68 ls [.int x9, .int z1.1]) := by
        intro ls H locs hl hw
        refine lv_ior hx hb dX3_passMinute_68 ?_
        refine lv_istore_n (lv' := [(1, .int (z1.1 ||| x9)), (0, .ref (h 0)), (2, .int z1.2.1)]) hx hb dX3_passMinute_69 rfl hl (by decide) rfl (fun ls hl => ?_)
        refine lv_aload_n hx hb dX3_passMinute_70 rfl (lv_at hl 1 rfl) ?_
        refine va_get (D := G) (ci := 3) (v := .ref (h 6)) (C := RX3) (T := TX3) (N := 14) hx hb hts nw_X3_passMinute_X3 hown hK hw.1 0 rfl rfl 5 (by decide) hL8 (fun _ h9 => h9) rfl dX3_passMinute_71 ?_
        refine lv_iload_n hx hb dX3_passMinute_74 rfl (lv_at hl 2 rfl) ?_
        refine lv_aload_n hx hb dX3_passMinute_75 rfl (lv_at hl 1 rfl) ?_
        refine va_get (D := G) (ci := 3) (v := .ref (h 1)) (C := RX3) (T := TX3) (N := 14) hx hb hts nw_X3_passMinute_X3 hown hK hw.1 0 rfl rfl 0 (by decide) hL1 (fun _ h9 => h9) rfl dX3_passMinute_76 ?_
        refine lv_iload_n hx hb dX3_passMinute_79 rfl (lv_at hl 2 rfl) ?_
        obtain ⟨v10, e10, hb1⟩ := cd_bind_some hb1
        refine cd_iald hx hb hK hw 1 rfl e10 dX3_passMinute_80 ?_
        obtain ⟨x11, e11, hb1⟩ := cd_bind_some hb1
        have K11 : ∀ (ls : Array Slot) (H : Heap) (locs : List Loc), lv_has ls 3 [(0, .ref (h 0)), (1, .int (z1.1 ||| x9)), (2, .int z1.2.1)] → cd_WS G A s.heap H locs ((pc_town cI h (cd_set z1.2.2 0 j7 (cd_max (0 : Int32) (v5 - r6))))) → W p l e rm_X3_passMinute s m ag below meth c H locs 0 0 Q (F0 m 94 ls [.int x11, .int z1.2.1, .ref (h 6)]) := by
          intro ls H locs hl hw
          obtain ⟨j12, e12, hb1⟩ := cd_bind_some hb1
          refine cd_iast hx hb hK hw 6 rfl e12 dX3_passMinute_94 (fun H locs hw => ?_)
          have hw : cd_WS G A s.heap H locs ((pc_town cI h (cd_set (cd_set z1.2.2 0 j7 (cd_max (0 : Int32) (v5 - r6))) 5 j12 x11))) := hw
          refine lv_iinc (v := (z1.2.1 + (1 : Int32))) (lv' := [(2, .int (z1.2.1 + (1 : Int32))), (0, .ref (h 0)), (1, .int (z1.1 ||| x9))]) hx hb dX3_passMinute_95 hl (k := 2) rfl rfl (by decide) rfl (fun ls hl => ?_)
          refine lv_goto (tgt := 14) hx hb dX3_passMinute_98 (by decide) ?_
          have z : some (Sum.inr ((z1.1 ||| x9), (z1.2.1 + (1 : Int32)), (cd_set (cd_set z1.2.2 0 j7 (cd_max (0 : Int32) (v5 - r6))) 5 j12 x11))) = some o1 := hb1
          cases z
          exact hk1 _ _ _ (lv_sub hl [1, 2, 0] rfl) hw
        refine lv_if_ne (tgt := 88) hx hb dX3_passMinute_81 (by decide) (fun c11 => ?_) (fun c11 => ?_)
        · have e11 := cd_ite_f c11 e11
          refine lv_aload_n hx hb dX3_passMinute_88 rfl (lv_at hl 1 rfl) ?_
          refine va_get (D := G) (ci := 3) (v := .ref (h 6)) (C := RX3) (T := TX3) (N := 14) hx hb hts nw_X3_passMinute_X3 hown hK hw.1 0 rfl rfl 5 (by decide) hL8 (fun _ h9 => h9) rfl dX3_passMinute_89 ?_
          refine lv_iload_n hx hb dX3_passMinute_92 rfl (lv_at hl 2 rfl) ?_
          obtain ⟨v13, e13, e11⟩ := cd_bind_some e11
          refine cd_iald hx hb hK hw 6 rfl e13 dX3_passMinute_93 ?_
          have z : some v13 = some x11 := e11
          cases z
          exact K11 _ _ _ (lv_sub hl [1, 0, 2] rfl) hw
        · have e11 := cd_ite_t c11 e11
          refine lv_iconst (v := (0 : Int32)) hx hb dX3_passMinute_84 (by decide) ?_
          refine lv_goto (tgt := 94) hx hb dX3_passMinute_85 (by decide) ?_
          have z : some (0 : Int32) = some x11 := e11
          cases z
          exact K11 _ _ _ (lv_sub hl [1, 0, 2] rfl) hw
      refine lv_if_ne (tgt := 67) hx hb dX3_passMinute_57 (by decide) (fun c9 => ?_) (fun c9 => ?_)
      · have e9 := cd_ite_f c9 e9
        refine lv_iconst (v := (0 : Int32)) hx hb dX3_passMinute_67 (by decide) ?_
        have z : some (0 : Int32) = some x9 := e9
        cases z
        exact K9 _ _ _ (lv_sub hl [0, 2] rfl) hw
      · have e9 := cd_ite_t c9 e9
        refine lv_iload_n hx hb dX3_passMinute_60 rfl (lv_at hl 2 rfl) ?_
        obtain ⟨r14, e14, e9⟩ := cd_bind_some e9
        refine cd_callSN (As := [.int z1.2.1]) (rest := [.int z1.1]) C0 hw (c_X5_bit l G cI cZ sa sb z1.2.1 r14 e14) [] rfl rfl ⟨va_cnB 1 hts ggX3_passMinute_X5_bit rfl rfl rfl (hE.2.1 (.methodLinkNest RX3 46 yX5_bit RX5) (by simp [cd_nest])) hL6 (by decide +kernel) ⟨Nat.le_of_ble_eq_true rfl, Nat.le_of_ble_eq_true rfl⟩, hL7, trivial⟩ rfl hl.1 (lv_room (Nat.le_of_ble_eq_true rfl)) dX3_passMinute_61 (fun H locs hw => ?_)
        refine lv_goto (tgt := 68) hx hb dX3_passMinute_64 (by decide) ?_
        have z : some r14 = some x9 := e9
        cases z
        exact K9 _ _ _ (lv_sub hl [0, 2] rfl) hw
abbrev rm_X1_noteOut : Room := { frames := 1, cells := 0, slots := 0, locals := 21 }
theorem nw_X1_noteOut_X1 : ∀ w ∈ u_ws RX1 TX1 6, w ∈ wsX1_noteOut := by decide +kernel
set_option maxHeartbeats 4000000 in
set_option maxRecDepth 100000 in
theorem c_X1_noteOut (l : Launch) (G : va_G) (cI cZ : ClassId) (sa sb : Nat) (h hs : Nat → Nat) (Y : Nat → Nat → Int32) (a0 : Int32) (o : (Nat → Nat → Int32)) (hf : f_X1_noteOut a0 Y = some o) : cd_Ct l G cI cZ sa sb yX1_noteOut wsX1_noteOut rm_X1_noteOut [.ref (h 0), .int a0] ((pc_play h hs Y)) ((pc_play h hs o)) none := by
  refine cd_of (cc := cX1_noteOut) (maxL := 3) (ret := none) (by decide) rfl (Nat.le_of_ble_eq_true rfl) ?_
  intro p e s m ag below meth c A ls Q C0 hl hw hQ
  have C0 : cd_CX G cI cZ sa sb p s m ag meth c cX1_noteOut 3 none wsX1_noteOut RX1 A := C0
  obtain ⟨⟨hx, hb, hml, hown, hts⟩, hr, hlocks, hA, hE⟩ := id C0
  have hK := hE.1
  have hL0 := hts (.fieldLink RX1 32 "CandleDebts$Play" "outAct" "I") (by decide +kernel)
  have hL1 := hts (.initialized RX5) (by decide +kernel)
  have hL2 := hts (.static yX5_holds) (by decide +kernel)
  have hL3 := hts (.fieldLink RX1 22 "CandleDebts$Play" "acts" "I") (by decide +kernel)
  have hL4 := hts (.fieldLink RX1 35 "CandleDebts$Play" "outCandle" "I") (by decide +kernel)
  have hl : lv_has ls 3 [(0, .ref (h 0)), (1, .int a0)] := hl
  unfold f_X1_noteOut at hf
  refine lv_aload_n hx hb dX1_noteOut_0 rfl (lv_at hl 0 rfl) ?_
  refine va_get (D := G) (ci := 1) (v := .int (Y 4 0)) (C := RX1) (T := TX1) (N := 6) hx hb hts nw_X1_noteOut_X1 hown hK hw.1 0 rfl rfl 4 (by decide) hL0 (fun _ h9 => h9) rfl dX1_noteOut_1 ?_
  refine lv_bipush (v := (-6 : Int32)) hx hb dX1_noteOut_4 (by decide) ?_
  refine lv_icmp_eq (tgt := 10) hx hb dX1_noteOut_6 (by decide) (fun c1 => ?_) (fun c1 => ?_)
  · have hf := cd_ite_t c1 hf
    refine lv_iconst (v := (0 : Int32)) hx hb dX1_noteOut_10 (by decide) ?_
    refine lv_istore_n (lv' := [(2, .int (0 : Int32)), (0, .ref (h 0)), (1, .int a0)]) hx hb dX1_noteOut_11 rfl hl (by decide) rfl (fun ls hl => ?_)
    obtain ⟨x2, e2, hf⟩ := cd_bind_some hf
    have K2 : ∀ (t2 : Unit), Sum.inr t2 = x2 → ∀ (ls : Array Slot) (H : Heap) (locs : List Loc), lv_has ls 3 [] → cd_WS G A s.heap H locs ((pc_play h hs Y)) → W p l e rm_X1_noteOut s m ag below meth c H locs 0 0 Q (F0 m 46 ls []) := by
      intro t2 hs_2
      subst hs_2
      intro ls H locs hl hw
      have z : some Y = some o := hf
      cases z
      rw [hQ]
      exact cd_retv C0 hw dX1_noteOut_46
    refine cd_iter_ind (body := (f_X1_noteOut_b12 a0 Y)) (K := fun r => r = x2) (P := fun (z2 : Int32) => ∀ (ls : Array Slot) (H : Heap) (locs : List Loc), lv_has ls 3 [(0, .ref (h 0)), (1, .int a0), (2, .int z2)] → cd_WS G A s.heap H locs ((pc_play h hs Y)) → W p l e rm_X1_noteOut s m ag below meth c H locs 0 0 Q (F0 m 12 ls [])) ?_ cd_N (0 : Int32) x2 e2 rfl _ _ _ (lv_sub hl [1, 2, 0] rfl) hw
    intro z2 o2 hb2 hk2 ls H locs hl hw
    unfold f_X1_noteOut_b12 at hb2
    refine lv_iload_n hx hb dX1_noteOut_12 rfl (lv_at hl 2 rfl) ?_
    refine lv_bipush (v := (12 : Int32)) hx hb dX1_noteOut_13 (by decide) ?_
    refine lv_icmp_ge (tgt := 46) hx hb dX1_noteOut_15 (by decide) (fun c3 => ?_) (fun c3 => ?_)
    · have hb2 := cd_ite_t c3 hb2
      have z : some (Sum.inl (Sum.inr ())) = some o2 := hb2
      cases z
      exact K2 _ hk2 _ _ _ (lv_sub hl [] rfl) hw
    · have hb2 := cd_ite_f c3 hb2
      refine lv_iload_n hx hb dX1_noteOut_18 rfl (lv_at hl 1 rfl) ?_
      refine lv_iload_n hx hb dX1_noteOut_19 rfl (lv_at hl 2 rfl) ?_
      obtain ⟨r4, e4, hb2⟩ := cd_bind_some hb2
      refine cd_callSN (As := [.int a0, .int z2]) (rest := []) C0 hw (c_X5_holds l G cI cZ sa sb a0 z2 r4 e4) [] rfl rfl ⟨va_cnB 2 hts ggX1_noteOut_X5_holds rfl rfl rfl (hE.2.1 (.methodLinkNest RX1 106 yX5_holds RX5) (by simp [cd_nest])) hL1 (by decide +kernel) ⟨Nat.le_of_ble_eq_true rfl, Nat.le_of_ble_eq_true rfl⟩, hL2, trivial⟩ rfl hl.1 (lv_room (Nat.le_of_ble_eq_true rfl)) dX1_noteOut_20 (fun H locs hw => ?_)
      refine lv_if_eq (tgt := 40) hx hb dX1_noteOut_23 (by decide) (fun c5 => ?_) (fun c5 => ?_)
      · have hb2 := cd_ite_t c5 hb2
        refine lv_iinc (v := (z2 + (1 : Int32))) (lv' := [(2, .int (z2 + (1 : Int32))), (0, .ref (h 0)), (1, .int a0)]) hx hb dX1_noteOut_40 hl (k := 2) rfl rfl (by decide) rfl (fun ls hl => ?_)
        refine lv_goto (tgt := 12) hx hb dX1_noteOut_43 (by decide) ?_
        have z : some (Sum.inr (z2 + (1 : Int32))) = some o2 := hb2
        cases z
        exact hk2 _ _ _ (lv_sub hl [1, 2, 0] rfl) hw
      · have hb2 := cd_ite_f c5 hb2
        refine lv_aload_n hx hb dX1_noteOut_26 rfl (lv_at hl 0 rfl) ?_
        refine lv_aload_n hx hb dX1_noteOut_27 rfl (lv_at hl 0 rfl) ?_
        refine va_get (D := G) (ci := 1) (v := .int (Y 1 0)) (C := RX1) (T := TX1) (N := 6) hx hb hts nw_X1_noteOut_X1 hown hK hw.1 0 rfl rfl 1 (by decide) hL3 (fun _ h9 => h9) rfl dX1_noteOut_28 ?_
        refine va_put (D := G) (ci := 1) (v := .int (Y 1 0)) (ty := .int) (C := RX1) (T := TX1) (N := 6) hx hb hts nw_X1_noteOut_X1 tyX1 tyX1_ok nmX1 hown hK hw.1 hw.2.1 hw.2.2 0 rfl rfl 4 (by decide) hL0 (fun _ h9 => h9) rfl (by decide +kernel) rfl rfl (Nat.le_of_ble_eq_true rfl) dX1_noteOut_31 (fun H locs hP hD hS => ?_)
        have hw : cd_WS G A s.heap H locs ((pc_play h hs (cd_fld Y 4 (Y 1 0)))) := ⟨hP, hD, hS⟩
        refine lv_aload_n hx hb dX1_noteOut_34 rfl (lv_at hl 0 rfl) ?_
        refine lv_iload_n hx hb dX1_noteOut_35 rfl (lv_at hl 2 rfl) ?_
        refine va_put (D := G) (ci := 1) (v := .int z2) (ty := .int) (C := RX1) (T := TX1) (N := 6) hx hb hts nw_X1_noteOut_X1 tyX1 tyX1_ok nmX1 hown hK hw.1 hw.2.1 hw.2.2 0 rfl rfl 5 (by decide) hL4 (fun _ h9 => h9) rfl (by decide +kernel) rfl rfl (Nat.le_of_ble_eq_true rfl) dX1_noteOut_36 (fun H locs hP hD hS => ?_)
        have hw : cd_WS G A s.heap H locs ((pc_play h hs (cd_fld (cd_fld Y 4 (Y 1 0)) 5 z2))) := ⟨hP, hD, hS⟩
        have z : some (Sum.inl (Sum.inl (cd_fld (cd_fld Y 4 (Y 1 0)) 5 z2))) = some o2 := hb2
        cases z
        have y2 : Sum.inl (cd_fld (cd_fld Y 4 (Y 1 0)) 5 z2) = x2 := hk2
        subst y2
        have z : some (cd_fld (cd_fld Y 4 (Y 1 0)) 5 z2) = some o := hf
        cases z
        rw [hQ]
        exact cd_retv C0 hw dX1_noteOut_39
  · have hf := cd_ite_f c1 hf
    have z : some Y = some o := hf
    cases z
    rw [hQ]
    exact cd_retv C0 hw dX1_noteOut_9
abbrev rm_X1_attempt : Room := { frames := 4, cells := 0, slots := 0, locals := 87 }
theorem nw_X1_attempt_X1 : ∀ w ∈ u_ws RX1 TX1 6, w ∈ wsX1_attempt := by decide +kernel
theorem nw_X1_attempt_X3 : ∀ w ∈ u_ws RX3 TX3 14, w ∈ wsX1_attempt := by decide +kernel
set_option maxHeartbeats 4000000 in
set_option maxRecDepth 100000 in
theorem c_X1_attempt (l : Launch) (G : va_G) (cI cZ : ClassId) (sa sb : Nat) (h hs : Nat → Nat) (Y S : Nat → Nat → Int32) (a0 : Int32) (a1 : Int32) (a2 : Int32) (o : Int32 × (Nat → Nat → Int32) × (Nat → Nat → Int32)) (hf : f_X1_attempt a0 a1 a2 Y S = some o) : cd_Ct l G cI cZ sa sb yX1_attempt wsX1_attempt rm_X1_attempt [.ref (h 0), .int a0, .int a1, .int a2] ((pc_play h hs Y) ++ (pc_town cI hs S)) ((pc_play h hs o.2.1) ++ (pc_town cI hs o.2.2)) (some (.int o.1)) := by
  refine cd_of (cc := cX1_attempt) (maxL := 4) (ret := (some .boolean)) (by decide) rfl (Nat.le_of_ble_eq_true rfl) ?_
  intro p e s m ag below meth c A ls Q C0 hl hw hQ
  have C0 : cd_CX G cI cZ sa sb p s m ag meth c cX1_attempt 4 (some .boolean) wsX1_attempt RX1 A := C0
  obtain ⟨⟨hx, hb, hml, hown, hts⟩, hr, hlocks, hA, hE⟩ := id C0
  have hK := hE.1
  have hL0 := hts (.fieldLink RX1 12 "CandleDebts$Play" "scene" "LCandleDebts$Town;") (by decide +kernel)
  have hL1 := hts (.fieldLink RX1 26 "CandleDebts$Play" "why" "I") (by decide +kernel)
  have hL2 := hts (.fieldLink RX1 29 "CandleDebts$Play" "paid" "I") (by decide +kernel)
  have hL3 := hts (.fieldLink RX1 89 "CandleDebts$Town" "trimmed" "[I") (by decide +kernel)
  have hL4 := hts (.fieldLink RX1 96 "CandleDebts$Town" "draughts" "[I") (by decide +kernel)
  have hL5 := hts (.fieldLink RX1 22 "CandleDebts$Play" "acts" "I") (by decide +kernel)
  have hl : lv_has ls 4 [(0, .ref (h 0)), (1, .int a0), (2, .int a1), (3, .int a2)] := hl
  unfold f_X1_attempt at hf
  refine lv_aload_n hx hb dX1_attempt_0 rfl (lv_at hl 0 rfl) ?_
  refine lv_aload_n hx hb dX1_attempt_1 rfl (lv_at hl 0 rfl) ?_
  refine va_get (D := G) (ci := 1) (v := .ref (hs 0)) (C := RX1) (T := TX1) (N := 6) hx hb hts nw_X1_attempt_X1 hown hK hw.1 0 rfl rfl 0 (by decide) hL0 (fun _ h9 => h9) rfl dX1_attempt_2 ?_
  refine lv_iload_n hx hb dX1_attempt_5 rfl (lv_at hl 1 rfl) ?_
  refine lv_iload_n hx hb dX1_attempt_6 rfl (lv_at hl 2 rfl) ?_
  refine lv_iload_n hx hb dX1_attempt_7 rfl (lv_at hl 3 rfl) ?_
  obtain ⟨r1, e1, hf⟩ := cd_bind_some hf
  refine cd_callV (As := [.int a0, .int a1, .int a2]) (rest := [.ref (h 0)]) C0 hw (c_X3_reasonAgainst l G cI cZ sa sb hs S a0 a1 a2 r1 e1) [1, 2, 3, 4, 5, 6, 7, 8, 9, 10, 11] rfl rfl 0 3 rfl rfl rfl (cwV 3 hts gX1_attempt_X3_reasonAgainst rfl rfl rfl (by decide +kernel) ⟨Nat.le_of_ble_eq_true rfl, Nat.le_of_ble_eq_true rfl⟩) rfl hl.1 (lv_room (Nat.le_of_ble_eq_true rfl)) dX1_attempt_8 (fun H locs hw => ?_)
  refine va_put (D := G) (ci := 1) (v := .int r1) (ty := .int) (C := RX1) (T := TX1) (N := 6) hx hb hts nw_X1_attempt_X1 tyX1 tyX1_ok nmX1 hown hK hw.1 hw.2.1 hw.2.2 0 rfl rfl 2 (by decide) hL1 (fun _ h9 => h9) rfl (by decide +kernel) rfl rfl (Nat.le_of_ble_eq_true rfl) dX1_attempt_11 (fun H locs hP hD hS => ?_)
  have hw : cd_WS G A s.heap H locs ((pc_play h hs (cd_fld Y 2 r1)) ++ (pc_town cI hs S)) := ⟨hP, hD, hS⟩
  refine lv_aload_n hx hb dX1_attempt_14 rfl (lv_at hl 0 rfl) ?_
  refine va_get (D := G) (ci := 1) (v := .int r1) (C := RX1) (T := TX1) (N := 6) hx hb hts nw_X1_attempt_X1 hown hK hw.1 0 rfl rfl 2 (by decide) hL1 (fun _ h9 => h9) rfl dX1_attempt_15 ?_
  refine lv_if_eq (tgt := 23) hx hb dX1_attempt_18 (by decide) (fun c2 => ?_) (fun c2 => ?_)
  · have hf := cd_ite_t c2 hf
    refine lv_iload_n hx hb dX1_attempt_23 rfl (lv_at hl 1 rfl) ?_
    obtain ⟨x3, e3, hf⟩ := cd_bind_some hf
    have K3 : ∀ (ls : Array Slot) (H : Heap) (locs : List Loc), lv_has ls 4 [(0, .ref (h 0))] → cd_WS G A s.heap H locs ((pc_play h hs x3.1) ++ (pc_town cI hs x3.2)) → W p l e rm_X1_attempt s m ag below meth c H locs 0 0 Q (F0 m 178 ls []) := by
      intro ls H locs hl hw
      refine lv_aload_n hx hb dX1_attempt_178 rfl (lv_at hl 0 rfl) ?_
      refine lv_dup hx hb dX1_attempt_179 rfl ?_
      refine va_get (D := G) (ci := 1) (v := .int (x3.1 1 0)) (C := RX1) (T := TX1) (N := 6) hx hb hts nw_X1_attempt_X1 hown hK hw.1 0 rfl rfl 1 (by decide) hL5 (fun _ h9 => h9) rfl dX1_attempt_180 ?_
      refine lv_iconst (v := (1 : Int32)) hx hb dX1_attempt_183 (by decide) ?_
      refine lv_iadd hx hb dX1_attempt_184 ?_
      refine va_put (D := G) (ci := 1) (v := .int ((x3.1 1 0) + (1 : Int32))) (ty := .int) (C := RX1) (T := TX1) (N := 6) hx hb hts nw_X1_attempt_X1 tyX1 tyX1_ok nmX1 hown hK hw.1 hw.2.1 hw.2.2 0 rfl rfl 1 (by decide) hL5 (fun _ h9 => h9) rfl (by decide +kernel) rfl rfl (Nat.le_of_ble_eq_true rfl) dX1_attempt_185 (fun H locs hP hD hS => ?_)
      have hw : cd_WS G A s.heap H locs ((pc_play h hs (cd_fld x3.1 1 ((x3.1 1 0) + (1 : Int32)))) ++ (pc_town cI hs x3.2)) := ⟨hP, hD, hS⟩
      refine lv_iconst (v := (1 : Int32)) hx hb dX1_attempt_188 (by decide) ?_
      have z : some ((1 : Int32), (cd_fld x3.1 1 ((x3.1 1 0) + (1 : Int32))), x3.2) = some o := hf
      cases z
      rw [hQ]
      exact cd_retz C0 hw (by decide) dX1_attempt_189
    by_cases c3_0 : a0 = (33 : Int32)
    · have e3 := cd_ite_t c3_0 e3
      refine lv_lookup (off := 82) (tgt := 106) hx hb dX1_attempt_24 (by decide) (by rw [c3_0]; decide) (by decide) ?_
      refine lv_aload_n hx hb dX1_attempt_106 rfl (lv_at hl 0 rfl) ?_
      refine lv_dup hx hb dX1_attempt_107 rfl ?_
      refine va_get (D := G) (ci := 1) (v := .int (Y 3 0)) (C := RX1) (T := TX1) (N := 6) hx hb hts nw_X1_attempt_X1 hown hK hw.1 0 rfl rfl 3 (by decide) hL2 (fun _ h9 => h9) rfl dX1_attempt_108 ?_
      refine lv_aload_n hx hb dX1_attempt_111 rfl (lv_at hl 0 rfl) ?_
      refine va_get (D := G) (ci := 1) (v := .ref (hs 0)) (C := RX1) (T := TX1) (N := 6) hx hb hts nw_X1_attempt_X1 hown hK hw.1 0 rfl rfl 0 (by decide) hL0 (fun _ h9 => h9) rfl dX1_attempt_112 ?_
      refine lv_iload_n hx hb dX1_attempt_115 rfl (lv_at hl 2 rfl) ?_
      obtain ⟨r4, e4, e3⟩ := cd_bind_some e3
      refine cd_callVw (As := [.int a1]) (rest := [.int (Y 3 0), .ref (h 0)]) (wr := (pc_play h hs (cd_fld Y 2 r1))) (wn := (pc_play h hs (cd_fld Y 2 r1)) ++ (pc_town cI hs r4.2)) C0 hw (c_X3_pay l G cI cZ sa sb hs S a1 r4 e4) [1, 2, 3, 4, 5, 6, 7, 8, 9, 10, 11] [0] [0, 1, 2, 3, 4, 5, 6, 7, 8, 9, 10, 11] rfl rfl rfl rfl (by decide) rfl rfl 0 3 rfl rfl rfl (cwV 1 hts gX1_attempt_X3_pay rfl rfl rfl (by decide +kernel) ⟨Nat.le_of_ble_eq_true rfl, Nat.le_of_ble_eq_true rfl⟩) rfl hl.1 (lv_room (Nat.le_of_ble_eq_true rfl)) dX1_attempt_116 (fun H locs hw => ?_)
      refine lv_iadd hx hb dX1_attempt_119 ?_
      refine va_put (D := G) (ci := 1) (v := .int ((Y 3 0) + r4.1)) (ty := .int) (C := RX1) (T := TX1) (N := 6) hx hb hts nw_X1_attempt_X1 tyX1 tyX1_ok nmX1 hown hK hw.1 hw.2.1 hw.2.2 0 rfl rfl 3 (by decide) hL2 (fun _ h9 => h9) rfl (by decide +kernel) rfl rfl (Nat.le_of_ble_eq_true rfl) dX1_attempt_120 (fun H locs hP hD hS => ?_)
      have hw : cd_WS G A s.heap H locs ((pc_play h hs (cd_fld (cd_fld Y 2 r1) 3 ((Y 3 0) + r4.1))) ++ (pc_town cI hs r4.2)) := ⟨hP, hD, hS⟩
      refine lv_goto (tgt := 178) hx hb dX1_attempt_123 (by decide) ?_
      have z : some ((cd_fld (cd_fld Y 2 r1) 3 ((Y 3 0) + r4.1)), r4.2) = some x3 := e3
      cases z
      exact K3 _ _ _ (lv_sub hl [0] rfl) hw
    · have e3 := cd_ite_f c3_0 e3
      by_cases c3_1 : a0 = (42 : Int32)
      · have e3 := cd_ite_t c3_1 e3
        refine lv_lookup (off := 60) (tgt := 84) hx hb dX1_attempt_24 (by decide) (by rw [c3_1]; decide) (by decide) ?_
        refine lv_aload_n hx hb dX1_attempt_84 rfl (lv_at hl 0 rfl) ?_
        refine va_get (D := G) (ci := 1) (v := .ref (hs 0)) (C := RX1) (T := TX1) (N := 6) hx hb hts nw_X1_attempt_X1 hown hK hw.1 0 rfl rfl 0 (by decide) hL0 (fun _ h9 => h9) rfl dX1_attempt_85 ?_
        refine lv_iload_n hx hb dX1_attempt_88 rfl (lv_at hl 2 rfl) ?_
        obtain ⟨r5, e5, e3⟩ := cd_bind_some e3
        refine cd_callVw (As := [.int a1]) (rest := []) (wr := (pc_play h hs (cd_fld Y 2 r1))) (wn := (pc_play h hs (cd_fld Y 2 r1)) ++ (pc_town cI hs r5)) C0 hw (c_X3_lightByMatch l G cI cZ sa sb hs S a1 r5 e5) [1, 2, 3, 4, 5, 6, 7, 8, 9, 10, 11] [0] [0, 1, 2, 3, 4, 5, 6, 7, 8, 9, 10, 11] rfl rfl rfl rfl (by decide) rfl rfl 0 3 rfl rfl rfl (cwV 1 hts gX1_attempt_X3_lightByMatch rfl rfl rfl (by decide +kernel) ⟨Nat.le_of_ble_eq_true rfl, Nat.le_of_ble_eq_true rfl⟩) rfl hl.1 (lv_room (Nat.le_of_ble_eq_true rfl)) dX1_attempt_89 (fun H locs hw => ?_)
        refine lv_goto (tgt := 178) hx hb dX1_attempt_92 (by decide) ?_
        have z : some ((cd_fld Y 2 r1), r5) = some x3 := e3
        cases z
        exact K3 _ _ _ (lv_sub hl [0] rfl) hw
      · have e3 := cd_ite_f c3_1 e3
        by_cases c3_2 : a0 = (45 : Int32)
        · have e3 := cd_ite_t c3_2 e3
          refine lv_lookup (off := 71) (tgt := 95) hx hb dX1_attempt_24 (by decide) (by rw [c3_2]; decide) (by decide) ?_
          refine lv_aload_n hx hb dX1_attempt_95 rfl (lv_at hl 0 rfl) ?_
          refine va_get (D := G) (ci := 1) (v := .ref (hs 0)) (C := RX1) (T := TX1) (N := 6) hx hb hts nw_X1_attempt_X1 hown hK hw.1 0 rfl rfl 0 (by decide) hL0 (fun _ h9 => h9) rfl dX1_attempt_96 ?_
          refine lv_iload_n hx hb dX1_attempt_99 rfl (lv_at hl 2 rfl) ?_
          obtain ⟨r6, e6, e3⟩ := cd_bind_some e3
          refine cd_callVw (As := [.int a1]) (rest := []) (wr := (pc_play h hs (cd_fld Y 2 r1))) (wn := (pc_play h hs (cd_fld Y 2 r1)) ++ (pc_town cI hs r6)) C0 hw (c_X3_putOut l G cI cZ sa sb hs S a1 r6 e6) [1, 2, 3, 4, 5, 6, 7, 8, 9, 10, 11] [0] [0, 1, 2, 3, 4, 5, 6, 7, 8, 9, 10, 11] rfl rfl rfl rfl (by decide) rfl rfl 0 3 rfl rfl rfl (cwV 1 hts gX1_attempt_X3_putOut rfl rfl rfl (by decide +kernel) ⟨Nat.le_of_ble_eq_true rfl, Nat.le_of_ble_eq_true rfl⟩) rfl hl.1 (lv_room (Nat.le_of_ble_eq_true rfl)) dX1_attempt_100 (fun H locs hw => ?_)
          refine lv_goto (tgt := 178) hx hb dX1_attempt_103 (by decide) ?_
          have z : some ((cd_fld Y 2 r1), r6) = some x3 := e3
          cases z
          exact K3 _ _ _ (lv_sub hl [0] rfl) hw
        · have e3 := cd_ite_f c3_2 e3
          by_cases c3_3 : a0 = (62 : Int32)
          · have e3 := cd_ite_t c3_3 e3
            refine lv_lookup (off := 118) (tgt := 142) hx hb dX1_attempt_24 (by decide) (by rw [c3_3]; decide) (by decide) ?_
            refine lv_aload_n hx hb dX1_attempt_142 rfl (lv_at hl 0 rfl) ?_
            refine va_get (D := G) (ci := 1) (v := .ref (hs 0)) (C := RX1) (T := TX1) (N := 6) hx hb hts nw_X1_attempt_X1 hown hK hw.1 0 rfl rfl 0 (by decide) hL0 (fun _ h9 => h9) rfl dX1_attempt_143 ?_
            refine lv_iload_n hx hb dX1_attempt_146 rfl (lv_at hl 2 rfl) ?_
            refine lv_iload_n hx hb dX1_attempt_147 rfl (lv_at hl 3 rfl) ?_
            obtain ⟨r7, e7, e3⟩ := cd_bind_some e3
            refine cd_callVw (As := [.int a1, .int a2]) (rest := []) (wr := (pc_play h hs (cd_fld Y 2 r1))) (wn := (pc_play h hs (cd_fld Y 2 r1)) ++ (pc_town cI hs r7)) C0 hw (c_X3_lightFrom l G cI cZ sa sb hs S a1 a2 r7 e7) [1, 2, 3, 4, 5, 6, 7, 8, 9, 10, 11] [0] [0, 1, 2, 3, 4, 5, 6, 7, 8, 9, 10, 11] rfl rfl rfl rfl (by decide) rfl rfl 0 3 rfl rfl rfl (cwV 2 hts gX1_attempt_X3_lightFrom rfl rfl rfl (by decide +kernel) ⟨Nat.le_of_ble_eq_true rfl, Nat.le_of_ble_eq_true rfl⟩) rfl hl.1 (lv_room (Nat.le_of_ble_eq_true rfl)) dX1_attempt_148 (fun H locs hw => ?_)
            refine lv_goto (tgt := 178) hx hb dX1_attempt_151 (by decide) ?_
            have z : some ((cd_fld Y 2 r1), r7) = some x3 := e3
            cases z
            exact K3 _ _ _ (lv_sub hl [0] rfl) hw
          · have e3 := cd_ite_f c3_3 e3
            by_cases c3_4 : a0 = (94 : Int32)
            · have e3 := cd_ite_t c3_4 e3
              refine lv_lookup (off := 102) (tgt := 126) hx hb dX1_attempt_24 (by decide) (by rw [c3_4]; decide) (by decide) ?_
              refine lv_aload_n hx hb dX1_attempt_126 rfl (lv_at hl 0 rfl) ?_
              refine va_get (D := G) (ci := 1) (v := .ref (hs 0)) (C := RX1) (T := TX1) (N := 6) hx hb hts nw_X1_attempt_X1 hown hK hw.1 0 rfl rfl 0 (by decide) hL0 (fun _ h9 => h9) rfl dX1_attempt_127 ?_
              refine va_get (D := G) (ci := 3) (v := .ref (hs 2)) (C := RX3) (T := TX3) (N := 14) hx hb hts nw_X1_attempt_X3 hown hK hw.1 1 rfl rfl 1 (by decide) hL3 (fun _ h9 => h9) rfl dX1_attempt_130 ?_
              refine lv_iload_n hx hb dX1_attempt_133 rfl (lv_at hl 2 rfl) ?_
              refine lv_dup2_11 hx hb dX1_attempt_134 rfl rfl ?_
              obtain ⟨v8, e8, e3⟩ := cd_bind_some e3
              refine cd_iald hx hb hK hw 3 rfl e8 dX1_attempt_135 ?_
              refine lv_iconst (v := (1 : Int32)) hx hb dX1_attempt_136 (by decide) ?_
              refine lv_iadd hx hb dX1_attempt_137 ?_
              obtain ⟨j9, e9, e3⟩ := cd_bind_some e3
              refine cd_iast hx hb hK hw 3 rfl e9 dX1_attempt_138 (fun H locs hw => ?_)
              have hw : cd_WS G A s.heap H locs ((pc_play h hs (cd_fld Y 2 r1)) ++ (pc_town cI hs (cd_set S 1 j9 (v8 + (1 : Int32))))) := hw
              refine lv_goto (tgt := 178) hx hb dX1_attempt_139 (by decide) ?_
              have z : some ((cd_fld Y 2 r1), (cd_set S 1 j9 (v8 + (1 : Int32)))) = some x3 := e3
              cases z
              exact K3 _ _ _ (lv_sub hl [0] rfl) hw
            · have e3 := cd_ite_f c3_4 e3
              by_cases c3_5 : a0 = (119 : Int32)
              · have e3 := cd_ite_t c3_5 e3
                refine lv_lookup (off := 130) (tgt := 154) hx hb dX1_attempt_24 (by decide) (by rw [c3_5]; decide) (by decide) ?_
                refine lv_aload_n hx hb dX1_attempt_154 rfl (lv_at hl 0 rfl) ?_
                refine va_get (D := G) (ci := 1) (v := .ref (hs 0)) (C := RX1) (T := TX1) (N := 6) hx hb hts nw_X1_attempt_X1 hown hK hw.1 0 rfl rfl 0 (by decide) hL0 (fun _ h9 => h9) rfl dX1_attempt_155 ?_
                refine va_get (D := G) (ci := 3) (v := .ref (hs 3)) (C := RX3) (T := TX3) (N := 14) hx hb hts nw_X1_attempt_X3 hown hK hw.1 1 rfl rfl 2 (by decide) hL4 (fun _ h9 => h9) rfl dX1_attempt_158 ?_
                refine lv_iload_n hx hb dX1_attempt_161 rfl (lv_at hl 2 rfl) ?_
                refine lv_iload_n hx hb dX1_attempt_162 rfl (lv_at hl 3 rfl) ?_
                obtain ⟨j10, e10, e3⟩ := cd_bind_some e3
                refine cd_iast hx hb hK hw 4 rfl e10 dX1_attempt_163 (fun H locs hw => ?_)
                have hw : cd_WS G A s.heap H locs ((pc_play h hs (cd_fld Y 2 r1)) ++ (pc_town cI hs (cd_set S 2 j10 a2))) := hw
                refine lv_goto (tgt := 178) hx hb dX1_attempt_164 (by decide) ?_
                have z : some ((cd_fld Y 2 r1), (cd_set S 2 j10 a2)) = some x3 := e3
                cases z
                exact K3 _ _ _ (lv_sub hl [0] rfl) hw
              · have e3 := cd_ite_f c3_5 e3
                refine lv_lookup (off := 143) (tgt := 167) hx hb dX1_attempt_24 (by decide) (by have q0 : a0.toInt ≠ 33 := cd_ne c3_0; have q1 : a0.toInt ≠ 42 := cd_ne c3_1; have q2 : a0.toInt ≠ 45 := cd_ne c3_2; have q3 : a0.toInt ≠ 62 := cd_ne c3_3; have q4 : a0.toInt ≠ 94 := cd_ne c3_4; have q5 : a0.toInt ≠ 119 := cd_ne c3_5; simp [Op.lookupswitch.offset, q0, q1, q2, q3, q4, q5]) (by decide) ?_
                refine lv_aload_n hx hb dX1_attempt_167 rfl (lv_at hl 0 rfl) ?_
                refine lv_aload_n hx hb dX1_attempt_168 rfl (lv_at hl 0 rfl) ?_
                refine va_get (D := G) (ci := 1) (v := .ref (hs 0)) (C := RX1) (T := TX1) (N := 6) hx hb hts nw_X1_attempt_X1 hown hK hw.1 0 rfl rfl 0 (by decide) hL0 (fun _ h9 => h9) rfl dX1_attempt_169 ?_
                obtain ⟨r11, e11, e3⟩ := cd_bind_some e3
                refine cd_callVw (As := []) (rest := [.ref (h 0)]) (wr := (pc_play h hs (cd_fld Y 2 r1))) (wn := (pc_play h hs (cd_fld Y 2 r1)) ++ (pc_town cI hs r11.2)) C0 hw (c_X3_passMinute l G cI cZ sa sb hs S r11 e11) [1, 2, 3, 4, 5, 6, 7, 8, 9, 10, 11] [0] [0, 1, 2, 3, 4, 5, 6, 7, 8, 9, 10, 11] rfl rfl rfl rfl (by decide) rfl rfl 0 3 rfl rfl rfl (cwV 0 hts gX1_attempt_X3_passMinute rfl rfl rfl (by decide +kernel) ⟨Nat.le_of_ble_eq_true rfl, Nat.le_of_ble_eq_true rfl⟩) rfl hl.1 (lv_room (Nat.le_of_ble_eq_true rfl)) dX1_attempt_172 (fun H locs hw => ?_)
                obtain ⟨r12, e12, e3⟩ := cd_bind_some e3
                refine cd_callVw (As := [.int r11.1]) (rest := []) (wr := (pc_town cI hs r11.2)) (wn := (pc_play h hs r12) ++ (pc_town cI hs r11.2)) C0 hw (c_X1_noteOut l G cI cZ sa sb h hs (cd_fld Y 2 r1) r11.1 r12 e12) [0] [1, 2, 3, 4, 5, 6, 7, 8, 9, 10, 11] [11, 0, 1, 2, 3, 4, 5, 6, 7, 8, 9, 10] rfl rfl rfl rfl (by decide) rfl rfl 0 1 rfl rfl rfl (cwV 1 hts gX1_attempt_X1_noteOut rfl rfl rfl (by decide +kernel) ⟨Nat.le_of_ble_eq_true rfl, Nat.le_of_ble_eq_true rfl⟩) rfl hl.1 (lv_room (Nat.le_of_ble_eq_true rfl)) dX1_attempt_175 (fun H locs hw => ?_)
                have z : some (r12, r11.2) = some x3 := e3
                cases z
                exact K3 _ _ _ (lv_sub hl [0] rfl) hw
  · have hf := cd_ite_f c2 hf
    refine lv_iconst (v := (0 : Int32)) hx hb dX1_attempt_21 (by decide) ?_
    have z : some ((0 : Int32), (cd_fld Y 2 r1), S) = some o := hf
    cases z
    rw [hQ]
    exact cd_retz C0 hw (by decide) dX1_attempt_22
abbrev rm_X3_copyFrom : Room := { frames := 1, cells := 0, slots := 0, locals := 18 }
theorem nw_X3_copyFrom_X3 : ∀ w ∈ u_ws RX3 TX3 14, w ∈ wsX3_copyFrom := by decide +kernel
set_option maxHeartbeats 4000000 in
set_option maxRecDepth 100000 in
theorem c_X3_copyFrom (l : Launch) (G : va_G) (cI cZ : ClassId) (sa sb : Nat) (h h2 : Nat → Nat) (T T2 : Nat → Nat → Int32) (o : (Nat → Nat → Int32)) (hf : f_X3_copyFrom T T2 = some o) : cd_Ct l G cI cZ sa sb yX3_copyFrom wsX3_copyFrom rm_X3_copyFrom [.ref (h 0), .ref (h2 0)] ((pc_town cI h T) ++ (pc_town cI h2 T2)) ((pc_town cI h o) ++ (pc_town cI h2 T2)) none := by
  refine cd_of (cc := cX3_copyFrom) (maxL := 2) (ret := none) (by decide) rfl (Nat.le_of_ble_eq_true rfl) ?_
  intro p e s m ag below meth c A ls Q C0 hl hw hQ
  have C0 : cd_CX G cI cZ sa sb p s m ag meth c cX3_copyFrom 2 none wsX3_copyFrom RX3 A := C0
  obtain ⟨⟨hx, hb, hml, hown, hts⟩, hr, hlocks, hA, hE⟩ := id C0
  have hK := hE.1
  have hL0 := hts (.fieldLink RX3 9 "CandleDebts$Town" "wax" "[I") (by decide +kernel)
  have hL1 := hts (.methodLink RX3 50 arraycopyName) (by decide +kernel)
  have hL2 := hts (.native arraycopyName) (by decide +kernel)
  have hL3 := hts (.static arraycopyName) (by decide +kernel)
  have hL4 := hts (.initialized "java/lang/System") (by decide +kernel)
  have hL5 := hts (.fieldLink RX3 15 "CandleDebts$Town" "trimmed" "[I") (by decide +kernel)
  have hL6 := hts (.fieldLink RX3 18 "CandleDebts$Town" "draughts" "[I") (by decide +kernel)
  have hL7 := hts (.fieldLink RX3 21 "CandleDebts$Town" "creditors" "[I") (by decide +kernel)
  have hL8 := hts (.fieldLink RX3 24 "CandleDebts$Town" "debtors" "[I") (by decide +kernel)
  have hL9 := hts (.fieldLink RX3 27 "CandleDebts$Town" "sums" "[I") (by decide +kernel)
  have hL10 := hts (.fieldLink RX3 30 "CandleDebts$Town" "groups" "[I") (by decide +kernel)
  have hL11 := hts (.fieldLink RX3 33 "CandleDebts$Town" "purses" "[I") (by decide +kernel)
  have hL12 := hts (.fieldLink RX3 36 "CandleDebts$Town" "sightCandles" "[I") (by decide +kernel)
  have hL13 := hts (.fieldLink RX3 39 "CandleDebts$Town" "sightLosses" "[I") (by decide +kernel)
  have hL14 := hts (.fieldLink RX3 56 "CandleDebts$Town" "sights" "I") (by decide +kernel)
  have hL15 := hts (.fieldLink RX3 59 "CandleDebts$Town" "lit" "I") (by decide +kernel)
  have hL16 := hts (.fieldLink RX3 42 "CandleDebts$Town" "matchesLeft" "I") (by decide +kernel)
  have hL17 := hts (.fieldLink RX3 62 "CandleDebts$Town" "minute" "I") (by decide +kernel)
  have hl : lv_has ls 2 [(0, .ref (h 0)), (1, .ref (h2 0))] := hl
  unfold f_X3_copyFrom at hf
  refine lv_aload_n hx hb dX3_copyFrom_0 rfl (lv_at hl 1 rfl) ?_
  refine va_get (D := G) (ci := 3) (v := .ref (h2 1)) (C := RX3) (T := TX3) (N := 14) hx hb hts nw_X3_copyFrom_X3 hown hK hw.1 11 rfl rfl 0 (by decide) hL0 (fun _ h9 => h9) rfl dX3_copyFrom_1 ?_
  refine lv_iconst (v := (0 : Int32)) hx hb dX3_copyFrom_4 (by decide) ?_
  refine lv_aload_n hx hb dX3_copyFrom_5 rfl (lv_at hl 0 rfl) ?_
  refine va_get (D := G) (ci := 3) (v := .ref (h 1)) (C := RX3) (T := TX3) (N := 14) hx hb hts nw_X3_copyFrom_X3 hown hK hw.1 0 rfl rfl 0 (by decide) hL0 (fun _ h9 => h9) rfl dX3_copyFrom_6 ?_
  refine lv_iconst (v := (0 : Int32)) hx hb dX3_copyFrom_9 (by decide) ?_
  refine lv_bipush (v := (12 : Int32)) hx hb dX3_copyFrom_10 (by decide) ?_
  refine cd_copy (n := (12 : Int32)) (k := 12) hx hb (hml.trans hl.1.symm) hown hL1 hL2 hL3 hL4 hK hw 12 1 rfl rfl (by decide) (by decide) (by decide) (by decide) (Nat.le_of_ble_eq_true rfl) (Nat.le_of_ble_eq_true rfl) dX3_copyFrom_12 (fun H locs hw => ?_)
  have hw : cd_WS G A s.heap H locs ((pc_town cI h (cd_cpy T 0 T2 12)) ++ (pc_town cI h2 T2)) := hw
  refine lv_aload_n hx hb dX3_copyFrom_15 rfl (lv_at hl 1 rfl) ?_
  refine va_get (D := G) (ci := 3) (v := .ref (h2 2)) (C := RX3) (T := TX3) (N := 14) hx hb hts nw_X3_copyFrom_X3 hown hK hw.1 11 rfl rfl 1 (by decide) hL5 (fun _ h9 => h9) rfl dX3_copyFrom_16 ?_
  refine lv_iconst (v := (0 : Int32)) hx hb dX3_copyFrom_19 (by decide) ?_
  refine lv_aload_n hx hb dX3_copyFrom_20 rfl (lv_at hl 0 rfl) ?_
  refine va_get (D := G) (ci := 3) (v := .ref (h 2)) (C := RX3) (T := TX3) (N := 14) hx hb hts nw_X3_copyFrom_X3 hown hK hw.1 0 rfl rfl 1 (by decide) hL5 (fun _ h9 => h9) rfl dX3_copyFrom_21 ?_
  refine lv_iconst (v := (0 : Int32)) hx hb dX3_copyFrom_24 (by decide) ?_
  refine lv_bipush (v := (12 : Int32)) hx hb dX3_copyFrom_25 (by decide) ?_
  refine cd_copy (n := (12 : Int32)) (k := 12) hx hb (hml.trans hl.1.symm) hown hL1 hL2 hL3 hL4 hK hw 13 2 rfl rfl (by decide) (by decide) (by decide) (by decide) (Nat.le_of_ble_eq_true rfl) (Nat.le_of_ble_eq_true rfl) dX3_copyFrom_27 (fun H locs hw => ?_)
  have hw : cd_WS G A s.heap H locs ((pc_town cI h (cd_cpy (cd_cpy T 0 T2 12) 1 T2 12)) ++ (pc_town cI h2 T2)) := hw
  refine lv_aload_n hx hb dX3_copyFrom_30 rfl (lv_at hl 1 rfl) ?_
  refine va_get (D := G) (ci := 3) (v := .ref (h2 3)) (C := RX3) (T := TX3) (N := 14) hx hb hts nw_X3_copyFrom_X3 hown hK hw.1 11 rfl rfl 2 (by decide) hL6 (fun _ h9 => h9) rfl dX3_copyFrom_31 ?_
  refine lv_iconst (v := (0 : Int32)) hx hb dX3_copyFrom_34 (by decide) ?_
  refine lv_aload_n hx hb dX3_copyFrom_35 rfl (lv_at hl 0 rfl) ?_
  refine va_get (D := G) (ci := 3) (v := .ref (h 3)) (C := RX3) (T := TX3) (N := 14) hx hb hts nw_X3_copyFrom_X3 hown hK hw.1 0 rfl rfl 2 (by decide) hL6 (fun _ h9 => h9) rfl dX3_copyFrom_36 ?_
  refine lv_iconst (v := (0 : Int32)) hx hb dX3_copyFrom_39 (by decide) ?_
  refine lv_bipush (v := (12 : Int32)) hx hb dX3_copyFrom_40 (by decide) ?_
  refine cd_copy (n := (12 : Int32)) (k := 12) hx hb (hml.trans hl.1.symm) hown hL1 hL2 hL3 hL4 hK hw 14 3 rfl rfl (by decide) (by decide) (by decide) (by decide) (Nat.le_of_ble_eq_true rfl) (Nat.le_of_ble_eq_true rfl) dX3_copyFrom_42 (fun H locs hw => ?_)
  have hw : cd_WS G A s.heap H locs ((pc_town cI h (cd_cpy (cd_cpy (cd_cpy T 0 T2 12) 1 T2 12) 2 T2 12)) ++ (pc_town cI h2 T2)) := hw
  refine lv_aload_n hx hb dX3_copyFrom_45 rfl (lv_at hl 1 rfl) ?_
  refine va_get (D := G) (ci := 3) (v := .ref (h2 4)) (C := RX3) (T := TX3) (N := 14) hx hb hts nw_X3_copyFrom_X3 hown hK hw.1 11 rfl rfl 3 (by decide) hL7 (fun _ h9 => h9) rfl dX3_copyFrom_46 ?_
  refine lv_iconst (v := (0 : Int32)) hx hb dX3_copyFrom_49 (by decide) ?_
  refine lv_aload_n hx hb dX3_copyFrom_50 rfl (lv_at hl 0 rfl) ?_
  refine va_get (D := G) (ci := 3) (v := .ref (h 4)) (C := RX3) (T := TX3) (N := 14) hx hb hts nw_X3_copyFrom_X3 hown hK hw.1 0 rfl rfl 3 (by decide) hL7 (fun _ h9 => h9) rfl dX3_copyFrom_51 ?_
  refine lv_iconst (v := (0 : Int32)) hx hb dX3_copyFrom_54 (by decide) ?_
  refine lv_bipush (v := (12 : Int32)) hx hb dX3_copyFrom_55 (by decide) ?_
  refine cd_copy (n := (12 : Int32)) (k := 12) hx hb (hml.trans hl.1.symm) hown hL1 hL2 hL3 hL4 hK hw 15 4 rfl rfl (by decide) (by decide) (by decide) (by decide) (Nat.le_of_ble_eq_true rfl) (Nat.le_of_ble_eq_true rfl) dX3_copyFrom_57 (fun H locs hw => ?_)
  have hw : cd_WS G A s.heap H locs ((pc_town cI h (cd_cpy (cd_cpy (cd_cpy (cd_cpy T 0 T2 12) 1 T2 12) 2 T2 12) 3 T2 12)) ++ (pc_town cI h2 T2)) := hw
  refine lv_aload_n hx hb dX3_copyFrom_60 rfl (lv_at hl 1 rfl) ?_
  refine va_get (D := G) (ci := 3) (v := .ref (h2 5)) (C := RX3) (T := TX3) (N := 14) hx hb hts nw_X3_copyFrom_X3 hown hK hw.1 11 rfl rfl 4 (by decide) hL8 (fun _ h9 => h9) rfl dX3_copyFrom_61 ?_
  refine lv_iconst (v := (0 : Int32)) hx hb dX3_copyFrom_64 (by decide) ?_
  refine lv_aload_n hx hb dX3_copyFrom_65 rfl (lv_at hl 0 rfl) ?_
  refine va_get (D := G) (ci := 3) (v := .ref (h 5)) (C := RX3) (T := TX3) (N := 14) hx hb hts nw_X3_copyFrom_X3 hown hK hw.1 0 rfl rfl 4 (by decide) hL8 (fun _ h9 => h9) rfl dX3_copyFrom_66 ?_
  refine lv_iconst (v := (0 : Int32)) hx hb dX3_copyFrom_69 (by decide) ?_
  refine lv_bipush (v := (12 : Int32)) hx hb dX3_copyFrom_70 (by decide) ?_
  refine cd_copy (n := (12 : Int32)) (k := 12) hx hb (hml.trans hl.1.symm) hown hL1 hL2 hL3 hL4 hK hw 16 5 rfl rfl (by decide) (by decide) (by decide) (by decide) (Nat.le_of_ble_eq_true rfl) (Nat.le_of_ble_eq_true rfl) dX3_copyFrom_72 (fun H locs hw => ?_)
  have hw : cd_WS G A s.heap H locs ((pc_town cI h (cd_cpy (cd_cpy (cd_cpy (cd_cpy (cd_cpy T 0 T2 12) 1 T2 12) 2 T2 12) 3 T2 12) 4 T2 12)) ++ (pc_town cI h2 T2)) := hw
  refine lv_aload_n hx hb dX3_copyFrom_75 rfl (lv_at hl 1 rfl) ?_
  refine va_get (D := G) (ci := 3) (v := .ref (h2 6)) (C := RX3) (T := TX3) (N := 14) hx hb hts nw_X3_copyFrom_X3 hown hK hw.1 11 rfl rfl 5 (by decide) hL9 (fun _ h9 => h9) rfl dX3_copyFrom_76 ?_
  refine lv_iconst (v := (0 : Int32)) hx hb dX3_copyFrom_79 (by decide) ?_
  refine lv_aload_n hx hb dX3_copyFrom_80 rfl (lv_at hl 0 rfl) ?_
  refine va_get (D := G) (ci := 3) (v := .ref (h 6)) (C := RX3) (T := TX3) (N := 14) hx hb hts nw_X3_copyFrom_X3 hown hK hw.1 0 rfl rfl 5 (by decide) hL9 (fun _ h9 => h9) rfl dX3_copyFrom_81 ?_
  refine lv_iconst (v := (0 : Int32)) hx hb dX3_copyFrom_84 (by decide) ?_
  refine lv_bipush (v := (12 : Int32)) hx hb dX3_copyFrom_85 (by decide) ?_
  refine cd_copy (n := (12 : Int32)) (k := 12) hx hb (hml.trans hl.1.symm) hown hL1 hL2 hL3 hL4 hK hw 17 6 rfl rfl (by decide) (by decide) (by decide) (by decide) (Nat.le_of_ble_eq_true rfl) (Nat.le_of_ble_eq_true rfl) dX3_copyFrom_87 (fun H locs hw => ?_)
  have hw : cd_WS G A s.heap H locs ((pc_town cI h (cd_cpy (cd_cpy (cd_cpy (cd_cpy (cd_cpy (cd_cpy T 0 T2 12) 1 T2 12) 2 T2 12) 3 T2 12) 4 T2 12) 5 T2 12)) ++ (pc_town cI h2 T2)) := hw
  refine lv_aload_n hx hb dX3_copyFrom_90 rfl (lv_at hl 1 rfl) ?_
  refine va_get (D := G) (ci := 3) (v := .ref (h2 7)) (C := RX3) (T := TX3) (N := 14) hx hb hts nw_X3_copyFrom_X3 hown hK hw.1 11 rfl rfl 6 (by decide) hL10 (fun _ h9 => h9) rfl dX3_copyFrom_91 ?_
  refine lv_iconst (v := (0 : Int32)) hx hb dX3_copyFrom_94 (by decide) ?_
  refine lv_aload_n hx hb dX3_copyFrom_95 rfl (lv_at hl 0 rfl) ?_
  refine va_get (D := G) (ci := 3) (v := .ref (h 7)) (C := RX3) (T := TX3) (N := 14) hx hb hts nw_X3_copyFrom_X3 hown hK hw.1 0 rfl rfl 6 (by decide) hL10 (fun _ h9 => h9) rfl dX3_copyFrom_96 ?_
  refine lv_iconst (v := (0 : Int32)) hx hb dX3_copyFrom_99 (by decide) ?_
  refine lv_bipush (v := (12 : Int32)) hx hb dX3_copyFrom_100 (by decide) ?_
  refine cd_copy (n := (12 : Int32)) (k := 12) hx hb (hml.trans hl.1.symm) hown hL1 hL2 hL3 hL4 hK hw 18 7 rfl rfl (by decide) (by decide) (by decide) (by decide) (Nat.le_of_ble_eq_true rfl) (Nat.le_of_ble_eq_true rfl) dX3_copyFrom_102 (fun H locs hw => ?_)
  have hw : cd_WS G A s.heap H locs ((pc_town cI h (cd_cpy (cd_cpy (cd_cpy (cd_cpy (cd_cpy (cd_cpy (cd_cpy T 0 T2 12) 1 T2 12) 2 T2 12) 3 T2 12) 4 T2 12) 5 T2 12) 6 T2 12)) ++ (pc_town cI h2 T2)) := hw
  refine lv_aload_n hx hb dX3_copyFrom_105 rfl (lv_at hl 1 rfl) ?_
  refine va_get (D := G) (ci := 3) (v := .ref (h2 8)) (C := RX3) (T := TX3) (N := 14) hx hb hts nw_X3_copyFrom_X3 hown hK hw.1 11 rfl rfl 7 (by decide) hL11 (fun _ h9 => h9) rfl dX3_copyFrom_106 ?_
  refine lv_iconst (v := (0 : Int32)) hx hb dX3_copyFrom_109 (by decide) ?_
  refine lv_aload_n hx hb dX3_copyFrom_110 rfl (lv_at hl 0 rfl) ?_
  refine va_get (D := G) (ci := 3) (v := .ref (h 8)) (C := RX3) (T := TX3) (N := 14) hx hb hts nw_X3_copyFrom_X3 hown hK hw.1 0 rfl rfl 7 (by decide) hL11 (fun _ h9 => h9) rfl dX3_copyFrom_111 ?_
  refine lv_iconst (v := (0 : Int32)) hx hb dX3_copyFrom_114 (by decide) ?_
  refine lv_bipush (v := (6 : Int32)) hx hb dX3_copyFrom_115 (by decide) ?_
  refine cd_copy (n := (6 : Int32)) (k := 6) hx hb (hml.trans hl.1.symm) hown hL1 hL2 hL3 hL4 hK hw 19 8 rfl rfl (by decide) (by decide) (by decide) (by decide) (Nat.le_of_ble_eq_true rfl) (Nat.le_of_ble_eq_true rfl) dX3_copyFrom_117 (fun H locs hw => ?_)
  have hw : cd_WS G A s.heap H locs ((pc_town cI h (cd_cpy (cd_cpy (cd_cpy (cd_cpy (cd_cpy (cd_cpy (cd_cpy (cd_cpy T 0 T2 12) 1 T2 12) 2 T2 12) 3 T2 12) 4 T2 12) 5 T2 12) 6 T2 12) 7 T2 6)) ++ (pc_town cI h2 T2)) := hw
  refine lv_aload_n hx hb dX3_copyFrom_120 rfl (lv_at hl 1 rfl) ?_
  refine va_get (D := G) (ci := 3) (v := .ref (h2 9)) (C := RX3) (T := TX3) (N := 14) hx hb hts nw_X3_copyFrom_X3 hown hK hw.1 11 rfl rfl 8 (by decide) hL12 (fun _ h9 => h9) rfl dX3_copyFrom_121 ?_
  refine lv_iconst (v := (0 : Int32)) hx hb dX3_copyFrom_124 (by decide) ?_
  refine lv_aload_n hx hb dX3_copyFrom_125 rfl (lv_at hl 0 rfl) ?_
  refine va_get (D := G) (ci := 3) (v := .ref (h 9)) (C := RX3) (T := TX3) (N := 14) hx hb hts nw_X3_copyFrom_X3 hown hK hw.1 0 rfl rfl 8 (by decide) hL12 (fun _ h9 => h9) rfl dX3_copyFrom_126 ?_
  refine lv_iconst (v := (0 : Int32)) hx hb dX3_copyFrom_129 (by decide) ?_
  refine lv_bipush (v := (8 : Int32)) hx hb dX3_copyFrom_130 (by decide) ?_
  refine cd_copy (n := (8 : Int32)) (k := 8) hx hb (hml.trans hl.1.symm) hown hL1 hL2 hL3 hL4 hK hw 20 9 rfl rfl (by decide) (by decide) (by decide) (by decide) (Nat.le_of_ble_eq_true rfl) (Nat.le_of_ble_eq_true rfl) dX3_copyFrom_132 (fun H locs hw => ?_)
  have hw : cd_WS G A s.heap H locs ((pc_town cI h (cd_cpy (cd_cpy (cd_cpy (cd_cpy (cd_cpy (cd_cpy (cd_cpy (cd_cpy (cd_cpy T 0 T2 12) 1 T2 12) 2 T2 12) 3 T2 12) 4 T2 12) 5 T2 12) 6 T2 12) 7 T2 6) 8 T2 8)) ++ (pc_town cI h2 T2)) := hw
  refine lv_aload_n hx hb dX3_copyFrom_135 rfl (lv_at hl 1 rfl) ?_
  refine va_get (D := G) (ci := 3) (v := .ref (h2 10)) (C := RX3) (T := TX3) (N := 14) hx hb hts nw_X3_copyFrom_X3 hown hK hw.1 11 rfl rfl 9 (by decide) hL13 (fun _ h9 => h9) rfl dX3_copyFrom_136 ?_
  refine lv_iconst (v := (0 : Int32)) hx hb dX3_copyFrom_139 (by decide) ?_
  refine lv_aload_n hx hb dX3_copyFrom_140 rfl (lv_at hl 0 rfl) ?_
  refine va_get (D := G) (ci := 3) (v := .ref (h 10)) (C := RX3) (T := TX3) (N := 14) hx hb hts nw_X3_copyFrom_X3 hown hK hw.1 0 rfl rfl 9 (by decide) hL13 (fun _ h9 => h9) rfl dX3_copyFrom_141 ?_
  refine lv_iconst (v := (0 : Int32)) hx hb dX3_copyFrom_144 (by decide) ?_
  refine lv_bipush (v := (8 : Int32)) hx hb dX3_copyFrom_145 (by decide) ?_
  refine cd_copy (n := (8 : Int32)) (k := 8) hx hb (hml.trans hl.1.symm) hown hL1 hL2 hL3 hL4 hK hw 21 10 rfl rfl (by decide) (by decide) (by decide) (by decide) (Nat.le_of_ble_eq_true rfl) (Nat.le_of_ble_eq_true rfl) dX3_copyFrom_147 (fun H locs hw => ?_)
  have hw : cd_WS G A s.heap H locs ((pc_town cI h (cd_cpy (cd_cpy (cd_cpy (cd_cpy (cd_cpy (cd_cpy (cd_cpy (cd_cpy (cd_cpy (cd_cpy T 0 T2 12) 1 T2 12) 2 T2 12) 3 T2 12) 4 T2 12) 5 T2 12) 6 T2 12) 7 T2 6) 8 T2 8) 9 T2 8)) ++ (pc_town cI h2 T2)) := hw
  refine lv_aload_n hx hb dX3_copyFrom_150 rfl (lv_at hl 0 rfl) ?_
  refine lv_aload_n hx hb dX3_copyFrom_151 rfl (lv_at hl 1 rfl) ?_
  refine va_get (D := G) (ci := 3) (v := .int (T2 10 0)) (C := RX3) (T := TX3) (N := 14) hx hb hts nw_X3_copyFrom_X3 hown hK hw.1 11 rfl rfl 10 (by decide) hL14 (fun _ h9 => h9) rfl dX3_copyFrom_152 ?_
  refine va_put (D := G) (ci := 3) (v := .int (T2 10 0)) (ty := .int) (C := RX3) (T := TX3) (N := 14) hx hb hts nw_X3_copyFrom_X3 tyX3 tyX3_ok nmX3 hown hK hw.1 hw.2.1 hw.2.2 0 rfl rfl 10 (by decide) hL14 (fun _ h9 => h9) rfl (by decide +kernel) rfl rfl (Nat.le_of_ble_eq_true rfl) dX3_copyFrom_155 (fun H locs hP hD hS => ?_)
  have hw : cd_WS G A s.heap H locs ((pc_town cI h (cd_fld (cd_cpy (cd_cpy (cd_cpy (cd_cpy (cd_cpy (cd_cpy (cd_cpy (cd_cpy (cd_cpy (cd_cpy T 0 T2 12) 1 T2 12) 2 T2 12) 3 T2 12) 4 T2 12) 5 T2 12) 6 T2 12) 7 T2 6) 8 T2 8) 9 T2 8) 10 (T2 10 0))) ++ (pc_town cI h2 T2)) := ⟨hP, hD, hS⟩
  refine lv_aload_n hx hb dX3_copyFrom_158 rfl (lv_at hl 0 rfl) ?_
  refine lv_aload_n hx hb dX3_copyFrom_159 rfl (lv_at hl 1 rfl) ?_
  refine va_get (D := G) (ci := 3) (v := .int (T2 11 0)) (C := RX3) (T := TX3) (N := 14) hx hb hts nw_X3_copyFrom_X3 hown hK hw.1 11 rfl rfl 11 (by decide) hL15 (fun _ h9 => h9) rfl dX3_copyFrom_160 ?_
  refine va_put (D := G) (ci := 3) (v := .int (T2 11 0)) (ty := .int) (C := RX3) (T := TX3) (N := 14) hx hb hts nw_X3_copyFrom_X3 tyX3 tyX3_ok nmX3 hown hK hw.1 hw.2.1 hw.2.2 0 rfl rfl 11 (by decide) hL15 (fun _ h9 => h9) rfl (by decide +kernel) rfl rfl (Nat.le_of_ble_eq_true rfl) dX3_copyFrom_163 (fun H locs hP hD hS => ?_)
  have hw : cd_WS G A s.heap H locs ((pc_town cI h (cd_fld (cd_fld (cd_cpy (cd_cpy (cd_cpy (cd_cpy (cd_cpy (cd_cpy (cd_cpy (cd_cpy (cd_cpy (cd_cpy T 0 T2 12) 1 T2 12) 2 T2 12) 3 T2 12) 4 T2 12) 5 T2 12) 6 T2 12) 7 T2 6) 8 T2 8) 9 T2 8) 10 (T2 10 0)) 11 (T2 11 0))) ++ (pc_town cI h2 T2)) := ⟨hP, hD, hS⟩
  refine lv_aload_n hx hb dX3_copyFrom_166 rfl (lv_at hl 0 rfl) ?_
  refine lv_aload_n hx hb dX3_copyFrom_167 rfl (lv_at hl 1 rfl) ?_
  refine va_get (D := G) (ci := 3) (v := .int (T2 12 0)) (C := RX3) (T := TX3) (N := 14) hx hb hts nw_X3_copyFrom_X3 hown hK hw.1 11 rfl rfl 12 (by decide) hL16 (fun _ h9 => h9) rfl dX3_copyFrom_168 ?_
  refine va_put (D := G) (ci := 3) (v := .int (T2 12 0)) (ty := .int) (C := RX3) (T := TX3) (N := 14) hx hb hts nw_X3_copyFrom_X3 tyX3 tyX3_ok nmX3 hown hK hw.1 hw.2.1 hw.2.2 0 rfl rfl 12 (by decide) hL16 (fun _ h9 => h9) rfl (by decide +kernel) rfl rfl (Nat.le_of_ble_eq_true rfl) dX3_copyFrom_171 (fun H locs hP hD hS => ?_)
  have hw : cd_WS G A s.heap H locs ((pc_town cI h (cd_fld (cd_fld (cd_fld (cd_cpy (cd_cpy (cd_cpy (cd_cpy (cd_cpy (cd_cpy (cd_cpy (cd_cpy (cd_cpy (cd_cpy T 0 T2 12) 1 T2 12) 2 T2 12) 3 T2 12) 4 T2 12) 5 T2 12) 6 T2 12) 7 T2 6) 8 T2 8) 9 T2 8) 10 (T2 10 0)) 11 (T2 11 0)) 12 (T2 12 0))) ++ (pc_town cI h2 T2)) := ⟨hP, hD, hS⟩
  refine lv_aload_n hx hb dX3_copyFrom_174 rfl (lv_at hl 0 rfl) ?_
  refine lv_aload_n hx hb dX3_copyFrom_175 rfl (lv_at hl 1 rfl) ?_
  refine va_get (D := G) (ci := 3) (v := .int (T2 13 0)) (C := RX3) (T := TX3) (N := 14) hx hb hts nw_X3_copyFrom_X3 hown hK hw.1 11 rfl rfl 13 (by decide) hL17 (fun _ h9 => h9) rfl dX3_copyFrom_176 ?_
  refine va_put (D := G) (ci := 3) (v := .int (T2 13 0)) (ty := .int) (C := RX3) (T := TX3) (N := 14) hx hb hts nw_X3_copyFrom_X3 tyX3 tyX3_ok nmX3 hown hK hw.1 hw.2.1 hw.2.2 0 rfl rfl 13 (by decide) hL17 (fun _ h9 => h9) rfl (by decide +kernel) rfl rfl (Nat.le_of_ble_eq_true rfl) dX3_copyFrom_179 (fun H locs hP hD hS => ?_)
  have hw : cd_WS G A s.heap H locs ((pc_town cI h (cd_fld (cd_fld (cd_fld (cd_fld (cd_cpy (cd_cpy (cd_cpy (cd_cpy (cd_cpy (cd_cpy (cd_cpy (cd_cpy (cd_cpy (cd_cpy T 0 T2 12) 1 T2 12) 2 T2 12) 3 T2 12) 4 T2 12) 5 T2 12) 6 T2 12) 7 T2 6) 8 T2 8) 9 T2 8) 10 (T2 10 0)) 11 (T2 11 0)) 12 (T2 12 0)) 13 (T2 13 0))) ++ (pc_town cI h2 T2)) := ⟨hP, hD, hS⟩
  have z : some (cd_fld (cd_fld (cd_fld (cd_fld (cd_cpy (cd_cpy (cd_cpy (cd_cpy (cd_cpy (cd_cpy (cd_cpy (cd_cpy (cd_cpy (cd_cpy T 0 T2 12) 1 T2 12) 2 T2 12) 3 T2 12) 4 T2 12) 5 T2 12) 6 T2 12) 7 T2 6) 8 T2 8) 9 T2 8) 10 (T2 10 0)) 11 (T2 11 0)) 12 (T2 12 0)) 13 (T2 13 0)) = some o := hf
  cases z
  rw [hQ]
  exact cd_retv C0 hw dX3_copyFrom_182
abbrev rm_X1_begin : Room := { frames := 2, cells := 0, slots := 0, locals := 39 }
theorem nw_X1_begin_X1 : ∀ w ∈ u_ws RX1 TX1 6, w ∈ wsX1_begin := by decide +kernel
set_option maxHeartbeats 4000000 in
set_option maxRecDepth 100000 in
theorem c_X1_begin (l : Launch) (G : va_G) (cI cZ : ClassId) (sa sb : Nat) (h hs ht : Nat → Nat) (Y S T : Nat → Nat → Int32) (o : (Nat → Nat → Int32) × (Nat → Nat → Int32)) (hf : f_X1_begin Y S T = some o) : cd_Ct l G cI cZ sa sb yX1_begin wsX1_begin rm_X1_begin [.ref (h 0), .ref (ht 0)] ((pc_play h hs Y) ++ (pc_town cI hs S) ++ (pc_town cI ht T)) ((pc_play h hs o.1) ++ (pc_town cI hs o.2) ++ (pc_town cI ht T)) none := by
  refine cd_of (cc := cX1_begin) (maxL := 2) (ret := none) (by decide) rfl (Nat.le_of_ble_eq_true rfl) ?_
  intro p e s m ag below meth c A ls Q C0 hl hw hQ
  have C0 : cd_CX G cI cZ sa sb p s m ag meth c cX1_begin 2 none wsX1_begin RX1 A := C0
  obtain ⟨⟨hx, hb, hml, hown, hts⟩, hr, hlocks, hA, hE⟩ := id C0
  have hK := hE.1
  have hL0 := hts (.fieldLink RX1 12 "CandleDebts$Play" "scene" "LCandleDebts$Town;") (by decide +kernel)
  have hL1 := hts (.fieldLink RX1 22 "CandleDebts$Play" "acts" "I") (by decide +kernel)
  have hL2 := hts (.fieldLink RX1 26 "CandleDebts$Play" "why" "I") (by decide +kernel)
  have hL3 := hts (.fieldLink RX1 29 "CandleDebts$Play" "paid" "I") (by decide +kernel)
  have hL4 := hts (.fieldLink RX1 32 "CandleDebts$Play" "outAct" "I") (by decide +kernel)
  have hL5 := hts (.fieldLink RX1 35 "CandleDebts$Play" "outCandle" "I") (by decide +kernel)
  have hl : lv_has ls 2 [(0, .ref (h 0)), (1, .ref (ht 0))] := hl
  unfold f_X1_begin at hf
  refine lv_aload_n hx hb dX1_begin_0 rfl (lv_at hl 0 rfl) ?_
  refine va_get (D := G) (ci := 1) (v := .ref (hs 0)) (C := RX1) (T := TX1) (N := 6) hx hb hts nw_X1_begin_X1 hown hK hw.1 0 rfl rfl 0 (by decide) hL0 (fun _ h9 => h9) rfl dX1_begin_1 ?_
  refine lv_aload_n hx hb dX1_begin_4 rfl (lv_at hl 1 rfl) ?_
  obtain ⟨r1, e1, hf⟩ := cd_bind_some hf
  refine cd_callVw (As := [.ref (ht 0)]) (rest := []) (wr := (pc_play h hs Y)) (wn := (pc_play h hs Y) ++ (pc_town cI hs r1) ++ (pc_town cI ht T)) C0 hw (c_X3_copyFrom l G cI cZ sa sb hs ht S T r1 e1) [1, 2, 3, 4, 5, 6, 7, 8, 9, 10, 11, 12, 13, 14, 15, 16, 17, 18, 19, 20, 21, 22] [0] [0, 1, 2, 3, 4, 5, 6, 7, 8, 9, 10, 11, 12, 13, 14, 15, 16, 17, 18, 19, 20, 21, 22] rfl rfl rfl rfl (by decide) rfl rfl 0 3 rfl rfl rfl (cwV 1 hts gX1_begin_X3_copyFrom rfl rfl rfl (by decide +kernel) ⟨Nat.le_of_ble_eq_true rfl, Nat.le_of_ble_eq_true rfl⟩) rfl hl.1 (lv_room (Nat.le_of_ble_eq_true rfl)) dX1_begin_5 (fun H locs hw => ?_)
  refine lv_aload_n hx hb dX1_begin_8 rfl (lv_at hl 0 rfl) ?_
  refine lv_iconst (v := (0 : Int32)) hx hb dX1_begin_9 (by decide) ?_
  refine va_put (D := G) (ci := 1) (v := .int (0 : Int32)) (ty := .int) (C := RX1) (T := TX1) (N := 6) hx hb hts nw_X1_begin_X1 tyX1 tyX1_ok nmX1 hown hK hw.1 hw.2.1 hw.2.2 0 rfl rfl 1 (by decide) hL1 (fun _ h9 => h9) rfl (by decide +kernel) rfl rfl (Nat.le_of_ble_eq_true rfl) dX1_begin_10 (fun H locs hP hD hS => ?_)
  have hw : cd_WS G A s.heap H locs ((pc_play h hs (cd_fld Y 1 (0 : Int32))) ++ (pc_town cI hs r1) ++ (pc_town cI ht T)) := ⟨hP, hD, hS⟩
  refine lv_aload_n hx hb dX1_begin_13 rfl (lv_at hl 0 rfl) ?_
  refine lv_iconst (v := (0 : Int32)) hx hb dX1_begin_14 (by decide) ?_
  refine va_put (D := G) (ci := 1) (v := .int (0 : Int32)) (ty := .int) (C := RX1) (T := TX1) (N := 6) hx hb hts nw_X1_begin_X1 tyX1 tyX1_ok nmX1 hown hK hw.1 hw.2.1 hw.2.2 0 rfl rfl 2 (by decide) hL2 (fun _ h9 => h9) rfl (by decide +kernel) rfl rfl (Nat.le_of_ble_eq_true rfl) dX1_begin_15 (fun H locs hP hD hS => ?_)
  have hw : cd_WS G A s.heap H locs ((pc_play h hs (cd_fld (cd_fld Y 1 (0 : Int32)) 2 (0 : Int32))) ++ (pc_town cI hs r1) ++ (pc_town cI ht T)) := ⟨hP, hD, hS⟩
  refine lv_aload_n hx hb dX1_begin_18 rfl (lv_at hl 0 rfl) ?_
  refine lv_iconst (v := (0 : Int32)) hx hb dX1_begin_19 (by decide) ?_
  refine va_put (D := G) (ci := 1) (v := .int (0 : Int32)) (ty := .int) (C := RX1) (T := TX1) (N := 6) hx hb hts nw_X1_begin_X1 tyX1 tyX1_ok nmX1 hown hK hw.1 hw.2.1 hw.2.2 0 rfl rfl 3 (by decide) hL3 (fun _ h9 => h9) rfl (by decide +kernel) rfl rfl (Nat.le_of_ble_eq_true rfl) dX1_begin_20 (fun H locs hP hD hS => ?_)
  have hw : cd_WS G A s.heap H locs ((pc_play h hs (cd_fld (cd_fld (cd_fld Y 1 (0 : Int32)) 2 (0 : Int32)) 3 (0 : Int32))) ++ (pc_town cI hs r1) ++ (pc_town cI ht T)) := ⟨hP, hD, hS⟩
  refine lv_aload_n hx hb dX1_begin_23 rfl (lv_at hl 0 rfl) ?_
  refine lv_bipush (v := (-6 : Int32)) hx hb dX1_begin_24 (by decide) ?_
  refine va_put (D := G) (ci := 1) (v := .int (-6 : Int32)) (ty := .int) (C := RX1) (T := TX1) (N := 6) hx hb hts nw_X1_begin_X1 tyX1 tyX1_ok nmX1 hown hK hw.1 hw.2.1 hw.2.2 0 rfl rfl 4 (by decide) hL4 (fun _ h9 => h9) rfl (by decide +kernel) rfl rfl (Nat.le_of_ble_eq_true rfl) dX1_begin_26 (fun H locs hP hD hS => ?_)
  have hw : cd_WS G A s.heap H locs ((pc_play h hs (cd_fld (cd_fld (cd_fld (cd_fld Y 1 (0 : Int32)) 2 (0 : Int32)) 3 (0 : Int32)) 4 (-6 : Int32))) ++ (pc_town cI hs r1) ++ (pc_town cI ht T)) := ⟨hP, hD, hS⟩
  refine lv_aload_n hx hb dX1_begin_29 rfl (lv_at hl 0 rfl) ?_
  refine lv_bipush (v := (-6 : Int32)) hx hb dX1_begin_30 (by decide) ?_
  refine va_put (D := G) (ci := 1) (v := .int (-6 : Int32)) (ty := .int) (C := RX1) (T := TX1) (N := 6) hx hb hts nw_X1_begin_X1 tyX1 tyX1_ok nmX1 hown hK hw.1 hw.2.1 hw.2.2 0 rfl rfl 5 (by decide) hL5 (fun _ h9 => h9) rfl (by decide +kernel) rfl rfl (Nat.le_of_ble_eq_true rfl) dX1_begin_32 (fun H locs hP hD hS => ?_)
  have hw : cd_WS G A s.heap H locs ((pc_play h hs (cd_fld (cd_fld (cd_fld (cd_fld (cd_fld Y 1 (0 : Int32)) 2 (0 : Int32)) 3 (0 : Int32)) 4 (-6 : Int32)) 5 (-6 : Int32))) ++ (pc_town cI hs r1) ++ (pc_town cI ht T)) := ⟨hP, hD, hS⟩
  have z : some ((cd_fld (cd_fld (cd_fld (cd_fld (cd_fld Y 1 (0 : Int32)) 2 (0 : Int32)) 3 (0 : Int32)) 4 (-6 : Int32)) 5 (-6 : Int32)), r1) = some o := hf
  cases z
  rw [hQ]
  exact cd_retv C0 hw dX1_begin_35
abbrev rm_X5_isCandle : Room := { frames := 1, cells := 0, slots := 0, locals := 22 }
set_option maxHeartbeats 4000000 in
set_option maxRecDepth 100000 in
theorem c_X5_isCandle (l : Launch) (G : va_G) (cI cZ : ClassId) (sa sb : Nat) (a0 : Int32) (o : Int32) (hf : f_X5_isCandle a0 = some o) : cd_Ct l G cI cZ sa sb yX5_isCandle wsX5_isCandle rm_X5_isCandle [.int a0] (([] : va_W)) (([] : va_W)) (some (.int o)) := by
  refine cd_of (cc := cX5_isCandle) (maxL := 1) (ret := (some .boolean)) (by decide) rfl (Nat.le_of_ble_eq_true rfl) ?_
  intro p e s m ag below meth c A ls Q C0 hl hw hQ
  have C0 : cd_CX G cI cZ sa sb p s m ag meth c cX5_isCandle 1 (some .boolean) wsX5_isCandle RX5 A := C0
  obtain ⟨⟨hx, hb, hml, hown, hts⟩, hr, hlocks, hA, hE⟩ := id C0
  have hK := hE.1
  have hl : lv_has ls 1 [(0, .int a0)] := hl
  unfold f_X5_isCandle at hf
  refine lv_iload_n hx hb dX5_isCandle_0 rfl (lv_at hl 0 rfl) ?_
  refine lv_iconst (v := (0 : Int32)) hx hb dX5_isCandle_1 (by decide) ?_
  refine lv_bipush (v := (11 : Int32)) hx hb dX5_isCandle_2 (by decide) ?_
  obtain ⟨r1, e1, hf⟩ := cd_bind_some hf
  refine cd_callS (As := [.int a0, .int (0 : Int32), .int (11 : Int32)]) (rest := []) C0 hw (c_X5_within l G cI cZ sa sb a0 (0 : Int32) (11 : Int32) r1 e1) [] rfl rfl (va_cwS 3 hts gX5_isCandle_X5_within rfl rfl rfl (by decide +kernel) ⟨Nat.le_of_ble_eq_true rfl, Nat.le_of_ble_eq_true rfl⟩) rfl hl.1 (lv_room (Nat.le_of_ble_eq_true rfl)) dX5_isCandle_4 (fun H locs hw => ?_)
  obtain ⟨u2, e2, hf⟩ := cd_bind_some hf
  have z : some r1 = some o := hf
  cases z
  rw [hQ]
  exact cd_retz C0 hw (cd_zb_eq e2) dX5_isCandle_7
abbrev rm_X1_draws : Room := { frames := 5, cells := 0, slots := 0, locals := 110 }
set_option maxHeartbeats 4000000 in
set_option maxRecDepth 100000 in
theorem c_X1_draws (l : Launch) (G : va_G) (cI cZ : ClassId) (sa sb : Nat) (h hs ht : Nat → Nat) (Y S T : Nat → Nat → Int32) (a0 : Int32) (a1 : Int32) (o : (Nat → Nat → Int32) × (Nat → Nat → Int32)) (hf : f_X1_draws a0 a1 Y S T = some o) : cd_Ct l G cI cZ sa sb yX1_draws wsX1_draws rm_X1_draws [.ref (h 0), .ref (ht 0), .int a0, .int a1] ((pc_play h hs Y) ++ (pc_town cI hs S) ++ (pc_town cI ht T)) ((pc_play h hs o.1) ++ (pc_town cI hs o.2) ++ (pc_town cI ht T)) none := by
  refine cd_of (cc := cX1_draws) (maxL := 9) (ret := none) (by decide) rfl (Nat.le_of_ble_eq_true rfl) ?_
  intro p e s m ag below meth c A ls Q C0 hl hw hQ
  have C0 : cd_CX G cI cZ sa sb p s m ag meth c cX1_draws 9 none wsX1_draws RX1 A := C0
  obtain ⟨⟨hx, hb, hml, hown, hts⟩, hr, hlocks, hA, hE⟩ := id C0
  have hK := hE.1
  have hL0 := hts (.constant RX1 66 (65537)) (by decide +kernel)
  have hL1 := hts (.initialized RX5) (by decide +kernel)
  have hL2 := hts (.static yX5_isCandle) (by decide +kernel)
  have hl : lv_has ls 9 [(0, .ref (h 0)), (1, .ref (ht 0)), (2, .int a0), (3, .int a1)] := hl
  unfold f_X1_draws at hf
  refine lv_aload_n hx hb dX1_draws_0 rfl (lv_at hl 0 rfl) ?_
  refine lv_aload_n hx hb dX1_draws_1 rfl (lv_at hl 1 rfl) ?_
  obtain ⟨r1, e1, hf⟩ := cd_bind_some hf
  refine cd_callVw (As := [.ref (ht 0)]) (rest := []) (wr := ([] : va_W)) (wn := (pc_play h hs r1.1) ++ (pc_town cI hs r1.2) ++ (pc_town cI ht T)) C0 hw (c_X1_begin l G cI cZ sa sb h hs ht Y S T r1 e1) [0, 1, 2, 3, 4, 5, 6, 7, 8, 9, 10, 11, 12, 13, 14, 15, 16, 17, 18, 19, 20, 21, 22] [] [0, 1, 2, 3, 4, 5, 6, 7, 8, 9, 10, 11, 12, 13, 14, 15, 16, 17, 18, 19, 20, 21, 22] rfl rfl rfl rfl (by decide) rfl rfl 0 1 rfl rfl rfl (cwV 1 hts gX1_draws_X1_begin rfl rfl rfl (by decide +kernel) ⟨Nat.le_of_ble_eq_true rfl, Nat.le_of_ble_eq_true rfl⟩) rfl hl.1 (lv_room (Nat.le_of_ble_eq_true rfl)) dX1_draws_2 (fun H locs hw => ?_)
  refine lv_iload_n hx hb dX1_draws_5 rfl (lv_at hl 2 rfl) ?_
  refine lv_istore (lv' := [(4, .int a0), (0, .ref (h 0)), (1, .ref (ht 0)), (2, .int a0), (3, .int a1)]) hx hb dX1_draws_6 hl (by decide) rfl (fun ls hl => ?_)
  refine lv_iconst (v := (0 : Int32)) hx hb dX1_draws_8 (by decide) ?_
  refine lv_istore (lv' := [(5, .int (0 : Int32)), (4, .int a0), (0, .ref (h 0)), (1, .ref (ht 0)), (2, .int a0), (3, .int a1)]) hx hb dX1_draws_9 hl (by decide) rfl (fun ls hl => ?_)
  obtain ⟨x2, e2, hf⟩ := cd_bind_some hf
  have K2 : ∀ (t2 : (Nat → Nat → Int32) × (Nat → Nat → Int32)), t2 = x2 → ∀ (ls : Array Slot) (H : Heap) (locs : List Loc), lv_has ls 9 [] → cd_WS G A s.heap H locs ((pc_play h hs t2.1) ++ (pc_town cI hs t2.2) ++ (pc_town cI ht T)) → W p l e rm_X1_draws s m ag below meth c H locs 0 0 Q (F0 m 107 ls []) := by
    intro t2 hs_2
    subst hs_2
    intro ls H locs hl hw
    have z : some (t2.1, t2.2) = some o := hf
    cases z
    rw [hQ]
    exact cd_retv C0 hw dX1_draws_107
  refine cd_iter_ind (body := (f_X1_draws_b11 a1)) (K := fun r => r = x2) (P := fun (z2 : Int32 × Int32 × (Nat → Nat → Int32) × (Nat → Nat → Int32)) => ∀ (ls : Array Slot) (H : Heap) (locs : List Loc), lv_has ls 9 [(0, .ref (h 0)), (3, .int a1), (4, .int z2.1), (5, .int z2.2.1)] → cd_WS G A s.heap H locs ((pc_play h hs z2.2.2.1) ++ (pc_town cI hs z2.2.2.2) ++ (pc_town cI ht T)) → W p l e rm_X1_draws s m ag below meth c H locs 0 0 Q (F0 m 11 ls [])) ?_ cd_N (a0, (0 : Int32), r1.1, r1.2) x2 e2 rfl _ _ _ (lv_sub hl [2, 5, 1, 0] rfl) hw
  intro z2 o2 hb2 hk2 ls H locs hl hw
  unfold f_X1_draws_b11 at hb2
  refine lv_iload hx hb dX1_draws_11 (lv_at hl 3 rfl) ?_
  refine lv_iload_n hx hb dX1_draws_13 rfl (lv_at hl 1 rfl) ?_
  refine lv_icmp_ge (tgt := 107) hx hb dX1_draws_14 (by decide) (fun c3 => ?_) (fun c3 => ?_)
  · have hb2 := cd_ite_t c3 hb2
    have z : some (Sum.inl (z2.2.2.1, z2.2.2.2)) = some o2 := hb2
    cases z
    exact K2 _ hk2 _ _ _ (lv_sub hl [] rfl) hw
  · have hb2 := cd_ite_f c3 hb2
    refine lv_bipush (v := (75 : Int32)) hx hb dX1_draws_17 (by decide) ?_
    refine lv_iload hx hb dX1_draws_19 (lv_at hl 2 rfl) ?_
    refine lv_imul hx hb dX1_draws_21 ?_
    refine lv_bipush (v := (74 : Int32)) hx hb dX1_draws_22 (by decide) ?_
    refine lv_iadd hx hb dX1_draws_24 ?_
    refine lv_ldc (v := (65537 : Int32)) hx hb hown hL0 dX1_draws_25 ?_
    refine lv_irem hx hb dX1_draws_27 (by decide) ?_
    refine lv_istore (lv' := [(4, .int ((((75 : Int32) * z2.1) + (74 : Int32)) - (((75 : Int32) * z2.1) + (74 : Int32)) / (65537 : Int32) * (65537 : Int32))), (0, .ref (h 0)), (3, .int a1), (5, .int z2.2.1)]) hx hb dX1_draws_28 hl (by decide) rfl (fun ls hl => ?_)
    refine va_getsN (v := .ref sb) hx hb hE.2.2.2.2.1 hw.2.2 hown (va_Nw.use rfl (hE.2.1 (.fieldLinkNest RX1 67 "CandleDebts" "DRAWN_KINDS" "[I" RX5) (by simp [cd_nest]))) (fun _ h9 => h9) dX1_draws_30 ?_
    refine lv_iload hx hb dX1_draws_33 (lv_at hl 0 rfl) ?_
    refine lv_bipush (v := (8 : Int32)) hx hb dX1_draws_35 (by decide) ?_
    refine lv_irem hx hb dX1_draws_37 (by decide) ?_
    obtain ⟨v4, e4, hb2⟩ := cd_bind_some hb2
    refine cd_siald hx hb hw hE.2.2.2.2.2 e4 dX1_draws_38 ?_
    refine lv_istore (lv' := [(6, .int v4), (4, .int ((((75 : Int32) * z2.1) + (74 : Int32)) - (((75 : Int32) * z2.1) + (74 : Int32)) / (65537 : Int32) * (65537 : Int32))), (0, .ref (h 0)), (3, .int a1), (5, .int z2.2.1)]) hx hb dX1_draws_39 hl (by decide) rfl (fun ls hl => ?_)
    refine lv_iload hx hb dX1_draws_41 (lv_at hl 1 rfl) ?_
    refine lv_bipush (v := (8 : Int32)) hx hb dX1_draws_43 (by decide) ?_
    refine lv_idiv hx hb dX1_draws_45 (by decide) ?_
    refine lv_bipush (v := (12 : Int32)) hx hb dX1_draws_46 (by decide) ?_
    refine lv_irem hx hb dX1_draws_48 (by decide) ?_
    refine lv_istore (lv' := [(7, .int ((((((75 : Int32) * z2.1) + (74 : Int32)) - (((75 : Int32) * z2.1) + (74 : Int32)) / (65537 : Int32) * (65537 : Int32)) / (8 : Int32)) - (((((75 : Int32) * z2.1) + (74 : Int32)) - (((75 : Int32) * z2.1) + (74 : Int32)) / (65537 : Int32) * (65537 : Int32)) / (8 : Int32)) / (12 : Int32) * (12 : Int32))), (6, .int v4), (4, .int ((((75 : Int32) * z2.1) + (74 : Int32)) - (((75 : Int32) * z2.1) + (74 : Int32)) / (65537 : Int32) * (65537 : Int32))), (0, .ref (h 0)), (3, .int a1), (5, .int z2.2.1)]) hx hb dX1_draws_49 hl (by decide) rfl (fun ls hl => ?_)
    refine lv_iload hx hb dX1_draws_51 (lv_at hl 1 rfl) ?_
    refine lv_bipush (v := (62 : Int32)) hx hb dX1_draws_53 (by decide) ?_
    obtain ⟨x5, e5, hb2⟩ := cd_bind_some hb2
    have K5 : ∀ (ls : Array Slot) (H : Heap) (locs : List Loc), lv_has ls 9 [(0, .ref (h 0)), (3, .int a1), (4, .int ((((75 : Int32) * z2.1) + (74 : Int32)) - (((75 : Int32) * z2.1) + (74 : Int32)) / (65537 : Int32) * (65537 : Int32))), (5, .int z2.2.1), (6, .int v4), (7, .int ((((((75 : Int32) * z2.1) + (74 : Int32)) - (((75 : Int32) * z2.1) + (74 : Int32)) / (65537 : Int32) * (65537 : Int32)) / (8 : Int32)) - (((((75 : Int32) * z2.1) + (74 : Int32)) - (((75 : Int32) * z2.1) + (74 : Int32)) / (65537 : Int32) * (65537 : Int32)) / (8 : Int32)) / (12 : Int32) * (12 : Int32)))] → cd_WS G A s.heap H locs ((pc_play h hs z2.2.2.1) ++ (pc_town cI hs z2.2.2.2) ++ (pc_town cI ht T)) → W p l e rm_X1_draws s m ag below meth c H locs 0 0 Q (F0 m 73 ls [.int x5]) := by
      intro ls H locs hl hw
      refine lv_istore (lv' := [(8, .int x5), (0, .ref (h 0)), (3, .int a1), (4, .int ((((75 : Int32) * z2.1) + (74 : Int32)) - (((75 : Int32) * z2.1) + (74 : Int32)) / (65537 : Int32) * (65537 : Int32))), (5, .int z2.2.1), (6, .int v4), (7, .int ((((((75 : Int32) * z2.1) + (74 : Int32)) - (((75 : Int32) * z2.1) + (74 : Int32)) / (65537 : Int32) * (65537 : Int32)) / (8 : Int32)) - (((((75 : Int32) * z2.1) + (74 : Int32)) - (((75 : Int32) * z2.1) + (74 : Int32)) / (65537 : Int32) * (65537 : Int32)) / (8 : Int32)) / (12 : Int32) * (12 : Int32)))]) hx hb dX1_draws_73 hl (by decide) rfl (fun ls hl => ?_)
      refine lv_iload hx hb dX1_draws_75 (lv_at hl 5 rfl) ?_
      refine lv_bipush (v := (62 : Int32)) hx hb dX1_draws_77 (by decide) ?_
      refine lv_icmp_ne (tgt := 90) hx hb dX1_draws_79 (by decide) (fun c6 => ?_) (fun c6 => ?_)
      · have hb2 := cd_ite_f c6 hb2
        refine lv_aload_n hx hb dX1_draws_90 rfl (lv_at hl 1 rfl) ?_
        refine lv_iload hx hb dX1_draws_91 (lv_at hl 5 rfl) ?_
        refine lv_iload hx hb dX1_draws_93 (lv_at hl 6 rfl) ?_
        refine lv_iload hx hb dX1_draws_95 (lv_at hl 0 rfl) ?_
        obtain ⟨r10, e10, hb2⟩ := cd_bind_some hb2
        refine cd_callVw (As := [.int v4, .int ((((((75 : Int32) * z2.1) + (74 : Int32)) - (((75 : Int32) * z2.1) + (74 : Int32)) / (65537 : Int32) * (65537 : Int32)) / (8 : Int32)) - (((((75 : Int32) * z2.1) + (74 : Int32)) - (((75 : Int32) * z2.1) + (74 : Int32)) / (65537 : Int32) * (65537 : Int32)) / (8 : Int32)) / (12 : Int32) * (12 : Int32)), .int x5]) (rest := []) (wr := (pc_town cI ht T)) (wn := (pc_play h hs r10.2.1) ++ (pc_town cI hs r10.2.2) ++ (pc_town cI ht T)) C0 hw (c_X1_attempt l G cI cZ sa sb h hs z2.2.2.1 z2.2.2.2 v4 ((((((75 : Int32) * z2.1) + (74 : Int32)) - (((75 : Int32) * z2.1) + (74 : Int32)) / (65537 : Int32) * (65537 : Int32)) / (8 : Int32)) - (((((75 : Int32) * z2.1) + (74 : Int32)) - (((75 : Int32) * z2.1) + (74 : Int32)) / (65537 : Int32) * (65537 : Int32)) / (8 : Int32)) / (12 : Int32) * (12 : Int32)) x5 r10 e10) [0, 1, 2, 3, 4, 5, 6, 7, 8, 9, 10, 11] [12, 13, 14, 15, 16, 17, 18, 19, 20, 21, 22] [11, 12, 13, 14, 15, 16, 17, 18, 19, 20, 21, 22, 0, 1, 2, 3, 4, 5, 6, 7, 8, 9, 10] rfl rfl rfl rfl (by decide) rfl rfl 0 1 rfl rfl rfl (cwV 3 hts gX1_draws_X1_attempt rfl rfl rfl (by decide +kernel) ⟨Nat.le_of_ble_eq_true rfl, Nat.le_of_ble_eq_true rfl⟩) rfl hl.1 (lv_room (Nat.le_of_ble_eq_true rfl)) dX1_draws_97 (fun H locs hw => ?_)
        refine lv_pop hx hb dX1_draws_100 rfl ?_
        refine lv_iinc (v := (z2.2.1 + (1 : Int32))) (lv' := [(5, .int (z2.2.1 + (1 : Int32))), (8, .int x5), (0, .ref (h 0)), (3, .int a1), (4, .int ((((75 : Int32) * z2.1) + (74 : Int32)) - (((75 : Int32) * z2.1) + (74 : Int32)) / (65537 : Int32) * (65537 : Int32))), (6, .int v4), (7, .int ((((((75 : Int32) * z2.1) + (74 : Int32)) - (((75 : Int32) * z2.1) + (74 : Int32)) / (65537 : Int32) * (65537 : Int32)) / (8 : Int32)) - (((((75 : Int32) * z2.1) + (74 : Int32)) - (((75 : Int32) * z2.1) + (74 : Int32)) / (65537 : Int32) * (65537 : Int32)) / (8 : Int32)) / (12 : Int32) * (12 : Int32)))]) hx hb dX1_draws_101 hl (k := 4) rfl rfl (by decide) rfl (fun ls hl => ?_)
        refine lv_goto (tgt := 11) hx hb dX1_draws_104 (by decide) ?_
        have z : some (Sum.inr (((((75 : Int32) * z2.1) + (74 : Int32)) - (((75 : Int32) * z2.1) + (74 : Int32)) / (65537 : Int32) * (65537 : Int32)), (z2.2.1 + (1 : Int32)), r10.2.1, r10.2.2)) = some o2 := hb2
        cases z
        exact hk2 _ _ _ (lv_sub hl [2, 3, 4, 0] rfl) hw
      · have hb2 := cd_ite_t c6 hb2
        refine lv_iload hx hb dX1_draws_82 (lv_at hl 0 rfl) ?_
        obtain ⟨r7, e7, hb2⟩ := cd_bind_some hb2
        refine cd_callSN (As := [.int x5]) (rest := []) C0 hw (c_X5_isCandle l G cI cZ sa sb x5 r7 e7) [] rfl rfl ⟨va_cnB 1 hts ggX1_draws_X5_isCandle rfl rfl rfl (hE.2.1 (.methodLinkNest RX1 71 yX5_isCandle RX5) (by simp [cd_nest])) hL1 (by decide +kernel) ⟨Nat.le_of_ble_eq_true rfl, Nat.le_of_ble_eq_true rfl⟩, hL2, trivial⟩ rfl hl.1 (lv_room (Nat.le_of_ble_eq_true rfl)) dX1_draws_84 (fun H locs hw => ?_)
        refine lv_if_eq (tgt := 101) hx hb dX1_draws_87 (by decide) (fun c8 => ?_) (fun c8 => ?_)
        · have hb2 := cd_ite_t c8 hb2
          refine lv_iinc (v := (z2.2.1 + (1 : Int32))) (lv' := [(5, .int (z2.2.1 + (1 : Int32))), (8, .int x5), (0, .ref (h 0)), (3, .int a1), (4, .int ((((75 : Int32) * z2.1) + (74 : Int32)) - (((75 : Int32) * z2.1) + (74 : Int32)) / (65537 : Int32) * (65537 : Int32))), (6, .int v4), (7, .int ((((((75 : Int32) * z2.1) + (74 : Int32)) - (((75 : Int32) * z2.1) + (74 : Int32)) / (65537 : Int32) * (65537 : Int32)) / (8 : Int32)) - (((((75 : Int32) * z2.1) + (74 : Int32)) - (((75 : Int32) * z2.1) + (74 : Int32)) / (65537 : Int32) * (65537 : Int32)) / (8 : Int32)) / (12 : Int32) * (12 : Int32)))]) hx hb dX1_draws_101 hl (k := 4) rfl rfl (by decide) rfl (fun ls hl => ?_)
          refine lv_goto (tgt := 11) hx hb dX1_draws_104 (by decide) ?_
          have z : some (Sum.inr (((((75 : Int32) * z2.1) + (74 : Int32)) - (((75 : Int32) * z2.1) + (74 : Int32)) / (65537 : Int32) * (65537 : Int32)), (z2.2.1 + (1 : Int32)), z2.2.2.1, z2.2.2.2)) = some o2 := hb2
          cases z
          exact hk2 _ _ _ (lv_sub hl [2, 3, 4, 0] rfl) hw
        · have hb2 := cd_ite_f c8 hb2
          refine lv_aload_n hx hb dX1_draws_90 rfl (lv_at hl 1 rfl) ?_
          refine lv_iload hx hb dX1_draws_91 (lv_at hl 5 rfl) ?_
          refine lv_iload hx hb dX1_draws_93 (lv_at hl 6 rfl) ?_
          refine lv_iload hx hb dX1_draws_95 (lv_at hl 0 rfl) ?_
          obtain ⟨r9, e9, hb2⟩ := cd_bind_some hb2
          refine cd_callVw (As := [.int v4, .int ((((((75 : Int32) * z2.1) + (74 : Int32)) - (((75 : Int32) * z2.1) + (74 : Int32)) / (65537 : Int32) * (65537 : Int32)) / (8 : Int32)) - (((((75 : Int32) * z2.1) + (74 : Int32)) - (((75 : Int32) * z2.1) + (74 : Int32)) / (65537 : Int32) * (65537 : Int32)) / (8 : Int32)) / (12 : Int32) * (12 : Int32)), .int x5]) (rest := []) (wr := (pc_town cI ht T)) (wn := (pc_play h hs r9.2.1) ++ (pc_town cI hs r9.2.2) ++ (pc_town cI ht T)) C0 hw (c_X1_attempt l G cI cZ sa sb h hs z2.2.2.1 z2.2.2.2 v4 ((((((75 : Int32) * z2.1) + (74 : Int32)) - (((75 : Int32) * z2.1) + (74 : Int32)) / (65537 : Int32) * (65537 : Int32)) / (8 : Int32)) - (((((75 : Int32) * z2.1) + (74 : Int32)) - (((75 : Int32) * z2.1) + (74 : Int32)) / (65537 : Int32) * (65537 : Int32)) / (8 : Int32)) / (12 : Int32) * (12 : Int32)) x5 r9 e9) [0, 1, 2, 3, 4, 5, 6, 7, 8, 9, 10, 11] [12, 13, 14, 15, 16, 17, 18, 19, 20, 21, 22] [11, 12, 13, 14, 15, 16, 17, 18, 19, 20, 21, 22, 0, 1, 2, 3, 4, 5, 6, 7, 8, 9, 10] rfl rfl rfl rfl (by decide) rfl rfl 0 1 rfl rfl rfl (cwV 3 hts gX1_draws_X1_attempt rfl rfl rfl (by decide +kernel) ⟨Nat.le_of_ble_eq_true rfl, Nat.le_of_ble_eq_true rfl⟩) rfl hl.1 (lv_room (Nat.le_of_ble_eq_true rfl)) dX1_draws_97 (fun H locs hw => ?_)
          refine lv_pop hx hb dX1_draws_100 rfl ?_
          refine lv_iinc (v := (z2.2.1 + (1 : Int32))) (lv' := [(5, .int (z2.2.1 + (1 : Int32))), (8, .int x5), (0, .ref (h 0)), (3, .int a1), (4, .int ((((75 : Int32) * z2.1) + (74 : Int32)) - (((75 : Int32) * z2.1) + (74 : Int32)) / (65537 : Int32) * (65537 : Int32))), (6, .int v4), (7, .int ((((((75 : Int32) * z2.1) + (74 : Int32)) - (((75 : Int32) * z2.1) + (74 : Int32)) / (65537 : Int32) * (65537 : Int32)) / (8 : Int32)) - (((((75 : Int32) * z2.1) + (74 : Int32)) - (((75 : Int32) * z2.1) + (74 : Int32)) / (65537 : Int32) * (65537 : Int32)) / (8 : Int32)) / (12 : Int32) * (12 : Int32)))]) hx hb dX1_draws_101 hl (k := 4) rfl rfl (by decide) rfl (fun ls hl => ?_)
          refine lv_goto (tgt := 11) hx hb dX1_draws_104 (by decide) ?_
          have z : some (Sum.inr (((((75 : Int32) * z2.1) + (74 : Int32)) - (((75 : Int32) * z2.1) + (74 : Int32)) / (65537 : Int32) * (65537 : Int32)), (z2.2.1 + (1 : Int32)), r9.2.1, r9.2.2)) = some o2 := hb2
          cases z
          exact hk2 _ _ _ (lv_sub hl [2, 3, 4, 0] rfl) hw
    refine lv_icmp_ne (tgt := 65) hx hb dX1_draws_55 (by decide) (fun c5 => ?_) (fun c5 => ?_)
    · have e5 := cd_ite_f c5 e5
      refine lv_iload hx hb dX1_draws_65 (lv_at hl 2 rfl) ?_
      refine lv_bipush (v := (96 : Int32)) hx hb dX1_draws_67 (by decide) ?_
      refine lv_idiv hx hb dX1_draws_69 (by decide) ?_
      refine lv_bipush (v := (10 : Int32)) hx hb dX1_draws_70 (by decide) ?_
      refine lv_irem hx hb dX1_draws_72 (by decide) ?_
      have z : some ((((((75 : Int32) * z2.1) + (74 : Int32)) - (((75 : Int32) * z2.1) + (74 : Int32)) / (65537 : Int32) * (65537 : Int32)) / (96 : Int32)) - (((((75 : Int32) * z2.1) + (74 : Int32)) - (((75 : Int32) * z2.1) + (74 : Int32)) / (65537 : Int32) * (65537 : Int32)) / (96 : Int32)) / (10 : Int32) * (10 : Int32)) = some x5 := e5
      cases z
      exact K5 _ _ _ (lv_sub hl [3, 4, 2, 5, 1, 0] rfl) hw
    · have e5 := cd_ite_t c5 e5
      refine lv_iload hx hb dX1_draws_58 (lv_at hl 0 rfl) ?_
      refine lv_iconst (v := (1 : Int32)) hx hb dX1_draws_60 (by decide) ?_
      refine lv_iadd hx hb dX1_draws_61 ?_
      refine lv_goto (tgt := 73) hx hb dX1_draws_62 (by decide) ?_
      have z : some (((((((75 : Int32) * z2.1) + (74 : Int32)) - (((75 : Int32) * z2.1) + (74 : Int32)) / (65537 : Int32) * (65537 : Int32)) / (8 : Int32)) - (((((75 : Int32) * z2.1) + (74 : Int32)) - (((75 : Int32) * z2.1) + (74 : Int32)) / (65537 : Int32) * (65537 : Int32)) / (8 : Int32)) / (12 : Int32) * (12 : Int32)) + (1 : Int32)) = some x5 := e5
      cases z
      exact K5 _ _ _ (lv_sub hl [3, 4, 2, 5, 1, 0] rfl) hw
abbrev rm_X1_night : Room := { frames := 5, cells := 0, slots := 0, locals := 110 }
theorem nw_X1_night_X0 : ∀ w ∈ u_ws RX0 TX0 6, w ∈ wsX1_night := by decide +kernel
set_option maxHeartbeats 4000000 in
set_option maxRecDepth 100000 in
theorem c_X1_night (l : Launch) (G : va_G) (cI cZ : ClassId) (sa sb : Nat) (h hs ht hp : Nat → Nat) (Y S T P : Nat → Nat → Int32) (o : Int32 × (Nat → Nat → Int32) × (Nat → Nat → Int32) × (Nat → Nat → Int32)) (hf : f_X1_night Y S T P = some o) : cd_Ct l G cI cZ sa sb yX1_night wsX1_night rm_X1_night [.ref (h 0), .ref (ht 0), .ref (hp 0)] ((pc_play h hs Y) ++ (pc_town cI hs S) ++ (pc_town cI ht T) ++ (pc_pad cI hp P)) ((pc_play h hs o.2.1) ++ (pc_town cI hs o.2.2.1) ++ (pc_town cI ht T) ++ (pc_pad cI hp o.2.2.2)) (some (.int o.1)) := by
  refine cd_of (cc := cX1_night) (maxL := 5) (ret := (some .boolean)) (by decide) rfl (Nat.le_of_ble_eq_true rfl) ?_
  intro p e s m ag below meth c A ls Q C0 hl hw hQ
  have C0 : cd_CX G cI cZ sa sb p s m ag meth c cX1_night 5 (some .boolean) wsX1_night RX1 A := C0
  obtain ⟨⟨hx, hb, hml, hown, hts⟩, hr, hlocks, hA, hE⟩ := id C0
  have hK := hE.1
  have hL0 := hts (.fieldLink RX1 41 "CandleDebts$Pad" "count" "I") (by decide +kernel)
  have hL1 := hts (.fieldLink RX1 50 "CandleDebts$Pad" "kind" "I") (by decide +kernel)
  have hL2 := hts (.fieldLink RX1 53 "CandleDebts$Pad" "first" "I") (by decide +kernel)
  have hL3 := hts (.fieldLink RX1 56 "CandleDebts$Pad" "second" "I") (by decide +kernel)
  have hL4 := hts (.fieldLink RX1 63 "CandleDebts$Pad" "next" "I") (by decide +kernel)
  have hl : lv_has ls 5 [(0, .ref (h 0)), (1, .ref (ht 0)), (2, .ref (hp 0))] := hl
  unfold f_X1_night at hf
  refine lv_aload_n hx hb dX1_night_0 rfl (lv_at hl 0 rfl) ?_
  refine lv_aload_n hx hb dX1_night_1 rfl (lv_at hl 1 rfl) ?_
  obtain ⟨r1, e1, hf⟩ := cd_bind_some hf
  refine cd_callVw (As := [.ref (ht 0)]) (rest := []) (wr := (pc_pad cI hp P)) (wn := (pc_play h hs r1.1) ++ (pc_town cI hs r1.2) ++ (pc_town cI ht T) ++ (pc_pad cI hp P)) C0 hw (c_X1_begin l G cI cZ sa sb h hs ht Y S T r1 e1) [0, 1, 2, 3, 4, 5, 6, 7, 8, 9, 10, 11, 12, 13, 14, 15, 16, 17, 18, 19, 20, 21, 22] [23, 24] [2, 3, 4, 5, 6, 7, 8, 9, 10, 11, 12, 13, 14, 15, 16, 17, 18, 19, 20, 21, 22, 23, 24, 0, 1] rfl rfl rfl rfl (by decide) rfl rfl 0 1 rfl rfl rfl (cwV 1 hts gX1_night_X1_begin rfl rfl rfl (by decide +kernel) ⟨Nat.le_of_ble_eq_true rfl, Nat.le_of_ble_eq_true rfl⟩) rfl hl.1 (lv_room (Nat.le_of_ble_eq_true rfl)) dX1_night_2 (fun H locs hw => ?_)
  refine lv_iconst (v := (0 : Int32)) hx hb dX1_night_5 (by decide) ?_
  refine lv_istore_n (lv' := [(3, .int (0 : Int32)), (0, .ref (h 0)), (1, .ref (ht 0)), (2, .ref (hp 0))]) hx hb dX1_night_6 rfl hl (by decide) rfl (fun ls hl => ?_)
  refine lv_iconst (v := (0 : Int32)) hx hb dX1_night_7 (by decide) ?_
  refine lv_istore (lv' := [(4, .int (0 : Int32)), (3, .int (0 : Int32)), (0, .ref (h 0)), (1, .ref (ht 0)), (2, .ref (hp 0))]) hx hb dX1_night_8 hl (by decide) rfl (fun ls hl => ?_)
  obtain ⟨x2, e2, hf⟩ := cd_bind_some hf
  have K2 : ∀ (t2 : (Nat → Nat → Int32) × (Nat → Nat → Int32) × (Nat → Nat → Int32)), Sum.inr t2 = x2 → ∀ (ls : Array Slot) (H : Heap) (locs : List Loc), lv_has ls 5 [] → cd_WS G A s.heap H locs ((pc_play h hs t2.1) ++ (pc_town cI hs t2.2.1) ++ (pc_town cI ht T) ++ (pc_pad cI hp t2.2.2)) → W p l e rm_X1_night s m ag below meth c H locs 0 0 Q (F0 m 67 ls []) := by
    intro t2 hs_2
    subst hs_2
    intro ls H locs hl hw
    refine lv_iconst (v := (1 : Int32)) hx hb dX1_night_67 (by decide) ?_
    have z : some ((1 : Int32), t2.1, t2.2.1, t2.2.2) = some o := hf
    cases z
    rw [hQ]
    exact cd_retz C0 hw (by decide) dX1_night_68
  refine cd_iter_ind (body := f_X1_night_b10) (K := fun r => r = x2) (P := fun (z2 : Int32 × Int32 × (Nat → Nat → Int32) × (Nat → Nat → Int32) × (Nat → Nat → Int32)) => ∀ (ls : Array Slot) (H : Heap) (locs : List Loc), lv_has ls 5 [(0, .ref (h 0)), (2, .ref (hp 0)), (3, .int z2.1), (4, .int z2.2.1)] → cd_WS G A s.heap H locs ((pc_play h hs z2.2.2.1) ++ (pc_town cI hs z2.2.2.2.1) ++ (pc_town cI ht T) ++ (pc_pad cI hp z2.2.2.2.2)) → W p l e rm_X1_night s m ag below meth c H locs 0 0 Q (F0 m 10 ls [])) ?_ cd_N ((0 : Int32), (0 : Int32), r1.1, r1.2, P) x2 e2 rfl _ _ _ (lv_sub hl [2, 4, 1, 0] rfl) hw
  intro z2 o2 hb2 hk2 ls H locs hl hw
  unfold f_X1_night_b10 at hb2
  refine lv_iload hx hb dX1_night_10 (lv_at hl 3 rfl) ?_
  refine lv_bipush (v := (60 : Int32)) hx hb dX1_night_12 (by decide) ?_
  refine lv_icmp_ge (tgt := 67) hx hb dX1_night_14 (by decide) (fun c3 => ?_) (fun c3 => ?_)
  · have hb2 := cd_ite_t c3 hb2
    have z : some (Sum.inl (Sum.inr (z2.2.2.1, z2.2.2.2.1, z2.2.2.2.2))) = some o2 := hb2
    cases z
    exact K2 _ hk2 _ _ _ (lv_sub hl [] rfl) hw
  · have hb2 := cd_ite_f c3 hb2
    refine lv_iload_n hx hb dX1_night_17 rfl (lv_at hl 2 rfl) ?_
    refine lv_aload_n hx hb dX1_night_18 rfl (lv_at hl 1 rfl) ?_
    refine va_get (D := G) (ci := 0) (v := .int (z2.2.2.2.2 1 0)) (C := RX0) (T := TX0) (N := 6) hx hb hts nw_X1_night_X0 hown hK hw.1 23 rfl rfl 1 (by decide) hL0 (fun _ h9 => h9) rfl dX1_night_19 ?_
    refine lv_icmp_ge (tgt := 67) hx hb dX1_night_22 (by decide) (fun c4 => ?_) (fun c4 => ?_)
    · have hb2 := cd_ite_t c4 hb2
      have z : some (Sum.inl (Sum.inr (z2.2.2.1, z2.2.2.2.1, z2.2.2.2.2))) = some o2 := hb2
      cases z
      exact K2 _ hk2 _ _ _ (lv_sub hl [] rfl) hw
    · have hb2 := cd_ite_f c4 hb2
      refine lv_aload_n hx hb dX1_night_25 rfl (lv_at hl 1 rfl) ?_
      refine lv_iload_n hx hb dX1_night_26 rfl (lv_at hl 2 rfl) ?_
      obtain ⟨r5, e5, hb2⟩ := cd_bind_some hb2
      refine cd_callVw (As := [.int z2.1]) (rest := []) (wr := (pc_play h hs z2.2.2.1) ++ (pc_town cI hs z2.2.2.2.1) ++ (pc_town cI ht T)) (wn := (pc_play h hs z2.2.2.1) ++ (pc_town cI hs z2.2.2.2.1) ++ (pc_town cI ht T) ++ (pc_pad cI hp r5.2)) C0 hw (c_X0_readAct l G cI cZ sa sb hp z2.2.2.2.2 z2.1 r5 e5) [23, 24] [0, 1, 2, 3, 4, 5, 6, 7, 8, 9, 10, 11, 12, 13, 14, 15, 16, 17, 18, 19, 20, 21, 22] [0, 1, 2, 3, 4, 5, 6, 7, 8, 9, 10, 11, 12, 13, 14, 15, 16, 17, 18, 19, 20, 21, 22, 23, 24] rfl rfl rfl rfl (by decide) rfl rfl 0 0 rfl rfl rfl (cwV 1 hts gX1_night_X0_readAct rfl rfl rfl (by decide +kernel) ⟨Nat.le_of_ble_eq_true rfl, Nat.le_of_ble_eq_true rfl⟩) rfl hl.1 (lv_room (Nat.le_of_ble_eq_true rfl)) dX1_night_27 (fun H locs hw => ?_)
      refine lv_bipush (v := (-6 : Int32)) hx hb dX1_night_30 (by decide) ?_
      refine lv_icmp_ne (tgt := 54) hx hb dX1_night_32 (by decide) (fun c6 => ?_) (fun c6 => ?_)
      · have hb2 := cd_ite_f c6 hb2
        refine lv_iconst (v := (0 : Int32)) hx hb dX1_night_54 (by decide) ?_
        have z : some (Sum.inl (Sum.inl ((0 : Int32), z2.2.2.1, z2.2.2.2.1, r5.2))) = some o2 := hb2
        cases z
        have y2 : Sum.inl ((0 : Int32), z2.2.2.1, z2.2.2.2.1, r5.2) = x2 := hk2
        subst y2
        have z : some ((0 : Int32), z2.2.2.1, z2.2.2.2.1, r5.2) = some o := hf
        cases z
        rw [hQ]
        exact cd_retz C0 hw (by decide) dX1_night_55
      · have hb2 := cd_ite_t c6 hb2
        refine lv_aload_n hx hb dX1_night_35 rfl (lv_at hl 0 rfl) ?_
        refine lv_aload_n hx hb dX1_night_36 rfl (lv_at hl 1 rfl) ?_
        refine va_get (D := G) (ci := 0) (v := .int (r5.2 2 0)) (C := RX0) (T := TX0) (N := 6) hx hb hts nw_X1_night_X0 hown hK hw.1 23 rfl rfl 2 (by decide) hL1 (fun _ h9 => h9) rfl dX1_night_37 ?_
        refine lv_aload_n hx hb dX1_night_40 rfl (lv_at hl 1 rfl) ?_
        refine va_get (D := G) (ci := 0) (v := .int (r5.2 3 0)) (C := RX0) (T := TX0) (N := 6) hx hb hts nw_X1_night_X0 hown hK hw.1 23 rfl rfl 3 (by decide) hL2 (fun _ h9 => h9) rfl dX1_night_41 ?_
        refine lv_aload_n hx hb dX1_night_44 rfl (lv_at hl 1 rfl) ?_
        refine va_get (D := G) (ci := 0) (v := .int (r5.2 4 0)) (C := RX0) (T := TX0) (N := 6) hx hb hts nw_X1_night_X0 hown hK hw.1 23 rfl rfl 4 (by decide) hL3 (fun _ h9 => h9) rfl dX1_night_45 ?_
        obtain ⟨r7, e7, hb2⟩ := cd_bind_some hb2
        refine cd_callVw (As := [.int (r5.2 2 0), .int (r5.2 3 0), .int (r5.2 4 0)]) (rest := []) (wr := (pc_town cI ht T) ++ (pc_pad cI hp r5.2)) (wn := (pc_play h hs r7.2.1) ++ (pc_town cI hs r7.2.2) ++ (pc_town cI ht T) ++ (pc_pad cI hp r5.2)) C0 hw (c_X1_attempt l G cI cZ sa sb h hs z2.2.2.1 z2.2.2.2.1 (r5.2 2 0) (r5.2 3 0) (r5.2 4 0) r7 e7) [0, 1, 2, 3, 4, 5, 6, 7, 8, 9, 10, 11] [12, 13, 14, 15, 16, 17, 18, 19, 20, 21, 22, 23, 24] [13, 14, 15, 16, 17, 18, 19, 20, 21, 22, 23, 24, 0, 1, 2, 3, 4, 5, 6, 7, 8, 9, 10, 11, 12] rfl rfl rfl rfl (by decide) rfl rfl 0 1 rfl rfl rfl (cwV 3 hts gX1_night_X1_attempt rfl rfl rfl (by decide +kernel) ⟨Nat.le_of_ble_eq_true rfl, Nat.le_of_ble_eq_true rfl⟩) rfl hl.1 (lv_room (Nat.le_of_ble_eq_true rfl)) dX1_night_48 (fun H locs hw => ?_)
        refine lv_if_ne (tgt := 56) hx hb dX1_night_51 (by decide) (fun c8 => ?_) (fun c8 => ?_)
        · have hb2 := cd_ite_f c8 hb2
          refine lv_aload_n hx hb dX1_night_56 rfl (lv_at hl 1 rfl) ?_
          refine va_get (D := G) (ci := 0) (v := .int (r5.2 5 0)) (C := RX0) (T := TX0) (N := 6) hx hb hts nw_X1_night_X0 hown hK hw.1 23 rfl rfl 5 (by decide) hL4 (fun _ h9 => h9) rfl dX1_night_57 ?_
          refine lv_istore_n (lv' := [(3, .int (r5.2 5 0)), (0, .ref (h 0)), (2, .ref (hp 0)), (4, .int z2.2.1)]) hx hb dX1_night_60 rfl hl (by decide) rfl (fun ls hl => ?_)
          refine lv_iinc (v := (z2.2.1 + (1 : Int32))) (lv' := [(4, .int (z2.2.1 + (1 : Int32))), (3, .int (r5.2 5 0)), (0, .ref (h 0)), (2, .ref (hp 0))]) hx hb dX1_night_61 hl (k := 3) rfl rfl (by decide) rfl (fun ls hl => ?_)
          refine lv_goto (tgt := 10) hx hb dX1_night_64 (by decide) ?_
          have z : some (Sum.inr ((r5.2 5 0), (z2.2.1 + (1 : Int32)), r7.2.1, r7.2.2, r5.2)) = some o2 := hb2
          cases z
          exact hk2 _ _ _ (lv_sub hl [2, 3, 1, 0] rfl) hw
        · have hb2 := cd_ite_t c8 hb2
          refine lv_iconst (v := (0 : Int32)) hx hb dX1_night_54 (by decide) ?_
          have z : some (Sum.inl (Sum.inl ((0 : Int32), r7.2.1, r7.2.2, r5.2))) = some o2 := hb2
          cases z
          have y2 : Sum.inl ((0 : Int32), r7.2.1, r7.2.2, r5.2) = x2 := hk2
          subst y2
          have z : some ((0 : Int32), r7.2.1, r7.2.2, r5.2) = some o := hf
          cases z
          rw [hQ]
          exact cd_retz C0 hw (by decide) dX1_night_55
abbrev rm_X2_countOf : Room := { frames := 1, cells := 0, slots := 0, locals := 13 }
theorem nw_X2_countOf_X2 : ∀ w ∈ u_ws RX2 TX2 3, w ∈ wsX2_countOf := by decide +kernel
set_option maxHeartbeats 4000000 in
set_option maxRecDepth 100000 in
theorem c_X2_countOf (l : Launch) (G : va_G) (cI cZ : ClassId) (sa sb : Nat) (h : Nat → Nat) (Z : Nat → Nat → Int32) (a0 : Int32) (o : Int32) (hf : f_X2_countOf a0 Z = some o) : cd_Ct l G cI cZ sa sb yX2_countOf wsX2_countOf rm_X2_countOf [.ref (h 0), .int a0] ((pc_snz cI h Z)) ((pc_snz cI h Z)) (some (.int o)) := by
  refine cd_of (cc := cX2_countOf) (maxL := 2) (ret := (some .int)) (by decide) rfl (Nat.le_of_ble_eq_true rfl) ?_
  intro p e s m ag below meth c A ls Q C0 hl hw hQ
  have C0 : cd_CX G cI cZ sa sb p s m ag meth c cX2_countOf 2 (some .int) wsX2_countOf RX2 A := C0
  obtain ⟨⟨hx, hb, hml, hown, hts⟩, hr, hlocks, hA, hE⟩ := id C0
  have hK := hE.1
  have hL0 := hts (.fieldLink RX2 15 "CandleDebts$Sneezing" "ends" "[I") (by decide +kernel)
  have hL1 := hts (.fieldLink RX2 9 "CandleDebts$Sneezing" "begins" "[I") (by decide +kernel)
  have hL2 := hts (.methodLink RX2 48 Lib.Math.max.name) (by decide +kernel)
  have hL3 := hts (.static Lib.Math.max.name) (by decide +kernel)
  have hL4 := hts (.initialized "java/lang/Math") (by decide +kernel)
  have hL5 := hts (.code Lib.Math.max.name Lib.Math.max.code 2 (some .int)) (by decide +kernel)
  have hl : lv_has ls 2 [(0, .ref (h 0)), (1, .int a0)] := hl
  unfold f_X2_countOf at hf
  refine lv_iconst (v := (0 : Int32)) hx hb dX2_countOf_0 (by decide) ?_
  refine lv_aload_n hx hb dX2_countOf_1 rfl (lv_at hl 0 rfl) ?_
  refine va_get (D := G) (ci := 2) (v := .ref (h 2)) (C := RX2) (T := TX2) (N := 3) hx hb hts nw_X2_countOf_X2 hown hK hw.1 0 rfl rfl 1 (by decide) hL0 (fun _ h9 => h9) rfl dX2_countOf_2 ?_
  refine lv_iload_n hx hb dX2_countOf_5 rfl (lv_at hl 1 rfl) ?_
  obtain ⟨v1, e1, hf⟩ := cd_bind_some hf
  refine cd_iald hx hb hK hw 2 rfl e1 dX2_countOf_6 ?_
  refine lv_aload_n hx hb dX2_countOf_7 rfl (lv_at hl 0 rfl) ?_
  refine va_get (D := G) (ci := 2) (v := .ref (h 1)) (C := RX2) (T := TX2) (N := 3) hx hb hts nw_X2_countOf_X2 hown hK hw.1 0 rfl rfl 0 (by decide) hL1 (fun _ h9 => h9) rfl dX2_countOf_8 ?_
  refine lv_iload_n hx hb dX2_countOf_11 rfl (lv_at hl 1 rfl) ?_
  obtain ⟨v2, e2, hf⟩ := cd_bind_some hf
  refine cd_iald hx hb hK hw 1 rfl e2 dX2_countOf_12 ?_
  refine lv_isub hx hb dX2_countOf_13 ?_
  refine lv_iconst (v := (1 : Int32)) hx hb dX2_countOf_14 (by decide) ?_
  refine lv_iadd hx hb dX2_countOf_15 ?_
  refine cd_mmax hx hb (hml.trans hl.1.symm) hown hL2 hL3 hL4 hL5 (Nat.le_of_ble_eq_true rfl) (Nat.le_of_ble_eq_true rfl) dX2_countOf_16 ?_
  have z : some (cd_max (0 : Int32) ((v1 - v2) + (1 : Int32))) = some o := hf
  cases z
  rw [hQ]
  exact cd_reti C0 hw dX2_countOf_19
abbrev rm_X2_atWindow : Room := { frames := 1, cells := 0, slots := 0, locals := 22 }
theorem nw_X2_atWindow_X2 : ∀ w ∈ u_ws RX2 TX2 3, w ∈ wsX2_atWindow := by decide +kernel
set_option maxHeartbeats 4000000 in
set_option maxRecDepth 100000 in
theorem c_X2_atWindow (l : Launch) (G : va_G) (cI cZ : ClassId) (sa sb : Nat) (h : Nat → Nat) (Z : Nat → Nat → Int32) (a0 : Int32) (a1 : Int32) (o : Int32) (hf : f_X2_atWindow a0 a1 Z = some o) : cd_Ct l G cI cZ sa sb yX2_atWindow wsX2_atWindow rm_X2_atWindow [.ref (h 0), .int a0, .int a1] ((pc_snz cI h Z)) ((pc_snz cI h Z)) (some (.int o)) := by
  refine cd_of (cc := cX2_atWindow) (maxL := 7) (ret := (some .int)) (by decide) rfl (Nat.le_of_ble_eq_true rfl) ?_
  intro p e s m ag below meth c A ls Q C0 hl hw hQ
  have C0 : cd_CX G cI cZ sa sb p s m ag meth c cX2_atWindow 7 (some .int) wsX2_atWindow RX2 A := C0
  obtain ⟨⟨hx, hb, hml, hown, hts⟩, hr, hlocks, hA, hE⟩ := id C0
  have hK := hE.1
  have hL0 := hts (.fieldLink RX2 9 "CandleDebts$Sneezing" "begins" "[I") (by decide +kernel)
  have hL1 := hts (.fieldLink RX2 15 "CandleDebts$Sneezing" "ends" "[I") (by decide +kernel)
  have hL2 := hts (.initialized RX5) (by decide +kernel)
  have hL3 := hts (.static yX5_within) (by decide +kernel)
  have hl : lv_has ls 7 [(0, .ref (h 0)), (1, .int a0), (2, .int a1)] := hl
  unfold f_X2_atWindow at hf
  refine lv_iload_n hx hb dX2_atWindow_0 rfl (lv_at hl 2 rfl) ?_
  refine lv_istore_n (lv' := [(3, .int a1), (0, .ref (h 0)), (1, .int a0), (2, .int a1)]) hx hb dX2_atWindow_1 rfl hl (by decide) rfl (fun ls hl => ?_)
  refine lv_iconst (v := (0 : Int32)) hx hb dX2_atWindow_2 (by decide) ?_
  refine lv_istore (lv' := [(4, .int (0 : Int32)), (3, .int a1), (0, .ref (h 0)), (1, .int a0), (2, .int a1)]) hx hb dX2_atWindow_3 hl (by decide) rfl (fun ls hl => ?_)
  obtain ⟨x1, e1, hf⟩ := cd_bind_some hf
  have K1 : ∀ (t1 : Unit), Sum.inr t1 = x1 → ∀ (ls : Array Slot) (H : Heap) (locs : List Loc), lv_has ls 7 [] → cd_WS G A s.heap H locs ((pc_snz cI h Z)) → W p l e rm_X2_atWindow s m ag below meth c H locs 0 0 Q (F0 m 85 ls []) := by
    intro t1 hs_1
    subst hs_1
    intro ls H locs hl hw
    refine lv_bipush (v := (-6 : Int32)) hx hb dX2_atWindow_85 (by decide) ?_
    have z : some (-6 : Int32) = some o := hf
    cases z
    rw [hQ]
    exact cd_reti C0 hw dX2_atWindow_87
  refine cd_iter_ind (body := (f_X2_atWindow_b5 a0 Z)) (K := fun r => r = x1) (P := fun (z1 : Int32 × Int32) => ∀ (ls : Array Slot) (H : Heap) (locs : List Loc), lv_has ls 7 [(0, .ref (h 0)), (1, .int a0), (3, .int z1.1), (4, .int z1.2)] → cd_WS G A s.heap H locs ((pc_snz cI h Z)) → W p l e rm_X2_atWindow s m ag below meth c H locs 0 0 Q (F0 m 5 ls [])) ?_ cd_N (a1, (0 : Int32)) x1 e1 rfl _ _ _ (lv_sub hl [2, 3, 1, 0] rfl) hw
  intro z1 o1 hb1 hk1 ls H locs hl hw
  unfold f_X2_atWindow_b5 at hb1
  refine lv_iload hx hb dX2_atWindow_5 (lv_at hl 3 rfl) ?_
  refine lv_bipush (v := (60 : Int32)) hx hb dX2_atWindow_7 (by decide) ?_
  refine lv_icmp_gt (tgt := 85) hx hb dX2_atWindow_9 (by decide) (fun c2 => ?_) (fun c2 => ?_)
  · have hb1 := cd_ite_t c2 hb1
    have z : some (Sum.inl (Sum.inr ())) = some o1 := hb1
    cases z
    exact K1 _ hk1 _ _ _ (lv_sub hl [] rfl) hw
  · have hb1 := cd_ite_f c2 hb1
    refine lv_iconst (v := (0 : Int32)) hx hb dX2_atWindow_12 (by decide) ?_
    refine lv_istore (lv' := [(5, .int (0 : Int32)), (0, .ref (h 0)), (1, .int a0), (3, .int z1.1), (4, .int z1.2)]) hx hb dX2_atWindow_13 hl (by decide) rfl (fun ls hl => ?_)
    obtain ⟨x3, e3, hb1⟩ := cd_bind_some hb1
    have K3 : ∀ (t3 : Int32), Sum.inr t3 = x3 → ∀ (ls : Array Slot) (H : Heap) (locs : List Loc), lv_has ls 7 [(0, .ref (h 0)), (1, .int a0), (3, .int t3), (4, .int z1.2)] → cd_WS G A s.heap H locs ((pc_snz cI h Z)) → W p l e rm_X2_atWindow s m ag below meth c H locs 0 0 Q (F0 m 79 ls []) := by
      intro t3 hs_3
      subst hs_3
      intro ls H locs hl hw
      refine lv_iinc (v := (z1.2 + (1 : Int32))) (lv' := [(4, .int (z1.2 + (1 : Int32))), (0, .ref (h 0)), (1, .int a0), (3, .int t3)]) hx hb dX2_atWindow_79 hl (k := 3) rfl rfl (by decide) rfl (fun ls hl => ?_)
      refine lv_goto (tgt := 5) hx hb dX2_atWindow_82 (by decide) ?_
      have z : some (Sum.inr (t3, (z1.2 + (1 : Int32)))) = some o1 := hb1
      cases z
      exact hk1 _ _ _ (lv_sub hl [1, 2, 3, 0] rfl) hw
    refine cd_iter_ind (body := (f_X2_atWindow_b15 a0 Z z1)) (K := fun r => r = x3) (P := fun (z3 : Int32 × Int32) => ∀ (ls : Array Slot) (H : Heap) (locs : List Loc), lv_has ls 7 [(0, .ref (h 0)), (1, .int a0), (3, .int z3.1), (4, .int z1.2), (5, .int z3.2)] → cd_WS G A s.heap H locs ((pc_snz cI h Z)) → W p l e rm_X2_atWindow s m ag below meth c H locs 0 0 Q (F0 m 15 ls [])) ?_ cd_N (z1.1, (0 : Int32)) x3 e3 rfl _ _ _ (lv_sub hl [1, 2, 3, 4, 0] rfl) hw
    intro z3 o3 hb3 hk3 ls H locs hl hw
    unfold f_X2_atWindow_b15 at hb3
    refine lv_iload hx hb dX2_atWindow_15 (lv_at hl 4 rfl) ?_
    refine lv_iconst (v := (4 : Int32)) hx hb dX2_atWindow_17 (by decide) ?_
    refine lv_icmp_ge (tgt := 79) hx hb dX2_atWindow_18 (by decide) (fun c4 => ?_) (fun c4 => ?_)
    · have hb3 := cd_ite_t c4 hb3
      have z : some (Sum.inl (Sum.inr z3.1)) = some o3 := hb3
      cases z
      exact K3 _ hk3 _ _ _ (lv_sub hl [0, 1, 2, 3] rfl) hw
    · have hb3 := cd_ite_f c4 hb3
      refine lv_iload_n hx hb dX2_atWindow_21 rfl (lv_at hl 1 rfl) ?_
      refine lv_iconst (v := (4 : Int32)) hx hb dX2_atWindow_22 (by decide) ?_
      refine lv_imul hx hb dX2_atWindow_23 ?_
      refine lv_iload hx hb dX2_atWindow_24 (lv_at hl 4 rfl) ?_
      refine lv_iadd hx hb dX2_atWindow_26 ?_
      refine lv_istore (lv' := [(6, .int ((a0 * (4 : Int32)) + z3.2)), (0, .ref (h 0)), (1, .int a0), (3, .int z3.1), (4, .int z1.2), (5, .int z3.2)]) hx hb dX2_atWindow_27 hl (by decide) rfl (fun ls hl => ?_)
      refine lv_iload hx hb dX2_atWindow_29 (lv_at hl 4 rfl) ?_
      refine lv_aload_n hx hb dX2_atWindow_31 rfl (lv_at hl 1 rfl) ?_
      refine va_get (D := G) (ci := 2) (v := .ref (h 1)) (C := RX2) (T := TX2) (N := 3) hx hb hts nw_X2_atWindow_X2 hown hK hw.1 0 rfl rfl 0 (by decide) hL0 (fun _ h9 => h9) rfl dX2_atWindow_32 ?_
      refine lv_iload hx hb dX2_atWindow_35 (lv_at hl 0 rfl) ?_
      obtain ⟨v5, e5, hb3⟩ := cd_bind_some hb3
      refine cd_iald hx hb hK hw 1 rfl e5 dX2_atWindow_37 ?_
      refine lv_aload_n hx hb dX2_atWindow_38 rfl (lv_at hl 1 rfl) ?_
      refine va_get (D := G) (ci := 2) (v := .ref (h 2)) (C := RX2) (T := TX2) (N := 3) hx hb hts nw_X2_atWindow_X2 hown hK hw.1 0 rfl rfl 1 (by decide) hL1 (fun _ h9 => h9) rfl dX2_atWindow_39 ?_
      refine lv_iload hx hb dX2_atWindow_42 (lv_at hl 0 rfl) ?_
      obtain ⟨v6, e6, hb3⟩ := cd_bind_some hb3
      refine cd_iald hx hb hK hw 2 rfl e6 dX2_atWindow_44 ?_
      obtain ⟨r7, e7, hb3⟩ := cd_bind_some hb3
      refine cd_callSN (As := [.int z1.2, .int v5, .int v6]) (rest := []) C0 hw (c_X5_within l G cI cZ sa sb z1.2 v5 v6 r7 e7) [] rfl rfl ⟨va_cnB 3 hts ggX2_atWindow_X5_within rfl rfl rfl (hE.2.1 (.methodLinkNest RX2 73 yX5_within RX5) (by simp [cd_nest])) hL2 (by decide +kernel) ⟨Nat.le_of_ble_eq_true rfl, Nat.le_of_ble_eq_true rfl⟩, hL3, trivial⟩ rfl hl.1 (lv_room (Nat.le_of_ble_eq_true rfl)) dX2_atWindow_45 (fun H locs hw => ?_)
      refine lv_if_eq (tgt := 73) hx hb dX2_atWindow_48 (by decide) (fun c8 => ?_) (fun c8 => ?_)
      · have hb3 := cd_ite_t c8 hb3
        refine lv_iinc (v := (z3.2 + (1 : Int32))) (lv' := [(5, .int (z3.2 + (1 : Int32))), (6, .int ((a0 * (4 : Int32)) + z3.2)), (0, .ref (h 0)), (1, .int a0), (3, .int z3.1), (4, .int z1.2)]) hx hb dX2_atWindow_73 hl (k := 5) rfl rfl (by decide) rfl (fun ls hl => ?_)
        refine lv_goto (tgt := 15) hx hb dX2_atWindow_76 (by decide) ?_
        have z : some (Sum.inr (z3.1, (z3.2 + (1 : Int32)))) = some o3 := hb3
        cases z
        exact hk3 _ _ _ (lv_sub hl [2, 3, 4, 5, 0] rfl) hw
      · have hb3 := cd_ite_f c8 hb3
        refine lv_iload_n hx hb dX2_atWindow_51 rfl (lv_at hl 3 rfl) ?_
        refine lv_if_ne (tgt := 70) hx hb dX2_atWindow_52 (by decide) (fun c9 => ?_) (fun c9 => ?_)
        · have hb3 := cd_ite_f c9 hb3
          refine lv_iinc (v := (z3.1 + (-1 : Int32))) (lv' := [(3, .int (z3.1 + (-1 : Int32))), (6, .int ((a0 * (4 : Int32)) + z3.2)), (0, .ref (h 0)), (1, .int a0), (4, .int z1.2), (5, .int z3.2)]) hx hb dX2_atWindow_70 hl (k := 3) rfl rfl (by decide) rfl (fun ls hl => ?_)
          refine lv_iinc (v := (z3.2 + (1 : Int32))) (lv' := [(5, .int (z3.2 + (1 : Int32))), (3, .int (z3.1 + (-1 : Int32))), (6, .int ((a0 * (4 : Int32)) + z3.2)), (0, .ref (h 0)), (1, .int a0), (4, .int z1.2)]) hx hb dX2_atWindow_73 hl (k := 5) rfl rfl (by decide) rfl (fun ls hl => ?_)
          refine lv_goto (tgt := 15) hx hb dX2_atWindow_76 (by decide) ?_
          have z : some (Sum.inr ((z3.1 + (-1 : Int32)), (z3.2 + (1 : Int32)))) = some o3 := hb3
          cases z
          exact hk3 _ _ _ (lv_sub hl [3, 4, 1, 5, 0] rfl) hw
        · have hb3 := cd_ite_t c9 hb3
          refine lv_sipush (v := (1000 : Int32)) hx hb dX2_atWindow_55 (by decide) ?_
          refine lv_iload_n hx hb dX2_atWindow_58 rfl (lv_at hl 2 rfl) ?_
          refine lv_imul hx hb dX2_atWindow_59 ?_
          refine lv_bipush (v := (10 : Int32)) hx hb dX2_atWindow_60 (by decide) ?_
          refine lv_iload hx hb dX2_atWindow_62 (lv_at hl 4 rfl) ?_
          refine lv_imul hx hb dX2_atWindow_64 ?_
          refine lv_iadd hx hb dX2_atWindow_65 ?_
          refine lv_iload hx hb dX2_atWindow_66 (lv_at hl 5 rfl) ?_
          refine lv_iadd hx hb dX2_atWindow_68 ?_
          have z : some (Sum.inl (Sum.inl ((((1000 : Int32) * a0) + ((10 : Int32) * z1.2)) + z3.2))) = some o3 := hb3
          cases z
          have y3 : Sum.inl ((((1000 : Int32) * a0) + ((10 : Int32) * z1.2)) + z3.2) = x3 := hk3
          subst y3
          have z : some (Sum.inl (Sum.inl ((((1000 : Int32) * a0) + ((10 : Int32) * z1.2)) + z3.2))) = some o1 := hb1
          cases z
          have y1 : Sum.inl ((((1000 : Int32) * a0) + ((10 : Int32) * z1.2)) + z3.2) = x1 := hk1
          subst y1
          have z : some ((((1000 : Int32) * a0) + ((10 : Int32) * z1.2)) + z3.2) = some o := hf
          cases z
          rw [hQ]
          exact cd_reti C0 hw dX2_atWindow_69
abbrev rm_X2_at : Room := { frames := 2, cells := 0, slots := 0, locals := 48 }
set_option maxHeartbeats 4000000 in
set_option maxRecDepth 100000 in
theorem c_X2_at (l : Launch) (G : va_G) (cI cZ : ClassId) (sa sb : Nat) (h : Nat → Nat) (Z : Nat → Nat → Int32) (a0 : Int32) (o : Int32) (hf : f_X2_at a0 Z = some o) : cd_Ct l G cI cZ sa sb yX2_at wsX2_at rm_X2_at [.ref (h 0), .int a0] ((pc_snz cI h Z)) ((pc_snz cI h Z)) (some (.int o)) := by
  refine cd_of (cc := cX2_at) (maxL := 6) (ret := (some .int)) (by decide) rfl (Nat.le_of_ble_eq_true rfl) ?_
  intro p e s m ag below meth c A ls Q C0 hl hw hQ
  have C0 : cd_CX G cI cZ sa sb p s m ag meth c cX2_at 6 (some .int) wsX2_at RX2 A := C0
  obtain ⟨⟨hx, hb, hml, hown, hts⟩, hr, hlocks, hA, hE⟩ := id C0
  have hK := hE.1
  have hl : lv_has ls 6 [(0, .ref (h 0)), (1, .int a0)] := hl
  unfold f_X2_at at hf
  refine lv_iload_n hx hb dX2_at_0 rfl (lv_at hl 1 rfl) ?_
  refine lv_istore_n (lv' := [(2, .int a0), (0, .ref (h 0)), (1, .int a0)]) hx hb dX2_at_1 rfl hl (by decide) rfl (fun ls hl => ?_)
  refine lv_iconst (v := (0 : Int32)) hx hb dX2_at_2 (by decide) ?_
  refine lv_istore_n (lv' := [(3, .int (0 : Int32)), (2, .int a0), (0, .ref (h 0)), (1, .int a0)]) hx hb dX2_at_3 rfl hl (by decide) rfl (fun ls hl => ?_)
  obtain ⟨x1, e1, hf⟩ := cd_bind_some hf
  have K1 : ∀ (t1 : Unit), Sum.inr t1 = x1 → ∀ (ls : Array Slot) (H : Heap) (locs : List Loc), lv_has ls 6 [] → cd_WS G A s.heap H locs ((pc_snz cI h Z)) → W p l e rm_X2_at s m ag below meth c H locs 0 0 Q (F0 m 71 ls []) := by
    intro t1 hs_1
    subst hs_1
    intro ls H locs hl hw
    refine lv_bipush (v := (-6 : Int32)) hx hb dX2_at_71 (by decide) ?_
    have z : some (-6 : Int32) = some o := hf
    cases z
    rw [hQ]
    exact cd_reti C0 hw dX2_at_73
  refine cd_iter_ind (body := (f_X2_at_b4 Z)) (K := fun r => r = x1) (P := fun (z1 : Int32 × Int32) => ∀ (ls : Array Slot) (H : Heap) (locs : List Loc), lv_has ls 6 [(0, .ref (h 0)), (2, .int z1.1), (3, .int z1.2)] → cd_WS G A s.heap H locs ((pc_snz cI h Z)) → W p l e rm_X2_at s m ag below meth c H locs 0 0 Q (F0 m 4 ls [])) ?_ cd_N (a0, (0 : Int32)) x1 e1 rfl _ _ _ (lv_sub hl [2, 1, 0] rfl) hw
  intro z1 o1 hb1 hk1 ls H locs hl hw
  unfold f_X2_at_b4 at hb1
  refine lv_iload_n hx hb dX2_at_4 rfl (lv_at hl 2 rfl) ?_
  refine lv_bipush (v := (12 : Int32)) hx hb dX2_at_5 (by decide) ?_
  refine lv_icmp_ge (tgt := 71) hx hb dX2_at_7 (by decide) (fun c2 => ?_) (fun c2 => ?_)
  · have hb1 := cd_ite_t c2 hb1
    have z : some (Sum.inl (Sum.inr ())) = some o1 := hb1
    cases z
    exact K1 _ hk1 _ _ _ (lv_sub hl [] rfl) hw
  · have hb1 := cd_ite_f c2 hb1
    refine lv_iload_n hx hb dX2_at_10 rfl (lv_at hl 1 rfl) ?_
    refine lv_if_lt (tgt := 71) hx hb dX2_at_11 (by decide) (fun c3 => ?_) (fun c3 => ?_)
    · have hb1 := cd_ite_t c3 hb1
      have z : some (Sum.inl (Sum.inr ())) = some o1 := hb1
      cases z
      exact K1 _ hk1 _ _ _ (lv_sub hl [] rfl) hw
    · have hb1 := cd_ite_f c3 hb1
      refine lv_iconst (v := (0 : Int32)) hx hb dX2_at_14 (by decide) ?_
      refine lv_istore (lv' := [(4, .int (0 : Int32)), (0, .ref (h 0)), (2, .int z1.1), (3, .int z1.2)]) hx hb dX2_at_15 hl (by decide) rfl (fun ls hl => ?_)
      refine lv_iconst (v := (0 : Int32)) hx hb dX2_at_17 (by decide) ?_
      refine lv_istore (lv' := [(5, .int (0 : Int32)), (4, .int (0 : Int32)), (0, .ref (h 0)), (2, .int z1.1), (3, .int z1.2)]) hx hb dX2_at_18 hl (by decide) rfl (fun ls hl => ?_)
      obtain ⟨x4, e4, hb1⟩ := cd_bind_some hb1
      have K4 : ∀ (t4 : Int32), t4 = x4 → ∀ (ls : Array Slot) (H : Heap) (locs : List Loc), lv_has ls 6 [(0, .ref (h 0)), (2, .int z1.1), (3, .int z1.2), (4, .int t4)] → cd_WS G A s.heap H locs ((pc_snz cI h Z)) → W p l e rm_X2_at s m ag below meth c H locs 0 0 Q (F0 m 47 ls []) := by
        intro t4 hs_4
        subst hs_4
        intro ls H locs hl hw
        refine lv_iload_n hx hb dX2_at_47 rfl (lv_at hl 1 rfl) ?_
        refine lv_iload hx hb dX2_at_48 (lv_at hl 3 rfl) ?_
        refine lv_icmp_ge (tgt := 60) hx hb dX2_at_50 (by decide) (fun c7 => ?_) (fun c7 => ?_)
        · have hb1 := cd_ite_t c7 hb1
          refine lv_iload_n hx hb dX2_at_60 rfl (lv_at hl 1 rfl) ?_
          refine lv_iload hx hb dX2_at_61 (lv_at hl 3 rfl) ?_
          refine lv_isub hx hb dX2_at_63 ?_
          refine lv_istore_n (lv' := [(2, .int (z1.1 - t4)), (0, .ref (h 0)), (3, .int z1.2), (4, .int t4)]) hx hb dX2_at_64 rfl hl (by decide) rfl (fun ls hl => ?_)
          refine lv_iinc (v := (z1.2 + (1 : Int32))) (lv' := [(3, .int (z1.2 + (1 : Int32))), (2, .int (z1.1 - t4)), (0, .ref (h 0)), (4, .int t4)]) hx hb dX2_at_65 hl (k := 2) rfl rfl (by decide) rfl (fun ls hl => ?_)
          refine lv_goto (tgt := 4) hx hb dX2_at_68 (by decide) ?_
          have z : some (Sum.inr ((z1.1 - t4), (z1.2 + (1 : Int32)))) = some o1 := hb1
          cases z
          exact hk1 _ _ _ (lv_sub hl [2, 1, 0] rfl) hw
        · have hb1 := cd_ite_f c7 hb1
          refine lv_aload_n hx hb dX2_at_53 rfl (lv_at hl 0 rfl) ?_
          refine lv_iload_n hx hb dX2_at_54 rfl (lv_at hl 2 rfl) ?_
          refine lv_iload_n hx hb dX2_at_55 rfl (lv_at hl 1 rfl) ?_
          obtain ⟨r8, e8, hb1⟩ := cd_bind_some hb1
          refine cd_callV (As := [.int z1.2, .int z1.1]) (rest := []) C0 hw (c_X2_atWindow l G cI cZ sa sb h Z z1.2 z1.1 r8 e8) [0, 1, 2, 3] rfl rfl 0 2 rfl rfl rfl (cwV 2 hts gX2_at_X2_atWindow rfl rfl rfl (by decide +kernel) ⟨Nat.le_of_ble_eq_true rfl, Nat.le_of_ble_eq_true rfl⟩) rfl hl.1 (lv_room (Nat.le_of_ble_eq_true rfl)) dX2_at_56 (fun H locs hw => ?_)
          have z : some (Sum.inl (Sum.inl r8)) = some o1 := hb1
          cases z
          have y1 : Sum.inl r8 = x1 := hk1
          subst y1
          have z : some r8 = some o := hf
          cases z
          rw [hQ]
          exact cd_reti C0 hw dX2_at_59
      refine cd_iter_ind (body := (f_X2_at_b20 Z z1)) (K := fun r => r = x4) (P := fun (z4 : Int32 × Int32) => ∀ (ls : Array Slot) (H : Heap) (locs : List Loc), lv_has ls 6 [(0, .ref (h 0)), (2, .int z1.1), (3, .int z1.2), (4, .int z4.1), (5, .int z4.2)] → cd_WS G A s.heap H locs ((pc_snz cI h Z)) → W p l e rm_X2_at s m ag below meth c H locs 0 0 Q (F0 m 20 ls [])) ?_ cd_N ((0 : Int32), (0 : Int32)) x4 e4 rfl _ _ _ (lv_sub hl [2, 3, 4, 1, 0] rfl) hw
      intro z4 o4 hb4 hk4 ls H locs hl hw
      unfold f_X2_at_b20 at hb4
      refine lv_iload hx hb dX2_at_20 (lv_at hl 4 rfl) ?_
      refine lv_iconst (v := (4 : Int32)) hx hb dX2_at_22 (by decide) ?_
      refine lv_icmp_ge (tgt := 47) hx hb dX2_at_23 (by decide) (fun c5 => ?_) (fun c5 => ?_)
      · have hb4 := cd_ite_t c5 hb4
        have z : some (Sum.inl z4.1) = some o4 := hb4
        cases z
        exact K4 _ hk4 _ _ _ (lv_sub hl [0, 1, 2, 3] rfl) hw
      · have hb4 := cd_ite_f c5 hb4
        refine lv_iload hx hb dX2_at_26 (lv_at hl 3 rfl) ?_
        refine lv_aload_n hx hb dX2_at_28 rfl (lv_at hl 0 rfl) ?_
        refine lv_iload_n hx hb dX2_at_29 rfl (lv_at hl 2 rfl) ?_
        refine lv_iconst (v := (4 : Int32)) hx hb dX2_at_30 (by decide) ?_
        refine lv_imul hx hb dX2_at_31 ?_
        refine lv_iload hx hb dX2_at_32 (lv_at hl 4 rfl) ?_
        refine lv_iadd hx hb dX2_at_34 ?_
        obtain ⟨r6, e6, hb4⟩ := cd_bind_some hb4
        refine cd_callV (As := [.int ((z1.2 * (4 : Int32)) + z4.2)]) (rest := [.int z4.1]) C0 hw (c_X2_countOf l G cI cZ sa sb h Z ((z1.2 * (4 : Int32)) + z4.2) r6 e6) [0, 1, 2, 3] rfl rfl 0 2 rfl rfl rfl (cwV 1 hts gX2_at_X2_countOf rfl rfl rfl (by decide +kernel) ⟨Nat.le_of_ble_eq_true rfl, Nat.le_of_ble_eq_true rfl⟩) rfl hl.1 (lv_room (Nat.le_of_ble_eq_true rfl)) dX2_at_35 (fun H locs hw => ?_)
        refine lv_iadd hx hb dX2_at_38 ?_
        refine lv_istore (lv' := [(4, .int (z4.1 + r6)), (0, .ref (h 0)), (2, .int z1.1), (3, .int z1.2), (5, .int z4.2)]) hx hb dX2_at_39 hl (by decide) rfl (fun ls hl => ?_)
        refine lv_iinc (v := (z4.2 + (1 : Int32))) (lv' := [(5, .int (z4.2 + (1 : Int32))), (4, .int (z4.1 + r6)), (0, .ref (h 0)), (2, .int z1.1), (3, .int z1.2)]) hx hb dX2_at_41 hl (k := 4) rfl rfl (by decide) rfl (fun ls hl => ?_)
        refine lv_goto (tgt := 20) hx hb dX2_at_44 (by decide) ?_
        have z : some (Sum.inr ((z4.1 + r6), (z4.2 + (1 : Int32)))) = some o4 := hb4
        cases z
        exact hk4 _ _ _ (lv_sub hl [2, 3, 4, 1, 0] rfl) hw
abbrev rm_X3_minutesLeftTrimmed : Room := { frames := 1, cells := 0, slots := 0, locals := 23 }
theorem nw_X3_minutesLeftTrimmed_X3 : ∀ w ∈ u_ws RX3 TX3 14, w ∈ wsX3_minutesLeftTrimmed := by decide +kernel
set_option maxHeartbeats 4000000 in
set_option maxRecDepth 100000 in
theorem c_X3_minutesLeftTrimmed (l : Launch) (G : va_G) (cI cZ : ClassId) (sa sb : Nat) (h : Nat → Nat) (T : Nat → Nat → Int32) (a0 : Int32) (a1 : Int32) (o : Int32) (hf : f_X3_minutesLeftTrimmed a0 a1 T = some o) : cd_Ct l G cI cZ sa sb yX3_minutesLeftTrimmed wsX3_minutesLeftTrimmed rm_X3_minutesLeftTrimmed [.ref (h 0), .int a0, .int a1] ((pc_town cI h T)) ((pc_town cI h T)) (some (.int o)) := by
  refine cd_of (cc := cX3_minutesLeftTrimmed) (maxL := 4) (ret := (some .int)) (by decide) rfl (Nat.le_of_ble_eq_true rfl) ?_
  intro p e s m ag below meth c A ls Q C0 hl hw hQ
  have C0 : cd_CX G cI cZ sa sb p s m ag meth c cX3_minutesLeftTrimmed 4 (some .int) wsX3_minutesLeftTrimmed RX3 A := C0
  obtain ⟨⟨hx, hb, hml, hown, hts⟩, hr, hlocks, hA, hE⟩ := id C0
  have hK := hE.1
  have hL0 := hts (.fieldLink RX3 9 "CandleDebts$Town" "wax" "[I") (by decide +kernel)
  have hl : lv_has ls 4 [(0, .ref (h 0)), (1, .int a0), (2, .int a1)] := hl
  unfold f_X3_minutesLeftTrimmed at hf
  refine lv_aload_n hx hb dX3_minutesLeftTrimmed_0 rfl (lv_at hl 0 rfl) ?_
  refine lv_iload_n hx hb dX3_minutesLeftTrimmed_1 rfl (lv_at hl 1 rfl) ?_
  refine lv_iload_n hx hb dX3_minutesLeftTrimmed_2 rfl (lv_at hl 2 rfl) ?_
  obtain ⟨r1, e1, hf⟩ := cd_bind_some hf
  refine cd_callV (As := [.int a0, .int a1]) (rest := []) C0 hw (c_X3_burnTrimmed l G cI cZ sa sb h T a0 a1 r1 e1) [0, 1, 2, 3, 4, 5, 6, 7, 8, 9, 10] rfl rfl 0 3 rfl rfl rfl (cwV 2 hts gX3_minutesLeftTrimmed_X3_burnTrimmed rfl rfl rfl (by decide +kernel) ⟨Nat.le_of_ble_eq_true rfl, Nat.le_of_ble_eq_true rfl⟩) rfl hl.1 (lv_room (Nat.le_of_ble_eq_true rfl)) dX3_minutesLeftTrimmed_3 (fun H locs hw => ?_)
  refine lv_istore_n (lv' := [(3, .int r1), (0, .ref (h 0)), (1, .int a0), (2, .int a1)]) hx hb dX3_minutesLeftTrimmed_6 rfl hl (by decide) rfl (fun ls hl => ?_)
  refine lv_aload_n hx hb dX3_minutesLeftTrimmed_7 rfl (lv_at hl 1 rfl) ?_
  refine va_get (D := G) (ci := 3) (v := .ref (h 1)) (C := RX3) (T := TX3) (N := 14) hx hb hts nw_X3_minutesLeftTrimmed_X3 hown hK hw.1 0 rfl rfl 0 (by decide) hL0 (fun _ h9 => h9) rfl dX3_minutesLeftTrimmed_8 ?_
  refine lv_iload_n hx hb dX3_minutesLeftTrimmed_11 rfl (lv_at hl 2 rfl) ?_
  obtain ⟨v2, e2, hf⟩ := cd_bind_some hf
  refine cd_iald hx hb hK hw 1 rfl e2 dX3_minutesLeftTrimmed_12 ?_
  refine lv_iload_n hx hb dX3_minutesLeftTrimmed_13 rfl (lv_at hl 0 rfl) ?_
  refine lv_iadd hx hb dX3_minutesLeftTrimmed_14 ?_
  refine lv_iconst (v := (1 : Int32)) hx hb dX3_minutesLeftTrimmed_15 (by decide) ?_
  refine lv_isub hx hb dX3_minutesLeftTrimmed_16 ?_
  refine lv_iload_n hx hb dX3_minutesLeftTrimmed_17 rfl (lv_at hl 0 rfl) ?_
  obtain ⟨u3, e3, hf⟩ := cd_bind_some hf
  refine lv_idiv hx hb dX3_minutesLeftTrimmed_18 (cd_nz_eq e3) ?_
  have z : some (((v2 + r1) - (1 : Int32)) / r1) = some o := hf
  cases z
  rw [hQ]
  exact cd_reti C0 hw dX3_minutesLeftTrimmed_19
abbrev rm_X3_minutesLeft : Room := { frames := 2, cells := 0, slots := 0, locals := 46 }
theorem nw_X3_minutesLeft_X3 : ∀ w ∈ u_ws RX3 TX3 14, w ∈ wsX3_minutesLeft := by decide +kernel
set_option maxHeartbeats 4000000 in
set_option maxRecDepth 100000 in
theorem c_X3_minutesLeft (l : Launch) (G : va_G) (cI cZ : ClassId) (sa sb : Nat) (h : Nat → Nat) (T : Nat → Nat → Int32) (a0 : Int32) (o : Int32) (hf : f_X3_minutesLeft a0 T = some o) : cd_Ct l G cI cZ sa sb yX3_minutesLeft wsX3_minutesLeft rm_X3_minutesLeft [.ref (h 0), .int a0] ((pc_town cI h T)) ((pc_town cI h T)) (some (.int o)) := by
  refine cd_of (cc := cX3_minutesLeft) (maxL := 2) (ret := (some .int)) (by decide) rfl (Nat.le_of_ble_eq_true rfl) ?_
  intro p e s m ag below meth c A ls Q C0 hl hw hQ
  have C0 : cd_CX G cI cZ sa sb p s m ag meth c cX3_minutesLeft 2 (some .int) wsX3_minutesLeft RX3 A := C0
  obtain ⟨⟨hx, hb, hml, hown, hts⟩, hr, hlocks, hA, hE⟩ := id C0
  have hK := hE.1
  have hL0 := hts (.fieldLink RX3 15 "CandleDebts$Town" "trimmed" "[I") (by decide +kernel)
  have hl : lv_has ls 2 [(0, .ref (h 0)), (1, .int a0)] := hl
  unfold f_X3_minutesLeft at hf
  refine lv_aload_n hx hb dX3_minutesLeft_0 rfl (lv_at hl 0 rfl) ?_
  refine lv_iload_n hx hb dX3_minutesLeft_1 rfl (lv_at hl 1 rfl) ?_
  refine lv_aload_n hx hb dX3_minutesLeft_2 rfl (lv_at hl 0 rfl) ?_
  refine va_get (D := G) (ci := 3) (v := .ref (h 2)) (C := RX3) (T := TX3) (N := 14) hx hb hts nw_X3_minutesLeft_X3 hown hK hw.1 0 rfl rfl 1 (by decide) hL0 (fun _ h9 => h9) rfl dX3_minutesLeft_3 ?_
  refine lv_iload_n hx hb dX3_minutesLeft_6 rfl (lv_at hl 1 rfl) ?_
  obtain ⟨v1, e1, hf⟩ := cd_bind_some hf
  refine cd_iald hx hb hK hw 2 rfl e1 dX3_minutesLeft_7 ?_
  obtain ⟨r2, e2, hf⟩ := cd_bind_some hf
  refine cd_callV (As := [.int a0, .int v1]) (rest := []) C0 hw (c_X3_minutesLeftTrimmed l G cI cZ sa sb h T a0 v1 r2 e2) [0, 1, 2, 3, 4, 5, 6, 7, 8, 9, 10] rfl rfl 0 3 rfl rfl rfl (cwV 2 hts gX3_minutesLeft_X3_minutesLeftTrimmed rfl rfl rfl (by decide +kernel) ⟨Nat.le_of_ble_eq_true rfl, Nat.le_of_ble_eq_true rfl⟩) rfl hl.1 (lv_room (Nat.le_of_ble_eq_true rfl)) dX3_minutesLeft_8 (fun H locs hw => ?_)
  have z : some r2 = some o := hf
  cases z
  rw [hQ]
  exact cd_reti C0 hw dX3_minutesLeft_11
abbrev rm_X2_earliestFor : Room := { frames := 3, cells := 0, slots := 0, locals := 67 }
theorem nw_X2_earliestFor_X3 : ∀ w ∈ u_ws RX3 TX3 14, w ∈ wsX2_earliestFor := by decide +kernel
set_option maxHeartbeats 4000000 in
set_option maxRecDepth 100000 in
theorem c_X2_earliestFor (l : Launch) (G : va_G) (cI cZ : ClassId) (sa sb : Nat) (ht : Nat → Nat) (T : Nat → Nat → Int32) (a0 : Int32) (a1 : Int32) (o : Int32) (hf : f_X2_earliestFor a0 a1 T = some o) : cd_Ct l G cI cZ sa sb yX2_earliestFor wsX2_earliestFor rm_X2_earliestFor [.ref (ht 0), .int a0, .int a1] ((pc_town cI ht T)) ((pc_town cI ht T)) (some (.int o)) := by
  refine cd_of (cc := cX2_earliestFor) (maxL := 4) (ret := (some .int)) (by decide) rfl (Nat.le_of_ble_eq_true rfl) ?_
  intro p e s m ag below meth c A ls Q C0 hl hw hQ
  have C0 : cd_CX G cI cZ sa sb p s m ag meth c cX2_earliestFor 4 (some .int) wsX2_earliestFor RX2 A := C0
  obtain ⟨⟨hx, hb, hml, hown, hts⟩, hr, hlocks, hA, hE⟩ := id C0
  have hK := hE.1
  have hL0 := hts (.fieldLink RX2 41 "CandleDebts$Town" "wax" "[I") (by decide +kernel)
  have hl : lv_has ls 4 [(0, .ref (ht 0)), (1, .int a0), (2, .int a1)] := hl
  unfold f_X2_earliestFor at hf
  refine lv_iload_n hx hb dX2_earliestFor_0 rfl (lv_at hl 2 rfl) ?_
  refine lv_aload_n hx hb dX2_earliestFor_1 rfl (lv_at hl 0 rfl) ?_
  refine va_get (D := G) (ci := 3) (v := .ref (ht 1)) (C := RX3) (T := TX3) (N := 14) hx hb hts nw_X2_earliestFor_X3 hown hK hw.1 0 rfl rfl 0 (by decide) hL0 (fun _ h9 => h9) rfl dX2_earliestFor_2 ?_
  refine lv_iload_n hx hb dX2_earliestFor_5 rfl (lv_at hl 1 rfl) ?_
  obtain ⟨v1, e1, hf⟩ := cd_bind_some hf
  refine cd_iald hx hb hK hw 1 rfl e1 dX2_earliestFor_6 ?_
  refine lv_icmp_ne (tgt := 16) hx hb dX2_earliestFor_7 (by decide) (fun c2 => ?_) (fun c2 => ?_)
  · have hf := cd_ite_f c2 hf
    refine lv_aload_n hx hb dX2_earliestFor_16 rfl (lv_at hl 0 rfl) ?_
    refine lv_iload_n hx hb dX2_earliestFor_17 rfl (lv_at hl 1 rfl) ?_
    obtain ⟨r4, e4, hf⟩ := cd_bind_some hf
    refine cd_callV (As := [.int a0]) (rest := []) C0 hw (c_X3_burnOf l G cI cZ sa sb ht T a0 r4 e4) [0, 1, 2, 3, 4, 5, 6, 7, 8, 9, 10] rfl rfl 0 3 rfl rfl rfl (cwV 1 hts gX2_earliestFor_X3_burnOf rfl rfl rfl (by decide +kernel) ⟨Nat.le_of_ble_eq_true rfl, Nat.le_of_ble_eq_true rfl⟩) rfl hl.1 (lv_room (Nat.le_of_ble_eq_true rfl)) dX2_earliestFor_18 (fun H locs hw => ?_)
    refine lv_istore_n (lv' := [(3, .int r4), (0, .ref (ht 0)), (1, .int a0), (2, .int a1)]) hx hb dX2_earliestFor_21 rfl hl (by decide) rfl (fun ls hl => ?_)
    refine lv_iload_n hx hb dX2_earliestFor_22 rfl (lv_at hl 3 rfl) ?_
    refine lv_aload_n hx hb dX2_earliestFor_23 rfl (lv_at hl 1 rfl) ?_
    refine va_get (D := G) (ci := 3) (v := .ref (ht 1)) (C := RX3) (T := TX3) (N := 14) hx hb hts nw_X2_earliestFor_X3 hown hK hw.1 0 rfl rfl 0 (by decide) hL0 (fun _ h9 => h9) rfl dX2_earliestFor_24 ?_
    refine lv_iload_n hx hb dX2_earliestFor_27 rfl (lv_at hl 2 rfl) ?_
    obtain ⟨v5, e5, hf⟩ := cd_bind_some hf
    refine cd_iald hx hb hK hw 1 rfl e5 dX2_earliestFor_28 ?_
    obtain ⟨x6, e6, hf⟩ := cd_bind_some hf
    have K6 : ∀ (ls : Array Slot) (H : Heap) (locs : List Loc), lv_has ls 4 [] → cd_WS G A s.heap H locs ((pc_town cI ht T)) → W p l e rm_X2_earliestFor s m ag below meth c H locs 0 0 Q (F0 m 46 ls [.int x6]) := by
      intro ls H locs hl hw
      have z : some x6 = some o := hf
      cases z
      rw [hQ]
      exact cd_reti C0 hw dX2_earliestFor_46
    refine lv_icmp_ge (tgt := 44) hx hb dX2_earliestFor_29 (by decide) (fun c6 => ?_) (fun c6 => ?_)
    · have e6 := cd_ite_t c6 e6
      refine lv_bipush (v := (61 : Int32)) hx hb dX2_earliestFor_44 (by decide) ?_
      have z : some (61 : Int32) = some x6 := e6
      cases z
      exact K6 _ _ _ (lv_sub hl [] rfl) hw
    · have e6 := cd_ite_f c6 e6
      refine lv_iload_n hx hb dX2_earliestFor_32 rfl (lv_at hl 3 rfl) ?_
      refine lv_iload_n hx hb dX2_earliestFor_33 rfl (lv_at hl 0 rfl) ?_
      obtain ⟨u7, e7, e6⟩ := cd_bind_some e6
      refine lv_irem hx hb dX2_earliestFor_34 (cd_nz_eq e7) ?_
      refine lv_if_ne (tgt := 44) hx hb dX2_earliestFor_35 (by decide) (fun c8 => ?_) (fun c8 => ?_)
      · have e6 := cd_ite_f c8 e6
        refine lv_bipush (v := (61 : Int32)) hx hb dX2_earliestFor_44 (by decide) ?_
        have z : some (61 : Int32) = some x6 := e6
        cases z
        exact K6 _ _ _ (lv_sub hl [] rfl) hw
      · have e6 := cd_ite_t c8 e6
        refine lv_iload_n hx hb dX2_earliestFor_38 rfl (lv_at hl 3 rfl) ?_
        refine lv_iload_n hx hb dX2_earliestFor_39 rfl (lv_at hl 0 rfl) ?_
        obtain ⟨u9, e9, e6⟩ := cd_bind_some e6
        refine lv_idiv hx hb dX2_earliestFor_40 (cd_nz_eq e9) ?_
        refine lv_goto (tgt := 46) hx hb dX2_earliestFor_41 (by decide) ?_
        have z : some (a1 / r4) = some x6 := e6
        cases z
        exact K6 _ _ _ (lv_sub hl [] rfl) hw
  · have hf := cd_ite_t c2 hf
    refine lv_aload_n hx hb dX2_earliestFor_10 rfl (lv_at hl 0 rfl) ?_
    refine lv_iload_n hx hb dX2_earliestFor_11 rfl (lv_at hl 1 rfl) ?_
    obtain ⟨r3, e3, hf⟩ := cd_bind_some hf
    refine cd_callV (As := [.int a0]) (rest := []) C0 hw (c_X3_minutesLeft l G cI cZ sa sb ht T a0 r3 e3) [0, 1, 2, 3, 4, 5, 6, 7, 8, 9, 10] rfl rfl 0 3 rfl rfl rfl (cwV 1 hts gX2_earliestFor_X3_minutesLeft rfl rfl rfl (by decide +kernel) ⟨Nat.le_of_ble_eq_true rfl, Nat.le_of_ble_eq_true rfl⟩) rfl hl.1 (lv_room (Nat.le_of_ble_eq_true rfl)) dX2_earliestFor_12 (fun H locs hw => ?_)
    have z : some r3 = some o := hf
    cases z
    rw [hQ]
    exact cd_reti C0 hw dX2_earliestFor_15
abbrev rm_X2_reaches : Room := { frames := 1, cells := 0, slots := 0, locals := 13 }
set_option maxHeartbeats 4000000 in
set_option maxRecDepth 100000 in
theorem c_X2_reaches (l : Launch) (G : va_G) (cI cZ : ClassId) (sa sb : Nat) (a0 : Int32) (a1 : Int32) (o : Int32) (hf : f_X2_reaches a0 a1 = some o) : cd_Ct l G cI cZ sa sb yX2_reaches wsX2_reaches rm_X2_reaches [.int a0, .int a1] (([] : va_W)) (([] : va_W)) (some (.int o)) := by
  refine cd_of (cc := cX2_reaches) (maxL := 3) (ret := (some .boolean)) (by decide) rfl (Nat.le_of_ble_eq_true rfl) ?_
  intro p e s m ag below meth c A ls Q C0 hl hw hQ
  have C0 : cd_CX G cI cZ sa sb p s m ag meth c cX2_reaches 3 (some .boolean) wsX2_reaches RX2 A := C0
  obtain ⟨⟨hx, hb, hml, hown, hts⟩, hr, hlocks, hA, hE⟩ := id C0
  have hK := hE.1
  have hL0 := hts (.methodLink RX2 64 Lib.Math.abs.name) (by decide +kernel)
  have hL1 := hts (.static Lib.Math.abs.name) (by decide +kernel)
  have hL2 := hts (.initialized "java/lang/Math") (by decide +kernel)
  have hL3 := hts (.code Lib.Math.abs.name Lib.Math.abs.code 1 (some .int)) (by decide +kernel)
  have hl : lv_has ls 3 [(0, .int a0), (1, .int a1)] := hl
  unfold f_X2_reaches at hf
  refine lv_iload_n hx hb dX2_reaches_0 rfl (lv_at hl 0 rfl) ?_
  refine lv_iconst (v := (4 : Int32)) hx hb dX2_reaches_1 (by decide) ?_
  refine lv_idiv hx hb dX2_reaches_2 (by decide) ?_
  refine lv_istore_n (lv' := [(2, .int (a0 / (4 : Int32))), (0, .int a0), (1, .int a1)]) hx hb dX2_reaches_3 rfl hl (by decide) rfl (fun ls hl => ?_)
  refine lv_iload_n hx hb dX2_reaches_4 rfl (lv_at hl 2 rfl) ?_
  refine lv_iload_n hx hb dX2_reaches_5 rfl (lv_at hl 0 rfl) ?_
  refine lv_isub hx hb dX2_reaches_6 ?_
  refine cd_mabs hx hb (hml.trans hl.1.symm) hown hL0 hL1 hL2 hL3 (Nat.le_of_ble_eq_true rfl) (Nat.le_of_ble_eq_true rfl) dX2_reaches_7 ?_
  refine lv_iload_n hx hb dX2_reaches_10 rfl (lv_at hl 1 rfl) ?_
  refine lv_iconst (v := (4 : Int32)) hx hb dX2_reaches_11 (by decide) ?_
  refine lv_irem hx hb dX2_reaches_12 (by decide) ?_
  obtain ⟨x1, e1, hf⟩ := cd_bind_some hf
  have K1 : ∀ (ls : Array Slot) (H : Heap) (locs : List Loc), lv_has ls 3 [] → cd_WS G A s.heap H locs (([] : va_W)) → W p l e rm_X2_reaches s m ag below meth c H locs 0 0 Q (F0 m 21 ls [.int x1]) := by
    intro ls H locs hl hw
    obtain ⟨u2, e2, hf⟩ := cd_bind_some hf
    have z : some x1 = some o := hf
    cases z
    rw [hQ]
    exact cd_retz C0 hw (cd_zb_eq e2) dX2_reaches_21
  refine lv_icmp_gt (tgt := 20) hx hb dX2_reaches_13 (by decide) (fun c1 => ?_) (fun c1 => ?_)
  · have e1 := cd_ite_t c1 e1
    refine lv_iconst (v := (0 : Int32)) hx hb dX2_reaches_20 (by decide) ?_
    have z : some (0 : Int32) = some x1 := e1
    cases z
    exact K1 _ _ _ (lv_sub hl [] rfl) hw
  · have e1 := cd_ite_f c1 e1
    refine lv_iconst (v := (1 : Int32)) hx hb dX2_reaches_16 (by decide) ?_
    refine lv_goto (tgt := 21) hx hb dX2_reaches_17 (by decide) ?_
    have z : some (1 : Int32) = some x1 := e1
    cases z
    exact K1 _ _ _ (lv_sub hl [] rfl) hw
abbrev rm_X2_narrow : Room := { frames := 4, cells := 0, slots := 0, locals := 90 }
theorem nw_X2_narrow_X2 : ∀ w ∈ u_ws RX2 TX2 3, w ∈ wsX2_narrow := by decide +kernel
theorem nw_X2_narrow_X3 : ∀ w ∈ u_ws RX3 TX3 14, w ∈ wsX2_narrow := by decide +kernel
set_option maxHeartbeats 4000000 in
set_option maxRecDepth 100000 in
theorem c_X2_narrow (l : Launch) (G : va_G) (cI cZ : ClassId) (sa sb : Nat) (h ht : Nat → Nat) (Z T : Nat → Nat → Int32) (a0 : Int32) (a1 : Int32) (a2 : Int32) (o : (Nat → Nat → Int32)) (hf : f_X2_narrow a0 a1 a2 Z T = some o) : cd_Ct l G cI cZ sa sb yX2_narrow wsX2_narrow rm_X2_narrow [.ref (h 0), .int a0, .ref (ht 0), .int a1, .int a2] ((pc_snz cI h Z) ++ (pc_town cI ht T)) ((pc_snz cI h o) ++ (pc_town cI ht T)) none := by
  refine cd_of (cc := cX2_narrow) (maxL := 8) (ret := none) (by decide) rfl (Nat.le_of_ble_eq_true rfl) ?_
  intro p e s m ag below meth c A ls Q C0 hl hw hQ
  have C0 : cd_CX G cI cZ sa sb p s m ag meth c cX2_narrow 8 none wsX2_narrow RX2 A := C0
  obtain ⟨⟨hx, hb, hml, hown, hts⟩, hr, hlocks, hA, hE⟩ := id C0
  have hK := hE.1
  have hL0 := hts (.fieldLink RX2 41 "CandleDebts$Town" "wax" "[I") (by decide +kernel)
  have hL1 := hts (.fieldLink RX2 15 "CandleDebts$Sneezing" "ends" "[I") (by decide +kernel)
  have hL2 := hts (.fieldLink RX2 9 "CandleDebts$Sneezing" "begins" "[I") (by decide +kernel)
  have hL3 := hts (.methodLink RX2 48 Lib.Math.max.name) (by decide +kernel)
  have hL4 := hts (.static Lib.Math.max.name) (by decide +kernel)
  have hL5 := hts (.initialized "java/lang/Math") (by decide +kernel)
  have hL6 := hts (.code Lib.Math.max.name Lib.Math.max.code 2 (some .int)) (by decide +kernel)
  have hL7 := hts (.methodLink RX2 54 Lib.Math.min.name) (by decide +kernel)
  have hL8 := hts (.static Lib.Math.min.name) (by decide +kernel)
  have hL9 := hts (.code Lib.Math.min.name Lib.Math.min.code 2 (some .int)) (by decide +kernel)
  have hl : lv_has ls 8 [(0, .ref (h 0)), (1, .int a0), (2, .ref (ht 0)), (3, .int a1), (4, .int a2)] := hl
  unfold f_X2_narrow at hf
  refine lv_aload_n hx hb dX2_narrow_0 rfl (lv_at hl 2 rfl) ?_
  refine lv_iload_n hx hb dX2_narrow_1 rfl (lv_at hl 3 rfl) ?_
  refine lv_iload hx hb dX2_narrow_2 (lv_at hl 4 rfl) ?_
  obtain ⟨r1, e1, hf⟩ := cd_bind_some hf
  refine cd_callS (As := [.ref (ht 0), .int a1, .int a2]) (rest := []) C0 hw (c_X2_earliestFor l G cI cZ sa sb ht T a1 a2 r1 e1) [4, 5, 6, 7, 8, 9, 10, 11, 12, 13, 14] rfl rfl (va_cwS 3 hts gX2_narrow_X2_earliestFor rfl rfl rfl (by decide +kernel) ⟨Nat.le_of_ble_eq_true rfl, Nat.le_of_ble_eq_true rfl⟩) rfl hl.1 (lv_room (Nat.le_of_ble_eq_true rfl)) dX2_narrow_4 (fun H locs hw => ?_)
  refine lv_istore (lv' := [(5, .int r1), (0, .ref (h 0)), (1, .int a0), (2, .ref (ht 0)), (3, .int a1), (4, .int a2)]) hx hb dX2_narrow_7 hl (by decide) rfl (fun ls hl => ?_)
  refine lv_iload hx hb dX2_narrow_9 (lv_at hl 5 rfl) ?_
  refine lv_aload_n hx hb dX2_narrow_11 rfl (lv_at hl 3 rfl) ?_
  refine va_get (D := G) (ci := 3) (v := .ref (ht 1)) (C := RX3) (T := TX3) (N := 14) hx hb hts nw_X2_narrow_X3 hown hK hw.1 4 rfl rfl 0 (by decide) hL0 (fun _ h9 => h9) rfl dX2_narrow_12 ?_
  refine lv_iload_n hx hb dX2_narrow_15 rfl (lv_at hl 4 rfl) ?_
  obtain ⟨v2, e2, hf⟩ := cd_bind_some hf
  refine cd_iald hx hb hK hw 5 rfl e2 dX2_narrow_16 ?_
  obtain ⟨x3, e3, hf⟩ := cd_bind_some hf
  have K3 : ∀ (ls : Array Slot) (H : Heap) (locs : List Loc), lv_has ls 8 [(0, .ref (h 0)), (1, .int a0), (3, .int a1), (5, .int r1)] → cd_WS G A s.heap H locs ((pc_snz cI h Z) ++ (pc_town cI ht T)) → W p l e rm_X2_narrow s m ag below meth c H locs 0 0 Q (F0 m 25 ls [.int x3]) := by
    intro ls H locs hl hw
    refine lv_istore (lv' := [(6, .int x3), (0, .ref (h 0)), (1, .int a0), (3, .int a1), (5, .int r1)]) hx hb dX2_narrow_25 hl (by decide) rfl (fun ls hl => ?_)
    refine lv_iload hx hb dX2_narrow_27 (lv_at hl 0 rfl) ?_
    obtain ⟨x4, e4, hf⟩ := cd_bind_some hf
    have K4 : ∀ (ls : Array Slot) (H : Heap) (locs : List Loc), lv_has ls 8 [(0, .ref (h 0)), (1, .int a0), (3, .int a1), (5, .int r1)] → cd_WS G A s.heap H locs ((pc_snz cI h Z) ++ (pc_town cI ht T)) → W p l e rm_X2_narrow s m ag below meth c H locs 0 0 Q (F0 m 39 ls [.int x4]) := by
      intro ls H locs hl hw
      refine lv_istore (lv' := [(7, .int x4), (0, .ref (h 0)), (1, .int a0), (3, .int a1), (5, .int r1)]) hx hb dX2_narrow_39 hl (by decide) rfl (fun ls hl => ?_)
      refine lv_iload_n hx hb dX2_narrow_41 rfl (lv_at hl 2 rfl) ?_
      refine lv_iload_n hx hb dX2_narrow_42 rfl (lv_at hl 3 rfl) ?_
      obtain ⟨r5, e5, hf⟩ := cd_bind_some hf
      refine cd_callS (As := [.int a0, .int a1]) (rest := []) C0 hw (c_X2_reaches l G cI cZ sa sb a0 a1 r5 e5) [] rfl rfl (va_cwS 2 hts gX2_narrow_X2_reaches rfl rfl rfl (by decide +kernel) ⟨Nat.le_of_ble_eq_true rfl, Nat.le_of_ble_eq_true rfl⟩) rfl hl.1 (lv_room (Nat.le_of_ble_eq_true rfl)) dX2_narrow_43 (fun H locs hw => ?_)
      obtain ⟨x6, e6, hf⟩ := cd_bind_some hf
      have K6 : ∀ (ls : Array Slot) (H : Heap) (locs : List Loc), lv_has ls 8 [] → cd_WS G A s.heap H locs ((pc_snz cI h x6) ++ (pc_town cI ht T)) → W p l e rm_X2_narrow s m ag below meth c H locs 0 0 Q (F0 m 107 ls []) := by
        intro ls H locs hl hw
        have z : some x6 = some o := hf
        cases z
        rw [hQ]
        exact cd_retv C0 hw dX2_narrow_107
      refine lv_if_eq (tgt := 86) hx hb dX2_narrow_46 (by decide) (fun c6 => ?_) (fun c6 => ?_)
      · have e6 := cd_ite_t c6 e6
        refine lv_iload hx hb dX2_narrow_86 (lv_at hl 4 rfl) ?_
        refine lv_bipush (v := (60 : Int32)) hx hb dX2_narrow_88 (by decide) ?_
        refine lv_icmp_gt (tgt := 100) hx hb dX2_narrow_90 (by decide) (fun c7 => ?_) (fun c7 => ?_)
        · have e6 := cd_ite_t c7 e6
          refine lv_aload_n hx hb dX2_narrow_100 rfl (lv_at hl 1 rfl) ?_
          refine va_get (D := G) (ci := 2) (v := .ref (h 2)) (C := RX2) (T := TX2) (N := 3) hx hb hts nw_X2_narrow_X2 hown hK hw.1 0 rfl rfl 1 (by decide) hL1 (fun _ h9 => h9) rfl dX2_narrow_101 ?_
          refine lv_iload_n hx hb dX2_narrow_104 rfl (lv_at hl 2 rfl) ?_
          refine lv_iconst (v := (-1 : Int32)) hx hb dX2_narrow_105 (by decide) ?_
          obtain ⟨j8, e8, e6⟩ := cd_bind_some e6
          refine cd_iast hx hb hK hw 2 rfl e8 dX2_narrow_106 (fun H locs hw => ?_)
          have hw : cd_WS G A s.heap H locs ((pc_snz cI h (cd_set Z 1 j8 (-1 : Int32))) ++ (pc_town cI ht T)) := hw
          have z : some (cd_set Z 1 j8 (-1 : Int32)) = some x6 := e6
          cases z
          exact K6 _ _ _ (lv_sub hl [] rfl) hw
        · have e6 := cd_ite_f c7 e6
          refine lv_iload hx hb dX2_narrow_93 (lv_at hl 0 rfl) ?_
          refine lv_bipush (v := (60 : Int32)) hx hb dX2_narrow_95 (by decide) ?_
          refine lv_icmp_ge (tgt := 107) hx hb dX2_narrow_97 (by decide) (fun c9 => ?_) (fun c9 => ?_)
          · have e6 := cd_ite_t c9 e6
            have z : some Z = some x6 := e6
            cases z
            exact K6 _ _ _ (lv_sub hl [] rfl) hw
          · have e6 := cd_ite_f c9 e6
            refine lv_aload_n hx hb dX2_narrow_100 rfl (lv_at hl 1 rfl) ?_
            refine va_get (D := G) (ci := 2) (v := .ref (h 2)) (C := RX2) (T := TX2) (N := 3) hx hb hts nw_X2_narrow_X2 hown hK hw.1 0 rfl rfl 1 (by decide) hL1 (fun _ h9 => h9) rfl dX2_narrow_101 ?_
            refine lv_iload_n hx hb dX2_narrow_104 rfl (lv_at hl 2 rfl) ?_
            refine lv_iconst (v := (-1 : Int32)) hx hb dX2_narrow_105 (by decide) ?_
            obtain ⟨j10, e10, e6⟩ := cd_bind_some e6
            refine cd_iast hx hb hK hw 2 rfl e10 dX2_narrow_106 (fun H locs hw => ?_)
            have hw : cd_WS G A s.heap H locs ((pc_snz cI h (cd_set Z 1 j10 (-1 : Int32))) ++ (pc_town cI ht T)) := hw
            have z : some (cd_set Z 1 j10 (-1 : Int32)) = some x6 := e6
            cases z
            exact K6 _ _ _ (lv_sub hl [] rfl) hw
      · have e6 := cd_ite_f c6 e6
        refine lv_aload_n hx hb dX2_narrow_49 rfl (lv_at hl 1 rfl) ?_
        refine va_get (D := G) (ci := 2) (v := .ref (h 1)) (C := RX2) (T := TX2) (N := 3) hx hb hts nw_X2_narrow_X2 hown hK hw.1 0 rfl rfl 0 (by decide) hL2 (fun _ h9 => h9) rfl dX2_narrow_50 ?_
        refine lv_iload_n hx hb dX2_narrow_53 rfl (lv_at hl 2 rfl) ?_
        refine lv_aload_n hx hb dX2_narrow_54 rfl (lv_at hl 1 rfl) ?_
        refine va_get (D := G) (ci := 2) (v := .ref (h 1)) (C := RX2) (T := TX2) (N := 3) hx hb hts nw_X2_narrow_X2 hown hK hw.1 0 rfl rfl 0 (by decide) hL2 (fun _ h9 => h9) rfl dX2_narrow_55 ?_
        refine lv_iload_n hx hb dX2_narrow_58 rfl (lv_at hl 2 rfl) ?_
        obtain ⟨v11, e11, e6⟩ := cd_bind_some e6
        refine cd_iald hx hb hK hw 1 rfl e11 dX2_narrow_59 ?_
        refine lv_iload hx hb dX2_narrow_60 (lv_at hl 4 rfl) ?_
        refine cd_mmax hx hb (hml.trans hl.1.symm) hown hL3 hL4 hL5 hL6 (Nat.le_of_ble_eq_true rfl) (Nat.le_of_ble_eq_true rfl) dX2_narrow_62 ?_
        obtain ⟨j12, e12, e6⟩ := cd_bind_some e6
        refine cd_iast hx hb hK hw 1 rfl e12 dX2_narrow_65 (fun H locs hw => ?_)
        have hw : cd_WS G A s.heap H locs ((pc_snz cI h (cd_set Z 0 j12 (cd_max v11 r1))) ++ (pc_town cI ht T)) := hw
        refine lv_aload_n hx hb dX2_narrow_66 rfl (lv_at hl 1 rfl) ?_
        refine va_get (D := G) (ci := 2) (v := .ref (h 2)) (C := RX2) (T := TX2) (N := 3) hx hb hts nw_X2_narrow_X2 hown hK hw.1 0 rfl rfl 1 (by decide) hL1 (fun _ h9 => h9) rfl dX2_narrow_67 ?_
        refine lv_iload_n hx hb dX2_narrow_70 rfl (lv_at hl 2 rfl) ?_
        refine lv_aload_n hx hb dX2_narrow_71 rfl (lv_at hl 1 rfl) ?_
        refine va_get (D := G) (ci := 2) (v := .ref (h 2)) (C := RX2) (T := TX2) (N := 3) hx hb hts nw_X2_narrow_X2 hown hK hw.1 0 rfl rfl 1 (by decide) hL1 (fun _ h9 => h9) rfl dX2_narrow_72 ?_
        refine lv_iload_n hx hb dX2_narrow_75 rfl (lv_at hl 2 rfl) ?_
        obtain ⟨v13, e13, e6⟩ := cd_bind_some e6
        refine cd_iald hx hb hK hw 2 rfl e13 dX2_narrow_76 ?_
        refine lv_iload hx hb dX2_narrow_77 (lv_at hl 0 rfl) ?_
        refine cd_mmin hx hb (hml.trans hl.1.symm) hown hL7 hL8 hL5 hL9 (Nat.le_of_ble_eq_true rfl) (Nat.le_of_ble_eq_true rfl) dX2_narrow_79 ?_
        obtain ⟨j14, e14, e6⟩ := cd_bind_some e6
        refine cd_iast hx hb hK hw 2 rfl e14 dX2_narrow_82 (fun H locs hw => ?_)
        have hw : cd_WS G A s.heap H locs ((pc_snz cI h (cd_set (cd_set Z 0 j12 (cd_max v11 r1)) 1 j14 (cd_min v13 x4))) ++ (pc_town cI ht T)) := hw
        refine lv_goto (tgt := 107) hx hb dX2_narrow_83 (by decide) ?_
        have z : some (cd_set (cd_set Z 0 j12 (cd_max v11 r1)) 1 j14 (cd_min v13 x4)) = some x6 := e6
        cases z
        exact K6 _ _ _ (lv_sub hl [] rfl) hw
    refine lv_if_eq (tgt := 37) hx hb dX2_narrow_29 (by decide) (fun c4 => ?_) (fun c4 => ?_)
    · have e4 := cd_ite_t c4 e4
      refine lv_iload hx hb dX2_narrow_37 (lv_at hl 4 rfl) ?_
      have z : some r1 = some x4 := e4
      cases z
      exact K4 _ _ _ (lv_sub hl [1, 2, 3, 4] rfl) hw
    · have e4 := cd_ite_f c4 e4
      refine lv_bipush (v := (60 : Int32)) hx hb dX2_narrow_32 (by decide) ?_
      refine lv_goto (tgt := 39) hx hb dX2_narrow_34 (by decide) ?_
      have z : some (60 : Int32) = some x4 := e4
      cases z
      exact K4 _ _ _ (lv_sub hl [1, 2, 3, 4] rfl) hw
  refine lv_icmp_ne (tgt := 24) hx hb dX2_narrow_17 (by decide) (fun c3 => ?_) (fun c3 => ?_)
  · have e3 := cd_ite_f c3 e3
    refine lv_iconst (v := (0 : Int32)) hx hb dX2_narrow_24 (by decide) ?_
    have z : some (0 : Int32) = some x3 := e3
    cases z
    exact K3 _ _ _ (lv_sub hl [1, 2, 4, 0] rfl) hw
  · have e3 := cd_ite_t c3 e3
    refine lv_iconst (v := (1 : Int32)) hx hb dX2_narrow_20 (by decide) ?_
    refine lv_goto (tgt := 25) hx hb dX2_narrow_21 (by decide) ?_
    have z : some (1 : Int32) = some x3 := e3
    cases z
    exact K3 _ _ _ (lv_sub hl [1, 2, 4, 0] rfl) hw
abbrev rm_X2_fit : Room := { frames := 5, cells := 0, slots := 0, locals := 117 }
theorem nw_X2_fit_X2 : ∀ w ∈ u_ws RX2 TX2 3, w ∈ wsX2_fit := by decide +kernel
theorem nw_X2_fit_X3 : ∀ w ∈ u_ws RX3 TX3 14, w ∈ wsX2_fit := by decide +kernel
set_option maxHeartbeats 4000000 in
set_option maxRecDepth 100000 in
theorem c_X2_fit (l : Launch) (G : va_G) (cI cZ : ClassId) (sa sb : Nat) (h ht : Nat → Nat) (Z T : Nat → Nat → Int32) (o : (Nat → Nat → Int32)) (hf : f_X2_fit Z T = some o) : cd_Ct l G cI cZ sa sb yX2_fit wsX2_fit rm_X2_fit [.ref (h 0), .ref (ht 0)] ((pc_snz cI h Z) ++ (pc_town cI ht T)) ((pc_snz cI h o) ++ (pc_town cI ht T)) none := by
  refine cd_of (cc := cX2_fit) (maxL := 4) (ret := none) (by decide) rfl (Nat.le_of_ble_eq_true rfl) ?_
  intro p e s m ag below meth c A ls Q C0 hl hw hQ
  have C0 : cd_CX G cI cZ sa sb p s m ag meth c cX2_fit 4 none wsX2_fit RX2 A := C0
  obtain ⟨⟨hx, hb, hml, hown, hts⟩, hr, hlocks, hA, hE⟩ := id C0
  have hK := hE.1
  have hL0 := hts (.fieldLink RX2 9 "CandleDebts$Sneezing" "begins" "[I") (by decide +kernel)
  have hL1 := hts (.fieldLink RX2 15 "CandleDebts$Sneezing" "ends" "[I") (by decide +kernel)
  have hL2 := hts (.fieldLink RX2 21 "CandleDebts$Town" "sights" "I") (by decide +kernel)
  have hL3 := hts (.fieldLink RX2 27 "CandleDebts$Town" "sightCandles" "[I") (by decide +kernel)
  have hL4 := hts (.fieldLink RX2 30 "CandleDebts$Town" "sightLosses" "[I") (by decide +kernel)
  have hl : lv_has ls 4 [(0, .ref (h 0)), (1, .ref (ht 0))] := hl
  unfold f_X2_fit at hf
  refine lv_iconst (v := (0 : Int32)) hx hb dX2_fit_0 (by decide) ?_
  refine lv_istore_n (lv' := [(2, .int (0 : Int32)), (0, .ref (h 0)), (1, .ref (ht 0))]) hx hb dX2_fit_1 rfl hl (by decide) rfl (fun ls hl => ?_)
  obtain ⟨x1, e1, hf⟩ := cd_bind_some hf
  have K1 : ∀ (t1 : (Nat → Nat → Int32)), t1 = x1 → ∀ (ls : Array Slot) (H : Heap) (locs : List Loc), lv_has ls 4 [] → cd_WS G A s.heap H locs ((pc_snz cI h t1) ++ (pc_town cI ht T)) → W p l e rm_X2_fit s m ag below meth c H locs 0 0 Q (F0 m 69 ls []) := by
    intro t1 hs_1
    subst hs_1
    intro ls H locs hl hw
    have z : some t1 = some o := hf
    cases z
    rw [hQ]
    exact cd_retv C0 hw dX2_fit_69
  refine cd_iter_ind (body := (f_X2_fit_b2 T)) (K := fun r => r = x1) (P := fun (z1 : Int32 × (Nat → Nat → Int32)) => ∀ (ls : Array Slot) (H : Heap) (locs : List Loc), lv_has ls 4 [(0, .ref (h 0)), (1, .ref (ht 0)), (2, .int z1.1)] → cd_WS G A s.heap H locs ((pc_snz cI h z1.2) ++ (pc_town cI ht T)) → W p l e rm_X2_fit s m ag below meth c H locs 0 0 Q (F0 m 2 ls [])) ?_ cd_N ((0 : Int32), Z) x1 e1 rfl _ _ _ (lv_sub hl [1, 2, 0] rfl) hw
  intro z1 o1 hb1 hk1 ls H locs hl hw
  unfold f_X2_fit_b2 at hb1
  refine lv_iload_n hx hb dX2_fit_2 rfl (lv_at hl 2 rfl) ?_
  refine lv_bipush (v := (48 : Int32)) hx hb dX2_fit_3 (by decide) ?_
  refine lv_icmp_ge (tgt := 69) hx hb dX2_fit_5 (by decide) (fun c2 => ?_) (fun c2 => ?_)
  · have hb1 := cd_ite_t c2 hb1
    have z : some (Sum.inl z1.2) = some o1 := hb1
    cases z
    exact K1 _ hk1 _ _ _ (lv_sub hl [] rfl) hw
  · have hb1 := cd_ite_f c2 hb1
    refine lv_aload_n hx hb dX2_fit_8 rfl (lv_at hl 0 rfl) ?_
    refine va_get (D := G) (ci := 2) (v := .ref (h 1)) (C := RX2) (T := TX2) (N := 3) hx hb hts nw_X2_fit_X2 hown hK hw.1 0 rfl rfl 0 (by decide) hL0 (fun _ h9 => h9) rfl dX2_fit_9 ?_
    refine lv_iload_n hx hb dX2_fit_12 rfl (lv_at hl 2 rfl) ?_
    refine lv_iconst (v := (0 : Int32)) hx hb dX2_fit_13 (by decide) ?_
    obtain ⟨j3, e3, hb1⟩ := cd_bind_some hb1
    refine cd_iast hx hb hK hw 1 rfl e3 dX2_fit_14 (fun H locs hw => ?_)
    have hw : cd_WS G A s.heap H locs ((pc_snz cI h (cd_set z1.2 0 j3 (0 : Int32))) ++ (pc_town cI ht T)) := hw
    refine lv_aload_n hx hb dX2_fit_15 rfl (lv_at hl 0 rfl) ?_
    refine va_get (D := G) (ci := 2) (v := .ref (h 2)) (C := RX2) (T := TX2) (N := 3) hx hb hts nw_X2_fit_X2 hown hK hw.1 0 rfl rfl 1 (by decide) hL1 (fun _ h9 => h9) rfl dX2_fit_16 ?_
    refine lv_iload_n hx hb dX2_fit_19 rfl (lv_at hl 2 rfl) ?_
    refine lv_bipush (v := (60 : Int32)) hx hb dX2_fit_20 (by decide) ?_
    obtain ⟨j4, e4, hb1⟩ := cd_bind_some hb1
    refine cd_iast hx hb hK hw 2 rfl e4 dX2_fit_22 (fun H locs hw => ?_)
    have hw : cd_WS G A s.heap H locs ((pc_snz cI h (cd_set (cd_set z1.2 0 j3 (0 : Int32)) 1 j4 (60 : Int32))) ++ (pc_town cI ht T)) := hw
    refine lv_iconst (v := (0 : Int32)) hx hb dX2_fit_23 (by decide) ?_
    refine lv_istore_n (lv' := [(3, .int (0 : Int32)), (0, .ref (h 0)), (1, .ref (ht 0)), (2, .int z1.1)]) hx hb dX2_fit_24 rfl hl (by decide) rfl (fun ls hl => ?_)
    obtain ⟨x5, e5, hb1⟩ := cd_bind_some hb1
    have K5 : ∀ (t5 : (Nat → Nat → Int32)), t5 = x5 → ∀ (ls : Array Slot) (H : Heap) (locs : List Loc), lv_has ls 4 [(0, .ref (h 0)), (1, .ref (ht 0)), (2, .int z1.1)] → cd_WS G A s.heap H locs ((pc_snz cI h t5) ++ (pc_town cI ht T)) → W p l e rm_X2_fit s m ag below meth c H locs 0 0 Q (F0 m 63 ls []) := by
      intro t5 hs_5
      subst hs_5
      intro ls H locs hl hw
      refine lv_iinc (v := (z1.1 + (1 : Int32))) (lv' := [(2, .int (z1.1 + (1 : Int32))), (0, .ref (h 0)), (1, .ref (ht 0))]) hx hb dX2_fit_63 hl (k := 2) rfl rfl (by decide) rfl (fun ls hl => ?_)
      refine lv_goto (tgt := 2) hx hb dX2_fit_66 (by decide) ?_
      have z : some (Sum.inr ((z1.1 + (1 : Int32)), t5)) = some o1 := hb1
      cases z
      exact hk1 _ _ _ (lv_sub hl [1, 2, 0] rfl) hw
    refine cd_iter_ind (body := (f_X2_fit_b25 T z1)) (K := fun r => r = x5) (P := fun (z5 : Int32 × (Nat → Nat → Int32)) => ∀ (ls : Array Slot) (H : Heap) (locs : List Loc), lv_has ls 4 [(0, .ref (h 0)), (1, .ref (ht 0)), (2, .int z1.1), (3, .int z5.1)] → cd_WS G A s.heap H locs ((pc_snz cI h z5.2) ++ (pc_town cI ht T)) → W p l e rm_X2_fit s m ag below meth c H locs 0 0 Q (F0 m 25 ls [])) ?_ cd_N ((0 : Int32), (cd_set (cd_set z1.2 0 j3 (0 : Int32)) 1 j4 (60 : Int32))) x5 e5 rfl _ _ _ (lv_sub hl [1, 2, 3, 0] rfl) hw
    intro z5 o5 hb5 hk5 ls H locs hl hw
    unfold f_X2_fit_b25 at hb5
    refine lv_iload_n hx hb dX2_fit_25 rfl (lv_at hl 3 rfl) ?_
    refine lv_aload_n hx hb dX2_fit_26 rfl (lv_at hl 1 rfl) ?_
    refine va_get (D := G) (ci := 3) (v := .int (T 10 0)) (C := RX3) (T := TX3) (N := 14) hx hb hts nw_X2_fit_X3 hown hK hw.1 4 rfl rfl 10 (by decide) hL2 (fun _ h9 => h9) rfl dX2_fit_27 ?_
    refine lv_icmp_ge (tgt := 63) hx hb dX2_fit_30 (by decide) (fun c6 => ?_) (fun c6 => ?_)
    · have hb5 := cd_ite_t c6 hb5
      have z : some (Sum.inl z5.2) = some o5 := hb5
      cases z
      exact K5 _ hk5 _ _ _ (lv_sub hl [0, 1, 2] rfl) hw
    · have hb5 := cd_ite_f c6 hb5
      refine lv_iload_n hx hb dX2_fit_33 rfl (lv_at hl 3 rfl) ?_
      refine lv_bipush (v := (8 : Int32)) hx hb dX2_fit_34 (by decide) ?_
      refine lv_icmp_ge (tgt := 63) hx hb dX2_fit_36 (by decide) (fun c7 => ?_) (fun c7 => ?_)
      · have hb5 := cd_ite_t c7 hb5
        have z : some (Sum.inl z5.2) = some o5 := hb5
        cases z
        exact K5 _ hk5 _ _ _ (lv_sub hl [0, 1, 2] rfl) hw
      · have hb5 := cd_ite_f c7 hb5
        refine lv_aload_n hx hb dX2_fit_39 rfl (lv_at hl 0 rfl) ?_
        refine lv_iload_n hx hb dX2_fit_40 rfl (lv_at hl 2 rfl) ?_
        refine lv_aload_n hx hb dX2_fit_41 rfl (lv_at hl 1 rfl) ?_
        refine lv_aload_n hx hb dX2_fit_42 rfl (lv_at hl 1 rfl) ?_
        refine va_get (D := G) (ci := 3) (v := .ref (ht 9)) (C := RX3) (T := TX3) (N := 14) hx hb hts nw_X2_fit_X3 hown hK hw.1 4 rfl rfl 8 (by decide) hL3 (fun _ h9 => h9) rfl dX2_fit_43 ?_
        refine lv_iload_n hx hb dX2_fit_46 rfl (lv_at hl 3 rfl) ?_
        obtain ⟨v8, e8, hb5⟩ := cd_bind_some hb5
        refine cd_iald hx hb hK hw 13 rfl e8 dX2_fit_47 ?_
        refine lv_aload_n hx hb dX2_fit_48 rfl (lv_at hl 1 rfl) ?_
        refine va_get (D := G) (ci := 3) (v := .ref (ht 10)) (C := RX3) (T := TX3) (N := 14) hx hb hts nw_X2_fit_X3 hown hK hw.1 4 rfl rfl 9 (by decide) hL4 (fun _ h9 => h9) rfl dX2_fit_49 ?_
        refine lv_iload_n hx hb dX2_fit_52 rfl (lv_at hl 3 rfl) ?_
        obtain ⟨v9, e9, hb5⟩ := cd_bind_some hb5
        refine cd_iald hx hb hK hw 14 rfl e9 dX2_fit_53 ?_
        obtain ⟨r10, e10, hb5⟩ := cd_bind_some hb5
        refine cd_callVw (As := [.int z1.1, .ref (ht 0), .int v8, .int v9]) (rest := []) (wr := ([] : va_W)) (wn := (pc_snz cI h r10) ++ (pc_town cI ht T)) C0 hw (c_X2_narrow l G cI cZ sa sb h ht z5.2 T z1.1 v8 v9 r10 e10) [0, 1, 2, 3, 4, 5, 6, 7, 8, 9, 10, 11, 12, 13, 14] [] [0, 1, 2, 3, 4, 5, 6, 7, 8, 9, 10, 11, 12, 13, 14] rfl rfl rfl rfl (by decide) rfl rfl 0 2 rfl rfl rfl (cwV 4 hts gX2_fit_X2_narrow rfl rfl rfl (by decide +kernel) ⟨Nat.le_of_ble_eq_true rfl, Nat.le_of_ble_eq_true rfl⟩) rfl hl.1 (lv_room (Nat.le_of_ble_eq_true rfl)) dX2_fit_54 (fun H locs hw => ?_)
        refine lv_iinc (v := (z5.1 + (1 : Int32))) (lv' := [(3, .int (z5.1 + (1 : Int32))), (0, .ref (h 0)), (1, .ref (ht 0)), (2, .int z1.1)]) hx hb dX2_fit_57 hl (k := 3) rfl rfl (by decide) rfl (fun ls hl => ?_)
        refine lv_goto (tgt := 25) hx hb dX2_fit_60 (by decide) ?_
        have z : some (Sum.inr ((z5.1 + (1 : Int32)), r10)) = some o5 := hb5
        cases z
        exact hk5 _ _ _ (lv_sub hl [1, 2, 3, 0] rfl) hw
abbrev rm_X2_howMany : Room := { frames := 2, cells := 0, slots := 0, locals := 34 }
set_option maxHeartbeats 4000000 in
set_option maxRecDepth 100000 in
theorem c_X2_howMany (l : Launch) (G : va_G) (cI cZ : ClassId) (sa sb : Nat) (h : Nat → Nat) (Z : Nat → Nat → Int32) (o : Int32) (hf : f_X2_howMany Z = some o) : cd_Ct l G cI cZ sa sb yX2_howMany wsX2_howMany rm_X2_howMany [.ref (h 0)] ((pc_snz cI h Z)) ((pc_snz cI h Z)) (some (.int o)) := by
  refine cd_of (cc := cX2_howMany) (maxL := 3) (ret := (some .int)) (by decide) rfl (Nat.le_of_ble_eq_true rfl) ?_
  intro p e s m ag below meth c A ls Q C0 hl hw hQ
  have C0 : cd_CX G cI cZ sa sb p s m ag meth c cX2_howMany 3 (some .int) wsX2_howMany RX2 A := C0
  obtain ⟨⟨hx, hb, hml, hown, hts⟩, hr, hlocks, hA, hE⟩ := id C0
  have hK := hE.1
  have hl : lv_has ls 3 [(0, .ref (h 0))] := hl
  unfold f_X2_howMany at hf
  refine lv_iconst (v := (0 : Int32)) hx hb dX2_howMany_0 (by decide) ?_
  refine lv_istore_n (lv' := [(1, .int (0 : Int32)), (0, .ref (h 0))]) hx hb dX2_howMany_1 rfl hl (by decide) rfl (fun ls hl => ?_)
  refine lv_iconst (v := (0 : Int32)) hx hb dX2_howMany_2 (by decide) ?_
  refine lv_istore_n (lv' := [(2, .int (0 : Int32)), (1, .int (0 : Int32)), (0, .ref (h 0))]) hx hb dX2_howMany_3 rfl hl (by decide) rfl (fun ls hl => ?_)
  obtain ⟨x1, e1, hf⟩ := cd_bind_some hf
  have K1 : ∀ (t1 : Int32), t1 = x1 → ∀ (ls : Array Slot) (H : Heap) (locs : List Loc), lv_has ls 3 [(1, .int t1)] → cd_WS G A s.heap H locs ((pc_snz cI h Z)) → W p l e rm_X2_howMany s m ag below meth c H locs 0 0 Q (F0 m 24 ls []) := by
    intro t1 hs_1
    subst hs_1
    intro ls H locs hl hw
    refine lv_iload_n hx hb dX2_howMany_24 rfl (lv_at hl 0 rfl) ?_
    have z : some t1 = some o := hf
    cases z
    rw [hQ]
    exact cd_reti C0 hw dX2_howMany_25
  refine cd_iter_ind (body := (f_X2_howMany_b4 Z)) (K := fun r => r = x1) (P := fun (z1 : Int32 × Int32) => ∀ (ls : Array Slot) (H : Heap) (locs : List Loc), lv_has ls 3 [(0, .ref (h 0)), (1, .int z1.1), (2, .int z1.2)] → cd_WS G A s.heap H locs ((pc_snz cI h Z)) → W p l e rm_X2_howMany s m ag below meth c H locs 0 0 Q (F0 m 4 ls [])) ?_ cd_N ((0 : Int32), (0 : Int32)) x1 e1 rfl _ _ _ (lv_sub hl [2, 1, 0] rfl) hw
  intro z1 o1 hb1 hk1 ls H locs hl hw
  unfold f_X2_howMany_b4 at hb1
  refine lv_iload_n hx hb dX2_howMany_4 rfl (lv_at hl 2 rfl) ?_
  refine lv_bipush (v := (48 : Int32)) hx hb dX2_howMany_5 (by decide) ?_
  refine lv_icmp_ge (tgt := 24) hx hb dX2_howMany_7 (by decide) (fun c2 => ?_) (fun c2 => ?_)
  · have hb1 := cd_ite_t c2 hb1
    have z : some (Sum.inl z1.1) = some o1 := hb1
    cases z
    exact K1 _ hk1 _ _ _ (lv_sub hl [1] rfl) hw
  · have hb1 := cd_ite_f c2 hb1
    refine lv_iload_n hx hb dX2_howMany_10 rfl (lv_at hl 1 rfl) ?_
    refine lv_aload_n hx hb dX2_howMany_11 rfl (lv_at hl 0 rfl) ?_
    refine lv_iload_n hx hb dX2_howMany_12 rfl (lv_at hl 2 rfl) ?_
    obtain ⟨r3, e3, hb1⟩ := cd_bind_some hb1
    refine cd_callV (As := [.int z1.2]) (rest := [.int z1.1]) C0 hw (c_X2_countOf l G cI cZ sa sb h Z z1.2 r3 e3) [0, 1, 2, 3] rfl rfl 0 2 rfl rfl rfl (cwV 1 hts gX2_howMany_X2_countOf rfl rfl rfl (by decide +kernel) ⟨Nat.le_of_ble_eq_true rfl, Nat.le_of_ble_eq_true rfl⟩) rfl hl.1 (lv_room (Nat.le_of_ble_eq_true rfl)) dX2_howMany_13 (fun H locs hw => ?_)
    refine lv_iadd hx hb dX2_howMany_16 ?_
    refine lv_istore_n (lv' := [(1, .int (z1.1 + r3)), (0, .ref (h 0)), (2, .int z1.2)]) hx hb dX2_howMany_17 rfl hl (by decide) rfl (fun ls hl => ?_)
    refine lv_iinc (v := (z1.2 + (1 : Int32))) (lv' := [(2, .int (z1.2 + (1 : Int32))), (1, .int (z1.1 + r3)), (0, .ref (h 0))]) hx hb dX2_howMany_18 hl (k := 2) rfl rfl (by decide) rfl (fun ls hl => ?_)
    refine lv_goto (tgt := 4) hx hb dX2_howMany_21 (by decide) ?_
    have z : some (Sum.inr ((z1.1 + r3), (z1.2 + (1 : Int32)))) = some o1 := hb1
    cases z
    exact hk1 _ _ _ (lv_sub hl [2, 1, 0] rfl) hw
abbrev rm_X2_mostLeft : Room := { frames := 3, cells := 0, slots := 0, locals := 67 }
theorem nw_X2_mostLeft_X2 : ∀ w ∈ u_ws RX2 TX2 3, w ∈ wsX2_mostLeft := by decide +kernel
set_option maxHeartbeats 4000000 in
set_option maxRecDepth 100000 in
theorem c_X2_mostLeft (l : Launch) (G : va_G) (cI cZ : ClassId) (sa sb : Nat) (h ht : Nat → Nat) (Z T : Nat → Nat → Int32) (a0 : Int32) (o : Int32 × (Nat → Nat → Int32)) (hf : f_X2_mostLeft a0 Z T = some o) : cd_Ct l G cI cZ sa sb yX2_mostLeft wsX2_mostLeft rm_X2_mostLeft [.ref (h 0), .ref (ht 0), .int a0] ((pc_snz cI h Z) ++ (pc_town cI ht T)) ((pc_snz cI h o.2) ++ (pc_town cI ht T)) (some (.int o.1)) := by
  refine cd_of (cc := cX2_mostLeft) (maxL := 8) (ret := (some .int)) (by decide) rfl (Nat.le_of_ble_eq_true rfl) ?_
  intro p e s m ag below meth c A ls Q C0 hl hw hQ
  have C0 : cd_CX G cI cZ sa sb p s m ag meth c cX2_mostLeft 8 (some .int) wsX2_mostLeft RX2 A := C0
  obtain ⟨⟨hx, hb, hml, hown, hts⟩, hr, hlocks, hA, hE⟩ := id C0
  have hK := hE.1
  have hL0 := hts (.fieldLink RX2 18 "CandleDebts$Sneezing" "changes" "[I") (by decide +kernel)
  have hL1 := hts (.methodLink RX2 54 Lib.Math.min.name) (by decide +kernel)
  have hL2 := hts (.static Lib.Math.min.name) (by decide +kernel)
  have hL3 := hts (.initialized "java/lang/Math") (by decide +kernel)
  have hL4 := hts (.code Lib.Math.min.name Lib.Math.min.code 2 (some .int)) (by decide +kernel)
  have hL5 := hts (.fieldLink RX2 9 "CandleDebts$Sneezing" "begins" "[I") (by decide +kernel)
  have hL6 := hts (.fieldLink RX2 15 "CandleDebts$Sneezing" "ends" "[I") (by decide +kernel)
  have hL7 := hts (.methodLink RX2 48 Lib.Math.max.name) (by decide +kernel)
  have hL8 := hts (.static Lib.Math.max.name) (by decide +kernel)
  have hL9 := hts (.code Lib.Math.max.name Lib.Math.max.code 2 (some .int)) (by decide +kernel)
  have hl : lv_has ls 8 [(0, .ref (h 0)), (1, .ref (ht 0)), (2, .int a0)] := hl
  unfold f_X2_mostLeft at hf
  refine lv_iconst (v := (0 : Int32)) hx hb dX2_mostLeft_0 (by decide) ?_
  refine lv_istore_n (lv' := [(3, .int (0 : Int32)), (0, .ref (h 0)), (1, .ref (ht 0)), (2, .int a0)]) hx hb dX2_mostLeft_1 rfl hl (by decide) rfl (fun ls hl => ?_)
  obtain ⟨x1, e1, hf⟩ := cd_bind_some hf
  have K1 : ∀ (t1 : (Nat → Nat → Int32)), t1 = x1 → ∀ (ls : Array Slot) (H : Heap) (locs : List Loc), lv_has ls 8 [(0, .ref (h 0)), (1, .ref (ht 0)), (2, .int a0)] → cd_WS G A s.heap H locs ((pc_snz cI h t1) ++ (pc_town cI ht T)) → W p l e rm_X2_mostLeft s m ag below meth c H locs 0 0 Q (F0 m 21 ls []) := by
    intro t1 hs_1
    subst hs_1
    intro ls H locs hl hw
    refine lv_bipush (v := (60 : Int32)) hx hb dX2_mostLeft_21 (by decide) ?_
    refine lv_aload_n hx hb dX2_mostLeft_23 rfl (lv_at hl 1 rfl) ?_
    refine lv_iload_n hx hb dX2_mostLeft_24 rfl (lv_at hl 2 rfl) ?_
    obtain ⟨r4, e4, hf⟩ := cd_bind_some hf
    refine cd_callV (As := [.int a0]) (rest := [.int (60 : Int32)]) C0 hw (c_X3_minutesLeft l G cI cZ sa sb ht T a0 r4 e4) [4, 5, 6, 7, 8, 9, 10, 11, 12, 13, 14] rfl rfl 0 3 rfl rfl rfl (cwV 1 hts gX2_mostLeft_X3_minutesLeft rfl rfl rfl (by decide +kernel) ⟨Nat.le_of_ble_eq_true rfl, Nat.le_of_ble_eq_true rfl⟩) rfl hl.1 (lv_room (Nat.le_of_ble_eq_true rfl)) dX2_mostLeft_25 (fun H locs hw => ?_)
    refine cd_mmin hx hb (hml.trans hl.1.symm) hown hL1 hL2 hL3 hL4 (Nat.le_of_ble_eq_true rfl) (Nat.le_of_ble_eq_true rfl) dX2_mostLeft_28 ?_
    refine lv_istore_n (lv' := [(3, .int (cd_min (60 : Int32) r4)), (0, .ref (h 0)), (1, .ref (ht 0)), (2, .int a0)]) hx hb dX2_mostLeft_31 rfl hl (by decide) rfl (fun ls hl => ?_)
    refine lv_iconst (v := (0 : Int32)) hx hb dX2_mostLeft_32 (by decide) ?_
    refine lv_istore (lv' := [(4, .int (0 : Int32)), (3, .int (cd_min (60 : Int32) r4)), (0, .ref (h 0)), (1, .ref (ht 0)), (2, .int a0)]) hx hb dX2_mostLeft_33 hl (by decide) rfl (fun ls hl => ?_)
    refine lv_iconst (v := (0 : Int32)) hx hb dX2_mostLeft_35 (by decide) ?_
    refine lv_istore (lv' := [(5, .int (0 : Int32)), (4, .int (0 : Int32)), (3, .int (cd_min (60 : Int32) r4)), (0, .ref (h 0)), (1, .ref (ht 0)), (2, .int a0)]) hx hb dX2_mostLeft_36 hl (by decide) rfl (fun ls hl => ?_)
    obtain ⟨x5, e5, hf⟩ := cd_bind_some hf
    have K5 : ∀ (t5 : Int32 × (Nat → Nat → Int32)), t5 = x5 → ∀ (ls : Array Slot) (H : Heap) (locs : List Loc), lv_has ls 8 [(0, .ref (h 0)), (3, .int (cd_min (60 : Int32) r4)), (4, .int t5.1)] → cd_WS G A s.heap H locs ((pc_snz cI h t5.2) ++ (pc_town cI ht T)) → W p l e rm_X2_mostLeft s m ag below meth c H locs 0 0 Q (F0 m 117 ls []) := by
      intro t5 hs_5
      subst hs_5
      intro ls H locs hl hw
      refine lv_iconst (v := (0 : Int32)) hx hb dX2_mostLeft_117 (by decide) ?_
      refine lv_istore (lv' := [(5, .int (0 : Int32)), (0, .ref (h 0)), (3, .int (cd_min (60 : Int32) r4)), (4, .int t5.1)]) hx hb dX2_mostLeft_118 hl (by decide) rfl (fun ls hl => ?_)
      refine lv_iconst (v := (0 : Int32)) hx hb dX2_mostLeft_120 (by decide) ?_
      refine lv_istore (lv' := [(6, .int (0 : Int32)), (5, .int (0 : Int32)), (0, .ref (h 0)), (3, .int (cd_min (60 : Int32) r4)), (4, .int t5.1)]) hx hb dX2_mostLeft_121 hl (by decide) rfl (fun ls hl => ?_)
      refine lv_iconst (v := (0 : Int32)) hx hb dX2_mostLeft_123 (by decide) ?_
      refine lv_istore (lv' := [(7, .int (0 : Int32)), (6, .int (0 : Int32)), (5, .int (0 : Int32)), (0, .ref (h 0)), (3, .int (cd_min (60 : Int32) r4)), (4, .int t5.1)]) hx hb dX2_mostLeft_124 hl (by decide) rfl (fun ls hl => ?_)
      obtain ⟨x18, e18, hf⟩ := cd_bind_some hf
      have K18 : ∀ (t18 : Int32 × Int32), t18 = x18 → ∀ (ls : Array Slot) (H : Heap) (locs : List Loc), lv_has ls 8 [(4, .int t18.1), (5, .int t18.2)] → cd_WS G A s.heap H locs ((pc_snz cI h t5.2) ++ (pc_town cI ht T)) → W p l e rm_X2_mostLeft s m ag below meth c H locs 0 0 Q (F0 m 176 ls []) := by
        intro t18 hs_18
        subst hs_18
        intro ls H locs hl hw
        refine lv_iload hx hb dX2_mostLeft_176 (lv_at hl 1 rfl) ?_
        refine lv_iload hx hb dX2_mostLeft_178 (lv_at hl 0 rfl) ?_
        refine cd_mmax hx hb (hml.trans hl.1.symm) hown hL7 hL8 hL3 hL9 (Nat.le_of_ble_eq_true rfl) (Nat.le_of_ble_eq_true rfl) dX2_mostLeft_180 ?_
        have z : some ((cd_max t18.2 t18.1), t5.2) = some o := hf
        cases z
        rw [hQ]
        exact cd_reti C0 hw dX2_mostLeft_183
      refine cd_iter_ind (body := (f_X2_mostLeft_b126 r4 t5)) (K := fun r => r = x18) (P := fun (z18 : Int32 × Int32 × Int32 × Int32) => ∀ (ls : Array Slot) (H : Heap) (locs : List Loc), lv_has ls 8 [(0, .ref (h 0)), (3, .int (cd_min (60 : Int32) r4)), (4, .int z18.1), (5, .int z18.2.1), (6, .int z18.2.2.1), (7, .int z18.2.2.2)] → cd_WS G A s.heap H locs ((pc_snz cI h t5.2) ++ (pc_town cI ht T)) → W p l e rm_X2_mostLeft s m ag below meth c H locs 0 0 Q (F0 m 126 ls [])) ?_ cd_N (t5.1, (0 : Int32), (0 : Int32), (0 : Int32)) x18 e18 rfl _ _ _ (lv_sub hl [3, 4, 5, 2, 1, 0] rfl) hw
      intro z18 o18 hb18 hk18 ls H locs hl hw
      unfold f_X2_mostLeft_b126 at hb18
      refine lv_iload hx hb dX2_mostLeft_126 (lv_at hl 5 rfl) ?_
      refine lv_bipush (v := (60 : Int32)) hx hb dX2_mostLeft_128 (by decide) ?_
      refine lv_icmp_gt (tgt := 176) hx hb dX2_mostLeft_130 (by decide) (fun c19 => ?_) (fun c19 => ?_)
      · have hb18 := cd_ite_t c19 hb18
        have z : some (Sum.inl (z18.1, z18.2.1)) = some o18 := hb18
        cases z
        exact K18 _ hk18 _ _ _ (lv_sub hl [2, 3] rfl) hw
      · have hb18 := cd_ite_f c19 hb18
        refine lv_iload hx hb dX2_mostLeft_133 (lv_at hl 4 rfl) ?_
        refine lv_aload_n hx hb dX2_mostLeft_135 rfl (lv_at hl 0 rfl) ?_
        refine va_get (D := G) (ci := 2) (v := .ref (h 3)) (C := RX2) (T := TX2) (N := 3) hx hb hts nw_X2_mostLeft_X2 hown hK hw.1 0 rfl rfl 2 (by decide) hL0 (fun _ h9 => h9) rfl dX2_mostLeft_136 ?_
        refine lv_iload hx hb dX2_mostLeft_139 (lv_at hl 5 rfl) ?_
        obtain ⟨v20, e20, hb18⟩ := cd_bind_some hb18
        refine cd_iald hx hb hK hw 3 rfl e20 dX2_mostLeft_141 ?_
        refine lv_iadd hx hb dX2_mostLeft_142 ?_
        refine lv_istore (lv' := [(6, .int (z18.2.2.1 + v20)), (0, .ref (h 0)), (3, .int (cd_min (60 : Int32) r4)), (4, .int z18.1), (5, .int z18.2.1), (7, .int z18.2.2.2)]) hx hb dX2_mostLeft_143 hl (by decide) rfl (fun ls hl => ?_)
        refine lv_iload hx hb dX2_mostLeft_145 (lv_at hl 5 rfl) ?_
        refine lv_iload_n hx hb dX2_mostLeft_147 rfl (lv_at hl 2 rfl) ?_
        refine lv_icmp_ge (tgt := 163) hx hb dX2_mostLeft_148 (by decide) (fun c21 => ?_) (fun c21 => ?_)
        · have hb18 := cd_ite_t c21 hb18
          refine lv_iload hx hb dX2_mostLeft_163 (lv_at hl 3 rfl) ?_
          refine lv_iload hx hb dX2_mostLeft_165 (lv_at hl 0 rfl) ?_
          refine lv_iadd hx hb dX2_mostLeft_167 ?_
          refine lv_istore (lv' := [(4, .int (z18.1 + (z18.2.2.1 + v20))), (6, .int (z18.2.2.1 + v20)), (0, .ref (h 0)), (3, .int (cd_min (60 : Int32) r4)), (5, .int z18.2.1), (7, .int z18.2.2.2)]) hx hb dX2_mostLeft_168 hl (by decide) rfl (fun ls hl => ?_)
          refine lv_iinc (v := (z18.2.2.2 + (1 : Int32))) (lv' := [(7, .int (z18.2.2.2 + (1 : Int32))), (4, .int (z18.1 + (z18.2.2.1 + v20))), (6, .int (z18.2.2.1 + v20)), (0, .ref (h 0)), (3, .int (cd_min (60 : Int32) r4)), (5, .int z18.2.1)]) hx hb dX2_mostLeft_170 hl (k := 5) rfl rfl (by decide) rfl (fun ls hl => ?_)
          refine lv_goto (tgt := 126) hx hb dX2_mostLeft_173 (by decide) ?_
          have z : some (Sum.inr ((z18.1 + (z18.2.2.1 + v20)), z18.2.1, (z18.2.2.1 + v20), (z18.2.2.2 + (1 : Int32)))) = some o18 := hb18
          cases z
          exact hk18 _ _ _ (lv_sub hl [3, 4, 1, 5, 2, 0] rfl) hw
        · have hb18 := cd_ite_f c21 hb18
          refine lv_iload hx hb dX2_mostLeft_151 (lv_at hl 4 rfl) ?_
          refine lv_iload hx hb dX2_mostLeft_153 (lv_at hl 0 rfl) ?_
          refine cd_mmax hx hb (hml.trans hl.1.symm) hown hL7 hL8 hL3 hL9 (Nat.le_of_ble_eq_true rfl) (Nat.le_of_ble_eq_true rfl) dX2_mostLeft_155 ?_
          refine lv_istore (lv' := [(5, .int (cd_max z18.2.1 (z18.2.2.1 + v20))), (6, .int (z18.2.2.1 + v20)), (0, .ref (h 0)), (3, .int (cd_min (60 : Int32) r4)), (4, .int z18.1), (7, .int z18.2.2.2)]) hx hb dX2_mostLeft_158 hl (by decide) rfl (fun ls hl => ?_)
          refine lv_goto (tgt := 170) hx hb dX2_mostLeft_160 (by decide) ?_
          refine lv_iinc (v := (z18.2.2.2 + (1 : Int32))) (lv' := [(7, .int (z18.2.2.2 + (1 : Int32))), (5, .int (cd_max z18.2.1 (z18.2.2.1 + v20))), (6, .int (z18.2.2.1 + v20)), (0, .ref (h 0)), (3, .int (cd_min (60 : Int32) r4)), (4, .int z18.1)]) hx hb dX2_mostLeft_170 hl (k := 5) rfl rfl (by decide) rfl (fun ls hl => ?_)
          refine lv_goto (tgt := 126) hx hb dX2_mostLeft_173 (by decide) ?_
          have z : some (Sum.inr (z18.1, (cd_max z18.2.1 (z18.2.2.1 + v20)), (z18.2.2.1 + v20), (z18.2.2.2 + (1 : Int32)))) = some o18 := hb18
          cases z
          exact hk18 _ _ _ (lv_sub hl [3, 4, 5, 1, 2, 0] rfl) hw
    refine cd_iter_ind (body := (f_X2_mostLeft_b38 a0)) (K := fun r => r = x5) (P := fun (z5 : Int32 × Int32 × (Nat → Nat → Int32)) => ∀ (ls : Array Slot) (H : Heap) (locs : List Loc), lv_has ls 8 [(0, .ref (h 0)), (2, .int a0), (3, .int (cd_min (60 : Int32) r4)), (4, .int z5.1), (5, .int z5.2.1)] → cd_WS G A s.heap H locs ((pc_snz cI h z5.2.2) ++ (pc_town cI ht T)) → W p l e rm_X2_mostLeft s m ag below meth c H locs 0 0 Q (F0 m 38 ls [])) ?_ cd_N ((0 : Int32), (0 : Int32), t1) x5 e5 rfl _ _ _ (lv_sub hl [3, 5, 2, 1, 0] rfl) hw
    intro z5 o5 hb5 hk5 ls H locs hl hw
    unfold f_X2_mostLeft_b38 at hb5
    refine lv_iload hx hb dX2_mostLeft_38 (lv_at hl 4 rfl) ?_
    refine lv_bipush (v := (48 : Int32)) hx hb dX2_mostLeft_40 (by decide) ?_
    refine lv_icmp_ge (tgt := 117) hx hb dX2_mostLeft_42 (by decide) (fun c6 => ?_) (fun c6 => ?_)
    · have hb5 := cd_ite_t c6 hb5
      have z : some (Sum.inl (z5.1, z5.2.2)) = some o5 := hb5
      cases z
      exact K5 _ hk5 _ _ _ (lv_sub hl [0, 2, 3] rfl) hw
    · have hb5 := cd_ite_f c6 hb5
      refine lv_iload hx hb dX2_mostLeft_45 (lv_at hl 4 rfl) ?_
      refine lv_iload_n hx hb dX2_mostLeft_47 rfl (lv_at hl 1 rfl) ?_
      obtain ⟨r7, e7, hb5⟩ := cd_bind_some hb5
      refine cd_callS (As := [.int z5.2.1, .int a0]) (rest := []) C0 hw (c_X2_reaches l G cI cZ sa sb z5.2.1 a0 r7 e7) [] rfl rfl (va_cwS 2 hts gX2_mostLeft_X2_reaches rfl rfl rfl (by decide +kernel) ⟨Nat.le_of_ble_eq_true rfl, Nat.le_of_ble_eq_true rfl⟩) rfl hl.1 (lv_room (Nat.le_of_ble_eq_true rfl)) dX2_mostLeft_48 (fun H locs hw => ?_)
      refine lv_if_ne (tgt := 68) hx hb dX2_mostLeft_51 (by decide) (fun c8 => ?_) (fun c8 => ?_)
      · have hb5 := cd_ite_f c8 hb5
        refine lv_aload_n hx hb dX2_mostLeft_68 rfl (lv_at hl 0 rfl) ?_
        refine lv_iload hx hb dX2_mostLeft_69 (lv_at hl 4 rfl) ?_
        obtain ⟨r10, e10, hb5⟩ := cd_bind_some hb5
        refine cd_callV (As := [.int z5.2.1]) (rest := []) C0 hw (c_X2_countOf l G cI cZ sa sb h z5.2.2 z5.2.1 r10 e10) [0, 1, 2, 3] rfl rfl 0 2 rfl rfl rfl (cwV 1 hts gX2_mostLeft_X2_countOf rfl rfl rfl (by decide +kernel) ⟨Nat.le_of_ble_eq_true rfl, Nat.le_of_ble_eq_true rfl⟩) rfl hl.1 (lv_room (Nat.le_of_ble_eq_true rfl)) dX2_mostLeft_71 (fun H locs hw => ?_)
        refine lv_if_le (tgt := 111) hx hb dX2_mostLeft_74 (by decide) (fun c11 => ?_) (fun c11 => ?_)
        · have hb5 := cd_ite_t c11 hb5
          refine lv_iinc (v := (z5.2.1 + (1 : Int32))) (lv' := [(5, .int (z5.2.1 + (1 : Int32))), (0, .ref (h 0)), (2, .int a0), (3, .int (cd_min (60 : Int32) r4)), (4, .int z5.1)]) hx hb dX2_mostLeft_111 hl (k := 4) rfl rfl (by decide) rfl (fun ls hl => ?_)
          refine lv_goto (tgt := 38) hx hb dX2_mostLeft_114 (by decide) ?_
          have z : some (Sum.inr (z5.1, (z5.2.1 + (1 : Int32)), z5.2.2)) = some o5 := hb5
          cases z
          exact hk5 _ _ _ (lv_sub hl [1, 2, 3, 4, 0] rfl) hw
        · have hb5 := cd_ite_f c11 hb5
          refine lv_aload_n hx hb dX2_mostLeft_77 rfl (lv_at hl 0 rfl) ?_
          refine va_get (D := G) (ci := 2) (v := .ref (h 3)) (C := RX2) (T := TX2) (N := 3) hx hb hts nw_X2_mostLeft_X2 hown hK hw.1 0 rfl rfl 2 (by decide) hL0 (fun _ h9 => h9) rfl dX2_mostLeft_78 ?_
          refine lv_aload_n hx hb dX2_mostLeft_81 rfl (lv_at hl 0 rfl) ?_
          refine va_get (D := G) (ci := 2) (v := .ref (h 1)) (C := RX2) (T := TX2) (N := 3) hx hb hts nw_X2_mostLeft_X2 hown hK hw.1 0 rfl rfl 0 (by decide) hL5 (fun _ h9 => h9) rfl dX2_mostLeft_82 ?_
          refine lv_iload hx hb dX2_mostLeft_85 (lv_at hl 4 rfl) ?_
          obtain ⟨v12, e12, hb5⟩ := cd_bind_some hb5
          refine cd_iald hx hb hK hw 1 rfl e12 dX2_mostLeft_87 ?_
          refine lv_dup2_11 hx hb dX2_mostLeft_88 rfl rfl ?_
          obtain ⟨v13, e13, hb5⟩ := cd_bind_some hb5
          refine cd_iald hx hb hK hw 3 rfl e13 dX2_mostLeft_89 ?_
          refine lv_iconst (v := (1 : Int32)) hx hb dX2_mostLeft_90 (by decide) ?_
          refine lv_iadd hx hb dX2_mostLeft_91 ?_
          obtain ⟨j14, e14, hb5⟩ := cd_bind_some hb5
          refine cd_iast hx hb hK hw 3 rfl e14 dX2_mostLeft_92 (fun H locs hw => ?_)
          have hw : cd_WS G A s.heap H locs ((pc_snz cI h (cd_set z5.2.2 2 j14 (v13 + (1 : Int32)))) ++ (pc_town cI ht T)) := hw
          refine lv_aload_n hx hb dX2_mostLeft_93 rfl (lv_at hl 0 rfl) ?_
          refine va_get (D := G) (ci := 2) (v := .ref (h 3)) (C := RX2) (T := TX2) (N := 3) hx hb hts nw_X2_mostLeft_X2 hown hK hw.1 0 rfl rfl 2 (by decide) hL0 (fun _ h9 => h9) rfl dX2_mostLeft_94 ?_
          refine lv_aload_n hx hb dX2_mostLeft_97 rfl (lv_at hl 0 rfl) ?_
          refine va_get (D := G) (ci := 2) (v := .ref (h 2)) (C := RX2) (T := TX2) (N := 3) hx hb hts nw_X2_mostLeft_X2 hown hK hw.1 0 rfl rfl 1 (by decide) hL6 (fun _ h9 => h9) rfl dX2_mostLeft_98 ?_
          refine lv_iload hx hb dX2_mostLeft_101 (lv_at hl 4 rfl) ?_
          obtain ⟨v15, e15, hb5⟩ := cd_bind_some hb5
          refine cd_iald hx hb hK hw 2 rfl e15 dX2_mostLeft_103 ?_
          refine lv_iconst (v := (1 : Int32)) hx hb dX2_mostLeft_104 (by decide) ?_
          refine lv_iadd hx hb dX2_mostLeft_105 ?_
          refine lv_dup2_11 hx hb dX2_mostLeft_106 rfl rfl ?_
          obtain ⟨v16, e16, hb5⟩ := cd_bind_some hb5
          refine cd_iald hx hb hK hw 3 rfl e16 dX2_mostLeft_107 ?_
          refine lv_iconst (v := (1 : Int32)) hx hb dX2_mostLeft_108 (by decide) ?_
          refine lv_isub hx hb dX2_mostLeft_109 ?_
          obtain ⟨j17, e17, hb5⟩ := cd_bind_some hb5
          refine cd_iast hx hb hK hw 3 rfl e17 dX2_mostLeft_110 (fun H locs hw => ?_)
          have hw : cd_WS G A s.heap H locs ((pc_snz cI h (cd_set (cd_set z5.2.2 2 j14 (v13 + (1 : Int32))) 2 j17 (v16 - (1 : Int32)))) ++ (pc_town cI ht T)) := hw
          refine lv_iinc (v := (z5.2.1 + (1 : Int32))) (lv' := [(5, .int (z5.2.1 + (1 : Int32))), (0, .ref (h 0)), (2, .int a0), (3, .int (cd_min (60 : Int32) r4)), (4, .int z5.1)]) hx hb dX2_mostLeft_111 hl (k := 4) rfl rfl (by decide) rfl (fun ls hl => ?_)
          refine lv_goto (tgt := 38) hx hb dX2_mostLeft_114 (by decide) ?_
          have z : some (Sum.inr (z5.1, (z5.2.1 + (1 : Int32)), (cd_set (cd_set z5.2.2 2 j14 (v13 + (1 : Int32))) 2 j17 (v16 - (1 : Int32))))) = some o5 := hb5
          cases z
          exact hk5 _ _ _ (lv_sub hl [1, 2, 3, 4, 0] rfl) hw
      · have hb5 := cd_ite_t c8 hb5
        refine lv_iload hx hb dX2_mostLeft_54 (lv_at hl 3 rfl) ?_
        refine lv_aload_n hx hb dX2_mostLeft_56 rfl (lv_at hl 0 rfl) ?_
        refine lv_iload hx hb dX2_mostLeft_57 (lv_at hl 4 rfl) ?_
        obtain ⟨r9, e9, hb5⟩ := cd_bind_some hb5
        refine cd_callV (As := [.int z5.2.1]) (rest := [.int z5.1]) C0 hw (c_X2_countOf l G cI cZ sa sb h z5.2.2 z5.2.1 r9 e9) [0, 1, 2, 3] rfl rfl 0 2 rfl rfl rfl (cwV 1 hts gX2_mostLeft_X2_countOf rfl rfl rfl (by decide +kernel) ⟨Nat.le_of_ble_eq_true rfl, Nat.le_of_ble_eq_true rfl⟩) rfl hl.1 (lv_room (Nat.le_of_ble_eq_true rfl)) dX2_mostLeft_59 (fun H locs hw => ?_)
        refine lv_iadd hx hb dX2_mostLeft_62 ?_
        refine lv_istore (lv' := [(4, .int (z5.1 + r9)), (0, .ref (h 0)), (2, .int a0), (3, .int (cd_min (60 : Int32) r4)), (5, .int z5.2.1)]) hx hb dX2_mostLeft_63 hl (by decide) rfl (fun ls hl => ?_)
        refine lv_goto (tgt := 111) hx hb dX2_mostLeft_65 (by decide) ?_
        refine lv_iinc (v := (z5.2.1 + (1 : Int32))) (lv' := [(5, .int (z5.2.1 + (1 : Int32))), (4, .int (z5.1 + r9)), (0, .ref (h 0)), (2, .int a0), (3, .int (cd_min (60 : Int32) r4))]) hx hb dX2_mostLeft_111 hl (k := 4) rfl rfl (by decide) rfl (fun ls hl => ?_)
        refine lv_goto (tgt := 38) hx hb dX2_mostLeft_114 (by decide) ?_
        have z : some (Sum.inr ((z5.1 + r9), (z5.2.1 + (1 : Int32)), z5.2.2)) = some o5 := hb5
        cases z
        exact hk5 _ _ _ (lv_sub hl [2, 3, 4, 1, 0] rfl) hw
  refine cd_iter_ind (body := f_X2_mostLeft_b2) (K := fun r => r = x1) (P := fun (z1 : Int32 × (Nat → Nat → Int32)) => ∀ (ls : Array Slot) (H : Heap) (locs : List Loc), lv_has ls 8 [(0, .ref (h 0)), (1, .ref (ht 0)), (2, .int a0), (3, .int z1.1)] → cd_WS G A s.heap H locs ((pc_snz cI h z1.2) ++ (pc_town cI ht T)) → W p l e rm_X2_mostLeft s m ag below meth c H locs 0 0 Q (F0 m 2 ls [])) ?_ cd_N ((0 : Int32), Z) x1 e1 rfl _ _ _ (lv_sub hl [1, 2, 3, 0] rfl) hw
  intro z1 o1 hb1 hk1 ls H locs hl hw
  unfold f_X2_mostLeft_b2 at hb1
  refine lv_iload_n hx hb dX2_mostLeft_2 rfl (lv_at hl 3 rfl) ?_
  refine lv_bipush (v := (62 : Int32)) hx hb dX2_mostLeft_3 (by decide) ?_
  refine lv_icmp_ge (tgt := 21) hx hb dX2_mostLeft_5 (by decide) (fun c2 => ?_) (fun c2 => ?_)
  · have hb1 := cd_ite_t c2 hb1
    have z : some (Sum.inl z1.2) = some o1 := hb1
    cases z
    exact K1 _ hk1 _ _ _ (lv_sub hl [0, 1, 2] rfl) hw
  · have hb1 := cd_ite_f c2 hb1
    refine lv_aload_n hx hb dX2_mostLeft_8 rfl (lv_at hl 0 rfl) ?_
    refine va_get (D := G) (ci := 2) (v := .ref (h 3)) (C := RX2) (T := TX2) (N := 3) hx hb hts nw_X2_mostLeft_X2 hown hK hw.1 0 rfl rfl 2 (by decide) hL0 (fun _ h9 => h9) rfl dX2_mostLeft_9 ?_
    refine lv_iload_n hx hb dX2_mostLeft_12 rfl (lv_at hl 3 rfl) ?_
    refine lv_iconst (v := (0 : Int32)) hx hb dX2_mostLeft_13 (by decide) ?_
    obtain ⟨j3, e3, hb1⟩ := cd_bind_some hb1
    refine cd_iast hx hb hK hw 3 rfl e3 dX2_mostLeft_14 (fun H locs hw => ?_)
    have hw : cd_WS G A s.heap H locs ((pc_snz cI h (cd_set z1.2 2 j3 (0 : Int32))) ++ (pc_town cI ht T)) := hw
    refine lv_iinc (v := (z1.1 + (1 : Int32))) (lv' := [(3, .int (z1.1 + (1 : Int32))), (0, .ref (h 0)), (1, .ref (ht 0)), (2, .int a0)]) hx hb dX2_mostLeft_15 hl (k := 3) rfl rfl (by decide) rfl (fun ls hl => ?_)
    refine lv_goto (tgt := 2) hx hb dX2_mostLeft_18 (by decide) ?_
    have z : some (Sum.inr ((z1.1 + (1 : Int32)), (cd_set z1.2 2 j3 (0 : Int32)))) = some o1 := hb1
    cases z
    exact hk1 _ _ _ (lv_sub hl [1, 2, 3, 0] rfl) hw
abbrev rm_X3_addSight : Room := { frames := 0, cells := 0, slots := 0, locals := 0 }
theorem nw_X3_addSight_X3 : ∀ w ∈ u_ws RX3 TX3 14, w ∈ wsX3_addSight := by decide +kernel
set_option maxHeartbeats 4000000 in
set_option maxRecDepth 100000 in
theorem c_X3_addSight (l : Launch) (G : va_G) (cI cZ : ClassId) (sa sb : Nat) (h : Nat → Nat) (T : Nat → Nat → Int32) (a0 : Int32) (a1 : Int32) (o : Int32 × (Nat → Nat → Int32)) (hf : f_X3_addSight a0 a1 T = some o) : cd_Ct l G cI cZ sa sb yX3_addSight wsX3_addSight rm_X3_addSight [.ref (h 0), .int a0, .int a1] ((pc_town cI h T)) ((pc_town cI h o.2)) (some (.int o.1)) := by
  refine cd_of (cc := cX3_addSight) (maxL := 3) (ret := (some .boolean)) (by decide) rfl (Nat.le_of_ble_eq_true rfl) ?_
  intro p e s m ag below meth c A ls Q C0 hl hw hQ
  have C0 : cd_CX G cI cZ sa sb p s m ag meth c cX3_addSight 3 (some .boolean) wsX3_addSight RX3 A := C0
  obtain ⟨⟨hx, hb, hml, hown, hts⟩, hr, hlocks, hA, hE⟩ := id C0
  have hK := hE.1
  have hL0 := hts (.fieldLink RX3 56 "CandleDebts$Town" "sights" "I") (by decide +kernel)
  have hL1 := hts (.fieldLink RX3 36 "CandleDebts$Town" "sightCandles" "[I") (by decide +kernel)
  have hL2 := hts (.fieldLink RX3 39 "CandleDebts$Town" "sightLosses" "[I") (by decide +kernel)
  have hl : lv_has ls 3 [(0, .ref (h 0)), (1, .int a0), (2, .int a1)] := hl
  unfold f_X3_addSight at hf
  refine lv_aload_n hx hb dX3_addSight_0 rfl (lv_at hl 0 rfl) ?_
  refine va_get (D := G) (ci := 3) (v := .int (T 10 0)) (C := RX3) (T := TX3) (N := 14) hx hb hts nw_X3_addSight_X3 hown hK hw.1 0 rfl rfl 10 (by decide) hL0 (fun _ h9 => h9) rfl dX3_addSight_1 ?_
  refine lv_bipush (v := (8 : Int32)) hx hb dX3_addSight_4 (by decide) ?_
  refine lv_icmp_lt (tgt := 11) hx hb dX3_addSight_6 (by decide) (fun c1 => ?_) (fun c1 => ?_)
  · have hf := cd_ite_t c1 hf
    refine lv_aload_n hx hb dX3_addSight_11 rfl (lv_at hl 0 rfl) ?_
    refine va_get (D := G) (ci := 3) (v := .ref (h 9)) (C := RX3) (T := TX3) (N := 14) hx hb hts nw_X3_addSight_X3 hown hK hw.1 0 rfl rfl 8 (by decide) hL1 (fun _ h9 => h9) rfl dX3_addSight_12 ?_
    refine lv_aload_n hx hb dX3_addSight_15 rfl (lv_at hl 0 rfl) ?_
    refine va_get (D := G) (ci := 3) (v := .int (T 10 0)) (C := RX3) (T := TX3) (N := 14) hx hb hts nw_X3_addSight_X3 hown hK hw.1 0 rfl rfl 10 (by decide) hL0 (fun _ h9 => h9) rfl dX3_addSight_16 ?_
    refine lv_iload_n hx hb dX3_addSight_19 rfl (lv_at hl 1 rfl) ?_
    obtain ⟨j2, e2, hf⟩ := cd_bind_some hf
    refine cd_iast hx hb hK hw 9 rfl e2 dX3_addSight_20 (fun H locs hw => ?_)
    have hw : cd_WS G A s.heap H locs ((pc_town cI h (cd_set T 8 j2 a0))) := hw
    refine lv_aload_n hx hb dX3_addSight_21 rfl (lv_at hl 0 rfl) ?_
    refine va_get (D := G) (ci := 3) (v := .ref (h 10)) (C := RX3) (T := TX3) (N := 14) hx hb hts nw_X3_addSight_X3 hown hK hw.1 0 rfl rfl 9 (by decide) hL2 (fun _ h9 => h9) rfl dX3_addSight_22 ?_
    refine lv_aload_n hx hb dX3_addSight_25 rfl (lv_at hl 0 rfl) ?_
    refine va_get (D := G) (ci := 3) (v := .int (T 10 0)) (C := RX3) (T := TX3) (N := 14) hx hb hts nw_X3_addSight_X3 hown hK hw.1 0 rfl rfl 10 (by decide) hL0 (fun _ h9 => h9) rfl dX3_addSight_26 ?_
    refine lv_iload_n hx hb dX3_addSight_29 rfl (lv_at hl 2 rfl) ?_
    obtain ⟨j3, e3, hf⟩ := cd_bind_some hf
    refine cd_iast hx hb hK hw 10 rfl e3 dX3_addSight_30 (fun H locs hw => ?_)
    have hw : cd_WS G A s.heap H locs ((pc_town cI h (cd_set (cd_set T 8 j2 a0) 9 j3 a1))) := hw
    refine lv_aload_n hx hb dX3_addSight_31 rfl (lv_at hl 0 rfl) ?_
    refine lv_dup hx hb dX3_addSight_32 rfl ?_
    refine va_get (D := G) (ci := 3) (v := .int (T 10 0)) (C := RX3) (T := TX3) (N := 14) hx hb hts nw_X3_addSight_X3 hown hK hw.1 0 rfl rfl 10 (by decide) hL0 (fun _ h9 => h9) rfl dX3_addSight_33 ?_
    refine lv_iconst (v := (1 : Int32)) hx hb dX3_addSight_36 (by decide) ?_
    refine lv_iadd hx hb dX3_addSight_37 ?_
    refine va_put (D := G) (ci := 3) (v := .int ((T 10 0) + (1 : Int32))) (ty := .int) (C := RX3) (T := TX3) (N := 14) hx hb hts nw_X3_addSight_X3 tyX3 tyX3_ok nmX3 hown hK hw.1 hw.2.1 hw.2.2 0 rfl rfl 10 (by decide) hL0 (fun _ h9 => h9) rfl (by decide +kernel) rfl rfl (Nat.le_of_ble_eq_true rfl) dX3_addSight_38 (fun H locs hP hD hS => ?_)
    have hw : cd_WS G A s.heap H locs ((pc_town cI h (cd_fld (cd_set (cd_set T 8 j2 a0) 9 j3 a1) 10 ((T 10 0) + (1 : Int32))))) := ⟨hP, hD, hS⟩
    refine lv_iconst (v := (1 : Int32)) hx hb dX3_addSight_41 (by decide) ?_
    have z : some ((1 : Int32), (cd_fld (cd_set (cd_set T 8 j2 a0) 9 j3 a1) 10 ((T 10 0) + (1 : Int32)))) = some o := hf
    cases z
    rw [hQ]
    exact cd_retz C0 hw (by decide) dX3_addSight_42
  · have hf := cd_ite_f c1 hf
    refine lv_iconst (v := (0 : Int32)) hx hb dX3_addSight_9 (by decide) ?_
    have z : some ((0 : Int32), T) = some o := hf
    cases z
    rw [hQ]
    exact cd_retz C0 hw (by decide) dX3_addSight_10
abbrev rm_X3_canBeAsked : Room := { frames := 2, cells := 0, slots := 0, locals := 42 }
theorem nw_X3_canBeAsked_X3 : ∀ w ∈ u_ws RX3 TX3 14, w ∈ wsX3_canBeAsked := by decide +kernel
set_option maxHeartbeats 4000000 in
set_option maxRecDepth 100000 in
theorem c_X3_canBeAsked (l : Launch) (G : va_G) (cI cZ : ClassId) (sa sb : Nat) (h : Nat → Nat) (T : Nat → Nat → Int32) (a0 : Int32) (o : Int32) (hf : f_X3_canBeAsked a0 T = some o) : cd_Ct l G cI cZ sa sb yX3_canBeAsked wsX3_canBeAsked rm_X3_canBeAsked [.ref (h 0), .int a0] ((pc_town cI h T)) ((pc_town cI h T)) (some (.int o)) := by
  refine cd_of (cc := cX3_canBeAsked) (maxL := 2) (ret := (some .boolean)) (by decide) rfl (Nat.le_of_ble_eq_true rfl) ?_
  intro p e s m ag below meth c A ls Q C0 hl hw hQ
  have C0 : cd_CX G cI cZ sa sb p s m ag meth c cX3_canBeAsked 2 (some .boolean) wsX3_canBeAsked RX3 A := C0
  obtain ⟨⟨hx, hb, hml, hown, hts⟩, hr, hlocks, hA, hE⟩ := id C0
  have hK := hE.1
  have hL0 := hts (.fieldLink RX3 27 "CandleDebts$Town" "sums" "[I") (by decide +kernel)
  have hl : lv_has ls 2 [(0, .ref (h 0)), (1, .int a0)] := hl
  unfold f_X3_canBeAsked at hf
  refine lv_aload_n hx hb dX3_canBeAsked_0 rfl (lv_at hl 0 rfl) ?_
  refine lv_iload_n hx hb dX3_canBeAsked_1 rfl (lv_at hl 1 rfl) ?_
  obtain ⟨r1, e1, hf⟩ := cd_bind_some hf
  refine cd_callV (As := [.int a0]) (rest := []) C0 hw (c_X3_isLit l G cI cZ sa sb h T a0 r1 e1) [0, 1, 2, 3, 4, 5, 6, 7, 8, 9, 10] rfl rfl 0 3 rfl rfl rfl (cwV 1 hts gX3_canBeAsked_X3_isLit rfl rfl rfl (by decide +kernel) ⟨Nat.le_of_ble_eq_true rfl, Nat.le_of_ble_eq_true rfl⟩) rfl hl.1 (lv_room (Nat.le_of_ble_eq_true rfl)) dX3_canBeAsked_2 (fun H locs hw => ?_)
  obtain ⟨x2, e2, hf⟩ := cd_bind_some hf
  have K2 : ∀ (ls : Array Slot) (H : Heap) (locs : List Loc), lv_has ls 2 [] → cd_WS G A s.heap H locs ((pc_town cI h T)) → W p l e rm_X3_canBeAsked s m ag below meth c H locs 0 0 Q (F0 m 22 ls [.int x2]) := by
    intro ls H locs hl hw
    obtain ⟨u3, e3, hf⟩ := cd_bind_some hf
    have z : some x2 = some o := hf
    cases z
    rw [hQ]
    exact cd_retz C0 hw (cd_zb_eq e3) dX3_canBeAsked_22
  refine lv_if_eq (tgt := 21) hx hb dX3_canBeAsked_5 (by decide) (fun c2 => ?_) (fun c2 => ?_)
  · have e2 := cd_ite_t c2 e2
    refine lv_iconst (v := (0 : Int32)) hx hb dX3_canBeAsked_21 (by decide) ?_
    have z : some (0 : Int32) = some x2 := e2
    cases z
    exact K2 _ _ _ (lv_sub hl [] rfl) hw
  · have e2 := cd_ite_f c2 e2
    refine lv_aload_n hx hb dX3_canBeAsked_8 rfl (lv_at hl 0 rfl) ?_
    refine va_get (D := G) (ci := 3) (v := .ref (h 6)) (C := RX3) (T := TX3) (N := 14) hx hb hts nw_X3_canBeAsked_X3 hown hK hw.1 0 rfl rfl 5 (by decide) hL0 (fun _ h9 => h9) rfl dX3_canBeAsked_9 ?_
    refine lv_iload_n hx hb dX3_canBeAsked_12 rfl (lv_at hl 1 rfl) ?_
    obtain ⟨v4, e4, e2⟩ := cd_bind_some e2
    refine cd_iald hx hb hK hw 6 rfl e4 dX3_canBeAsked_13 ?_
    refine lv_if_le (tgt := 21) hx hb dX3_canBeAsked_14 (by decide) (fun c5 => ?_) (fun c5 => ?_)
    · have e2 := cd_ite_t c5 e2
      refine lv_iconst (v := (0 : Int32)) hx hb dX3_canBeAsked_21 (by decide) ?_
      have z : some (0 : Int32) = some x2 := e2
      cases z
      exact K2 _ _ _ (lv_sub hl [] rfl) hw
    · have e2 := cd_ite_f c5 e2
      refine lv_iconst (v := (1 : Int32)) hx hb dX3_canBeAsked_17 (by decide) ?_
      refine lv_goto (tgt := 22) hx hb dX3_canBeAsked_18 (by decide) ?_
      have z : some (1 : Int32) = some x2 := e2
      cases z
      exact K2 _ _ _ (lv_sub hl [] rfl) hw
abbrev rm_X3_outlasts : Room := { frames := 3, cells := 0, slots := 0, locals := 67 }
set_option maxHeartbeats 4000000 in
set_option maxRecDepth 100000 in
theorem c_X3_outlasts (l : Launch) (G : va_G) (cI cZ : ClassId) (sa sb : Nat) (h : Nat → Nat) (T : Nat → Nat → Int32) (a0 : Int32) (a1 : Int32) (o : Int32) (hf : f_X3_outlasts a0 a1 T = some o) : cd_Ct l G cI cZ sa sb yX3_outlasts wsX3_outlasts rm_X3_outlasts [.ref (h 0), .int a0, .int a1] ((pc_town cI h T)) ((pc_town cI h T)) (some (.int o)) := by
  refine cd_of (cc := cX3_outlasts) (maxL := 3) (ret := (some .boolean)) (by decide) rfl (Nat.le_of_ble_eq_true rfl) ?_
  intro p e s m ag below meth c A ls Q C0 hl hw hQ
  have C0 : cd_CX G cI cZ sa sb p s m ag meth c cX3_outlasts 3 (some .boolean) wsX3_outlasts RX3 A := C0
  obtain ⟨⟨hx, hb, hml, hown, hts⟩, hr, hlocks, hA, hE⟩ := id C0
  have hK := hE.1
  have hl : lv_has ls 3 [(0, .ref (h 0)), (1, .int a0), (2, .int a1)] := hl
  unfold f_X3_outlasts at hf
  refine lv_aload_n hx hb dX3_outlasts_0 rfl (lv_at hl 0 rfl) ?_
  refine lv_iload_n hx hb dX3_outlasts_1 rfl (lv_at hl 1 rfl) ?_
  obtain ⟨r1, e1, hf⟩ := cd_bind_some hf
  refine cd_callV (As := [.int a0]) (rest := []) C0 hw (c_X3_isLit l G cI cZ sa sb h T a0 r1 e1) [0, 1, 2, 3, 4, 5, 6, 7, 8, 9, 10] rfl rfl 0 3 rfl rfl rfl (cwV 1 hts gX3_outlasts_X3_isLit rfl rfl rfl (by decide +kernel) ⟨Nat.le_of_ble_eq_true rfl, Nat.le_of_ble_eq_true rfl⟩) rfl hl.1 (lv_room (Nat.le_of_ble_eq_true rfl)) dX3_outlasts_2 (fun H locs hw => ?_)
  obtain ⟨x2, e2, hf⟩ := cd_bind_some hf
  have K2 : ∀ (ls : Array Slot) (H : Heap) (locs : List Loc), lv_has ls 3 [] → cd_WS G A s.heap H locs ((pc_town cI h T)) → W p l e rm_X3_outlasts s m ag below meth c H locs 0 0 Q (F0 m 22 ls [.int x2]) := by
    intro ls H locs hl hw
    obtain ⟨u3, e3, hf⟩ := cd_bind_some hf
    have z : some x2 = some o := hf
    cases z
    rw [hQ]
    exact cd_retz C0 hw (cd_zb_eq e3) dX3_outlasts_22
  refine lv_if_eq (tgt := 21) hx hb dX3_outlasts_5 (by decide) (fun c2 => ?_) (fun c2 => ?_)
  · have e2 := cd_ite_t c2 e2
    refine lv_iconst (v := (0 : Int32)) hx hb dX3_outlasts_21 (by decide) ?_
    have z : some (0 : Int32) = some x2 := e2
    cases z
    exact K2 _ _ _ (lv_sub hl [] rfl) hw
  · have e2 := cd_ite_f c2 e2
    refine lv_aload_n hx hb dX3_outlasts_8 rfl (lv_at hl 0 rfl) ?_
    refine lv_iload_n hx hb dX3_outlasts_9 rfl (lv_at hl 1 rfl) ?_
    obtain ⟨r4, e4, e2⟩ := cd_bind_some e2
    refine cd_callV (As := [.int a0]) (rest := []) C0 hw (c_X3_minutesLeft l G cI cZ sa sb h T a0 r4 e4) [0, 1, 2, 3, 4, 5, 6, 7, 8, 9, 10] rfl rfl 0 3 rfl rfl rfl (cwV 1 hts gX3_outlasts_X3_minutesLeft rfl rfl rfl (by decide +kernel) ⟨Nat.le_of_ble_eq_true rfl, Nat.le_of_ble_eq_true rfl⟩) rfl hl.1 (lv_room (Nat.le_of_ble_eq_true rfl)) dX3_outlasts_10 (fun H locs hw => ?_)
    refine lv_iload_n hx hb dX3_outlasts_13 rfl (lv_at hl 2 rfl) ?_
    refine lv_icmp_le (tgt := 21) hx hb dX3_outlasts_14 (by decide) (fun c5 => ?_) (fun c5 => ?_)
    · have e2 := cd_ite_t c5 e2
      refine lv_iconst (v := (0 : Int32)) hx hb dX3_outlasts_21 (by decide) ?_
      have z : some (0 : Int32) = some x2 := e2
      cases z
      exact K2 _ _ _ (lv_sub hl [] rfl) hw
    · have e2 := cd_ite_f c5 e2
      refine lv_iconst (v := (1 : Int32)) hx hb dX3_outlasts_17 (by decide) ?_
      refine lv_goto (tgt := 22) hx hb dX3_outlasts_18 (by decide) ?_
      have z : some (1 : Int32) = some x2 := e2
      cases z
      exact K2 _ _ _ (lv_sub hl [] rfl) hw
abbrev rm_X3_howManyOutlast : Room := { frames := 4, cells := 0, slots := 0, locals := 89 }
set_option maxHeartbeats 4000000 in
set_option maxRecDepth 100000 in
theorem c_X3_howManyOutlast (l : Launch) (G : va_G) (cI cZ : ClassId) (sa sb : Nat) (h : Nat → Nat) (T : Nat → Nat → Int32) (a0 : Int32) (o : Int32) (hf : f_X3_howManyOutlast a0 T = some o) : cd_Ct l G cI cZ sa sb yX3_howManyOutlast wsX3_howManyOutlast rm_X3_howManyOutlast [.ref (h 0), .int a0] ((pc_town cI h T)) ((pc_town cI h T)) (some (.int o)) := by
  refine cd_of (cc := cX3_howManyOutlast) (maxL := 4) (ret := (some .int)) (by decide) rfl (Nat.le_of_ble_eq_true rfl) ?_
  intro p e s m ag below meth c A ls Q C0 hl hw hQ
  have C0 : cd_CX G cI cZ sa sb p s m ag meth c cX3_howManyOutlast 4 (some .int) wsX3_howManyOutlast RX3 A := C0
  obtain ⟨⟨hx, hb, hml, hown, hts⟩, hr, hlocks, hA, hE⟩ := id C0
  have hK := hE.1
  have hl : lv_has ls 4 [(0, .ref (h 0)), (1, .int a0)] := hl
  unfold f_X3_howManyOutlast at hf
  refine lv_iconst (v := (0 : Int32)) hx hb dX3_howManyOutlast_0 (by decide) ?_
  refine lv_istore_n (lv' := [(2, .int (0 : Int32)), (0, .ref (h 0)), (1, .int a0)]) hx hb dX3_howManyOutlast_1 rfl hl (by decide) rfl (fun ls hl => ?_)
  refine lv_iconst (v := (0 : Int32)) hx hb dX3_howManyOutlast_2 (by decide) ?_
  refine lv_istore_n (lv' := [(3, .int (0 : Int32)), (2, .int (0 : Int32)), (0, .ref (h 0)), (1, .int a0)]) hx hb dX3_howManyOutlast_3 rfl hl (by decide) rfl (fun ls hl => ?_)
  obtain ⟨x1, e1, hf⟩ := cd_bind_some hf
  have K1 : ∀ (t1 : Int32), t1 = x1 → ∀ (ls : Array Slot) (H : Heap) (locs : List Loc), lv_has ls 4 [(2, .int t1)] → cd_WS G A s.heap H locs ((pc_town cI h T)) → W p l e rm_X3_howManyOutlast s m ag below meth c H locs 0 0 Q (F0 m 33 ls []) := by
    intro t1 hs_1
    subst hs_1
    intro ls H locs hl hw
    refine lv_iload_n hx hb dX3_howManyOutlast_33 rfl (lv_at hl 0 rfl) ?_
    have z : some t1 = some o := hf
    cases z
    rw [hQ]
    exact cd_reti C0 hw dX3_howManyOutlast_34
  refine cd_iter_ind (body := (f_X3_howManyOutlast_b4 a0 T)) (K := fun r => r = x1) (P := fun (z1 : Int32 × Int32) => ∀ (ls : Array Slot) (H : Heap) (locs : List Loc), lv_has ls 4 [(0, .ref (h 0)), (1, .int a0), (2, .int z1.1), (3, .int z1.2)] → cd_WS G A s.heap H locs ((pc_town cI h T)) → W p l e rm_X3_howManyOutlast s m ag below meth c H locs 0 0 Q (F0 m 4 ls [])) ?_ cd_N ((0 : Int32), (0 : Int32)) x1 e1 rfl _ _ _ (lv_sub hl [2, 3, 1, 0] rfl) hw
  intro z1 o1 hb1 hk1 ls H locs hl hw
  unfold f_X3_howManyOutlast_b4 at hb1
  refine lv_iload_n hx hb dX3_howManyOutlast_4 rfl (lv_at hl 3 rfl) ?_
  refine lv_bipush (v := (12 : Int32)) hx hb dX3_howManyOutlast_5 (by decide) ?_
  refine lv_icmp_ge (tgt := 33) hx hb dX3_howManyOutlast_7 (by decide) (fun c2 => ?_) (fun c2 => ?_)
  · have hb1 := cd_ite_t c2 hb1
    have z : some (Sum.inl z1.1) = some o1 := hb1
    cases z
    exact K1 _ hk1 _ _ _ (lv_sub hl [2] rfl) hw
  · have hb1 := cd_ite_f c2 hb1
    refine lv_iload_n hx hb dX3_howManyOutlast_10 rfl (lv_at hl 2 rfl) ?_
    refine lv_aload_n hx hb dX3_howManyOutlast_11 rfl (lv_at hl 0 rfl) ?_
    refine lv_iload_n hx hb dX3_howManyOutlast_12 rfl (lv_at hl 3 rfl) ?_
    refine lv_iload_n hx hb dX3_howManyOutlast_13 rfl (lv_at hl 1 rfl) ?_
    obtain ⟨r3, e3, hb1⟩ := cd_bind_some hb1
    refine cd_callV (As := [.int z1.2, .int a0]) (rest := [.int z1.1]) C0 hw (c_X3_outlasts l G cI cZ sa sb h T z1.2 a0 r3 e3) [0, 1, 2, 3, 4, 5, 6, 7, 8, 9, 10] rfl rfl 0 3 rfl rfl rfl (cwV 2 hts gX3_howManyOutlast_X3_outlasts rfl rfl rfl (by decide +kernel) ⟨Nat.le_of_ble_eq_true rfl, Nat.le_of_ble_eq_true rfl⟩) rfl hl.1 (lv_room (Nat.le_of_ble_eq_true rfl)) dX3_howManyOutlast_14 (fun H locs hw => ?_)
    obtain ⟨x4, e4, hb1⟩ := cd_bind_some hb1
    have K4 : ∀ (ls : Array Slot) (H : Heap) (locs : List Loc), lv_has ls 4 [(0, .ref (h 0)), (1, .int a0), (3, .int z1.2)] → cd_WS G A s.heap H locs ((pc_town cI h T)) → W p l e rm_X3_howManyOutlast s m ag below meth c H locs 0 0 Q (F0 m 25 ls [.int x4, .int z1.1]) := by
      intro ls H locs hl hw
      refine lv_iadd hx hb dX3_howManyOutlast_25 ?_
      refine lv_istore_n (lv' := [(2, .int (z1.1 + x4)), (0, .ref (h 0)), (1, .int a0), (3, .int z1.2)]) hx hb dX3_howManyOutlast_26 rfl hl (by decide) rfl (fun ls hl => ?_)
      refine lv_iinc (v := (z1.2 + (1 : Int32))) (lv' := [(3, .int (z1.2 + (1 : Int32))), (2, .int (z1.1 + x4)), (0, .ref (h 0)), (1, .int a0)]) hx hb dX3_howManyOutlast_27 hl (k := 3) rfl rfl (by decide) rfl (fun ls hl => ?_)
      refine lv_goto (tgt := 4) hx hb dX3_howManyOutlast_30 (by decide) ?_
      have z : some (Sum.inr ((z1.1 + x4), (z1.2 + (1 : Int32)))) = some o1 := hb1
      cases z
      exact hk1 _ _ _ (lv_sub hl [2, 3, 1, 0] rfl) hw
    refine lv_if_eq (tgt := 24) hx hb dX3_howManyOutlast_17 (by decide) (fun c4 => ?_) (fun c4 => ?_)
    · have e4 := cd_ite_t c4 e4
      refine lv_iconst (v := (0 : Int32)) hx hb dX3_howManyOutlast_24 (by decide) ?_
      have z : some (0 : Int32) = some x4 := e4
      cases z
      exact K4 _ _ _ (lv_sub hl [0, 1, 3] rfl) hw
    · have e4 := cd_ite_f c4 e4
      refine lv_iconst (v := (1 : Int32)) hx hb dX3_howManyOutlast_20 (by decide) ?_
      refine lv_goto (tgt := 25) hx hb dX3_howManyOutlast_21 (by decide) ?_
      have z : some (1 : Int32) = some x4 := e4
      cases z
      exact K4 _ _ _ (lv_sub hl [0, 1, 3] rfl) hw
abbrev rm_X3_place : Room := { frames := 2, cells := 0, slots := 0, locals := 42 }
theorem nw_X3_place_X3 : ∀ w ∈ u_ws RX3 TX3 14, w ∈ wsX3_place := by decide +kernel
set_option maxHeartbeats 4000000 in
set_option maxRecDepth 100000 in
theorem c_X3_place (l : Launch) (G : va_G) (cI cZ : ClassId) (sa sb : Nat) (h : Nat → Nat) (T : Nat → Nat → Int32) (a0 : Int32) (a1 : Int32) (a2 : Int32) (a3 : Int32) (a4 : Int32) (o : (Nat → Nat → Int32)) (hf : f_X3_place a0 a1 a2 a3 a4 T = some o) : cd_Ct l G cI cZ sa sb yX3_place wsX3_place rm_X3_place [.ref (h 0), .int a0, .int a1, .int a2, .int a3, .int a4] ((pc_town cI h T)) ((pc_town cI h o)) none := by
  refine cd_of (cc := cX3_place) (maxL := 6) (ret := none) (by decide) rfl (Nat.le_of_ble_eq_true rfl) ?_
  intro p e s m ag below meth c A ls Q C0 hl hw hQ
  have C0 : cd_CX G cI cZ sa sb p s m ag meth c cX3_place 6 none wsX3_place RX3 A := C0
  obtain ⟨⟨hx, hb, hml, hown, hts⟩, hr, hlocks, hA, hE⟩ := id C0
  have hK := hE.1
  have hL0 := hts (.fieldLink RX3 9 "CandleDebts$Town" "wax" "[I") (by decide +kernel)
  have hL1 := hts (.fieldLink RX3 21 "CandleDebts$Town" "creditors" "[I") (by decide +kernel)
  have hL2 := hts (.fieldLink RX3 24 "CandleDebts$Town" "debtors" "[I") (by decide +kernel)
  have hL3 := hts (.fieldLink RX3 27 "CandleDebts$Town" "sums" "[I") (by decide +kernel)
  have hL4 := hts (.fieldLink RX3 15 "CandleDebts$Town" "trimmed" "[I") (by decide +kernel)
  have hL5 := hts (.fieldLink RX3 59 "CandleDebts$Town" "lit" "I") (by decide +kernel)
  have hL6 := hts (.initialized RX5) (by decide +kernel)
  have hL7 := hts (.static yX5_bit) (by decide +kernel)
  have hl : lv_has ls 6 [(0, .ref (h 0)), (1, .int a0), (2, .int a1), (3, .int a2), (4, .int a3), (5, .int a4)] := hl
  unfold f_X3_place at hf
  refine lv_aload_n hx hb dX3_place_0 rfl (lv_at hl 0 rfl) ?_
  refine va_get (D := G) (ci := 3) (v := .ref (h 1)) (C := RX3) (T := TX3) (N := 14) hx hb hts nw_X3_place_X3 hown hK hw.1 0 rfl rfl 0 (by decide) hL0 (fun _ h9 => h9) rfl dX3_place_1 ?_
  refine lv_iload_n hx hb dX3_place_4 rfl (lv_at hl 1 rfl) ?_
  refine lv_iload_n hx hb dX3_place_5 rfl (lv_at hl 2 rfl) ?_
  obtain ⟨j1, e1, hf⟩ := cd_bind_some hf
  refine cd_iast hx hb hK hw 1 rfl e1 dX3_place_6 (fun H locs hw => ?_)
  have hw : cd_WS G A s.heap H locs ((pc_town cI h (cd_set T 0 j1 a1))) := hw
  refine lv_aload_n hx hb dX3_place_7 rfl (lv_at hl 0 rfl) ?_
  refine va_get (D := G) (ci := 3) (v := .ref (h 4)) (C := RX3) (T := TX3) (N := 14) hx hb hts nw_X3_place_X3 hown hK hw.1 0 rfl rfl 3 (by decide) hL1 (fun _ h9 => h9) rfl dX3_place_8 ?_
  refine lv_iload_n hx hb dX3_place_11 rfl (lv_at hl 1 rfl) ?_
  refine lv_iload_n hx hb dX3_place_12 rfl (lv_at hl 3 rfl) ?_
  obtain ⟨j2, e2, hf⟩ := cd_bind_some hf
  refine cd_iast hx hb hK hw 4 rfl e2 dX3_place_13 (fun H locs hw => ?_)
  have hw : cd_WS G A s.heap H locs ((pc_town cI h (cd_set (cd_set T 0 j1 a1) 3 j2 a2))) := hw
  refine lv_aload_n hx hb dX3_place_14 rfl (lv_at hl 0 rfl) ?_
  refine va_get (D := G) (ci := 3) (v := .ref (h 5)) (C := RX3) (T := TX3) (N := 14) hx hb hts nw_X3_place_X3 hown hK hw.1 0 rfl rfl 4 (by decide) hL2 (fun _ h9 => h9) rfl dX3_place_15 ?_
  refine lv_iload_n hx hb dX3_place_18 rfl (lv_at hl 1 rfl) ?_
  refine lv_iload hx hb dX3_place_19 (lv_at hl 4 rfl) ?_
  obtain ⟨j3, e3, hf⟩ := cd_bind_some hf
  refine cd_iast hx hb hK hw 5 rfl e3 dX3_place_21 (fun H locs hw => ?_)
  have hw : cd_WS G A s.heap H locs ((pc_town cI h (cd_set (cd_set (cd_set T 0 j1 a1) 3 j2 a2) 4 j3 a3))) := hw
  refine lv_aload_n hx hb dX3_place_22 rfl (lv_at hl 0 rfl) ?_
  refine va_get (D := G) (ci := 3) (v := .ref (h 6)) (C := RX3) (T := TX3) (N := 14) hx hb hts nw_X3_place_X3 hown hK hw.1 0 rfl rfl 5 (by decide) hL3 (fun _ h9 => h9) rfl dX3_place_23 ?_
  refine lv_iload_n hx hb dX3_place_26 rfl (lv_at hl 1 rfl) ?_
  refine lv_iload hx hb dX3_place_27 (lv_at hl 5 rfl) ?_
  obtain ⟨j4, e4, hf⟩ := cd_bind_some hf
  refine cd_iast hx hb hK hw 6 rfl e4 dX3_place_29 (fun H locs hw => ?_)
  have hw : cd_WS G A s.heap H locs ((pc_town cI h (cd_set (cd_set (cd_set (cd_set T 0 j1 a1) 3 j2 a2) 4 j3 a3) 5 j4 a4))) := hw
  refine lv_aload_n hx hb dX3_place_30 rfl (lv_at hl 0 rfl) ?_
  refine va_get (D := G) (ci := 3) (v := .ref (h 2)) (C := RX3) (T := TX3) (N := 14) hx hb hts nw_X3_place_X3 hown hK hw.1 0 rfl rfl 1 (by decide) hL4 (fun _ h9 => h9) rfl dX3_place_31 ?_
  refine lv_iload_n hx hb dX3_place_34 rfl (lv_at hl 1 rfl) ?_
  refine lv_iconst (v := (0 : Int32)) hx hb dX3_place_35 (by decide) ?_
  obtain ⟨j5, e5, hf⟩ := cd_bind_some hf
  refine cd_iast hx hb hK hw 2 rfl e5 dX3_place_36 (fun H locs hw => ?_)
  have hw : cd_WS G A s.heap H locs ((pc_town cI h (cd_set (cd_set (cd_set (cd_set (cd_set T 0 j1 a1) 3 j2 a2) 4 j3 a3) 5 j4 a4) 1 j5 (0 : Int32)))) := hw
  refine lv_aload_n hx hb dX3_place_37 rfl (lv_at hl 0 rfl) ?_
  refine lv_dup hx hb dX3_place_38 rfl ?_
  refine va_get (D := G) (ci := 3) (v := .int (T 11 0)) (C := RX3) (T := TX3) (N := 14) hx hb hts nw_X3_place_X3 hown hK hw.1 0 rfl rfl 11 (by decide) hL5 (fun _ h9 => h9) rfl dX3_place_39 ?_
  refine lv_iload_n hx hb dX3_place_42 rfl (lv_at hl 1 rfl) ?_
  obtain ⟨r6, e6, hf⟩ := cd_bind_some hf
  refine cd_callSN (As := [.int a0]) (rest := [.int (T 11 0), .ref (h 0)]) C0 hw (c_X5_bit l G cI cZ sa sb a0 r6 e6) [] rfl rfl ⟨va_cnB 1 hts ggX3_place_X5_bit rfl rfl rfl (hE.2.1 (.methodLinkNest RX3 46 yX5_bit RX5) (by simp [cd_nest])) hL6 (by decide +kernel) ⟨Nat.le_of_ble_eq_true rfl, Nat.le_of_ble_eq_true rfl⟩, hL7, trivial⟩ rfl hl.1 (lv_room (Nat.le_of_ble_eq_true rfl)) dX3_place_43 (fun H locs hw => ?_)
  refine lv_iconst (v := (-1 : Int32)) hx hb dX3_place_46 (by decide) ?_
  refine lv_ixor hx hb dX3_place_47 ?_
  refine lv_iand hx hb dX3_place_48 ?_
  refine va_put (D := G) (ci := 3) (v := .int ((T 11 0) &&& (r6 ^^^ (-1 : Int32)))) (ty := .int) (C := RX3) (T := TX3) (N := 14) hx hb hts nw_X3_place_X3 tyX3 tyX3_ok nmX3 hown hK hw.1 hw.2.1 hw.2.2 0 rfl rfl 11 (by decide) hL5 (fun _ h9 => h9) rfl (by decide +kernel) rfl rfl (Nat.le_of_ble_eq_true rfl) dX3_place_49 (fun H locs hP hD hS => ?_)
  have hw : cd_WS G A s.heap H locs ((pc_town cI h (cd_fld (cd_set (cd_set (cd_set (cd_set (cd_set T 0 j1 a1) 3 j2 a2) 4 j3 a3) 5 j4 a4) 1 j5 (0 : Int32)) 11 ((T 11 0) &&& (r6 ^^^ (-1 : Int32)))))) := ⟨hP, hD, hS⟩
  refine lv_aload_n hx hb dX3_place_52 rfl (lv_at hl 0 rfl) ?_
  refine lv_iload_n hx hb dX3_place_53 rfl (lv_at hl 1 rfl) ?_
  obtain ⟨r7, e7, hf⟩ := cd_bind_some hf
  refine cd_callVw (As := [.int a0]) (rest := []) (wr := ([] : va_W)) (wn := (pc_town cI h r7)) C0 hw (c_X3_part l G cI cZ sa sb h (cd_fld (cd_set (cd_set (cd_set (cd_set (cd_set T 0 j1 a1) 3 j2 a2) 4 j3 a3) 5 j4 a4) 1 j5 (0 : Int32)) 11 ((T 11 0) &&& (r6 ^^^ (-1 : Int32)))) a0 r7 e7) [0, 1, 2, 3, 4, 5, 6, 7, 8, 9, 10] [] [0, 1, 2, 3, 4, 5, 6, 7, 8, 9, 10] rfl rfl rfl rfl (by decide) rfl rfl 0 3 rfl rfl rfl (cwV 1 hts gX3_place_X3_part rfl rfl rfl (by decide +kernel) ⟨Nat.le_of_ble_eq_true rfl, Nat.le_of_ble_eq_true rfl⟩) rfl hl.1 (lv_room (Nat.le_of_ble_eq_true rfl)) dX3_place_54 (fun H locs hw => ?_)
  have z : some r7 = some o := hf
  cases z
  rw [hQ]
  exact cd_retv C0 hw dX3_place_57
abbrev rm_X3_waxOfAll : Room := { frames := 0, cells := 0, slots := 0, locals := 0 }
theorem nw_X3_waxOfAll_X3 : ∀ w ∈ u_ws RX3 TX3 14, w ∈ wsX3_waxOfAll := by decide +kernel
set_option maxHeartbeats 4000000 in
set_option maxRecDepth 100000 in
theorem c_X3_waxOfAll (l : Launch) (G : va_G) (cI cZ : ClassId) (sa sb : Nat) (h : Nat → Nat) (T : Nat → Nat → Int32) (o : Int32) (hf : f_X3_waxOfAll T = some o) : cd_Ct l G cI cZ sa sb yX3_waxOfAll wsX3_waxOfAll rm_X3_waxOfAll [.ref (h 0)] ((pc_town cI h T)) ((pc_town cI h T)) (some (.int o)) := by
  refine cd_of (cc := cX3_waxOfAll) (maxL := 3) (ret := (some .int)) (by decide) rfl (Nat.le_of_ble_eq_true rfl) ?_
  intro p e s m ag below meth c A ls Q C0 hl hw hQ
  have C0 : cd_CX G cI cZ sa sb p s m ag meth c cX3_waxOfAll 3 (some .int) wsX3_waxOfAll RX3 A := C0
  obtain ⟨⟨hx, hb, hml, hown, hts⟩, hr, hlocks, hA, hE⟩ := id C0
  have hK := hE.1
  have hL0 := hts (.fieldLink RX3 9 "CandleDebts$Town" "wax" "[I") (by decide +kernel)
  have hl : lv_has ls 3 [(0, .ref (h 0))] := hl
  unfold f_X3_waxOfAll at hf
  refine lv_iconst (v := (0 : Int32)) hx hb dX3_waxOfAll_0 (by decide) ?_
  refine lv_istore_n (lv' := [(1, .int (0 : Int32)), (0, .ref (h 0))]) hx hb dX3_waxOfAll_1 rfl hl (by decide) rfl (fun ls hl => ?_)
  refine lv_iconst (v := (0 : Int32)) hx hb dX3_waxOfAll_2 (by decide) ?_
  refine lv_istore_n (lv' := [(2, .int (0 : Int32)), (1, .int (0 : Int32)), (0, .ref (h 0))]) hx hb dX3_waxOfAll_3 rfl hl (by decide) rfl (fun ls hl => ?_)
  obtain ⟨x1, e1, hf⟩ := cd_bind_some hf
  have K1 : ∀ (t1 : Int32), t1 = x1 → ∀ (ls : Array Slot) (H : Heap) (locs : List Loc), lv_has ls 3 [(1, .int t1)] → cd_WS G A s.heap H locs ((pc_town cI h T)) → W p l e rm_X3_waxOfAll s m ag below meth c H locs 0 0 Q (F0 m 25 ls []) := by
    intro t1 hs_1
    subst hs_1
    intro ls H locs hl hw
    refine lv_iload_n hx hb dX3_waxOfAll_25 rfl (lv_at hl 0 rfl) ?_
    have z : some t1 = some o := hf
    cases z
    rw [hQ]
    exact cd_reti C0 hw dX3_waxOfAll_26
  refine cd_iter_ind (body := (f_X3_waxOfAll_b4 T)) (K := fun r => r = x1) (P := fun (z1 : Int32 × Int32) => ∀ (ls : Array Slot) (H : Heap) (locs : List Loc), lv_has ls 3 [(0, .ref (h 0)), (1, .int z1.1), (2, .int z1.2)] → cd_WS G A s.heap H locs ((pc_town cI h T)) → W p l e rm_X3_waxOfAll s m ag below meth c H locs 0 0 Q (F0 m 4 ls [])) ?_ cd_N ((0 : Int32), (0 : Int32)) x1 e1 rfl _ _ _ (lv_sub hl [2, 1, 0] rfl) hw
  intro z1 o1 hb1 hk1 ls H locs hl hw
  unfold f_X3_waxOfAll_b4 at hb1
  refine lv_iload_n hx hb dX3_waxOfAll_4 rfl (lv_at hl 2 rfl) ?_
  refine lv_bipush (v := (12 : Int32)) hx hb dX3_waxOfAll_5 (by decide) ?_
  refine lv_icmp_ge (tgt := 25) hx hb dX3_waxOfAll_7 (by decide) (fun c2 => ?_) (fun c2 => ?_)
  · have hb1 := cd_ite_t c2 hb1
    have z : some (Sum.inl z1.1) = some o1 := hb1
    cases z
    exact K1 _ hk1 _ _ _ (lv_sub hl [1] rfl) hw
  · have hb1 := cd_ite_f c2 hb1
    refine lv_iload_n hx hb dX3_waxOfAll_10 rfl (lv_at hl 1 rfl) ?_
    refine lv_aload_n hx hb dX3_waxOfAll_11 rfl (lv_at hl 0 rfl) ?_
    refine va_get (D := G) (ci := 3) (v := .ref (h 1)) (C := RX3) (T := TX3) (N := 14) hx hb hts nw_X3_waxOfAll_X3 hown hK hw.1 0 rfl rfl 0 (by decide) hL0 (fun _ h9 => h9) rfl dX3_waxOfAll_12 ?_
    refine lv_iload_n hx hb dX3_waxOfAll_15 rfl (lv_at hl 2 rfl) ?_
    obtain ⟨v3, e3, hb1⟩ := cd_bind_some hb1
    refine cd_iald hx hb hK hw 1 rfl e3 dX3_waxOfAll_16 ?_
    refine lv_iadd hx hb dX3_waxOfAll_17 ?_
    refine lv_istore_n (lv' := [(1, .int (z1.1 + v3)), (0, .ref (h 0)), (2, .int z1.2)]) hx hb dX3_waxOfAll_18 rfl hl (by decide) rfl (fun ls hl => ?_)
    refine lv_iinc (v := (z1.2 + (1 : Int32))) (lv' := [(2, .int (z1.2 + (1 : Int32))), (1, .int (z1.1 + v3)), (0, .ref (h 0))]) hx hb dX3_waxOfAll_19 hl (k := 2) rfl rfl (by decide) rfl (fun ls hl => ?_)
    refine lv_goto (tgt := 4) hx hb dX3_waxOfAll_22 (by decide) ?_
    have z : some (Sum.inr ((z1.1 + v3), (z1.2 + (1 : Int32)))) = some o1 := hb1
    cases z
    exact hk1 _ _ _ (lv_sub hl [2, 1, 0] rfl) hw
abbrev rm_X4_inTime : Room := { frames := 0, cells := 0, slots := 0, locals := 0 }
theorem nw_X4_inTime_X4 : ∀ w ∈ u_ws RX4 TX4 5, w ∈ wsX4_inTime := by decide +kernel
set_option maxHeartbeats 4000000 in
set_option maxRecDepth 100000 in
theorem c_X4_inTime (l : Launch) (G : va_G) (cI cZ : ClassId) (sa sb : Nat) (h : Nat → Nat) (V : Nat → Nat → Int32) (a0 : Int32) (a1 : Int32) (o : Int32) (hf : f_X4_inTime a0 a1 V = some o) : cd_Ct l G cI cZ sa sb yX4_inTime wsX4_inTime rm_X4_inTime [.ref (h 0), .int a0, .int a1] ((pc_walk cI h V)) ((pc_walk cI h V)) (some (.int o)) := by
  refine cd_of (cc := cX4_inTime) (maxL := 3) (ret := (some .int)) (by decide) rfl (Nat.le_of_ble_eq_true rfl) ?_
  intro p e s m ag below meth c A ls Q C0 hl hw hQ
  have C0 : cd_CX G cI cZ sa sb p s m ag meth c cX4_inTime 3 (some .int) wsX4_inTime RX4 A := C0
  obtain ⟨⟨hx, hb, hml, hown, hts⟩, hr, hlocks, hA, hE⟩ := id C0
  have hK := hE.1
  have hL0 := hts (.fieldLink RX4 9 "CandleDebts$Walk" "limits" "[I") (by decide +kernel)
  have hL1 := hts (.constant RX4 38 (1000000)) (by decide +kernel)
  have hl : lv_has ls 3 [(0, .ref (h 0)), (1, .int a0), (2, .int a1)] := hl
  unfold f_X4_inTime at hf
  refine lv_iload_n hx hb dX4_inTime_0 rfl (lv_at hl 2 rfl) ?_
  refine lv_aload_n hx hb dX4_inTime_1 rfl (lv_at hl 0 rfl) ?_
  refine va_get (D := G) (ci := 4) (v := .ref (h 1)) (C := RX4) (T := TX4) (N := 5) hx hb hts nw_X4_inTime_X4 hown hK hw.1 0 rfl rfl 0 (by decide) hL0 (fun _ h9 => h9) rfl dX4_inTime_2 ?_
  refine lv_iload_n hx hb dX4_inTime_5 rfl (lv_at hl 1 rfl) ?_
  obtain ⟨v1, e1, hf⟩ := cd_bind_some hf
  refine cd_iald hx hb hK hw 1 rfl e1 dX4_inTime_6 ?_
  obtain ⟨x2, e2, hf⟩ := cd_bind_some hf
  have K2 : ∀ (ls : Array Slot) (H : Heap) (locs : List Loc), lv_has ls 3 [] → cd_WS G A s.heap H locs ((pc_walk cI h V)) → W p l e rm_X4_inTime s m ag below meth c H locs 0 0 Q (F0 m 16 ls [.int x2]) := by
    intro ls H locs hl hw
    have z : some x2 = some o := hf
    cases z
    rw [hQ]
    exact cd_reti C0 hw dX4_inTime_16
  refine lv_icmp_ge (tgt := 14) hx hb dX4_inTime_7 (by decide) (fun c2 => ?_) (fun c2 => ?_)
  · have e2 := cd_ite_t c2 e2
    refine lv_ldc (v := (1000000 : Int32)) hx hb hown hL1 dX4_inTime_14 ?_
    have z : some (1000000 : Int32) = some x2 := e2
    cases z
    exact K2 _ _ _ (lv_sub hl [] rfl) hw
  · have e2 := cd_ite_f c2 e2
    refine lv_iload_n hx hb dX4_inTime_10 rfl (lv_at hl 2 rfl) ?_
    refine lv_goto (tgt := 16) hx hb dX4_inTime_11 (by decide) ?_
    have z : some a1 = some x2 := e2
    cases z
    exact K2 _ _ _ (lv_sub hl [] rfl) hw
abbrev rm_X4_fewestOfLength : Room := { frames := 1, cells := 0, slots := 0, locals := 14 }
theorem nw_X4_fewestOfLength_X4 : ∀ w ∈ u_ws RX4 TX4 5, w ∈ wsX4_fewestOfLength := by decide +kernel
set_option maxHeartbeats 4000000 in
set_option maxRecDepth 100000 in
theorem c_X4_fewestOfLength (l : Launch) (G : va_G) (cI cZ : ClassId) (sa sb : Nat) (h : Nat → Nat) (V : Nat → Nat → Int32) (a0 : Int32) (o : Int32) (hf : f_X4_fewestOfLength a0 V = some o) : cd_Ct l G cI cZ sa sb yX4_fewestOfLength wsX4_fewestOfLength rm_X4_fewestOfLength [.ref (h 0), .int a0] ((pc_walk cI h V)) ((pc_walk cI h V)) (some (.int o)) := by
  refine cd_of (cc := cX4_fewestOfLength) (maxL := 5) (ret := (some .int)) (by decide) rfl (Nat.le_of_ble_eq_true rfl) ?_
  intro p e s m ag below meth c A ls Q C0 hl hw hQ
  have C0 : cd_CX G cI cZ sa sb p s m ag meth c cX4_fewestOfLength 5 (some .int) wsX4_fewestOfLength RX4 A := C0
  obtain ⟨⟨hx, hb, hml, hown, hts⟩, hr, hlocks, hA, hE⟩ := id C0
  have hK := hE.1
  have hL0 := hts (.constant RX4 38 (1000000)) (by decide +kernel)
  have hL1 := hts (.fieldLink RX4 21 "CandleDebts$Walk" "west" "I") (by decide +kernel)
  have hL2 := hts (.fieldLink RX4 25 "CandleDebts$Walk" "east" "I") (by decide +kernel)
  have hL3 := hts (.fieldLink RX4 15 "CandleDebts$Walk" "atWest" "[I") (by decide +kernel)
  have hL4 := hts (.fieldLink RX4 18 "CandleDebts$Walk" "atEast" "[I") (by decide +kernel)
  have hL5 := hts (.methodLink RX4 39 Lib.Math.min.name) (by decide +kernel)
  have hL6 := hts (.static Lib.Math.min.name) (by decide +kernel)
  have hL7 := hts (.initialized "java/lang/Math") (by decide +kernel)
  have hL8 := hts (.code Lib.Math.min.name Lib.Math.min.code 2 (some .int)) (by decide +kernel)
  have hl : lv_has ls 5 [(0, .ref (h 0)), (1, .int a0)] := hl
  unfold f_X4_fewestOfLength at hf
  refine lv_ldc (v := (1000000 : Int32)) hx hb hown hL0 dX4_fewestOfLength_0 ?_
  refine lv_istore_n (lv' := [(2, .int (1000000 : Int32)), (0, .ref (h 0)), (1, .int a0)]) hx hb dX4_fewestOfLength_2 rfl hl (by decide) rfl (fun ls hl => ?_)
  refine lv_iconst (v := (0 : Int32)) hx hb dX4_fewestOfLength_3 (by decide) ?_
  refine lv_istore_n (lv' := [(3, .int (0 : Int32)), (2, .int (1000000 : Int32)), (0, .ref (h 0)), (1, .int a0)]) hx hb dX4_fewestOfLength_4 rfl hl (by decide) rfl (fun ls hl => ?_)
  obtain ⟨x1, e1, hf⟩ := cd_bind_some hf
  have K1 : ∀ (t1 : Int32), t1 = x1 → ∀ (ls : Array Slot) (H : Heap) (locs : List Loc), lv_has ls 5 [(2, .int t1)] → cd_WS G A s.heap H locs ((pc_walk cI h V)) → W p l e rm_X4_fewestOfLength s m ag below meth c H locs 0 0 Q (F0 m 75 ls []) := by
    intro t1 hs_1
    subst hs_1
    intro ls H locs hl hw
    refine lv_iload_n hx hb dX4_fewestOfLength_75 rfl (lv_at hl 0 rfl) ?_
    have z : some t1 = some o := hf
    cases z
    rw [hQ]
    exact cd_reti C0 hw dX4_fewestOfLength_76
  refine cd_iter_ind (body := (f_X4_fewestOfLength_b5 a0 V)) (K := fun r => r = x1) (P := fun (z1 : Int32 × Int32) => ∀ (ls : Array Slot) (H : Heap) (locs : List Loc), lv_has ls 5 [(0, .ref (h 0)), (1, .int a0), (2, .int z1.1), (3, .int z1.2)] → cd_WS G A s.heap H locs ((pc_walk cI h V)) → W p l e rm_X4_fewestOfLength s m ag below meth c H locs 0 0 Q (F0 m 5 ls [])) ?_ cd_N ((1000000 : Int32), (0 : Int32)) x1 e1 rfl _ _ _ (lv_sub hl [2, 3, 1, 0] rfl) hw
  intro z1 o1 hb1 hk1 ls H locs hl hw
  unfold f_X4_fewestOfLength_b5 at hb1
  refine lv_iload_n hx hb dX4_fewestOfLength_5 rfl (lv_at hl 3 rfl) ?_
  refine lv_iload_n hx hb dX4_fewestOfLength_6 rfl (lv_at hl 1 rfl) ?_
  refine lv_iadd hx hb dX4_fewestOfLength_7 ?_
  refine lv_bipush (v := (12 : Int32)) hx hb dX4_fewestOfLength_8 (by decide) ?_
  refine lv_icmp_gt (tgt := 75) hx hb dX4_fewestOfLength_10 (by decide) (fun c2 => ?_) (fun c2 => ?_)
  · have hb1 := cd_ite_t c2 hb1
    have z : some (Sum.inl z1.1) = some o1 := hb1
    cases z
    exact K1 _ hk1 _ _ _ (lv_sub hl [2] rfl) hw
  · have hb1 := cd_ite_f c2 hb1
    refine lv_iload_n hx hb dX4_fewestOfLength_13 rfl (lv_at hl 3 rfl) ?_
    refine lv_aload_n hx hb dX4_fewestOfLength_14 rfl (lv_at hl 0 rfl) ?_
    refine va_get (D := G) (ci := 4) (v := .int (V 3 0)) (C := RX4) (T := TX4) (N := 5) hx hb hts nw_X4_fewestOfLength_X4 hown hK hw.1 0 rfl rfl 3 (by decide) hL1 (fun _ h9 => h9) rfl dX4_fewestOfLength_15 ?_
    obtain ⟨x3, e3, hb1⟩ := cd_bind_some hb1
    have K3 : ∀ (ls : Array Slot) (H : Heap) (locs : List Loc), lv_has ls 5 [(0, .ref (h 0)), (1, .int a0), (2, .int z1.1), (3, .int z1.2)] → cd_WS G A s.heap H locs ((pc_walk cI h V)) → W p l e rm_X4_fewestOfLength s m ag below meth c H locs 0 0 Q (F0 m 38 ls [.int x3]) := by
      intro ls H locs hl hw
      refine lv_istore (lv' := [(4, .int x3), (0, .ref (h 0)), (1, .int a0), (2, .int z1.1), (3, .int z1.2)]) hx hb dX4_fewestOfLength_38 hl (by decide) rfl (fun ls hl => ?_)
      refine lv_iload hx hb dX4_fewestOfLength_40 (lv_at hl 0 rfl) ?_
      refine lv_if_eq (tgt := 67) hx hb dX4_fewestOfLength_42 (by decide) (fun c4 => ?_) (fun c4 => ?_)
      · have hb1 := cd_ite_t c4 hb1
        refine lv_iload_n hx hb dX4_fewestOfLength_67 rfl (lv_at hl 3 rfl) ?_
        refine lv_istore_n (lv' := [(2, .int z1.1), (4, .int x3), (0, .ref (h 0)), (1, .int a0), (3, .int z1.2)]) hx hb dX4_fewestOfLength_68 rfl hl (by decide) rfl (fun ls hl => ?_)
        refine lv_iinc (v := (z1.2 + (1 : Int32))) (lv' := [(3, .int (z1.2 + (1 : Int32))), (2, .int z1.1), (4, .int x3), (0, .ref (h 0)), (1, .int a0)]) hx hb dX4_fewestOfLength_69 hl (k := 4) rfl rfl (by decide) rfl (fun ls hl => ?_)
        refine lv_goto (tgt := 5) hx hb dX4_fewestOfLength_72 (by decide) ?_
        have z : some (Sum.inr (z1.1, (z1.2 + (1 : Int32)))) = some o1 := hb1
        cases z
        exact hk1 _ _ _ (lv_sub hl [3, 4, 1, 0] rfl) hw
      · have hb1 := cd_ite_f c4 hb1
        refine lv_iload_n hx hb dX4_fewestOfLength_45 rfl (lv_at hl 3 rfl) ?_
        refine lv_aload_n hx hb dX4_fewestOfLength_46 rfl (lv_at hl 1 rfl) ?_
        refine va_get (D := G) (ci := 4) (v := .ref (h 2)) (C := RX4) (T := TX4) (N := 5) hx hb hts nw_X4_fewestOfLength_X4 hown hK hw.1 0 rfl rfl 1 (by decide) hL3 (fun _ h9 => h9) rfl dX4_fewestOfLength_47 ?_
        refine lv_iload_n hx hb dX4_fewestOfLength_50 rfl (lv_at hl 4 rfl) ?_
        obtain ⟨v5, e5, hb1⟩ := cd_bind_some hb1
        refine cd_iald hx hb hK hw 2 rfl e5 dX4_fewestOfLength_51 ?_
        refine lv_aload_n hx hb dX4_fewestOfLength_52 rfl (lv_at hl 1 rfl) ?_
        refine va_get (D := G) (ci := 4) (v := .ref (h 3)) (C := RX4) (T := TX4) (N := 5) hx hb hts nw_X4_fewestOfLength_X4 hown hK hw.1 0 rfl rfl 2 (by decide) hL4 (fun _ h9 => h9) rfl dX4_fewestOfLength_53 ?_
        refine lv_iload_n hx hb dX4_fewestOfLength_56 rfl (lv_at hl 4 rfl) ?_
        obtain ⟨v6, e6, hb1⟩ := cd_bind_some hb1
        refine cd_iald hx hb hK hw 3 rfl e6 dX4_fewestOfLength_57 ?_
        refine cd_mmin hx hb (hml.trans hl.1.symm) hown hL5 hL6 hL7 hL8 (Nat.le_of_ble_eq_true rfl) (Nat.le_of_ble_eq_true rfl) dX4_fewestOfLength_58 ?_
        refine cd_mmin hx hb (hml.trans hl.1.symm) hown hL5 hL6 hL7 hL8 (Nat.le_of_ble_eq_true rfl) (Nat.le_of_ble_eq_true rfl) dX4_fewestOfLength_61 ?_
        refine lv_goto (tgt := 68) hx hb dX4_fewestOfLength_64 (by decide) ?_
        refine lv_istore_n (lv' := [(2, .int (cd_min z1.1 (cd_min v5 v6))), (4, .int x3), (0, .ref (h 0)), (1, .int a0), (3, .int z1.2)]) hx hb dX4_fewestOfLength_68 rfl hl (by decide) rfl (fun ls hl => ?_)
        refine lv_iinc (v := (z1.2 + (1 : Int32))) (lv' := [(3, .int (z1.2 + (1 : Int32))), (2, .int (cd_min z1.1 (cd_min v5 v6))), (4, .int x3), (0, .ref (h 0)), (1, .int a0)]) hx hb dX4_fewestOfLength_69 hl (k := 4) rfl rfl (by decide) rfl (fun ls hl => ?_)
        refine lv_goto (tgt := 5) hx hb dX4_fewestOfLength_72 (by decide) ?_
        have z : some (Sum.inr ((cd_min z1.1 (cd_min v5 v6)), (z1.2 + (1 : Int32)))) = some o1 := hb1
        cases z
        exact hk1 _ _ _ (lv_sub hl [3, 4, 1, 0] rfl) hw
    refine lv_icmp_gt (tgt := 37) hx hb dX4_fewestOfLength_18 (by decide) (fun c3 => ?_) (fun c3 => ?_)
    · have e3 := cd_ite_t c3 e3
      refine lv_iconst (v := (0 : Int32)) hx hb dX4_fewestOfLength_37 (by decide) ?_
      have z : some (0 : Int32) = some x3 := e3
      cases z
      exact K3 _ _ _ (lv_sub hl [0, 1, 2, 3] rfl) hw
    · have e3 := cd_ite_f c3 e3
      refine lv_iload_n hx hb dX4_fewestOfLength_21 rfl (lv_at hl 3 rfl) ?_
      refine lv_iload_n hx hb dX4_fewestOfLength_22 rfl (lv_at hl 1 rfl) ?_
      refine lv_iadd hx hb dX4_fewestOfLength_23 ?_
      refine lv_iconst (v := (1 : Int32)) hx hb dX4_fewestOfLength_24 (by decide) ?_
      refine lv_isub hx hb dX4_fewestOfLength_25 ?_
      refine lv_aload_n hx hb dX4_fewestOfLength_26 rfl (lv_at hl 0 rfl) ?_
      refine va_get (D := G) (ci := 4) (v := .int (V 4 0)) (C := RX4) (T := TX4) (N := 5) hx hb hts nw_X4_fewestOfLength_X4 hown hK hw.1 0 rfl rfl 4 (by decide) hL2 (fun _ h9 => h9) rfl dX4_fewestOfLength_27 ?_
      refine lv_icmp_lt (tgt := 37) hx hb dX4_fewestOfLength_30 (by decide) (fun c7 => ?_) (fun c7 => ?_)
      · have e3 := cd_ite_t c7 e3
        refine lv_iconst (v := (0 : Int32)) hx hb dX4_fewestOfLength_37 (by decide) ?_
        have z : some (0 : Int32) = some x3 := e3
        cases z
        exact K3 _ _ _ (lv_sub hl [0, 1, 2, 3] rfl) hw
      · have e3 := cd_ite_f c7 e3
        refine lv_iconst (v := (1 : Int32)) hx hb dX4_fewestOfLength_33 (by decide) ?_
        refine lv_goto (tgt := 38) hx hb dX4_fewestOfLength_34 (by decide) ?_
        have z : some (1 : Int32) = some x3 := e3
        cases z
        exact K3 _ _ _ (lv_sub hl [0, 1, 2, 3] rfl) hw
abbrev rm_X4_lengthenTo : Room := { frames := 1, cells := 0, slots := 0, locals := 22 }
theorem nw_X4_lengthenTo_X4 : ∀ w ∈ u_ws RX4 TX4 5, w ∈ wsX4_lengthenTo := by decide +kernel
set_option maxHeartbeats 4000000 in
set_option maxRecDepth 100000 in
theorem c_X4_lengthenTo (l : Launch) (G : va_G) (cI cZ : ClassId) (sa sb : Nat) (h : Nat → Nat) (V : Nat → Nat → Int32) (a0 : Int32) (o : (Nat → Nat → Int32)) (hf : f_X4_lengthenTo a0 V = some o) : cd_Ct l G cI cZ sa sb yX4_lengthenTo wsX4_lengthenTo rm_X4_lengthenTo [.ref (h 0), .int a0] ((pc_walk cI h V)) ((pc_walk cI h o)) none := by
  refine cd_of (cc := cX4_lengthenTo) (maxL := 6) (ret := none) (by decide) rfl (Nat.le_of_ble_eq_true rfl) ?_
  intro p e s m ag below meth c A ls Q C0 hl hw hQ
  have C0 : cd_CX G cI cZ sa sb p s m ag meth c cX4_lengthenTo 6 none wsX4_lengthenTo RX4 A := C0
  obtain ⟨⟨hx, hb, hml, hown, hts⟩, hr, hlocks, hA, hE⟩ := id C0
  have hK := hE.1
  have hL0 := hts (.fieldLink RX4 15 "CandleDebts$Walk" "atWest" "[I") (by decide +kernel)
  have hL1 := hts (.fieldLink RX4 18 "CandleDebts$Walk" "atEast" "[I") (by decide +kernel)
  have hL2 := hts (.methodLink RX4 39 Lib.Math.min.name) (by decide +kernel)
  have hL3 := hts (.static Lib.Math.min.name) (by decide +kernel)
  have hL4 := hts (.initialized "java/lang/Math") (by decide +kernel)
  have hL5 := hts (.code Lib.Math.min.name Lib.Math.min.code 2 (some .int)) (by decide +kernel)
  have hl : lv_has ls 6 [(0, .ref (h 0)), (1, .int a0)] := hl
  unfold f_X4_lengthenTo at hf
  refine lv_iload_n hx hb dX4_lengthenTo_0 rfl (lv_at hl 1 rfl) ?_
  refine lv_iconst (v := (1 : Int32)) hx hb dX4_lengthenTo_1 (by decide) ?_
  refine lv_isub hx hb dX4_lengthenTo_2 ?_
  refine lv_istore_n (lv' := [(2, .int (a0 - (1 : Int32))), (0, .ref (h 0)), (1, .int a0)]) hx hb dX4_lengthenTo_3 rfl hl (by decide) rfl (fun ls hl => ?_)
  refine lv_iconst (v := (0 : Int32)) hx hb dX4_lengthenTo_4 (by decide) ?_
  refine lv_istore_n (lv' := [(3, .int (0 : Int32)), (2, .int (a0 - (1 : Int32))), (0, .ref (h 0)), (1, .int a0)]) hx hb dX4_lengthenTo_5 rfl hl (by decide) rfl (fun ls hl => ?_)
  obtain ⟨x1, e1, hf⟩ := cd_bind_some hf
  have K1 : ∀ (t1 : (Nat → Nat → Int32)), t1 = x1 → ∀ (ls : Array Slot) (H : Heap) (locs : List Loc), lv_has ls 6 [] → cd_WS G A s.heap H locs ((pc_walk cI h t1)) → W p l e rm_X4_lengthenTo s m ag below meth c H locs 0 0 Q (F0 m 94 ls []) := by
    intro t1 hs_1
    subst hs_1
    intro ls H locs hl hw
    have z : some t1 = some o := hf
    cases z
    rw [hQ]
    exact cd_retv C0 hw dX4_lengthenTo_94
  refine cd_iter_ind (body := (f_X4_lengthenTo_b6 a0)) (K := fun r => r = x1) (P := fun (z1 : Int32 × (Nat → Nat → Int32)) => ∀ (ls : Array Slot) (H : Heap) (locs : List Loc), lv_has ls 6 [(0, .ref (h 0)), (2, .int (a0 - (1 : Int32))), (3, .int z1.1)] → cd_WS G A s.heap H locs ((pc_walk cI h z1.2)) → W p l e rm_X4_lengthenTo s m ag below meth c H locs 0 0 Q (F0 m 6 ls [])) ?_ cd_N ((0 : Int32), V) x1 e1 rfl _ _ _ (lv_sub hl [2, 1, 0] rfl) hw
  intro z1 o1 hb1 hk1 ls H locs hl hw
  unfold f_X4_lengthenTo_b6 at hb1
  refine lv_iload_n hx hb dX4_lengthenTo_6 rfl (lv_at hl 2 rfl) ?_
  refine lv_iload_n hx hb dX4_lengthenTo_7 rfl (lv_at hl 1 rfl) ?_
  refine lv_iadd hx hb dX4_lengthenTo_8 ?_
  refine lv_bipush (v := (12 : Int32)) hx hb dX4_lengthenTo_9 (by decide) ?_
  refine lv_icmp_ge (tgt := 94) hx hb dX4_lengthenTo_11 (by decide) (fun c2 => ?_) (fun c2 => ?_)
  · have hb1 := cd_ite_t c2 hb1
    have z : some (Sum.inl z1.2) = some o1 := hb1
    cases z
    exact K1 _ hk1 _ _ _ (lv_sub hl [] rfl) hw
  · have hb1 := cd_ite_f c2 hb1
    refine lv_aload_n hx hb dX4_lengthenTo_14 rfl (lv_at hl 0 rfl) ?_
    refine va_get (D := G) (ci := 4) (v := .ref (h 2)) (C := RX4) (T := TX4) (N := 5) hx hb hts nw_X4_lengthenTo_X4 hown hK hw.1 0 rfl rfl 1 (by decide) hL0 (fun _ h9 => h9) rfl dX4_lengthenTo_15 ?_
    refine lv_iload_n hx hb dX4_lengthenTo_18 rfl (lv_at hl 2 rfl) ?_
    refine lv_iconst (v := (1 : Int32)) hx hb dX4_lengthenTo_19 (by decide) ?_
    refine lv_iadd hx hb dX4_lengthenTo_20 ?_
    obtain ⟨v3, e3, hb1⟩ := cd_bind_some hb1
    refine cd_iald hx hb hK hw 2 rfl e3 dX4_lengthenTo_21 ?_
    refine lv_iconst (v := (1 : Int32)) hx hb dX4_lengthenTo_22 (by decide) ?_
    refine lv_iadd hx hb dX4_lengthenTo_23 ?_
    refine lv_aload_n hx hb dX4_lengthenTo_24 rfl (lv_at hl 0 rfl) ?_
    refine va_get (D := G) (ci := 4) (v := .ref (h 3)) (C := RX4) (T := TX4) (N := 5) hx hb hts nw_X4_lengthenTo_X4 hown hK hw.1 0 rfl rfl 2 (by decide) hL1 (fun _ h9 => h9) rfl dX4_lengthenTo_25 ?_
    refine lv_iload_n hx hb dX4_lengthenTo_28 rfl (lv_at hl 2 rfl) ?_
    refine lv_iconst (v := (1 : Int32)) hx hb dX4_lengthenTo_29 (by decide) ?_
    refine lv_iadd hx hb dX4_lengthenTo_30 ?_
    obtain ⟨v4, e4, hb1⟩ := cd_bind_some hb1
    refine cd_iald hx hb hK hw 3 rfl e4 dX4_lengthenTo_31 ?_
    refine lv_iload_n hx hb dX4_lengthenTo_32 rfl (lv_at hl 1 rfl) ?_
    refine lv_iadd hx hb dX4_lengthenTo_33 ?_
    refine cd_mmin hx hb (hml.trans hl.1.symm) hown hL2 hL3 hL4 hL5 (Nat.le_of_ble_eq_true rfl) (Nat.le_of_ble_eq_true rfl) dX4_lengthenTo_34 ?_
    refine lv_istore (lv' := [(4, .int (cd_min (v3 + (1 : Int32)) (v4 + (a0 - (1 : Int32))))), (0, .ref (h 0)), (2, .int (a0 - (1 : Int32))), (3, .int z1.1)]) hx hb dX4_lengthenTo_37 hl (by decide) rfl (fun ls hl => ?_)
    refine lv_aload_n hx hb dX4_lengthenTo_39 rfl (lv_at hl 1 rfl) ?_
    refine va_get (D := G) (ci := 4) (v := .ref (h 3)) (C := RX4) (T := TX4) (N := 5) hx hb hts nw_X4_lengthenTo_X4 hown hK hw.1 0 rfl rfl 2 (by decide) hL1 (fun _ h9 => h9) rfl dX4_lengthenTo_40 ?_
    refine lv_iload_n hx hb dX4_lengthenTo_43 rfl (lv_at hl 3 rfl) ?_
    obtain ⟨v5, e5, hb1⟩ := cd_bind_some hb1
    refine cd_iald hx hb hK hw 3 rfl e5 dX4_lengthenTo_44 ?_
    refine lv_iconst (v := (1 : Int32)) hx hb dX4_lengthenTo_45 (by decide) ?_
    refine lv_iadd hx hb dX4_lengthenTo_46 ?_
    refine lv_aload_n hx hb dX4_lengthenTo_47 rfl (lv_at hl 1 rfl) ?_
    refine va_get (D := G) (ci := 4) (v := .ref (h 2)) (C := RX4) (T := TX4) (N := 5) hx hb hts nw_X4_lengthenTo_X4 hown hK hw.1 0 rfl rfl 1 (by decide) hL0 (fun _ h9 => h9) rfl dX4_lengthenTo_48 ?_
    refine lv_iload_n hx hb dX4_lengthenTo_51 rfl (lv_at hl 3 rfl) ?_
    obtain ⟨v6, e6, hb1⟩ := cd_bind_some hb1
    refine cd_iald hx hb hK hw 2 rfl e6 dX4_lengthenTo_52 ?_
    refine lv_iload_n hx hb dX4_lengthenTo_53 rfl (lv_at hl 2 rfl) ?_
    refine lv_iadd hx hb dX4_lengthenTo_54 ?_
    refine cd_mmin hx hb (hml.trans hl.1.symm) hown hL2 hL3 hL4 hL5 (Nat.le_of_ble_eq_true rfl) (Nat.le_of_ble_eq_true rfl) dX4_lengthenTo_55 ?_
    refine lv_istore (lv' := [(5, .int (cd_min (v5 + (1 : Int32)) (v6 + (a0 - (1 : Int32))))), (4, .int (cd_min (v3 + (1 : Int32)) (v4 + (a0 - (1 : Int32))))), (0, .ref (h 0)), (2, .int (a0 - (1 : Int32))), (3, .int z1.1)]) hx hb dX4_lengthenTo_58 hl (by decide) rfl (fun ls hl => ?_)
    refine lv_aload_n hx hb dX4_lengthenTo_60 rfl (lv_at hl 2 rfl) ?_
    refine va_get (D := G) (ci := 4) (v := .ref (h 2)) (C := RX4) (T := TX4) (N := 5) hx hb hts nw_X4_lengthenTo_X4 hown hK hw.1 0 rfl rfl 1 (by decide) hL0 (fun _ h9 => h9) rfl dX4_lengthenTo_61 ?_
    refine lv_iload_n hx hb dX4_lengthenTo_64 rfl (lv_at hl 4 rfl) ?_
    refine lv_aload_n hx hb dX4_lengthenTo_65 rfl (lv_at hl 2 rfl) ?_
    refine lv_iload_n hx hb dX4_lengthenTo_66 rfl (lv_at hl 4 rfl) ?_
    refine lv_iload hx hb dX4_lengthenTo_67 (lv_at hl 1 rfl) ?_
    obtain ⟨r7, e7, hb1⟩ := cd_bind_some hb1
    refine cd_callV (As := [.int z1.1, .int (cd_min (v3 + (1 : Int32)) (v4 + (a0 - (1 : Int32))))]) (rest := [.int z1.1, .ref (h 2)]) C0 hw (c_X4_inTime l G cI cZ sa sb h z1.2 z1.1 (cd_min (v3 + (1 : Int32)) (v4 + (a0 - (1 : Int32)))) r7 e7) [0, 1, 2, 3] rfl rfl 0 4 rfl rfl rfl (cwV 2 hts gX4_lengthenTo_X4_inTime rfl rfl rfl (by decide +kernel) ⟨Nat.le_of_ble_eq_true rfl, Nat.le_of_ble_eq_true rfl⟩) rfl hl.1 (lv_room (Nat.le_of_ble_eq_true rfl)) dX4_lengthenTo_69 (fun H locs hw => ?_)
    obtain ⟨j8, e8, hb1⟩ := cd_bind_some hb1
    refine cd_iast hx hb hK hw 2 rfl e8 dX4_lengthenTo_72 (fun H locs hw => ?_)
    have hw : cd_WS G A s.heap H locs ((pc_walk cI h (cd_set z1.2 1 j8 r7))) := hw
    refine lv_aload_n hx hb dX4_lengthenTo_73 rfl (lv_at hl 2 rfl) ?_
    refine va_get (D := G) (ci := 4) (v := .ref (h 3)) (C := RX4) (T := TX4) (N := 5) hx hb hts nw_X4_lengthenTo_X4 hown hK hw.1 0 rfl rfl 2 (by decide) hL1 (fun _ h9 => h9) rfl dX4_lengthenTo_74 ?_
    refine lv_iload_n hx hb dX4_lengthenTo_77 rfl (lv_at hl 4 rfl) ?_
    refine lv_aload_n hx hb dX4_lengthenTo_78 rfl (lv_at hl 2 rfl) ?_
    refine lv_iload_n hx hb dX4_lengthenTo_79 rfl (lv_at hl 4 rfl) ?_
    refine lv_iload_n hx hb dX4_lengthenTo_80 rfl (lv_at hl 3 rfl) ?_
    refine lv_iadd hx hb dX4_lengthenTo_81 ?_
    refine lv_iload hx hb dX4_lengthenTo_82 (lv_at hl 0 rfl) ?_
    obtain ⟨r9, e9, hb1⟩ := cd_bind_some hb1
    refine cd_callV (As := [.int (z1.1 + (a0 - (1 : Int32))), .int (cd_min (v5 + (1 : Int32)) (v6 + (a0 - (1 : Int32))))]) (rest := [.int z1.1, .ref (h 3)]) C0 hw (c_X4_inTime l G cI cZ sa sb h (cd_set z1.2 1 j8 r7) (z1.1 + (a0 - (1 : Int32))) (cd_min (v5 + (1 : Int32)) (v6 + (a0 - (1 : Int32)))) r9 e9) [0, 1, 2, 3] rfl rfl 0 4 rfl rfl rfl (cwV 2 hts gX4_lengthenTo_X4_inTime rfl rfl rfl (by decide +kernel) ⟨Nat.le_of_ble_eq_true rfl, Nat.le_of_ble_eq_true rfl⟩) rfl hl.1 (lv_room (Nat.le_of_ble_eq_true rfl)) dX4_lengthenTo_84 (fun H locs hw => ?_)
    obtain ⟨j10, e10, hb1⟩ := cd_bind_some hb1
    refine cd_iast hx hb hK hw 3 rfl e10 dX4_lengthenTo_87 (fun H locs hw => ?_)
    have hw : cd_WS G A s.heap H locs ((pc_walk cI h (cd_set (cd_set z1.2 1 j8 r7) 2 j10 r9))) := hw
    refine lv_iinc (v := (z1.1 + (1 : Int32))) (lv' := [(3, .int (z1.1 + (1 : Int32))), (5, .int (cd_min (v5 + (1 : Int32)) (v6 + (a0 - (1 : Int32))))), (4, .int (cd_min (v3 + (1 : Int32)) (v4 + (a0 - (1 : Int32))))), (0, .ref (h 0)), (2, .int (a0 - (1 : Int32)))]) hx hb dX4_lengthenTo_88 hl (k := 4) rfl rfl (by decide) rfl (fun ls hl => ?_)
    refine lv_goto (tgt := 6) hx hb dX4_lengthenTo_91 (by decide) ?_
    have z : some (Sum.inr ((z1.1 + (1 : Int32)), (cd_set (cd_set z1.2 1 j8 r7) 2 j10 r9))) = some o1 := hb1
    cases z
    exact hk1 _ _ _ (lv_sub hl [3, 4, 0] rfl) hw
abbrev rm_X4_fewestMinutes : Room := { frames := 2, cells := 0, slots := 0, locals := 47 }
theorem nw_X4_fewestMinutes_X4 : ∀ w ∈ u_ws RX4 TX4 5, w ∈ wsX4_fewestMinutes := by decide +kernel
set_option maxHeartbeats 4000000 in
set_option maxRecDepth 100000 in
theorem c_X4_fewestMinutes (l : Launch) (G : va_G) (cI cZ : ClassId) (sa sb : Nat) (h : Nat → Nat) (V : Nat → Nat → Int32) (a0 : Int32) (a1 : Int32) (o : Int32 × (Nat → Nat → Int32)) (hf : f_X4_fewestMinutes a0 a1 V = some o) : cd_Ct l G cI cZ sa sb yX4_fewestMinutes wsX4_fewestMinutes rm_X4_fewestMinutes [.ref (h 0), .int a0, .int a1] ((pc_walk cI h V)) ((pc_walk cI h o.2)) (some (.int o.1)) := by
  refine cd_of (cc := cX4_fewestMinutes) (maxL := 6) (ret := (some .int)) (by decide) rfl (Nat.le_of_ble_eq_true rfl) ?_
  intro p e s m ag below meth c A ls Q C0 hl hw hQ
  have C0 : cd_CX G cI cZ sa sb p s m ag meth c cX4_fewestMinutes 6 (some .int) wsX4_fewestMinutes RX4 A := C0
  obtain ⟨⟨hx, hb, hml, hown, hts⟩, hr, hlocks, hA, hE⟩ := id C0
  have hK := hE.1
  have hL0 := hts (.initialized RX5) (by decide +kernel)
  have hL1 := hts (.static yX5_isCandle) (by decide +kernel)
  have hL2 := hts (.constant RX4 38 (1000000)) (by decide +kernel)
  have hL3 := hts (.fieldLink RX4 15 "CandleDebts$Walk" "atWest" "[I") (by decide +kernel)
  have hL4 := hts (.fieldLink RX4 18 "CandleDebts$Walk" "atEast" "[I") (by decide +kernel)
  have hL5 := hts (.methodLink RX4 39 Lib.Math.min.name) (by decide +kernel)
  have hL6 := hts (.static Lib.Math.min.name) (by decide +kernel)
  have hL7 := hts (.initialized "java/lang/Math") (by decide +kernel)
  have hL8 := hts (.code Lib.Math.min.name Lib.Math.min.code 2 (some .int)) (by decide +kernel)
  have hl : lv_has ls 6 [(0, .ref (h 0)), (1, .int a0), (2, .int a1)] := hl
  unfold f_X4_fewestMinutes at hf
  refine lv_iload_n hx hb dX4_fewestMinutes_0 rfl (lv_at hl 1 rfl) ?_
  refine lv_iload_n hx hb dX4_fewestMinutes_1 rfl (lv_at hl 2 rfl) ?_
  refine lv_iadd hx hb dX4_fewestMinutes_2 ?_
  refine lv_istore_n (lv' := [(3, .int (a0 + a1)), (0, .ref (h 0)), (1, .int a0), (2, .int a1)]) hx hb dX4_fewestMinutes_3 rfl hl (by decide) rfl (fun ls hl => ?_)
  refine lv_iload_n hx hb dX4_fewestMinutes_4 rfl (lv_at hl 0 rfl) ?_
  obtain ⟨r1, e1, hf⟩ := cd_bind_some hf
  refine cd_callSN (As := [.int (a0 + a1)]) (rest := []) C0 hw (c_X5_isCandle l G cI cZ sa sb (a0 + a1) r1 e1) [] rfl rfl ⟨va_cnB 1 hts ggX4_fewestMinutes_X5_isCandle rfl rfl rfl (hE.2.1 (.methodLinkNest RX4 48 yX5_isCandle RX5) (by simp [cd_nest])) hL0 (by decide +kernel) ⟨Nat.le_of_ble_eq_true rfl, Nat.le_of_ble_eq_true rfl⟩, hL1, trivial⟩ rfl hl.1 (lv_room (Nat.le_of_ble_eq_true rfl)) dX4_fewestMinutes_5 (fun H locs hw => ?_)
  refine lv_if_ne (tgt := 14) hx hb dX4_fewestMinutes_8 (by decide) (fun c2 => ?_) (fun c2 => ?_)
  · have hf := cd_ite_f c2 hf
    refine lv_iconst (v := (0 : Int32)) hx hb dX4_fewestMinutes_14 (by decide) ?_
    refine lv_istore (lv' := [(4, .int (0 : Int32)), (3, .int (a0 + a1)), (0, .ref (h 0)), (1, .int a0), (2, .int a1)]) hx hb dX4_fewestMinutes_15 hl (by decide) rfl (fun ls hl => ?_)
    obtain ⟨x3, e3, hf⟩ := cd_bind_some hf
    have K3 : ∀ (t3 : (Nat → Nat → Int32)), t3 = x3 → ∀ (ls : Array Slot) (H : Heap) (locs : List Loc), lv_has ls 6 [(0, .ref (h 0)), (1, .int a0), (2, .int a1), (3, .int (a0 + a1))] → cd_WS G A s.heap H locs ((pc_walk cI h t3)) → W p l e rm_X4_fewestMinutes s m ag below meth c H locs 0 0 Q (F0 m 48 ls []) := by
      intro t3 hs_3
      subst hs_3
      intro ls H locs hl hw
      refine lv_iload_n hx hb dX4_fewestMinutes_48 rfl (lv_at hl 2 rfl) ?_
      obtain ⟨x7, e7, hf⟩ := cd_bind_some hf
      have K7 : ∀ (ls : Array Slot) (H : Heap) (locs : List Loc), lv_has ls 6 [(0, .ref (h 0))] → cd_WS G A s.heap H locs ((pc_walk cI h x7)) → W p l e rm_X4_fewestMinutes s m ag below meth c H locs 0 0 Q (F0 m 79 ls []) := by
        intro ls H locs hl hw
        refine lv_aload_n hx hb dX4_fewestMinutes_79 rfl (lv_at hl 0 rfl) ?_
        refine lv_iconst (v := (2 : Int32)) hx hb dX4_fewestMinutes_80 (by decide) ?_
        obtain ⟨r8, e8, hf⟩ := cd_bind_some hf
        refine cd_callV (As := [.int (2 : Int32)]) (rest := []) C0 hw (c_X4_fewestOfLength l G cI cZ sa sb h x7 (2 : Int32) r8 e8) [0, 1, 2, 3] rfl rfl 0 4 rfl rfl rfl (cwV 1 hts gX4_fewestMinutes_X4_fewestOfLength rfl rfl rfl (by decide +kernel) ⟨Nat.le_of_ble_eq_true rfl, Nat.le_of_ble_eq_true rfl⟩) rfl hl.1 (lv_room (Nat.le_of_ble_eq_true rfl)) dX4_fewestMinutes_81 (fun H locs hw => ?_)
        refine lv_istore (lv' := [(4, .int r8), (0, .ref (h 0))]) hx hb dX4_fewestMinutes_84 hl (by decide) rfl (fun ls hl => ?_)
        refine lv_iconst (v := (3 : Int32)) hx hb dX4_fewestMinutes_86 (by decide) ?_
        refine lv_istore (lv' := [(5, .int (3 : Int32)), (4, .int r8), (0, .ref (h 0))]) hx hb dX4_fewestMinutes_87 hl (by decide) rfl (fun ls hl => ?_)
        obtain ⟨x9, e9, hf⟩ := cd_bind_some hf
        have K9 : ∀ (t9 : Int32 × (Nat → Nat → Int32)), t9 = x9 → ∀ (ls : Array Slot) (H : Heap) (locs : List Loc), lv_has ls 6 [(4, .int t9.1)] → cd_WS G A s.heap H locs ((pc_walk cI h t9.2)) → W p l e rm_X4_fewestMinutes s m ag below meth c H locs 0 0 Q (F0 m 121 ls []) := by
          intro t9 hs_9
          subst hs_9
          intro ls H locs hl hw
          refine lv_iload hx hb dX4_fewestMinutes_121 (lv_at hl 0 rfl) ?_
          have z : some (t9.1, t9.2) = some o := hf
          cases z
          rw [hQ]
          exact cd_reti C0 hw dX4_fewestMinutes_123
        refine cd_iter_ind (body := f_X4_fewestMinutes_b89) (K := fun r => r = x9) (P := fun (z9 : Int32 × Int32 × (Nat → Nat → Int32)) => ∀ (ls : Array Slot) (H : Heap) (locs : List Loc), lv_has ls 6 [(0, .ref (h 0)), (4, .int z9.1), (5, .int z9.2.1)] → cd_WS G A s.heap H locs ((pc_walk cI h z9.2.2)) → W p l e rm_X4_fewestMinutes s m ag below meth c H locs 0 0 Q (F0 m 89 ls [])) ?_ cd_N (r8, (3 : Int32), x7) x9 e9 rfl _ _ _ (lv_sub hl [2, 1, 0] rfl) hw
        intro z9 o9 hb9 hk9 ls H locs hl hw
        unfold f_X4_fewestMinutes_b89 at hb9
        refine lv_iload hx hb dX4_fewestMinutes_89 (lv_at hl 2 rfl) ?_
        refine lv_bipush (v := (12 : Int32)) hx hb dX4_fewestMinutes_91 (by decide) ?_
        refine lv_icmp_gt (tgt := 121) hx hb dX4_fewestMinutes_93 (by decide) (fun c10 => ?_) (fun c10 => ?_)
        · have hb9 := cd_ite_t c10 hb9
          have z : some (Sum.inl (z9.1, z9.2.2)) = some o9 := hb9
          cases z
          exact K9 _ hk9 _ _ _ (lv_sub hl [1] rfl) hw
        · have hb9 := cd_ite_f c10 hb9
          refine lv_aload_n hx hb dX4_fewestMinutes_96 rfl (lv_at hl 0 rfl) ?_
          refine lv_iload hx hb dX4_fewestMinutes_97 (lv_at hl 2 rfl) ?_
          obtain ⟨r11, e11, hb9⟩ := cd_bind_some hb9
          refine cd_callVw (As := [.int z9.2.1]) (rest := []) (wr := ([] : va_W)) (wn := (pc_walk cI h r11)) C0 hw (c_X4_lengthenTo l G cI cZ sa sb h z9.2.2 z9.2.1 r11 e11) [0, 1, 2, 3] [] [0, 1, 2, 3] rfl rfl rfl rfl (by decide) rfl rfl 0 4 rfl rfl rfl (cwV 1 hts gX4_fewestMinutes_X4_lengthenTo rfl rfl rfl (by decide +kernel) ⟨Nat.le_of_ble_eq_true rfl, Nat.le_of_ble_eq_true rfl⟩) rfl hl.1 (lv_room (Nat.le_of_ble_eq_true rfl)) dX4_fewestMinutes_99 (fun H locs hw => ?_)
          refine lv_iload hx hb dX4_fewestMinutes_102 (lv_at hl 1 rfl) ?_
          refine lv_aload_n hx hb dX4_fewestMinutes_104 rfl (lv_at hl 0 rfl) ?_
          refine lv_iload hx hb dX4_fewestMinutes_105 (lv_at hl 2 rfl) ?_
          obtain ⟨r12, e12, hb9⟩ := cd_bind_some hb9
          refine cd_callV (As := [.int z9.2.1]) (rest := [.int z9.1]) C0 hw (c_X4_fewestOfLength l G cI cZ sa sb h r11 z9.2.1 r12 e12) [0, 1, 2, 3] rfl rfl 0 4 rfl rfl rfl (cwV 1 hts gX4_fewestMinutes_X4_fewestOfLength rfl rfl rfl (by decide +kernel) ⟨Nat.le_of_ble_eq_true rfl, Nat.le_of_ble_eq_true rfl⟩) rfl hl.1 (lv_room (Nat.le_of_ble_eq_true rfl)) dX4_fewestMinutes_107 (fun H locs hw => ?_)
          refine cd_mmin hx hb (hml.trans hl.1.symm) hown hL5 hL6 hL7 hL8 (Nat.le_of_ble_eq_true rfl) (Nat.le_of_ble_eq_true rfl) dX4_fewestMinutes_110 ?_
          refine lv_istore (lv' := [(4, .int (cd_min z9.1 r12)), (0, .ref (h 0)), (5, .int z9.2.1)]) hx hb dX4_fewestMinutes_113 hl (by decide) rfl (fun ls hl => ?_)
          refine lv_iinc (v := (z9.2.1 + (1 : Int32))) (lv' := [(5, .int (z9.2.1 + (1 : Int32))), (4, .int (cd_min z9.1 r12)), (0, .ref (h 0))]) hx hb dX4_fewestMinutes_115 hl (k := 2) rfl rfl (by decide) rfl (fun ls hl => ?_)
          refine lv_goto (tgt := 89) hx hb dX4_fewestMinutes_118 (by decide) ?_
          have z : some (Sum.inr ((cd_min z9.1 r12), (z9.2.1 + (1 : Int32)), r11)) = some o9 := hb9
          cases z
          exact hk9 _ _ _ (lv_sub hl [2, 1, 0] rfl) hw
      refine lv_if_ge (tgt := 67) hx hb dX4_fewestMinutes_49 (by decide) (fun c7 => ?_) (fun c7 => ?_)
      · have e7 := cd_ite_t c7 e7
        refine lv_aload_n hx hb dX4_fewestMinutes_67 rfl (lv_at hl 0 rfl) ?_
        refine va_get (D := G) (ci := 4) (v := .ref (h 3)) (C := RX4) (T := TX4) (N := 5) hx hb hts nw_X4_fewestMinutes_X4 hown hK hw.1 0 rfl rfl 2 (by decide) hL4 (fun _ h9 => h9) rfl dX4_fewestMinutes_68 ?_
        refine lv_iload_n hx hb dX4_fewestMinutes_71 rfl (lv_at hl 1 rfl) ?_
        refine lv_aload_n hx hb dX4_fewestMinutes_72 rfl (lv_at hl 0 rfl) ?_
        refine lv_iload_n hx hb dX4_fewestMinutes_73 rfl (lv_at hl 3 rfl) ?_
        refine lv_iconst (v := (1 : Int32)) hx hb dX4_fewestMinutes_74 (by decide) ?_
        obtain ⟨r13, e13, e7⟩ := cd_bind_some e7
        refine cd_callV (As := [.int (a0 + a1), .int (1 : Int32)]) (rest := [.int a0, .ref (h 3)]) C0 hw (c_X4_inTime l G cI cZ sa sb h t3 (a0 + a1) (1 : Int32) r13 e13) [0, 1, 2, 3] rfl rfl 0 4 rfl rfl rfl (cwV 2 hts gX4_fewestMinutes_X4_inTime rfl rfl rfl (by decide +kernel) ⟨Nat.le_of_ble_eq_true rfl, Nat.le_of_ble_eq_true rfl⟩) rfl hl.1 (lv_room (Nat.le_of_ble_eq_true rfl)) dX4_fewestMinutes_75 (fun H locs hw => ?_)
        obtain ⟨j14, e14, e7⟩ := cd_bind_some e7
        refine cd_iast hx hb hK hw 3 rfl e14 dX4_fewestMinutes_78 (fun H locs hw => ?_)
        have hw : cd_WS G A s.heap H locs ((pc_walk cI h (cd_set t3 2 j14 r13))) := hw
        have z : some (cd_set t3 2 j14 r13) = some x7 := e7
        cases z
        exact K7 _ _ _ (lv_sub hl [0] rfl) hw
      · have e7 := cd_ite_f c7 e7
        refine lv_aload_n hx hb dX4_fewestMinutes_52 rfl (lv_at hl 0 rfl) ?_
        refine va_get (D := G) (ci := 4) (v := .ref (h 2)) (C := RX4) (T := TX4) (N := 5) hx hb hts nw_X4_fewestMinutes_X4 hown hK hw.1 0 rfl rfl 1 (by decide) hL3 (fun _ h9 => h9) rfl dX4_fewestMinutes_53 ?_
        refine lv_iload_n hx hb dX4_fewestMinutes_56 rfl (lv_at hl 3 rfl) ?_
        refine lv_aload_n hx hb dX4_fewestMinutes_57 rfl (lv_at hl 0 rfl) ?_
        refine lv_iload_n hx hb dX4_fewestMinutes_58 rfl (lv_at hl 3 rfl) ?_
        refine lv_iconst (v := (1 : Int32)) hx hb dX4_fewestMinutes_59 (by decide) ?_
        obtain ⟨r15, e15, e7⟩ := cd_bind_some e7
        refine cd_callV (As := [.int (a0 + a1), .int (1 : Int32)]) (rest := [.int (a0 + a1), .ref (h 2)]) C0 hw (c_X4_inTime l G cI cZ sa sb h t3 (a0 + a1) (1 : Int32) r15 e15) [0, 1, 2, 3] rfl rfl 0 4 rfl rfl rfl (cwV 2 hts gX4_fewestMinutes_X4_inTime rfl rfl rfl (by decide +kernel) ⟨Nat.le_of_ble_eq_true rfl, Nat.le_of_ble_eq_true rfl⟩) rfl hl.1 (lv_room (Nat.le_of_ble_eq_true rfl)) dX4_fewestMinutes_60 (fun H locs hw => ?_)
        obtain ⟨j16, e16, e7⟩ := cd_bind_some e7
        refine cd_iast hx hb hK hw 2 rfl e16 dX4_fewestMinutes_63 (fun H locs hw => ?_)
        have hw : cd_WS G A s.heap H locs ((pc_walk cI h (cd_set t3 1 j16 r15))) := hw
        refine lv_goto (tgt := 79) hx hb dX4_fewestMinutes_64 (by decide) ?_
        have z : some (cd_set t3 1 j16 r15) = some x7 := e7
        cases z
        exact K7 _ _ _ (lv_sub hl [0] rfl) hw
    refine cd_iter_ind (body := f_X4_fewestMinutes_b17) (K := fun r => r = x3) (P := fun (z3 : Int32 × (Nat → Nat → Int32)) => ∀ (ls : Array Slot) (H : Heap) (locs : List Loc), lv_has ls 6 [(0, .ref (h 0)), (1, .int a0), (2, .int a1), (3, .int (a0 + a1)), (4, .int z3.1)] → cd_WS G A s.heap H locs ((pc_walk cI h z3.2)) → W p l e rm_X4_fewestMinutes s m ag below meth c H locs 0 0 Q (F0 m 17 ls [])) ?_ cd_N ((0 : Int32), V) x3 e3 rfl _ _ _ (lv_sub hl [2, 3, 4, 1, 0] rfl) hw
    intro z3 o3 hb3 hk3 ls H locs hl hw
    unfold f_X4_fewestMinutes_b17 at hb3
    refine lv_iload hx hb dX4_fewestMinutes_17 (lv_at hl 4 rfl) ?_
    refine lv_bipush (v := (12 : Int32)) hx hb dX4_fewestMinutes_19 (by decide) ?_
    refine lv_icmp_ge (tgt := 48) hx hb dX4_fewestMinutes_21 (by decide) (fun c4 => ?_) (fun c4 => ?_)
    · have hb3 := cd_ite_t c4 hb3
      have z : some (Sum.inl z3.2) = some o3 := hb3
      cases z
      exact K3 _ hk3 _ _ _ (lv_sub hl [0, 1, 2, 3] rfl) hw
    · have hb3 := cd_ite_f c4 hb3
      refine lv_aload_n hx hb dX4_fewestMinutes_24 rfl (lv_at hl 0 rfl) ?_
      refine va_get (D := G) (ci := 4) (v := .ref (h 2)) (C := RX4) (T := TX4) (N := 5) hx hb hts nw_X4_fewestMinutes_X4 hown hK hw.1 0 rfl rfl 1 (by decide) hL3 (fun _ h9 => h9) rfl dX4_fewestMinutes_25 ?_
      refine lv_iload hx hb dX4_fewestMinutes_28 (lv_at hl 4 rfl) ?_
      refine lv_ldc (v := (1000000 : Int32)) hx hb hown hL2 dX4_fewestMinutes_30 ?_
      obtain ⟨j5, e5, hb3⟩ := cd_bind_some hb3
      refine cd_iast hx hb hK hw 2 rfl e5 dX4_fewestMinutes_32 (fun H locs hw => ?_)
      have hw : cd_WS G A s.heap H locs ((pc_walk cI h (cd_set z3.2 1 j5 (1000000 : Int32)))) := hw
      refine lv_aload_n hx hb dX4_fewestMinutes_33 rfl (lv_at hl 0 rfl) ?_
      refine va_get (D := G) (ci := 4) (v := .ref (h 3)) (C := RX4) (T := TX4) (N := 5) hx hb hts nw_X4_fewestMinutes_X4 hown hK hw.1 0 rfl rfl 2 (by decide) hL4 (fun _ h9 => h9) rfl dX4_fewestMinutes_34 ?_
      refine lv_iload hx hb dX4_fewestMinutes_37 (lv_at hl 4 rfl) ?_
      refine lv_ldc (v := (1000000 : Int32)) hx hb hown hL2 dX4_fewestMinutes_39 ?_
      obtain ⟨j6, e6, hb3⟩ := cd_bind_some hb3
      refine cd_iast hx hb hK hw 3 rfl e6 dX4_fewestMinutes_41 (fun H locs hw => ?_)
      have hw : cd_WS G A s.heap H locs ((pc_walk cI h (cd_set (cd_set z3.2 1 j5 (1000000 : Int32)) 2 j6 (1000000 : Int32)))) := hw
      refine lv_iinc (v := (z3.1 + (1 : Int32))) (lv' := [(4, .int (z3.1 + (1 : Int32))), (0, .ref (h 0)), (1, .int a0), (2, .int a1), (3, .int (a0 + a1))]) hx hb dX4_fewestMinutes_42 hl (k := 4) rfl rfl (by decide) rfl (fun ls hl => ?_)
      refine lv_goto (tgt := 17) hx hb dX4_fewestMinutes_45 (by decide) ?_
      have z : some (Sum.inr ((z3.1 + (1 : Int32)), (cd_set (cd_set z3.2 1 j5 (1000000 : Int32)) 2 j6 (1000000 : Int32)))) = some o3 := hb3
      cases z
      exact hk3 _ _ _ (lv_sub hl [1, 2, 3, 4, 0] rfl) hw
  · have hf := cd_ite_t c2 hf
    refine lv_ldc (v := (1000000 : Int32)) hx hb hown hL2 dX4_fewestMinutes_11 ?_
    have z : some ((1000000 : Int32), V) = some o := hf
    cases z
    rw [hQ]
    exact cd_reti C0 hw dX4_fewestMinutes_13
abbrev rm_X4_isNeeded : Room := { frames := 3, cells := 0, slots := 0, locals := 67 }
theorem nw_X4_isNeeded_X4 : ∀ w ∈ u_ws RX4 TX4 5, w ∈ wsX4_isNeeded := by decide +kernel
set_option maxHeartbeats 4000000 in
set_option maxRecDepth 100000 in
theorem c_X4_isNeeded (l : Launch) (G : va_G) (cI cZ : ClassId) (sa sb : Nat) (h ht : Nat → Nat) (V T : Nat → Nat → Int32) (a0 : Int32) (o : Int32 × (Nat → Nat → Int32)) (hf : f_X4_isNeeded a0 V T = some o) : cd_Ct l G cI cZ sa sb yX4_isNeeded wsX4_isNeeded rm_X4_isNeeded [.ref (h 0), .ref (ht 0), .int a0] ((pc_walk cI h V) ++ (pc_town cI ht T)) ((pc_walk cI h o.2) ++ (pc_town cI ht T)) (some (.int o.1)) := by
  refine cd_of (cc := cX4_isNeeded) (maxL := 5) (ret := (some .boolean)) (by decide) rfl (Nat.le_of_ble_eq_true rfl) ?_
  intro p e s m ag below meth c A ls Q C0 hl hw hQ
  have C0 : cd_CX G cI cZ sa sb p s m ag meth c cX4_isNeeded 5 (some .boolean) wsX4_isNeeded RX4 A := C0
  obtain ⟨⟨hx, hb, hml, hown, hts⟩, hr, hlocks, hA, hE⟩ := id C0
  have hK := hE.1
  have hL0 := hts (.fieldLink RX4 21 "CandleDebts$Walk" "west" "I") (by decide +kernel)
  have hL1 := hts (.fieldLink RX4 25 "CandleDebts$Walk" "east" "I") (by decide +kernel)
  have hL2 := hts (.fieldLink RX4 9 "CandleDebts$Walk" "limits" "[I") (by decide +kernel)
  have hL3 := hts (.constant RX4 38 (1000000)) (by decide +kernel)
  have hL4 := hts (.methodLink RX4 39 Lib.Math.min.name) (by decide +kernel)
  have hL5 := hts (.static Lib.Math.min.name) (by decide +kernel)
  have hL6 := hts (.initialized "java/lang/Math") (by decide +kernel)
  have hL7 := hts (.code Lib.Math.min.name Lib.Math.min.code 2 (some .int)) (by decide +kernel)
  have hL8 := hts (.methodLink RX4 45 Lib.Math.max.name) (by decide +kernel)
  have hL9 := hts (.static Lib.Math.max.name) (by decide +kernel)
  have hL10 := hts (.code Lib.Math.max.name Lib.Math.max.code 2 (some .int)) (by decide +kernel)
  have hl : lv_has ls 5 [(0, .ref (h 0)), (1, .ref (ht 0)), (2, .int a0)] := hl
  unfold f_X4_isNeeded at hf
  refine lv_aload_n hx hb dX4_isNeeded_0 rfl (lv_at hl 0 rfl) ?_
  refine lv_iload_n hx hb dX4_isNeeded_1 rfl (lv_at hl 2 rfl) ?_
  refine va_put (D := G) (ci := 4) (v := .int a0) (ty := .int) (C := RX4) (T := TX4) (N := 5) hx hb hts nw_X4_isNeeded_X4 tyX4 tyX4_ok nmX4 hown hK hw.1 hw.2.1 hw.2.2 0 rfl rfl 3 (by decide) hL0 (fun _ h9 => h9) rfl (by decide +kernel) rfl rfl (Nat.le_of_ble_eq_true rfl) dX4_isNeeded_2 (fun H locs hP hD hS => ?_)
  have hw : cd_WS G A s.heap H locs ((pc_walk cI h (cd_fld V 3 a0)) ++ (pc_town cI ht T)) := ⟨hP, hD, hS⟩
  refine lv_aload_n hx hb dX4_isNeeded_5 rfl (lv_at hl 0 rfl) ?_
  refine lv_iload_n hx hb dX4_isNeeded_6 rfl (lv_at hl 2 rfl) ?_
  refine va_put (D := G) (ci := 4) (v := .int a0) (ty := .int) (C := RX4) (T := TX4) (N := 5) hx hb hts nw_X4_isNeeded_X4 tyX4 tyX4_ok nmX4 hown hK hw.1 hw.2.1 hw.2.2 0 rfl rfl 4 (by decide) hL1 (fun _ h9 => h9) rfl (by decide +kernel) rfl rfl (Nat.le_of_ble_eq_true rfl) dX4_isNeeded_7 (fun H locs hP hD hS => ?_)
  have hw : cd_WS G A s.heap H locs ((pc_walk cI h (cd_fld (cd_fld V 3 a0) 4 a0)) ++ (pc_town cI ht T)) := ⟨hP, hD, hS⟩
  refine lv_iconst (v := (0 : Int32)) hx hb dX4_isNeeded_10 (by decide) ?_
  refine lv_istore_n (lv' := [(3, .int (0 : Int32)), (0, .ref (h 0)), (1, .ref (ht 0)), (2, .int a0)]) hx hb dX4_isNeeded_11 rfl hl (by decide) rfl (fun ls hl => ?_)
  obtain ⟨x1, e1, hf⟩ := cd_bind_some hf
  have K1 : ∀ (t1 : (Nat → Nat → Int32)), t1 = x1 → ∀ (ls : Array Slot) (H : Heap) (locs : List Loc), lv_has ls 5 [(0, .ref (h 0)), (2, .int a0)] → cd_WS G A s.heap H locs ((pc_walk cI h t1) ++ (pc_town cI ht T)) → W p l e rm_X4_isNeeded s m ag below meth c H locs 0 0 Q (F0 m 100 ls []) := by
    intro t1 hs_1
    subst hs_1
    intro ls H locs hl hw
    refine lv_aload_n hx hb dX4_isNeeded_100 rfl (lv_at hl 0 rfl) ?_
    refine va_get (D := G) (ci := 4) (v := .int (t1 3 0)) (C := RX4) (T := TX4) (N := 5) hx hb hts nw_X4_isNeeded_X4 hown hK hw.1 0 rfl rfl 3 (by decide) hL0 (fun _ h9 => h9) rfl dX4_isNeeded_101 ?_
    refine lv_iload_n hx hb dX4_isNeeded_104 rfl (lv_at hl 1 rfl) ?_
    obtain ⟨x9, e9, hf⟩ := cd_bind_some hf
    have K9 : ∀ (ls : Array Slot) (H : Heap) (locs : List Loc), lv_has ls 5 [] → cd_WS G A s.heap H locs ((pc_walk cI h t1) ++ (pc_town cI ht T)) → W p l e rm_X4_isNeeded s m ag below meth c H locs 0 0 Q (F0 m 121 ls [.int x9]) := by
      intro ls H locs hl hw
      obtain ⟨u10, e10, hf⟩ := cd_bind_some hf
      have z : some (x9, t1) = some o := hf
      cases z
      rw [hQ]
      exact cd_retz C0 hw (cd_zb_eq e10) dX4_isNeeded_121
    refine lv_icmp_lt (tgt := 116) hx hb dX4_isNeeded_105 (by decide) (fun c9 => ?_) (fun c9 => ?_)
    · have e9 := cd_ite_t c9 e9
      refine lv_iconst (v := (1 : Int32)) hx hb dX4_isNeeded_116 (by decide) ?_
      refine lv_goto (tgt := 121) hx hb dX4_isNeeded_117 (by decide) ?_
      have z : some (1 : Int32) = some x9 := e9
      cases z
      exact K9 _ _ _ (lv_sub hl [] rfl) hw
    · have e9 := cd_ite_f c9 e9
      refine lv_aload_n hx hb dX4_isNeeded_108 rfl (lv_at hl 0 rfl) ?_
      refine va_get (D := G) (ci := 4) (v := .int (t1 4 0)) (C := RX4) (T := TX4) (N := 5) hx hb hts nw_X4_isNeeded_X4 hown hK hw.1 0 rfl rfl 4 (by decide) hL1 (fun _ h9 => h9) rfl dX4_isNeeded_109 ?_
      refine lv_iload_n hx hb dX4_isNeeded_112 rfl (lv_at hl 1 rfl) ?_
      refine lv_icmp_le (tgt := 120) hx hb dX4_isNeeded_113 (by decide) (fun c11 => ?_) (fun c11 => ?_)
      · have e9 := cd_ite_t c11 e9
        refine lv_iconst (v := (0 : Int32)) hx hb dX4_isNeeded_120 (by decide) ?_
        have z : some (0 : Int32) = some x9 := e9
        cases z
        exact K9 _ _ _ (lv_sub hl [] rfl) hw
      · have e9 := cd_ite_f c11 e9
        refine lv_iconst (v := (1 : Int32)) hx hb dX4_isNeeded_116 (by decide) ?_
        refine lv_goto (tgt := 121) hx hb dX4_isNeeded_117 (by decide) ?_
        have z : some (1 : Int32) = some x9 := e9
        cases z
        exact K9 _ _ _ (lv_sub hl [] rfl) hw
  refine cd_iter_ind (body := (f_X4_isNeeded_b12 T)) (K := fun r => r = x1) (P := fun (z1 : Int32 × (Nat → Nat → Int32)) => ∀ (ls : Array Slot) (H : Heap) (locs : List Loc), lv_has ls 5 [(0, .ref (h 0)), (1, .ref (ht 0)), (2, .int a0), (3, .int z1.1)] → cd_WS G A s.heap H locs ((pc_walk cI h z1.2) ++ (pc_town cI ht T)) → W p l e rm_X4_isNeeded s m ag below meth c H locs 0 0 Q (F0 m 12 ls [])) ?_ cd_N ((0 : Int32), (cd_fld (cd_fld V 3 a0) 4 a0)) x1 e1 rfl _ _ _ (lv_sub hl [1, 2, 3, 0] rfl) hw
  intro z1 o1 hb1 hk1 ls H locs hl hw
  unfold f_X4_isNeeded_b12 at hb1
  refine lv_iload_n hx hb dX4_isNeeded_12 rfl (lv_at hl 3 rfl) ?_
  refine lv_bipush (v := (12 : Int32)) hx hb dX4_isNeeded_13 (by decide) ?_
  refine lv_icmp_ge (tgt := 100) hx hb dX4_isNeeded_15 (by decide) (fun c2 => ?_) (fun c2 => ?_)
  · have hb1 := cd_ite_t c2 hb1
    have z : some (Sum.inl z1.2) = some o1 := hb1
    cases z
    exact K1 _ hk1 _ _ _ (lv_sub hl [0, 2] rfl) hw
  · have hb1 := cd_ite_f c2 hb1
    refine lv_aload_n hx hb dX4_isNeeded_18 rfl (lv_at hl 1 rfl) ?_
    refine lv_iload_n hx hb dX4_isNeeded_19 rfl (lv_at hl 3 rfl) ?_
    obtain ⟨r3, e3, hb1⟩ := cd_bind_some hb1
    refine cd_callV (As := [.int z1.1]) (rest := []) C0 hw (c_X3_canBeAsked l G cI cZ sa sb ht T z1.1 r3 e3) [4, 5, 6, 7, 8, 9, 10, 11, 12, 13, 14] rfl rfl 0 3 rfl rfl rfl (cwV 1 hts gX4_isNeeded_X3_canBeAsked rfl rfl rfl (by decide +kernel) ⟨Nat.le_of_ble_eq_true rfl, Nat.le_of_ble_eq_true rfl⟩) rfl hl.1 (lv_room (Nat.le_of_ble_eq_true rfl)) dX4_isNeeded_20 (fun H locs hw => ?_)
    refine lv_istore (lv' := [(4, .int r3), (0, .ref (h 0)), (1, .ref (ht 0)), (2, .int a0), (3, .int z1.1)]) hx hb dX4_isNeeded_23 hl (by decide) rfl (fun ls hl => ?_)
    refine lv_aload_n hx hb dX4_isNeeded_25 rfl (lv_at hl 1 rfl) ?_
    refine va_get (D := G) (ci := 4) (v := .ref (h 1)) (C := RX4) (T := TX4) (N := 5) hx hb hts nw_X4_isNeeded_X4 hown hK hw.1 0 rfl rfl 0 (by decide) hL2 (fun _ h9 => h9) rfl dX4_isNeeded_26 ?_
    refine lv_iload_n hx hb dX4_isNeeded_29 rfl (lv_at hl 4 rfl) ?_
    refine lv_iload hx hb dX4_isNeeded_30 (lv_at hl 0 rfl) ?_
    obtain ⟨x4, e4, hb1⟩ := cd_bind_some hb1
    have K4 : ∀ (ls : Array Slot) (H : Heap) (locs : List Loc), lv_has ls 5 [(0, .ref (h 0)), (1, .ref (ht 0)), (2, .int a0), (3, .int z1.1), (4, .int r3)] → cd_WS G A s.heap H locs ((pc_walk cI h z1.2) ++ (pc_town cI ht T)) → W p l e rm_X4_isNeeded s m ag below meth c H locs 0 0 Q (F0 m 45 ls [.int x4, .int z1.1, .ref (h 1)]) := by
      intro ls H locs hl hw
      obtain ⟨j5, e5, hb1⟩ := cd_bind_some hb1
      refine cd_iast hx hb hK hw 1 rfl e5 dX4_isNeeded_45 (fun H locs hw => ?_)
      have hw : cd_WS G A s.heap H locs ((pc_walk cI h (cd_set z1.2 0 j5 x4)) ++ (pc_town cI ht T)) := hw
      refine lv_aload_n hx hb dX4_isNeeded_46 rfl (lv_at hl 0 rfl) ?_
      refine lv_iload hx hb dX4_isNeeded_47 (lv_at hl 4 rfl) ?_
      obtain ⟨x6, e6, hb1⟩ := cd_bind_some hb1
      have K6 : ∀ (ls : Array Slot) (H : Heap) (locs : List Loc), lv_has ls 5 [(0, .ref (h 0)), (1, .ref (ht 0)), (2, .int a0), (3, .int z1.1), (4, .int r3)] → cd_WS G A s.heap H locs ((pc_walk cI h (cd_set z1.2 0 j5 x4)) ++ (pc_town cI ht T)) → W p l e rm_X4_isNeeded s m ag below meth c H locs 0 0 Q (F0 m 67 ls [.int x6, .ref (h 0)]) := by
        intro ls H locs hl hw
        refine va_put (D := G) (ci := 4) (v := .int x6) (ty := .int) (C := RX4) (T := TX4) (N := 5) hx hb hts nw_X4_isNeeded_X4 tyX4 tyX4_ok nmX4 hown hK hw.1 hw.2.1 hw.2.2 0 rfl rfl 3 (by decide) hL0 (fun _ h9 => h9) rfl (by decide +kernel) rfl rfl (Nat.le_of_ble_eq_true rfl) dX4_isNeeded_67 (fun H locs hP hD hS => ?_)
        have hw : cd_WS G A s.heap H locs ((pc_walk cI h (cd_fld (cd_set z1.2 0 j5 x4) 3 x6)) ++ (pc_town cI ht T)) := ⟨hP, hD, hS⟩
        refine lv_aload_n hx hb dX4_isNeeded_70 rfl (lv_at hl 0 rfl) ?_
        refine lv_iload hx hb dX4_isNeeded_71 (lv_at hl 4 rfl) ?_
        obtain ⟨x7, e7, hb1⟩ := cd_bind_some hb1
        have K7 : ∀ (ls : Array Slot) (H : Heap) (locs : List Loc), lv_has ls 5 [(0, .ref (h 0)), (1, .ref (ht 0)), (2, .int a0), (3, .int z1.1)] → cd_WS G A s.heap H locs ((pc_walk cI h (cd_fld (cd_set z1.2 0 j5 x4) 3 x6)) ++ (pc_town cI ht T)) → W p l e rm_X4_isNeeded s m ag below meth c H locs 0 0 Q (F0 m 91 ls [.int x7, .ref (h 0)]) := by
          intro ls H locs hl hw
          refine va_put (D := G) (ci := 4) (v := .int x7) (ty := .int) (C := RX4) (T := TX4) (N := 5) hx hb hts nw_X4_isNeeded_X4 tyX4 tyX4_ok nmX4 hown hK hw.1 hw.2.1 hw.2.2 0 rfl rfl 4 (by decide) hL1 (fun _ h9 => h9) rfl (by decide +kernel) rfl rfl (Nat.le_of_ble_eq_true rfl) dX4_isNeeded_91 (fun H locs hP hD hS => ?_)
          have hw : cd_WS G A s.heap H locs ((pc_walk cI h (cd_fld (cd_fld (cd_set z1.2 0 j5 x4) 3 x6) 4 x7)) ++ (pc_town cI ht T)) := ⟨hP, hD, hS⟩
          refine lv_iinc (v := (z1.1 + (1 : Int32))) (lv' := [(3, .int (z1.1 + (1 : Int32))), (0, .ref (h 0)), (1, .ref (ht 0)), (2, .int a0)]) hx hb dX4_isNeeded_94 hl (k := 3) rfl rfl (by decide) rfl (fun ls hl => ?_)
          refine lv_goto (tgt := 12) hx hb dX4_isNeeded_97 (by decide) ?_
          have z : some (Sum.inr ((z1.1 + (1 : Int32)), (cd_fld (cd_fld (cd_set z1.2 0 j5 x4) 3 x6) 4 x7))) = some o1 := hb1
          cases z
          exact hk1 _ _ _ (lv_sub hl [1, 2, 3, 0] rfl) hw
        refine lv_if_eq (tgt := 87) hx hb dX4_isNeeded_73 (by decide) (fun c7 => ?_) (fun c7 => ?_)
        · have e7 := cd_ite_t c7 e7
          refine lv_aload_n hx hb dX4_isNeeded_87 rfl (lv_at hl 0 rfl) ?_
          refine va_get (D := G) (ci := 4) (v := .int (z1.2 4 0)) (C := RX4) (T := TX4) (N := 5) hx hb hts nw_X4_isNeeded_X4 hown hK hw.1 0 rfl rfl 4 (by decide) hL1 (fun _ h9 => h9) rfl dX4_isNeeded_88 ?_
          have z : some (z1.2 4 0) = some x7 := e7
          cases z
          exact K7 _ _ _ (lv_sub hl [0, 1, 2, 3] rfl) hw
        · have e7 := cd_ite_f c7 e7
          refine lv_aload_n hx hb dX4_isNeeded_76 rfl (lv_at hl 0 rfl) ?_
          refine va_get (D := G) (ci := 4) (v := .int (z1.2 4 0)) (C := RX4) (T := TX4) (N := 5) hx hb hts nw_X4_isNeeded_X4 hown hK hw.1 0 rfl rfl 4 (by decide) hL1 (fun _ h9 => h9) rfl dX4_isNeeded_77 ?_
          refine lv_iload_n hx hb dX4_isNeeded_80 rfl (lv_at hl 3 rfl) ?_
          refine cd_mmax hx hb (hml.trans hl.1.symm) hown hL8 hL9 hL6 hL10 (Nat.le_of_ble_eq_true rfl) (Nat.le_of_ble_eq_true rfl) dX4_isNeeded_81 ?_
          refine lv_goto (tgt := 91) hx hb dX4_isNeeded_84 (by decide) ?_
          have z : some (cd_max (z1.2 4 0) z1.1) = some x7 := e7
          cases z
          exact K7 _ _ _ (lv_sub hl [0, 1, 2, 3] rfl) hw
      refine lv_if_eq (tgt := 63) hx hb dX4_isNeeded_49 (by decide) (fun c6 => ?_) (fun c6 => ?_)
      · have e6 := cd_ite_t c6 e6
        refine lv_aload_n hx hb dX4_isNeeded_63 rfl (lv_at hl 0 rfl) ?_
        refine va_get (D := G) (ci := 4) (v := .int (z1.2 3 0)) (C := RX4) (T := TX4) (N := 5) hx hb hts nw_X4_isNeeded_X4 hown hK hw.1 0 rfl rfl 3 (by decide) hL0 (fun _ h9 => h9) rfl dX4_isNeeded_64 ?_
        have z : some (z1.2 3 0) = some x6 := e6
        cases z
        exact K6 _ _ _ (lv_sub hl [0, 1, 2, 3, 4] rfl) hw
      · have e6 := cd_ite_f c6 e6
        refine lv_aload_n hx hb dX4_isNeeded_52 rfl (lv_at hl 0 rfl) ?_
        refine va_get (D := G) (ci := 4) (v := .int (z1.2 3 0)) (C := RX4) (T := TX4) (N := 5) hx hb hts nw_X4_isNeeded_X4 hown hK hw.1 0 rfl rfl 3 (by decide) hL0 (fun _ h9 => h9) rfl dX4_isNeeded_53 ?_
        refine lv_iload_n hx hb dX4_isNeeded_56 rfl (lv_at hl 3 rfl) ?_
        refine cd_mmin hx hb (hml.trans hl.1.symm) hown hL4 hL5 hL6 hL7 (Nat.le_of_ble_eq_true rfl) (Nat.le_of_ble_eq_true rfl) dX4_isNeeded_57 ?_
        refine lv_goto (tgt := 67) hx hb dX4_isNeeded_60 (by decide) ?_
        have z : some (cd_min (z1.2 3 0) z1.1) = some x6 := e6
        cases z
        exact K6 _ _ _ (lv_sub hl [0, 1, 2, 3, 4] rfl) hw
    refine lv_if_eq (tgt := 43) hx hb dX4_isNeeded_32 (by decide) (fun c4 => ?_) (fun c4 => ?_)
    · have e4 := cd_ite_t c4 e4
      refine lv_ldc (v := (1000000 : Int32)) hx hb hown hL3 dX4_isNeeded_43 ?_
      have z : some (1000000 : Int32) = some x4 := e4
      cases z
      exact K4 _ _ _ (lv_sub hl [1, 2, 3, 4, 0] rfl) hw
    · have e4 := cd_ite_f c4 e4
      refine lv_aload_n hx hb dX4_isNeeded_35 rfl (lv_at hl 2 rfl) ?_
      refine lv_iload_n hx hb dX4_isNeeded_36 rfl (lv_at hl 4 rfl) ?_
      obtain ⟨r8, e8, e4⟩ := cd_bind_some e4
      refine cd_callV (As := [.int z1.1]) (rest := [.int z1.1, .ref (h 1)]) C0 hw (c_X3_minutesLeft l G cI cZ sa sb ht T z1.1 r8 e8) [4, 5, 6, 7, 8, 9, 10, 11, 12, 13, 14] rfl rfl 0 3 rfl rfl rfl (cwV 1 hts gX4_isNeeded_X3_minutesLeft rfl rfl rfl (by decide +kernel) ⟨Nat.le_of_ble_eq_true rfl, Nat.le_of_ble_eq_true rfl⟩) rfl hl.1 (lv_room (Nat.le_of_ble_eq_true rfl)) dX4_isNeeded_37 (fun H locs hw => ?_)
      refine lv_goto (tgt := 45) hx hb dX4_isNeeded_40 (by decide) ?_
      have z : some r8 = some x4 := e4
      cases z
      exact K4 _ _ _ (lv_sub hl [1, 2, 3, 4, 0] rfl) hw
abbrev rm_X5_canBeRead : Room := { frames := 3, cells := 0, slots := 0, locals := 67 }
theorem nw_X5_canBeRead_X5 : ∀ w ∈ u_ws RX5 TX5 8, w ∈ wsX5_canBeRead := by decide +kernel
set_option maxHeartbeats 4000000 in
set_option maxRecDepth 100000 in
theorem c_X5_canBeRead (l : Launch) (G : va_G) (cI cZ : ClassId) (sa sb : Nat) (h ht h1 h2 hp hy hs hv hz : Nat → Nat) (K T : Nat → Nat → Int32) (a0 : Int32) (a1 : Int32) (o : Int32) (hf : f_X5_canBeRead a0 a1 K T = some o) : cd_Ct l G cI cZ sa sb yX5_canBeRead wsX5_canBeRead rm_X5_canBeRead [.ref (h 0), .int a0, .int a1] ((pc_top cZ h ht h1 h2 hp hy hv hz K) ++ (pc_town cI ht T)) ((pc_top cZ h ht h1 h2 hp hy hv hz K) ++ (pc_town cI ht T)) (some (.int o)) := by
  refine cd_of (cc := cX5_canBeRead) (maxL := 7) (ret := (some .boolean)) (by decide) rfl (Nat.le_of_ble_eq_true rfl) ?_
  intro p e s m ag below meth c A ls Q C0 hl hw hQ
  have C0 : cd_CX G cI cZ sa sb p s m ag meth c cX5_canBeRead 7 (some .boolean) wsX5_canBeRead RX5 A := C0
  obtain ⟨⟨hx, hb, hml, hown, hts⟩, hr, hlocks, hA, hE⟩ := id C0
  have hK := hE.1
  have hL0 := hts (.fieldLink RX5 12 "CandleDebts" "town" "LCandleDebts$Town;") (by decide +kernel)
  have hl : lv_has ls 7 [(0, .ref (h 0)), (1, .int a0), (2, .int a1)] := hl
  unfold f_X5_canBeRead at hf
  refine lv_iconst (v := (0 : Int32)) hx hb dX5_canBeRead_0 (by decide) ?_
  refine lv_istore_n (lv' := [(3, .int (0 : Int32)), (0, .ref (h 0)), (1, .int a0), (2, .int a1)]) hx hb dX5_canBeRead_1 rfl hl (by decide) rfl (fun ls hl => ?_)
  obtain ⟨x1, e1, hf⟩ := cd_bind_some hf
  have K1 : ∀ (t1 : Unit), Sum.inr t1 = x1 → ∀ (ls : Array Slot) (H : Heap) (locs : List Loc), lv_has ls 7 [] → cd_WS G A s.heap H locs ((pc_top cZ h ht h1 h2 hp hy hv hz K) ++ (pc_town cI ht T)) → W p l e rm_X5_canBeRead s m ag below meth c H locs 0 0 Q (F0 m 91 ls []) := by
    intro t1 hs_1
    subst hs_1
    intro ls H locs hl hw
    refine lv_iconst (v := (1 : Int32)) hx hb dX5_canBeRead_91 (by decide) ?_
    have z : some (1 : Int32) = some o := hf
    cases z
    rw [hQ]
    exact cd_retz C0 hw (by decide) dX5_canBeRead_92
  refine cd_iter_ind (body := (f_X5_canBeRead_b2 a0 a1 T)) (K := fun r => r = x1) (P := fun (z1 : Int32) => ∀ (ls : Array Slot) (H : Heap) (locs : List Loc), lv_has ls 7 [(0, .ref (h 0)), (1, .int a0), (2, .int a1), (3, .int z1)] → cd_WS G A s.heap H locs ((pc_top cZ h ht h1 h2 hp hy hv hz K) ++ (pc_town cI ht T)) → W p l e rm_X5_canBeRead s m ag below meth c H locs 0 0 Q (F0 m 2 ls [])) ?_ cd_N (0 : Int32) x1 e1 rfl _ _ _ (lv_sub hl [1, 2, 3, 0] rfl) hw
  intro z1 o1 hb1 hk1 ls H locs hl hw
  unfold f_X5_canBeRead_b2 at hb1
  refine lv_iload_n hx hb dX5_canBeRead_2 rfl (lv_at hl 3 rfl) ?_
  refine lv_bipush (v := (12 : Int32)) hx hb dX5_canBeRead_3 (by decide) ?_
  refine lv_icmp_ge (tgt := 91) hx hb dX5_canBeRead_5 (by decide) (fun c2 => ?_) (fun c2 => ?_)
  · have hb1 := cd_ite_t c2 hb1
    have z : some (Sum.inl (Sum.inr ())) = some o1 := hb1
    cases z
    exact K1 _ hk1 _ _ _ (lv_sub hl [] rfl) hw
  · have hb1 := cd_ite_f c2 hb1
    refine lv_iload_n hx hb dX5_canBeRead_8 rfl (lv_at hl 1 rfl) ?_
    refine lv_iload_n hx hb dX5_canBeRead_9 rfl (lv_at hl 3 rfl) ?_
    obtain ⟨r3, e3, hb1⟩ := cd_bind_some hb1
    refine cd_callS (As := [.int a0, .int z1]) (rest := []) C0 hw (c_X5_holds l G cI cZ sa sb a0 z1 r3 e3) [] rfl rfl (va_cwS 2 hts gX5_canBeRead_X5_holds rfl rfl rfl (by decide +kernel) ⟨Nat.le_of_ble_eq_true rfl, Nat.le_of_ble_eq_true rfl⟩) rfl hl.1 (lv_room (Nat.le_of_ble_eq_true rfl)) dX5_canBeRead_10 (fun H locs hw => ?_)
    refine lv_if_ne (tgt := 19) hx hb dX5_canBeRead_13 (by decide) (fun c4 => ?_) (fun c4 => ?_)
    · have hb1 := cd_ite_f c4 hb1
      refine lv_aload_n hx hb dX5_canBeRead_19 rfl (lv_at hl 0 rfl) ?_
      refine va_get (D := G) (ci := 5) (v := .ref (ht 0)) (C := RX5) (T := TX5) (N := 8) hx hb hts nw_X5_canBeRead_X5 hown hK hw.1 0 rfl rfl 0 (by decide) hL0 (fun _ h9 => h9) rfl dX5_canBeRead_20 ?_
      refine lv_iload_n hx hb dX5_canBeRead_23 rfl (lv_at hl 3 rfl) ?_
      obtain ⟨r5, e5, hb1⟩ := cd_bind_some hb1
      refine cd_callV (As := [.int z1]) (rest := []) C0 hw (c_X3_minutesLeft l G cI cZ sa sb ht T z1 r5 e5) [2, 3, 4, 5, 6, 7, 8, 9, 10, 11, 12] rfl rfl 0 3 rfl rfl rfl (cwV 1 hts gX5_canBeRead_X3_minutesLeft rfl rfl rfl (by decide +kernel) ⟨Nat.le_of_ble_eq_true rfl, Nat.le_of_ble_eq_true rfl⟩) rfl hl.1 (lv_room (Nat.le_of_ble_eq_true rfl)) dX5_canBeRead_24 (fun H locs hw => ?_)
      refine lv_istore (lv' := [(4, .int r5), (0, .ref (h 0)), (1, .int a0), (2, .int a1), (3, .int z1)]) hx hb dX5_canBeRead_27 hl (by decide) rfl (fun ls hl => ?_)
      refine lv_iconst (v := (0 : Int32)) hx hb dX5_canBeRead_29 (by decide) ?_
      refine lv_istore (lv' := [(5, .int (0 : Int32)), (4, .int r5), (0, .ref (h 0)), (1, .int a0), (2, .int a1), (3, .int z1)]) hx hb dX5_canBeRead_30 hl (by decide) rfl (fun ls hl => ?_)
      refine lv_iconst (v := (0 : Int32)) hx hb dX5_canBeRead_32 (by decide) ?_
      refine lv_istore (lv' := [(6, .int (0 : Int32)), (5, .int (0 : Int32)), (4, .int r5), (0, .ref (h 0)), (1, .int a0), (2, .int a1), (3, .int z1)]) hx hb dX5_canBeRead_33 hl (by decide) rfl (fun ls hl => ?_)
      obtain ⟨x6, e6, hb1⟩ := cd_bind_some hb1
      have K6 : ∀ (t6 : Int32), t6 = x6 → ∀ (ls : Array Slot) (H : Heap) (locs : List Loc), lv_has ls 7 [(0, .ref (h 0)), (1, .int a0), (2, .int a1), (3, .int z1), (4, .int r5), (5, .int t6)] → cd_WS G A s.heap H locs ((pc_top cZ h ht h1 h2 hp hy hv hz K) ++ (pc_town cI ht T)) → W p l e rm_X5_canBeRead s m ag below meth c H locs 0 0 Q (F0 m 74 ls []) := by
        intro t6 hs_6
        subst hs_6
        intro ls H locs hl hw
        refine lv_iload hx hb dX5_canBeRead_74 (lv_at hl 5 rfl) ?_
        refine lv_iload_n hx hb dX5_canBeRead_76 rfl (lv_at hl 2 rfl) ?_
        refine lv_imul hx hb dX5_canBeRead_77 ?_
        refine lv_iload hx hb dX5_canBeRead_78 (lv_at hl 4 rfl) ?_
        refine lv_icmp_le (tgt := 85) hx hb dX5_canBeRead_80 (by decide) (fun c12 => ?_) (fun c12 => ?_)
        · have hb1 := cd_ite_t c12 hb1
          refine lv_iinc (v := (z1 + (1 : Int32))) (lv' := [(3, .int (z1 + (1 : Int32))), (0, .ref (h 0)), (1, .int a0), (2, .int a1), (4, .int r5), (5, .int t6)]) hx hb dX5_canBeRead_85 hl (k := 3) rfl rfl (by decide) rfl (fun ls hl => ?_)
          refine lv_goto (tgt := 2) hx hb dX5_canBeRead_88 (by decide) ?_
          have z : some (Sum.inr (z1 + (1 : Int32))) = some o1 := hb1
          cases z
          exact hk1 _ _ _ (lv_sub hl [1, 2, 3, 0] rfl) hw
        · have hb1 := cd_ite_f c12 hb1
          refine lv_iconst (v := (0 : Int32)) hx hb dX5_canBeRead_83 (by decide) ?_
          have z : some (Sum.inl (Sum.inl (0 : Int32))) = some o1 := hb1
          cases z
          have y1 : Sum.inl (0 : Int32) = x1 := hk1
          subst y1
          have z : some (0 : Int32) = some o := hf
          cases z
          rw [hQ]
          exact cd_retz C0 hw (by decide) dX5_canBeRead_84
      refine cd_iter_ind (body := (f_X5_canBeRead_b35 a0 T r5)) (K := fun r => r = x6) (P := fun (z6 : Int32 × Int32) => ∀ (ls : Array Slot) (H : Heap) (locs : List Loc), lv_has ls 7 [(0, .ref (h 0)), (1, .int a0), (2, .int a1), (3, .int z1), (4, .int r5), (5, .int z6.1), (6, .int z6.2)] → cd_WS G A s.heap H locs ((pc_top cZ h ht h1 h2 hp hy hv hz K) ++ (pc_town cI ht T)) → W p l e rm_X5_canBeRead s m ag below meth c H locs 0 0 Q (F0 m 35 ls [])) ?_ cd_N ((0 : Int32), (0 : Int32)) x6 e6 rfl _ _ _ (lv_sub hl [3, 4, 5, 6, 2, 1, 0] rfl) hw
      intro z6 o6 hb6 hk6 ls H locs hl hw
      unfold f_X5_canBeRead_b35 at hb6
      refine lv_iload hx hb dX5_canBeRead_35 (lv_at hl 6 rfl) ?_
      refine lv_bipush (v := (12 : Int32)) hx hb dX5_canBeRead_37 (by decide) ?_
      refine lv_icmp_ge (tgt := 74) hx hb dX5_canBeRead_39 (by decide) (fun c7 => ?_) (fun c7 => ?_)
      · have hb6 := cd_ite_t c7 hb6
        have z : some (Sum.inl z6.1) = some o6 := hb6
        cases z
        exact K6 _ hk6 _ _ _ (lv_sub hl [0, 1, 2, 3, 4, 5] rfl) hw
      · have hb6 := cd_ite_f c7 hb6
        refine lv_iload_n hx hb dX5_canBeRead_42 rfl (lv_at hl 1 rfl) ?_
        refine lv_iload hx hb dX5_canBeRead_43 (lv_at hl 6 rfl) ?_
        obtain ⟨r8, e8, hb6⟩ := cd_bind_some hb6
        refine cd_callS (As := [.int a0, .int z6.2]) (rest := []) C0 hw (c_X5_holds l G cI cZ sa sb a0 z6.2 r8 e8) [] rfl rfl (va_cwS 2 hts gX5_canBeRead_X5_holds rfl rfl rfl (by decide +kernel) ⟨Nat.le_of_ble_eq_true rfl, Nat.le_of_ble_eq_true rfl⟩) rfl hl.1 (lv_room (Nat.le_of_ble_eq_true rfl)) dX5_canBeRead_45 (fun H locs hw => ?_)
        refine lv_if_eq (tgt := 68) hx hb dX5_canBeRead_48 (by decide) (fun c9 => ?_) (fun c9 => ?_)
        · have hb6 := cd_ite_t c9 hb6
          refine lv_iinc (v := (z6.2 + (1 : Int32))) (lv' := [(6, .int (z6.2 + (1 : Int32))), (0, .ref (h 0)), (1, .int a0), (2, .int a1), (3, .int z1), (4, .int r5), (5, .int z6.1)]) hx hb dX5_canBeRead_68 hl (k := 6) rfl rfl (by decide) rfl (fun ls hl => ?_)
          refine lv_goto (tgt := 35) hx hb dX5_canBeRead_71 (by decide) ?_
          have z : some (Sum.inr (z6.1, (z6.2 + (1 : Int32)))) = some o6 := hb6
          cases z
          exact hk6 _ _ _ (lv_sub hl [1, 2, 3, 4, 5, 6, 0] rfl) hw
        · have hb6 := cd_ite_f c9 hb6
          refine lv_aload_n hx hb dX5_canBeRead_51 rfl (lv_at hl 0 rfl) ?_
          refine va_get (D := G) (ci := 5) (v := .ref (ht 0)) (C := RX5) (T := TX5) (N := 8) hx hb hts nw_X5_canBeRead_X5 hown hK hw.1 0 rfl rfl 0 (by decide) hL0 (fun _ h9 => h9) rfl dX5_canBeRead_52 ?_
          refine lv_iload hx hb dX5_canBeRead_55 (lv_at hl 6 rfl) ?_
          obtain ⟨r10, e10, hb6⟩ := cd_bind_some hb6
          refine cd_callV (As := [.int z6.2]) (rest := []) C0 hw (c_X3_minutesLeft l G cI cZ sa sb ht T z6.2 r10 e10) [2, 3, 4, 5, 6, 7, 8, 9, 10, 11, 12] rfl rfl 0 3 rfl rfl rfl (cwV 1 hts gX5_canBeRead_X3_minutesLeft rfl rfl rfl (by decide +kernel) ⟨Nat.le_of_ble_eq_true rfl, Nat.le_of_ble_eq_true rfl⟩) rfl hl.1 (lv_room (Nat.le_of_ble_eq_true rfl)) dX5_canBeRead_57 (fun H locs hw => ?_)
          refine lv_iload hx hb dX5_canBeRead_60 (lv_at hl 4 rfl) ?_
          refine lv_icmp_gt (tgt := 68) hx hb dX5_canBeRead_62 (by decide) (fun c11 => ?_) (fun c11 => ?_)
          · have hb6 := cd_ite_t c11 hb6
            refine lv_iinc (v := (z6.2 + (1 : Int32))) (lv' := [(6, .int (z6.2 + (1 : Int32))), (0, .ref (h 0)), (1, .int a0), (2, .int a1), (3, .int z1), (4, .int r5), (5, .int z6.1)]) hx hb dX5_canBeRead_68 hl (k := 6) rfl rfl (by decide) rfl (fun ls hl => ?_)
            refine lv_goto (tgt := 35) hx hb dX5_canBeRead_71 (by decide) ?_
            have z : some (Sum.inr (z6.1, (z6.2 + (1 : Int32)))) = some o6 := hb6
            cases z
            exact hk6 _ _ _ (lv_sub hl [1, 2, 3, 4, 5, 6, 0] rfl) hw
          · have hb6 := cd_ite_f c11 hb6
            refine lv_iinc (v := (z6.1 + (1 : Int32))) (lv' := [(5, .int (z6.1 + (1 : Int32))), (0, .ref (h 0)), (1, .int a0), (2, .int a1), (3, .int z1), (4, .int r5), (6, .int z6.2)]) hx hb dX5_canBeRead_65 hl (k := 5) rfl rfl (by decide) rfl (fun ls hl => ?_)
            refine lv_iinc (v := (z6.2 + (1 : Int32))) (lv' := [(6, .int (z6.2 + (1 : Int32))), (5, .int (z6.1 + (1 : Int32))), (0, .ref (h 0)), (1, .int a0), (2, .int a1), (3, .int z1), (4, .int r5)]) hx hb dX5_canBeRead_68 hl (k := 6) rfl rfl (by decide) rfl (fun ls hl => ?_)
            refine lv_goto (tgt := 35) hx hb dX5_canBeRead_71 (by decide) ?_
            have z : some (Sum.inr ((z6.1 + (1 : Int32)), (z6.2 + (1 : Int32)))) = some o6 := hb6
            cases z
            exact hk6 _ _ _ (lv_sub hl [2, 3, 4, 5, 6, 1, 0] rfl) hw
    · have hb1 := cd_ite_t c4 hb1
      refine lv_goto (tgt := 85) hx hb dX5_canBeRead_16 (by decide) ?_
      refine lv_iinc (v := (z1 + (1 : Int32))) (lv' := [(3, .int (z1 + (1 : Int32))), (0, .ref (h 0)), (1, .int a0), (2, .int a1)]) hx hb dX5_canBeRead_85 hl (k := 3) rfl rfl (by decide) rfl (fun ls hl => ?_)
      refine lv_goto (tgt := 2) hx hb dX5_canBeRead_88 (by decide) ?_
      have z : some (Sum.inr (z1 + (1 : Int32))) = some o1 := hb1
      cases z
      exact hk1 _ _ _ (lv_sub hl [1, 2, 3, 0] rfl) hw
abbrev rm_X5_readableSet : Room := { frames := 4, cells := 0, slots := 0, locals := 93 }
theorem nw_X5_readableSet_X5 : ∀ w ∈ u_ws RX5 TX5 8, w ∈ wsX5_readableSet := by decide +kernel
set_option maxHeartbeats 4000000 in
set_option maxRecDepth 100000 in
theorem c_X5_readableSet (l : Launch) (G : va_G) (cI cZ : ClassId) (sa sb : Nat) (h ht h1 h2 hp hy hs hv hz : Nat → Nat) (K T : Nat → Nat → Int32) (a0 : Int32) (o : Int32) (hf : f_X5_readableSet a0 K T = some o) : cd_Ct l G cI cZ sa sb yX5_readableSet wsX5_readableSet rm_X5_readableSet [.ref (h 0), .int a0] ((pc_top cZ h ht h1 h2 hp hy hv hz K) ++ (pc_town cI ht T)) ((pc_top cZ h ht h1 h2 hp hy hv hz K) ++ (pc_town cI ht T)) (some (.int o)) := by
  refine cd_of (cc := cX5_readableSet) (maxL := 4) (ret := (some .int)) (by decide) rfl (Nat.le_of_ble_eq_true rfl) ?_
  intro p e s m ag below meth c A ls Q C0 hl hw hQ
  have C0 : cd_CX G cI cZ sa sb p s m ag meth c cX5_readableSet 4 (some .int) wsX5_readableSet RX5 A := C0
  obtain ⟨⟨hx, hb, hml, hown, hts⟩, hr, hlocks, hA, hE⟩ := id C0
  have hK := hE.1
  have hL0 := hts (.fieldLink RX5 12 "CandleDebts" "town" "LCandleDebts$Town;") (by decide +kernel)
  have hl : lv_has ls 4 [(0, .ref (h 0)), (1, .int a0)] := hl
  unfold f_X5_readableSet at hf
  refine lv_iconst (v := (0 : Int32)) hx hb dX5_readableSet_0 (by decide) ?_
  refine lv_istore_n (lv' := [(2, .int (0 : Int32)), (0, .ref (h 0)), (1, .int a0)]) hx hb dX5_readableSet_1 rfl hl (by decide) rfl (fun ls hl => ?_)
  refine lv_iconst (v := (0 : Int32)) hx hb dX5_readableSet_2 (by decide) ?_
  refine lv_istore_n (lv' := [(3, .int (0 : Int32)), (2, .int (0 : Int32)), (0, .ref (h 0)), (1, .int a0)]) hx hb dX5_readableSet_3 rfl hl (by decide) rfl (fun ls hl => ?_)
  obtain ⟨x1, e1, hf⟩ := cd_bind_some hf
  have K1 : ∀ (t1 : Int32), t1 = x1 → ∀ (ls : Array Slot) (H : Heap) (locs : List Loc), lv_has ls 4 [(2, .int t1)] → cd_WS G A s.heap H locs ((pc_top cZ h ht h1 h2 hp hy hv hz K) ++ (pc_town cI ht T)) → W p l e rm_X5_readableSet s m ag below meth c H locs 0 0 Q (F0 m 48 ls []) := by
    intro t1 hs_1
    subst hs_1
    intro ls H locs hl hw
    refine lv_iload_n hx hb dX5_readableSet_48 rfl (lv_at hl 0 rfl) ?_
    have z : some t1 = some o := hf
    cases z
    rw [hQ]
    exact cd_reti C0 hw dX5_readableSet_49
  refine cd_iter_ind (body := (f_X5_readableSet_b4 a0 K T)) (K := fun r => r = x1) (P := fun (z1 : Int32 × Int32) => ∀ (ls : Array Slot) (H : Heap) (locs : List Loc), lv_has ls 4 [(0, .ref (h 0)), (1, .int a0), (2, .int z1.1), (3, .int z1.2)] → cd_WS G A s.heap H locs ((pc_top cZ h ht h1 h2 hp hy hv hz K) ++ (pc_town cI ht T)) → W p l e rm_X5_readableSet s m ag below meth c H locs 0 0 Q (F0 m 4 ls [])) ?_ cd_N ((0 : Int32), (0 : Int32)) x1 e1 rfl _ _ _ (lv_sub hl [2, 3, 1, 0] rfl) hw
  intro z1 o1 hb1 hk1 ls H locs hl hw
  unfold f_X5_readableSet_b4 at hb1
  refine lv_iload_n hx hb dX5_readableSet_4 rfl (lv_at hl 3 rfl) ?_
  refine lv_bipush (v := (12 : Int32)) hx hb dX5_readableSet_5 (by decide) ?_
  refine lv_icmp_ge (tgt := 48) hx hb dX5_readableSet_7 (by decide) (fun c2 => ?_) (fun c2 => ?_)
  · have hb1 := cd_ite_t c2 hb1
    have z : some (Sum.inl z1.1) = some o1 := hb1
    cases z
    exact K1 _ hk1 _ _ _ (lv_sub hl [2] rfl) hw
  · have hb1 := cd_ite_f c2 hb1
    refine lv_aload_n hx hb dX5_readableSet_10 rfl (lv_at hl 0 rfl) ?_
    refine va_get (D := G) (ci := 5) (v := .ref (ht 0)) (C := RX5) (T := TX5) (N := 8) hx hb hts nw_X5_readableSet_X5 hown hK hw.1 0 rfl rfl 0 (by decide) hL0 (fun _ h9 => h9) rfl dX5_readableSet_11 ?_
    refine lv_iload_n hx hb dX5_readableSet_14 rfl (lv_at hl 3 rfl) ?_
    obtain ⟨r3, e3, hb1⟩ := cd_bind_some hb1
    refine cd_callV (As := [.int z1.2]) (rest := []) C0 hw (c_X3_isLit l G cI cZ sa sb ht T z1.2 r3 e3) [2, 3, 4, 5, 6, 7, 8, 9, 10, 11, 12] rfl rfl 0 3 rfl rfl rfl (cwV 1 hts gX5_readableSet_X3_isLit rfl rfl rfl (by decide +kernel) ⟨Nat.le_of_ble_eq_true rfl, Nat.le_of_ble_eq_true rfl⟩) rfl hl.1 (lv_room (Nat.le_of_ble_eq_true rfl)) dX5_readableSet_15 (fun H locs hw => ?_)
    refine lv_if_eq (tgt := 42) hx hb dX5_readableSet_18 (by decide) (fun c4 => ?_) (fun c4 => ?_)
    · have hb1 := cd_ite_t c4 hb1
      refine lv_iinc (v := (z1.2 + (1 : Int32))) (lv' := [(3, .int (z1.2 + (1 : Int32))), (0, .ref (h 0)), (1, .int a0), (2, .int z1.1)]) hx hb dX5_readableSet_42 hl (k := 3) rfl rfl (by decide) rfl (fun ls hl => ?_)
      refine lv_goto (tgt := 4) hx hb dX5_readableSet_45 (by decide) ?_
      have z : some (Sum.inr (z1.1, (z1.2 + (1 : Int32)))) = some o1 := hb1
      cases z
      exact hk1 _ _ _ (lv_sub hl [1, 2, 3, 0] rfl) hw
    · have hb1 := cd_ite_f c4 hb1
      refine lv_aload_n hx hb dX5_readableSet_21 rfl (lv_at hl 0 rfl) ?_
      refine lv_iload_n hx hb dX5_readableSet_22 rfl (lv_at hl 2 rfl) ?_
      refine lv_iload_n hx hb dX5_readableSet_23 rfl (lv_at hl 3 rfl) ?_
      obtain ⟨r5, e5, hb1⟩ := cd_bind_some hb1
      refine cd_callS (As := [.int z1.2]) (rest := [.int z1.1, .ref (h 0)]) C0 hw (c_X5_bit l G cI cZ sa sb z1.2 r5 e5) [] rfl rfl (va_cwS 1 hts gX5_readableSet_X5_bit rfl rfl rfl (by decide +kernel) ⟨Nat.le_of_ble_eq_true rfl, Nat.le_of_ble_eq_true rfl⟩) rfl hl.1 (lv_room (Nat.le_of_ble_eq_true rfl)) dX5_readableSet_24 (fun H locs hw => ?_)
      refine lv_ior hx hb dX5_readableSet_27 ?_
      refine lv_iload_n hx hb dX5_readableSet_28 rfl (lv_at hl 1 rfl) ?_
      obtain ⟨r6, e6, hb1⟩ := cd_bind_some hb1
      refine cd_callV (As := [.int (z1.1 ||| r5), .int a0]) (rest := []) C0 hw (c_X5_canBeRead l G cI cZ sa sb h ht h1 h2 hp hy hs hv hz K T (z1.1 ||| r5) a0 r6 e6) [0, 1, 2, 3, 4, 5, 6, 7, 8, 9, 10, 11, 12] rfl rfl 0 5 rfl rfl rfl (cwV 2 hts gX5_readableSet_X5_canBeRead rfl rfl rfl (by decide +kernel) ⟨Nat.le_of_ble_eq_true rfl, Nat.le_of_ble_eq_true rfl⟩) rfl hl.1 (lv_room (Nat.le_of_ble_eq_true rfl)) dX5_readableSet_29 (fun H locs hw => ?_)
      refine lv_if_eq (tgt := 42) hx hb dX5_readableSet_32 (by decide) (fun c7 => ?_) (fun c7 => ?_)
      · have hb1 := cd_ite_t c7 hb1
        refine lv_iinc (v := (z1.2 + (1 : Int32))) (lv' := [(3, .int (z1.2 + (1 : Int32))), (0, .ref (h 0)), (1, .int a0), (2, .int z1.1)]) hx hb dX5_readableSet_42 hl (k := 3) rfl rfl (by decide) rfl (fun ls hl => ?_)
        refine lv_goto (tgt := 4) hx hb dX5_readableSet_45 (by decide) ?_
        have z : some (Sum.inr (z1.1, (z1.2 + (1 : Int32)))) = some o1 := hb1
        cases z
        exact hk1 _ _ _ (lv_sub hl [1, 2, 3, 0] rfl) hw
      · have hb1 := cd_ite_f c7 hb1
        refine lv_iload_n hx hb dX5_readableSet_35 rfl (lv_at hl 2 rfl) ?_
        refine lv_iload_n hx hb dX5_readableSet_36 rfl (lv_at hl 3 rfl) ?_
        obtain ⟨r8, e8, hb1⟩ := cd_bind_some hb1
        refine cd_callS (As := [.int z1.2]) (rest := [.int z1.1]) C0 hw (c_X5_bit l G cI cZ sa sb z1.2 r8 e8) [] rfl rfl (va_cwS 1 hts gX5_readableSet_X5_bit rfl rfl rfl (by decide +kernel) ⟨Nat.le_of_ble_eq_true rfl, Nat.le_of_ble_eq_true rfl⟩) rfl hl.1 (lv_room (Nat.le_of_ble_eq_true rfl)) dX5_readableSet_37 (fun H locs hw => ?_)
        refine lv_ior hx hb dX5_readableSet_40 ?_
        refine lv_istore_n (lv' := [(2, .int (z1.1 ||| r8)), (0, .ref (h 0)), (1, .int a0), (3, .int z1.2)]) hx hb dX5_readableSet_41 rfl hl (by decide) rfl (fun ls hl => ?_)
        refine lv_iinc (v := (z1.2 + (1 : Int32))) (lv' := [(3, .int (z1.2 + (1 : Int32))), (2, .int (z1.1 ||| r8)), (0, .ref (h 0)), (1, .int a0)]) hx hb dX5_readableSet_42 hl (k := 3) rfl rfl (by decide) rfl (fun ls hl => ?_)
        refine lv_goto (tgt := 4) hx hb dX5_readableSet_45 (by decide) ?_
        have z : some (Sum.inr ((z1.1 ||| r8), (z1.2 + (1 : Int32)))) = some o1 := hb1
        cases z
        exact hk1 _ _ _ (lv_sub hl [2, 3, 1, 0] rfl) hw
abbrev rm_X5_accounts : Room := { frames := 5, cells := 0, slots := 0, locals := 116 }
set_option maxHeartbeats 4000000 in
set_option maxRecDepth 100000 in
theorem c_X5_accounts (l : Launch) (G : va_G) (cI cZ : ClassId) (sa sb : Nat) (h ht h1 h2 hp hy hs hv hz : Nat → Nat) (K T : Nat → Nat → Int32) (a0 : Int32) (a1 : Int32) (o : Int32) (hf : f_X5_accounts a0 a1 K T = some o) : cd_Ct l G cI cZ sa sb yX5_accounts wsX5_accounts rm_X5_accounts [.ref (h 0), .int a0, .int a1] ((pc_top cZ h ht h1 h2 hp hy hv hz K) ++ (pc_town cI ht T)) ((pc_top cZ h ht h1 h2 hp hy hv hz K) ++ (pc_town cI ht T)) (some (.int o)) := by
  refine cd_of (cc := cX5_accounts) (maxL := 4) (ret := (some .int)) (by decide) rfl (Nat.le_of_ble_eq_true rfl) ?_
  intro p e s m ag below meth c A ls Q C0 hl hw hQ
  have C0 : cd_CX G cI cZ sa sb p s m ag meth c cX5_accounts 4 (some .int) wsX5_accounts RX5 A := C0
  obtain ⟨⟨hx, hb, hml, hown, hts⟩, hr, hlocks, hA, hE⟩ := id C0
  have hK := hE.1
  have hl : lv_has ls 4 [(0, .ref (h 0)), (1, .int a0), (2, .int a1)] := hl
  unfold f_X5_accounts at hf
  refine lv_iload_n hx hb dX5_accounts_0 rfl (lv_at hl 1 rfl) ?_
  refine lv_iconst (v := (1 : Int32)) hx hb dX5_accounts_1 (by decide) ?_
  refine lv_bipush (v := (99 : Int32)) hx hb dX5_accounts_2 (by decide) ?_
  obtain ⟨r1, e1, hf⟩ := cd_bind_some hf
  refine cd_callS (As := [.int a0, .int (1 : Int32), .int (99 : Int32)]) (rest := []) C0 hw (c_X5_within l G cI cZ sa sb a0 (1 : Int32) (99 : Int32) r1 e1) [] rfl rfl (va_cwS 3 hts gX5_accounts_X5_within rfl rfl rfl (by decide +kernel) ⟨Nat.le_of_ble_eq_true rfl, Nat.le_of_ble_eq_true rfl⟩) rfl hl.1 (lv_room (Nat.le_of_ble_eq_true rfl)) dX5_accounts_4 (fun H locs hw => ?_)
  refine lv_if_eq (tgt := 19) hx hb dX5_accounts_7 (by decide) (fun c2 => ?_) (fun c2 => ?_)
  · have hf := cd_ite_t c2 hf
    refine lv_bipush (v := (-2 : Int32)) hx hb dX5_accounts_19 (by decide) ?_
    have z : some (-2 : Int32) = some o := hf
    cases z
    rw [hQ]
    exact cd_reti C0 hw dX5_accounts_21
  · have hf := cd_ite_f c2 hf
    refine lv_iload_n hx hb dX5_accounts_10 rfl (lv_at hl 2 rfl) ?_
    refine lv_iconst (v := (0 : Int32)) hx hb dX5_accounts_11 (by decide) ?_
    refine lv_iconst (v := (1 : Int32)) hx hb dX5_accounts_12 (by decide) ?_
    obtain ⟨r3, e3, hf⟩ := cd_bind_some hf
    refine cd_callS (As := [.int a1, .int (0 : Int32), .int (1 : Int32)]) (rest := []) C0 hw (c_X5_within l G cI cZ sa sb a1 (0 : Int32) (1 : Int32) r3 e3) [] rfl rfl (va_cwS 3 hts gX5_accounts_X5_within rfl rfl rfl (by decide +kernel) ⟨Nat.le_of_ble_eq_true rfl, Nat.le_of_ble_eq_true rfl⟩) rfl hl.1 (lv_room (Nat.le_of_ble_eq_true rfl)) dX5_accounts_13 (fun H locs hw => ?_)
    refine lv_if_ne (tgt := 22) hx hb dX5_accounts_16 (by decide) (fun c4 => ?_) (fun c4 => ?_)
    · have hf := cd_ite_f c4 hf
      refine lv_aload_n hx hb dX5_accounts_22 rfl (lv_at hl 0 rfl) ?_
      refine lv_iload_n hx hb dX5_accounts_23 rfl (lv_at hl 1 rfl) ?_
      obtain ⟨r5, e5, hf⟩ := cd_bind_some hf
      refine cd_callV (As := [.int a0]) (rest := []) C0 hw (c_X5_readableSet l G cI cZ sa sb h ht h1 h2 hp hy hs hv hz K T a0 r5 e5) [0, 1, 2, 3, 4, 5, 6, 7, 8, 9, 10, 11, 12] rfl rfl 0 5 rfl rfl rfl (cwV 1 hts gX5_accounts_X5_readableSet rfl rfl rfl (by decide +kernel) ⟨Nat.le_of_ble_eq_true rfl, Nat.le_of_ble_eq_true rfl⟩) rfl hl.1 (lv_room (Nat.le_of_ble_eq_true rfl)) dX5_accounts_24 (fun H locs hw => ?_)
      refine lv_istore_n (lv' := [(3, .int r5), (0, .ref (h 0)), (1, .int a0), (2, .int a1)]) hx hb dX5_accounts_27 rfl hl (by decide) rfl (fun ls hl => ?_)
      refine lv_iload_n hx hb dX5_accounts_28 rfl (lv_at hl 3 rfl) ?_
      obtain ⟨x6, e6, hf⟩ := cd_bind_some hf
      have K6 : ∀ (ls : Array Slot) (H : Heap) (locs : List Loc), lv_has ls 4 [] → cd_WS G A s.heap H locs ((pc_top cZ h ht h1 h2 hp hy hv hz K) ++ (pc_town cI ht T)) → W p l e rm_X5_accounts s m ag below meth c H locs 0 0 Q (F0 m 40 ls [.int x6]) := by
        intro ls H locs hl hw
        have z : some x6 = some o := hf
        cases z
        rw [hQ]
        exact cd_reti C0 hw dX5_accounts_40
      refine lv_if_ne (tgt := 39) hx hb dX5_accounts_29 (by decide) (fun c6 => ?_) (fun c6 => ?_)
      · have e6 := cd_ite_f c6 e6
        refine lv_iload_n hx hb dX5_accounts_39 rfl (lv_at hl 0 rfl) ?_
        have z : some r5 = some x6 := e6
        cases z
        exact K6 _ _ _ (lv_sub hl [] rfl) hw
      · have e6 := cd_ite_t c6 e6
        refine lv_iload_n hx hb dX5_accounts_32 rfl (lv_at hl 0 rfl) ?_
        obtain ⟨r7, e7, e6⟩ := cd_bind_some e6
        refine cd_callS (As := [.int r5]) (rest := []) C0 hw (c_J6_bitCount l G cI cZ sa sb r5 r7 e7) [] rfl rfl (va_cwS 1 hts gX5_accounts_J6_bitCount_0f7a4 rfl rfl rfl (by decide +kernel) ⟨Nat.le_of_ble_eq_true rfl, Nat.le_of_ble_eq_true rfl⟩) rfl hl.1 (lv_room (Nat.le_of_ble_eq_true rfl)) dX5_accounts_33 (fun H locs hw => ?_)
        refine lv_goto (tgt := 40) hx hb dX5_accounts_36 (by decide) ?_
        have z : some r7 = some x6 := e6
        cases z
        exact K6 _ _ _ (lv_sub hl [] rfl) hw
    · have hf := cd_ite_t c4 hf
      refine lv_bipush (v := (-2 : Int32)) hx hb dX5_accounts_19 (by decide) ?_
      have z : some (-2 : Int32) = some o := hf
      cases z
      rw [hQ]
      exact cd_reti C0 hw dX5_accounts_21
abbrev rm_X5_nightCanBe : Room := { frames := 6, cells := 0, slots := 0, locals := 134 }
theorem nw_X5_nightCanBe_X5 : ∀ w ∈ u_ws RX5 TX5 8, w ∈ wsX5_nightCanBe := by decide +kernel
set_option maxHeartbeats 4000000 in
set_option maxRecDepth 100000 in
theorem c_X5_nightCanBe (l : Launch) (G : va_G) (cI cZ : ClassId) (sa sb : Nat) (h ht h1 h2 hp hy hs hv hz : Nat → Nat) (K T P Y S : Nat → Nat → Int32) (o : Int32 × (Nat → Nat → Int32) × (Nat → Nat → Int32) × (Nat → Nat → Int32)) (hf : f_X5_nightCanBe K T P Y S = some o) : cd_Ct l G cI cZ sa sb yX5_nightCanBe wsX5_nightCanBe rm_X5_nightCanBe [.ref (h 0)] ((pc_top cZ h ht h1 h2 hp hy hv hz K) ++ (pc_town cI ht T) ++ (pc_pad cI hp P) ++ (pc_play hy hs Y) ++ (pc_town cI hs S)) ((pc_top cZ h ht h1 h2 hp hy hv hz K) ++ (pc_town cI ht T) ++ (pc_pad cI hp o.2.1) ++ (pc_play hy hs o.2.2.1) ++ (pc_town cI hs o.2.2.2)) (some (.int o.1)) := by
  refine cd_of (cc := cX5_nightCanBe) (maxL := 1) (ret := (some .boolean)) (by decide) rfl (Nat.le_of_ble_eq_true rfl) ?_
  intro p e s m ag below meth c A ls Q C0 hl hw hQ
  have C0 : cd_CX G cI cZ sa sb p s m ag meth c cX5_nightCanBe 1 (some .boolean) wsX5_nightCanBe RX5 A := C0
  obtain ⟨⟨hx, hb, hml, hown, hts⟩, hr, hlocks, hA, hE⟩ := id C0
  have hK := hE.1
  have hL0 := hts (.fieldLink RX5 29 "CandleDebts" "pad" "LCandleDebts$Pad;") (by decide +kernel)
  have hL1 := hts (.fieldLink RX5 36 "CandleDebts" "play" "LCandleDebts$Play;") (by decide +kernel)
  have hL2 := hts (.fieldLink RX5 12 "CandleDebts" "town" "LCandleDebts$Town;") (by decide +kernel)
  have hl : lv_has ls 1 [(0, .ref (h 0))] := hl
  unfold f_X5_nightCanBe at hf
  refine lv_aload_n hx hb dX5_nightCanBe_0 rfl (lv_at hl 0 rfl) ?_
  refine va_get (D := G) (ci := 5) (v := .ref (hp 0)) (C := RX5) (T := TX5) (N := 8) hx hb hts nw_X5_nightCanBe_X5 hown hK hw.1 0 rfl rfl 4 (by decide) hL0 (fun _ h9 => h9) rfl dX5_nightCanBe_1 ?_
  obtain ⟨r1, e1, hf⟩ := cd_bind_some hf
  refine cd_callVw (As := []) (rest := []) (wr := (pc_top cZ h ht h1 h2 hp hy hv hz K) ++ (pc_town cI ht T) ++ (pc_play hy hs Y) ++ (pc_town cI hs S)) (wn := (pc_top cZ h ht h1 h2 hp hy hv hz K) ++ (pc_town cI ht T) ++ (pc_pad cI hp r1.2) ++ (pc_play hy hs Y) ++ (pc_town cI hs S)) C0 hw (c_X0_firstFault l G cI cZ sa sb hp P r1 e1) [13, 14] [0, 1, 2, 3, 4, 5, 6, 7, 8, 9, 10, 11, 12, 15, 16, 17, 18, 19, 20, 21, 22, 23, 24, 25, 26] [0, 1, 2, 3, 4, 5, 6, 7, 8, 9, 10, 11, 12, 25, 26, 13, 14, 15, 16, 17, 18, 19, 20, 21, 22, 23, 24] rfl rfl rfl rfl (by decide) rfl rfl 0 0 rfl rfl rfl (cwV 0 hts gX5_nightCanBe_X0_firstFault rfl rfl rfl (by decide +kernel) ⟨Nat.le_of_ble_eq_true rfl, Nat.le_of_ble_eq_true rfl⟩) rfl hl.1 (lv_room (Nat.le_of_ble_eq_true rfl)) dX5_nightCanBe_4 (fun H locs hw => ?_)
  refine lv_bipush (v := (-6 : Int32)) hx hb dX5_nightCanBe_7 (by decide) ?_
  obtain ⟨x2, e2, hf⟩ := cd_bind_some hf
  have K2 : ∀ (ls : Array Slot) (H : Heap) (locs : List Loc), lv_has ls 1 [] → cd_WS G A s.heap H locs ((pc_top cZ h ht h1 h2 hp hy hv hz K) ++ (pc_town cI ht T) ++ (pc_pad cI hp x2.2.1) ++ (pc_play hy hs x2.2.2.1) ++ (pc_town cI hs x2.2.2.2)) → W p l e rm_X5_nightCanBe s m ag below meth c H locs 0 0 Q (F0 m 35 ls [.int x2.1]) := by
    intro ls H locs hl hw
    obtain ⟨u3, e3, hf⟩ := cd_bind_some hf
    have z : some (x2.1, x2.2.1, x2.2.2.1, x2.2.2.2) = some o := hf
    cases z
    rw [hQ]
    exact cd_retz C0 hw (cd_zb_eq e3) dX5_nightCanBe_35
  refine lv_icmp_ne (tgt := 34) hx hb dX5_nightCanBe_9 (by decide) (fun c2 => ?_) (fun c2 => ?_)
  · have e2 := cd_ite_f c2 e2
    refine lv_iconst (v := (0 : Int32)) hx hb dX5_nightCanBe_34 (by decide) ?_
    have z : some ((0 : Int32), r1.2, Y, S) = some x2 := e2
    cases z
    exact K2 _ _ _ (lv_sub hl [] rfl) hw
  · have e2 := cd_ite_t c2 e2
    refine lv_aload_n hx hb dX5_nightCanBe_12 rfl (lv_at hl 0 rfl) ?_
    refine va_get (D := G) (ci := 5) (v := .ref (hy 0)) (C := RX5) (T := TX5) (N := 8) hx hb hts nw_X5_nightCanBe_X5 hown hK hw.1 0 rfl rfl 5 (by decide) hL1 (fun _ h9 => h9) rfl dX5_nightCanBe_13 ?_
    refine lv_aload_n hx hb dX5_nightCanBe_16 rfl (lv_at hl 0 rfl) ?_
    refine va_get (D := G) (ci := 5) (v := .ref (ht 0)) (C := RX5) (T := TX5) (N := 8) hx hb hts nw_X5_nightCanBe_X5 hown hK hw.1 0 rfl rfl 0 (by decide) hL2 (fun _ h9 => h9) rfl dX5_nightCanBe_17 ?_
    refine lv_aload_n hx hb dX5_nightCanBe_20 rfl (lv_at hl 0 rfl) ?_
    refine va_get (D := G) (ci := 5) (v := .ref (hp 0)) (C := RX5) (T := TX5) (N := 8) hx hb hts nw_X5_nightCanBe_X5 hown hK hw.1 0 rfl rfl 4 (by decide) hL0 (fun _ h9 => h9) rfl dX5_nightCanBe_21 ?_
    obtain ⟨r4, e4, e2⟩ := cd_bind_some e2
    refine cd_callVw (As := [.ref (ht 0), .ref (hp 0)]) (rest := []) (wr := (pc_top cZ h ht h1 h2 hp hy hv hz K)) (wn := (pc_top cZ h ht h1 h2 hp hy hv hz K) ++ (pc_town cI ht T) ++ (pc_pad cI hp r4.2.2.2) ++ (pc_play hy hs r4.2.1) ++ (pc_town cI hs r4.2.2.1)) C0 hw (c_X1_night l G cI cZ sa sb hy hs ht hp Y S T r1.2 r4 e4) [15, 16, 17, 18, 19, 20, 21, 22, 23, 24, 25, 26, 2, 3, 4, 5, 6, 7, 8, 9, 10, 11, 12, 13, 14] [0, 1] [0, 1, 14, 15, 16, 17, 18, 19, 20, 21, 22, 23, 24, 25, 26, 2, 3, 4, 5, 6, 7, 8, 9, 10, 11, 12, 13] rfl rfl rfl rfl (by decide) rfl rfl 0 1 rfl rfl rfl (cwV 2 hts gX5_nightCanBe_X1_night rfl rfl rfl (by decide +kernel) ⟨Nat.le_of_ble_eq_true rfl, Nat.le_of_ble_eq_true rfl⟩) rfl hl.1 (lv_room (Nat.le_of_ble_eq_true rfl)) dX5_nightCanBe_24 (fun H locs hw => ?_)
    refine lv_if_eq (tgt := 34) hx hb dX5_nightCanBe_27 (by decide) (fun c5 => ?_) (fun c5 => ?_)
    · have e2 := cd_ite_t c5 e2
      refine lv_iconst (v := (0 : Int32)) hx hb dX5_nightCanBe_34 (by decide) ?_
      have z : some ((0 : Int32), r4.2.2.2, r4.2.1, r4.2.2.1) = some x2 := e2
      cases z
      exact K2 _ _ _ (lv_sub hl [] rfl) hw
    · have e2 := cd_ite_f c5 e2
      refine lv_iconst (v := (1 : Int32)) hx hb dX5_nightCanBe_30 (by decide) ?_
      refine lv_goto (tgt := 35) hx hb dX5_nightCanBe_31 (by decide) ?_
      have z : some ((1 : Int32), r4.2.2.2, r4.2.1, r4.2.2.1) = some x2 := e2
      cases z
      exact K2 _ _ _ (lv_sub hl [] rfl) hw
abbrev rm_X5_behind : Room := { frames := 7, cells := 0, slots := 0, locals := 154 }
theorem nw_X5_behind_X1 : ∀ w ∈ u_ws RX1 TX1 6, w ∈ wsX5_behind := by decide +kernel
theorem nw_X5_behind_X3 : ∀ w ∈ u_ws RX3 TX3 14, w ∈ wsX5_behind := by decide +kernel
theorem nw_X5_behind_X5 : ∀ w ∈ u_ws RX5 TX5 8, w ∈ wsX5_behind := by decide +kernel
set_option maxHeartbeats 4000000 in
set_option maxRecDepth 100000 in
theorem c_X5_behind (l : Launch) (G : va_G) (cI cZ : ClassId) (sa sb : Nat) (h ht h1 h2 hp hy hs hv hz : Nat → Nat) (K T P Y S : Nat → Nat → Int32) (a0 : Int32) (a1 : Int32) (o : Int32 × (Nat → Nat → Int32) × (Nat → Nat → Int32) × (Nat → Nat → Int32)) (hf : f_X5_behind a0 a1 K T P Y S = some o) : cd_Ct l G cI cZ sa sb yX5_behind wsX5_behind rm_X5_behind [.ref (h 0), .int a0, .int a1] ((pc_top cZ h ht h1 h2 hp hy hv hz K) ++ (pc_town cI ht T) ++ (pc_pad cI hp P) ++ (pc_play hy hs Y) ++ (pc_town cI hs S)) ((pc_top cZ h ht h1 h2 hp hy hv hz K) ++ (pc_town cI ht T) ++ (pc_pad cI hp o.2.1) ++ (pc_play hy hs o.2.2.1) ++ (pc_town cI hs o.2.2.2)) (some (.int o.1)) := by
  refine cd_of (cc := cX5_behind) (maxL := 3) (ret := (some .int)) (by decide) rfl (Nat.le_of_ble_eq_true rfl) ?_
  intro p e s m ag below meth c A ls Q C0 hl hw hQ
  have C0 : cd_CX G cI cZ sa sb p s m ag meth c cX5_behind 3 (some .int) wsX5_behind RX5 A := C0
  obtain ⟨⟨hx, hb, hml, hown, hts⟩, hr, hlocks, hA, hE⟩ := id C0
  have hK := hE.1
  have hL0 := hts (.fieldLink RX5 36 "CandleDebts" "play" "LCandleDebts$Play;") (by decide +kernel)
  have hL1 := hts (.fieldLink RX5 107 "CandleDebts$Play" "scene" "LCandleDebts$Town;") (by decide +kernel)
  have hL2 := hts (.fieldLink RX5 65 "CandleDebts$Town" "wax" "[I") (by decide +kernel)
  have hL3 := hts (.fieldLink RX5 117 "CandleDebts$Town" "sums" "[I") (by decide +kernel)
  have hL4 := hts (.fieldLink RX5 120 "CandleDebts$Town" "trimmed" "[I") (by decide +kernel)
  have hl : lv_has ls 3 [(0, .ref (h 0)), (1, .int a0), (2, .int a1)] := hl
  unfold f_X5_behind at hf
  refine lv_iload_n hx hb dX5_behind_0 rfl (lv_at hl 1 rfl) ?_
  obtain ⟨r1, e1, hf⟩ := cd_bind_some hf
  refine cd_callS (As := [.int a0]) (rest := []) C0 hw (c_X5_isCandle l G cI cZ sa sb a0 r1 e1) [] rfl rfl (va_cwS 1 hts gX5_behind_X5_isCandle rfl rfl rfl (by decide +kernel) ⟨Nat.le_of_ble_eq_true rfl, Nat.le_of_ble_eq_true rfl⟩) rfl hl.1 (lv_room (Nat.le_of_ble_eq_true rfl)) dX5_behind_1 (fun H locs hw => ?_)
  refine lv_if_ne (tgt := 9) hx hb dX5_behind_4 (by decide) (fun c2 => ?_) (fun c2 => ?_)
  · have hf := cd_ite_f c2 hf
    refine lv_iload_n hx hb dX5_behind_9 rfl (lv_at hl 2 rfl) ?_
    refine lv_iconst (v := (0 : Int32)) hx hb dX5_behind_10 (by decide) ?_
    refine lv_iconst (v := (3 : Int32)) hx hb dX5_behind_11 (by decide) ?_
    obtain ⟨r3, e3, hf⟩ := cd_bind_some hf
    refine cd_callS (As := [.int a1, .int (0 : Int32), .int (3 : Int32)]) (rest := []) C0 hw (c_X5_within l G cI cZ sa sb a1 (0 : Int32) (3 : Int32) r3 e3) [] rfl rfl (va_cwS 3 hts gX5_behind_X5_within rfl rfl rfl (by decide +kernel) ⟨Nat.le_of_ble_eq_true rfl, Nat.le_of_ble_eq_true rfl⟩) rfl hl.1 (lv_room (Nat.le_of_ble_eq_true rfl)) dX5_behind_12 (fun H locs hw => ?_)
    refine lv_if_ne (tgt := 21) hx hb dX5_behind_15 (by decide) (fun c4 => ?_) (fun c4 => ?_)
    · have hf := cd_ite_f c4 hf
      refine lv_aload_n hx hb dX5_behind_21 rfl (lv_at hl 0 rfl) ?_
      obtain ⟨r5, e5, hf⟩ := cd_bind_some hf
      refine cd_callVw (As := []) (rest := []) (wr := ([] : va_W)) (wn := (pc_top cZ h ht h1 h2 hp hy hv hz K) ++ (pc_town cI ht T) ++ (pc_pad cI hp r5.2.1) ++ (pc_play hy hs r5.2.2.1) ++ (pc_town cI hs r5.2.2.2)) C0 hw (c_X5_nightCanBe l G cI cZ sa sb h ht h1 h2 hp hy hs hv hz K T P Y S r5 e5) [0, 1, 2, 3, 4, 5, 6, 7, 8, 9, 10, 11, 12, 13, 14, 15, 16, 17, 18, 19, 20, 21, 22, 23, 24, 25, 26] [] [0, 1, 2, 3, 4, 5, 6, 7, 8, 9, 10, 11, 12, 13, 14, 15, 16, 17, 18, 19, 20, 21, 22, 23, 24, 25, 26] rfl rfl rfl rfl (by decide) rfl rfl 0 5 rfl rfl rfl (cwV 0 hts gX5_behind_X5_nightCanBe rfl rfl rfl (by decide +kernel) ⟨Nat.le_of_ble_eq_true rfl, Nat.le_of_ble_eq_true rfl⟩) rfl hl.1 (lv_room (Nat.le_of_ble_eq_true rfl)) dX5_behind_22 (fun H locs hw => ?_)
      refine lv_if_ne (tgt := 31) hx hb dX5_behind_25 (by decide) (fun c6 => ?_) (fun c6 => ?_)
      · have hf := cd_ite_f c6 hf
        refine lv_iload_n hx hb dX5_behind_31 rfl (lv_at hl 2 rfl) ?_
        by_cases c7_0 : a1 = (0 : Int32)
        · have hf := cd_ite_t c7_0 hf
          refine lv_tableIn (off := 28) (tgt := 60) hx hb dX5_behind_32 (by rw [c7_0]; decide) (by rw [c7_0]; decide) (by rw [c7_0]; rfl) (by decide) ?_
          refine lv_aload_n hx hb dX5_behind_60 rfl (lv_at hl 0 rfl) ?_
          refine va_get (D := G) (ci := 5) (v := .ref (hy 0)) (C := RX5) (T := TX5) (N := 8) hx hb hts nw_X5_behind_X5 hown hK hw.1 0 rfl rfl 5 (by decide) hL0 (fun _ h9 => h9) rfl dX5_behind_61 ?_
          refine va_get (D := G) (ci := 1) (v := .ref (hs 0)) (C := RX1) (T := TX1) (N := 6) hx hb hts nw_X5_behind_X1 hown hK hw.1 15 rfl rfl 0 (by decide) hL1 (fun _ h9 => h9) rfl dX5_behind_64 ?_
          refine va_get (D := G) (ci := 3) (v := .ref (hs 1)) (C := RX3) (T := TX3) (N := 14) hx hb hts nw_X5_behind_X3 hown hK hw.1 16 rfl rfl 0 (by decide) hL2 (fun _ h9 => h9) rfl dX5_behind_67 ?_
          refine lv_iload_n hx hb dX5_behind_70 rfl (lv_at hl 1 rfl) ?_
          obtain ⟨v8, e8, hf⟩ := cd_bind_some hf
          refine cd_iald hx hb hK hw 17 rfl e8 dX5_behind_71 ?_
          have z : some (v8, r5.2.1, r5.2.2.1, r5.2.2.2) = some o := hf
          cases z
          rw [hQ]
          exact cd_reti C0 hw dX5_behind_72
        · have hf := cd_ite_f c7_0 hf
          by_cases c7_1 : a1 = (1 : Int32)
          · have hf := cd_ite_t c7_1 hf
            refine lv_tableIn (off := 41) (tgt := 73) hx hb dX5_behind_32 (by rw [c7_1]; decide) (by rw [c7_1]; decide) (by rw [c7_1]; rfl) (by decide) ?_
            refine lv_aload_n hx hb dX5_behind_73 rfl (lv_at hl 0 rfl) ?_
            refine va_get (D := G) (ci := 5) (v := .ref (hy 0)) (C := RX5) (T := TX5) (N := 8) hx hb hts nw_X5_behind_X5 hown hK hw.1 0 rfl rfl 5 (by decide) hL0 (fun _ h9 => h9) rfl dX5_behind_74 ?_
            refine va_get (D := G) (ci := 1) (v := .ref (hs 0)) (C := RX1) (T := TX1) (N := 6) hx hb hts nw_X5_behind_X1 hown hK hw.1 15 rfl rfl 0 (by decide) hL1 (fun _ h9 => h9) rfl dX5_behind_77 ?_
            refine lv_iload_n hx hb dX5_behind_80 rfl (lv_at hl 1 rfl) ?_
            obtain ⟨r9, e9, hf⟩ := cd_bind_some hf
            refine cd_callV (As := [.int a0]) (rest := []) C0 hw (c_X3_isLit l G cI cZ sa sb hs r5.2.2.2 a0 r9 e9) [16, 17, 18, 19, 20, 21, 22, 23, 24, 25, 26] rfl rfl 0 3 rfl rfl rfl (cwV 1 hts gX5_behind_X3_isLit rfl rfl rfl (by decide +kernel) ⟨Nat.le_of_ble_eq_true rfl, Nat.le_of_ble_eq_true rfl⟩) rfl hl.1 (lv_room (Nat.le_of_ble_eq_true rfl)) dX5_behind_81 (fun H locs hw => ?_)
            obtain ⟨x10, e10, hf⟩ := cd_bind_some hf
            have K10 : ∀ (ls : Array Slot) (H : Heap) (locs : List Loc), lv_has ls 3 [] → cd_WS G A s.heap H locs ((pc_top cZ h ht h1 h2 hp hy hv hz K) ++ (pc_town cI ht T) ++ (pc_pad cI hp r5.2.1) ++ (pc_play hy hs r5.2.2.1) ++ (pc_town cI hs r5.2.2.2)) → W p l e rm_X5_behind s m ag below meth c H locs 0 0 Q (F0 m 92 ls [.int x10]) := by
              intro ls H locs hl hw
              have z : some (x10, r5.2.1, r5.2.2.1, r5.2.2.2) = some o := hf
              cases z
              rw [hQ]
              exact cd_reti C0 hw dX5_behind_92
            refine lv_if_eq (tgt := 91) hx hb dX5_behind_84 (by decide) (fun c10 => ?_) (fun c10 => ?_)
            · have e10 := cd_ite_t c10 e10
              refine lv_iconst (v := (0 : Int32)) hx hb dX5_behind_91 (by decide) ?_
              have z : some (0 : Int32) = some x10 := e10
              cases z
              exact K10 _ _ _ (lv_sub hl [] rfl) hw
            · have e10 := cd_ite_f c10 e10
              refine lv_iconst (v := (1 : Int32)) hx hb dX5_behind_87 (by decide) ?_
              refine lv_goto (tgt := 92) hx hb dX5_behind_88 (by decide) ?_
              have z : some (1 : Int32) = some x10 := e10
              cases z
              exact K10 _ _ _ (lv_sub hl [] rfl) hw
          · have hf := cd_ite_f c7_1 hf
            by_cases c7_2 : a1 = (2 : Int32)
            · have hf := cd_ite_t c7_2 hf
              refine lv_tableIn (off := 61) (tgt := 93) hx hb dX5_behind_32 (by rw [c7_2]; decide) (by rw [c7_2]; decide) (by rw [c7_2]; rfl) (by decide) ?_
              refine lv_aload_n hx hb dX5_behind_93 rfl (lv_at hl 0 rfl) ?_
              refine va_get (D := G) (ci := 5) (v := .ref (hy 0)) (C := RX5) (T := TX5) (N := 8) hx hb hts nw_X5_behind_X5 hown hK hw.1 0 rfl rfl 5 (by decide) hL0 (fun _ h9 => h9) rfl dX5_behind_94 ?_
              refine va_get (D := G) (ci := 1) (v := .ref (hs 0)) (C := RX1) (T := TX1) (N := 6) hx hb hts nw_X5_behind_X1 hown hK hw.1 15 rfl rfl 0 (by decide) hL1 (fun _ h9 => h9) rfl dX5_behind_97 ?_
              refine va_get (D := G) (ci := 3) (v := .ref (hs 6)) (C := RX3) (T := TX3) (N := 14) hx hb hts nw_X5_behind_X3 hown hK hw.1 16 rfl rfl 5 (by decide) hL3 (fun _ h9 => h9) rfl dX5_behind_100 ?_
              refine lv_iload_n hx hb dX5_behind_103 rfl (lv_at hl 1 rfl) ?_
              obtain ⟨v11, e11, hf⟩ := cd_bind_some hf
              refine cd_iald hx hb hK hw 22 rfl e11 dX5_behind_104 ?_
              have z : some (v11, r5.2.1, r5.2.2.1, r5.2.2.2) = some o := hf
              cases z
              rw [hQ]
              exact cd_reti C0 hw dX5_behind_105
            · have hf := cd_ite_f c7_2 hf
              refine lv_tableOut (tgt := 106) hx hb dX5_behind_32 (by have q0 : a1.toInt ≠ 0 := cd_ne c7_0; have q1 : a1.toInt ≠ 1 := cd_ne c7_1; have q2 : a1.toInt ≠ 2 := cd_ne c7_2; omega) (by decide) ?_
              refine lv_aload_n hx hb dX5_behind_106 rfl (lv_at hl 0 rfl) ?_
              refine va_get (D := G) (ci := 5) (v := .ref (hy 0)) (C := RX5) (T := TX5) (N := 8) hx hb hts nw_X5_behind_X5 hown hK hw.1 0 rfl rfl 5 (by decide) hL0 (fun _ h9 => h9) rfl dX5_behind_107 ?_
              refine va_get (D := G) (ci := 1) (v := .ref (hs 0)) (C := RX1) (T := TX1) (N := 6) hx hb hts nw_X5_behind_X1 hown hK hw.1 15 rfl rfl 0 (by decide) hL1 (fun _ h9 => h9) rfl dX5_behind_110 ?_
              refine va_get (D := G) (ci := 3) (v := .ref (hs 2)) (C := RX3) (T := TX3) (N := 14) hx hb hts nw_X5_behind_X3 hown hK hw.1 16 rfl rfl 1 (by decide) hL4 (fun _ h9 => h9) rfl dX5_behind_113 ?_
              refine lv_iload_n hx hb dX5_behind_116 rfl (lv_at hl 1 rfl) ?_
              obtain ⟨v12, e12, hf⟩ := cd_bind_some hf
              refine cd_iald hx hb hK hw 18 rfl e12 dX5_behind_117 ?_
              have z : some (v12, r5.2.1, r5.2.2.1, r5.2.2.2) = some o := hf
              cases z
              rw [hQ]
              exact cd_reti C0 hw dX5_behind_118
      · have hf := cd_ite_t c6 hf
        refine lv_bipush (v := (-5 : Int32)) hx hb dX5_behind_28 (by decide) ?_
        have z : some ((-5 : Int32), r5.2.1, r5.2.2.1, r5.2.2.2) = some o := hf
        cases z
        rw [hQ]
        exact cd_reti C0 hw dX5_behind_30
    · have hf := cd_ite_t c4 hf
      refine lv_bipush (v := (-2 : Int32)) hx hb dX5_behind_18 (by decide) ?_
      have z : some ((-2 : Int32), P, Y, S) = some o := hf
      cases z
      rw [hQ]
      exact cd_reti C0 hw dX5_behind_20
  · have hf := cd_ite_t c2 hf
    refine lv_iconst (v := (-1 : Int32)) hx hb dX5_behind_7 (by decide) ?_
    have z : some ((-1 : Int32), P, Y, S) = some o := hf
    cases z
    rw [hQ]
    exact cd_reti C0 hw dX5_behind_8
abbrev rm_X5_isOne : Room := { frames := 1, cells := 0, slots := 0, locals := 22 }
set_option maxHeartbeats 4000000 in
set_option maxRecDepth 100000 in
theorem c_X5_isOne (l : Launch) (G : va_G) (cI cZ : ClassId) (sa sb : Nat) (a0 : Int32) (o : Int32) (hf : f_X5_isOne a0 = some o) : cd_Ct l G cI cZ sa sb yX5_isOne wsX5_isOne rm_X5_isOne [.int a0] (([] : va_W)) (([] : va_W)) (some (.int o)) := by
  refine cd_of (cc := cX5_isOne) (maxL := 1) (ret := (some .boolean)) (by decide) rfl (Nat.le_of_ble_eq_true rfl) ?_
  intro p e s m ag below meth c A ls Q C0 hl hw hQ
  have C0 : cd_CX G cI cZ sa sb p s m ag meth c cX5_isOne 1 (some .boolean) wsX5_isOne RX5 A := C0
  obtain ⟨⟨hx, hb, hml, hown, hts⟩, hr, hlocks, hA, hE⟩ := id C0
  have hK := hE.1
  have hl : lv_has ls 1 [(0, .int a0)] := hl
  unfold f_X5_isOne at hf
  refine lv_iload_n hx hb dX5_isOne_0 rfl (lv_at hl 0 rfl) ?_
  refine lv_iconst (v := (0 : Int32)) hx hb dX5_isOne_1 (by decide) ?_
  refine lv_iconst (v := (5 : Int32)) hx hb dX5_isOne_2 (by decide) ?_
  obtain ⟨r1, e1, hf⟩ := cd_bind_some hf
  refine cd_callS (As := [.int a0, .int (0 : Int32), .int (5 : Int32)]) (rest := []) C0 hw (c_X5_within l G cI cZ sa sb a0 (0 : Int32) (5 : Int32) r1 e1) [] rfl rfl (va_cwS 3 hts gX5_isOne_X5_within rfl rfl rfl (by decide +kernel) ⟨Nat.le_of_ble_eq_true rfl, Nat.le_of_ble_eq_true rfl⟩) rfl hl.1 (lv_room (Nat.le_of_ble_eq_true rfl)) dX5_isOne_3 (fun H locs hw => ?_)
  obtain ⟨u2, e2, hf⟩ := cd_bind_some hf
  have z : some r1 = some o := hf
  cases z
  rw [hQ]
  exact cd_retz C0 hw (cd_zb_eq e2) dX5_isOne_6
abbrev rm_X5_candle : Room := { frames := 3, cells := 0, slots := 0, locals := 67 }
theorem nw_X5_candle_X3 : ∀ w ∈ u_ws RX3 TX3 14, w ∈ wsX5_candle := by decide +kernel
theorem nw_X5_candle_X5 : ∀ w ∈ u_ws RX5 TX5 8, w ∈ wsX5_candle := by decide +kernel
set_option maxHeartbeats 4000000 in
set_option maxRecDepth 100000 in
theorem c_X5_candle (l : Launch) (G : va_G) (cI cZ : ClassId) (sa sb : Nat) (h ht h1 h2 hp hy hs hv hz : Nat → Nat) (K T : Nat → Nat → Int32) (a0 : Int32) (a1 : Int32) (a2 : Int32) (a3 : Int32) (a4 : Int32) (o : Int32 × (Nat → Nat → Int32)) (hf : f_X5_candle a0 a1 a2 a3 a4 K T = some o) : cd_Ct l G cI cZ sa sb yX5_candle wsX5_candle rm_X5_candle [.ref (h 0), .int a0, .int a1, .int a2, .int a3, .int a4] ((pc_top cZ h ht h1 h2 hp hy hv hz K) ++ (pc_town cI ht T)) ((pc_top cZ h ht h1 h2 hp hy hv hz K) ++ (pc_town cI ht o.2)) (some (.int o.1)) := by
  refine cd_of (cc := cX5_candle) (maxL := 7) (ret := (some .int)) (by decide) rfl (Nat.le_of_ble_eq_true rfl) ?_
  intro p e s m ag below meth c A ls Q C0 hl hw hQ
  have C0 : cd_CX G cI cZ sa sb p s m ag meth c cX5_candle 7 (some .int) wsX5_candle RX5 A := C0
  obtain ⟨⟨hx, hb, hml, hown, hts⟩, hr, hlocks, hA, hE⟩ := id C0
  have hK := hE.1
  have hL0 := hts (.fieldLink RX5 12 "CandleDebts" "town" "LCandleDebts$Town;") (by decide +kernel)
  have hL1 := hts (.fieldLink RX5 65 "CandleDebts$Town" "wax" "[I") (by decide +kernel)
  have hl : lv_has ls 7 [(0, .ref (h 0)), (1, .int a0), (2, .int a1), (3, .int a2), (4, .int a3), (5, .int a4)] := hl
  unfold f_X5_candle at hf
  refine lv_iload_n hx hb dX5_candle_0 rfl (lv_at hl 1 rfl) ?_
  obtain ⟨r1, e1, hf⟩ := cd_bind_some hf
  refine cd_callS (As := [.int a0]) (rest := []) C0 hw (c_X5_isCandle l G cI cZ sa sb a0 r1 e1) [] rfl rfl (va_cwS 1 hts gX5_candle_X5_isCandle rfl rfl rfl (by decide +kernel) ⟨Nat.le_of_ble_eq_true rfl, Nat.le_of_ble_eq_true rfl⟩) rfl hl.1 (lv_room (Nat.le_of_ble_eq_true rfl)) dX5_candle_1 (fun H locs hw => ?_)
  refine lv_if_eq (tgt := 22) hx hb dX5_candle_4 (by decide) (fun c2 => ?_) (fun c2 => ?_)
  · have hf := cd_ite_t c2 hf
    refine lv_iconst (v := (-1 : Int32)) hx hb dX5_candle_22 (by decide) ?_
    have z : some ((-1 : Int32), T) = some o := hf
    cases z
    rw [hQ]
    exact cd_reti C0 hw dX5_candle_23
  · have hf := cd_ite_f c2 hf
    refine lv_iload_n hx hb dX5_candle_7 rfl (lv_at hl 3 rfl) ?_
    obtain ⟨r3, e3, hf⟩ := cd_bind_some hf
    refine cd_callS (As := [.int a2]) (rest := []) C0 hw (c_X5_isOne l G cI cZ sa sb a2 r3 e3) [] rfl rfl (va_cwS 1 hts gX5_candle_X5_isOne rfl rfl rfl (by decide +kernel) ⟨Nat.le_of_ble_eq_true rfl, Nat.le_of_ble_eq_true rfl⟩) rfl hl.1 (lv_room (Nat.le_of_ble_eq_true rfl)) dX5_candle_8 (fun H locs hw => ?_)
    refine lv_if_eq (tgt := 22) hx hb dX5_candle_11 (by decide) (fun c4 => ?_) (fun c4 => ?_)
    · have hf := cd_ite_t c4 hf
      refine lv_iconst (v := (-1 : Int32)) hx hb dX5_candle_22 (by decide) ?_
      have z : some ((-1 : Int32), T) = some o := hf
      cases z
      rw [hQ]
      exact cd_reti C0 hw dX5_candle_23
    · have hf := cd_ite_f c4 hf
      refine lv_iload hx hb dX5_candle_14 (lv_at hl 4 rfl) ?_
      obtain ⟨r5, e5, hf⟩ := cd_bind_some hf
      refine cd_callS (As := [.int a3]) (rest := []) C0 hw (c_X5_isOne l G cI cZ sa sb a3 r5 e5) [] rfl rfl (va_cwS 1 hts gX5_candle_X5_isOne rfl rfl rfl (by decide +kernel) ⟨Nat.le_of_ble_eq_true rfl, Nat.le_of_ble_eq_true rfl⟩) rfl hl.1 (lv_room (Nat.le_of_ble_eq_true rfl)) dX5_candle_16 (fun H locs hw => ?_)
      refine lv_if_ne (tgt := 24) hx hb dX5_candle_19 (by decide) (fun c6 => ?_) (fun c6 => ?_)
      · have hf := cd_ite_f c6 hf
        refine lv_iload_n hx hb dX5_candle_24 rfl (lv_at hl 2 rfl) ?_
        refine lv_iconst (v := (0 : Int32)) hx hb dX5_candle_25 (by decide) ?_
        refine lv_sipush (v := (999 : Int32)) hx hb dX5_candle_26 (by decide) ?_
        obtain ⟨r7, e7, hf⟩ := cd_bind_some hf
        refine cd_callS (As := [.int a1, .int (0 : Int32), .int (999 : Int32)]) (rest := []) C0 hw (c_X5_within l G cI cZ sa sb a1 (0 : Int32) (999 : Int32) r7 e7) [] rfl rfl (va_cwS 3 hts gX5_candle_X5_within rfl rfl rfl (by decide +kernel) ⟨Nat.le_of_ble_eq_true rfl, Nat.le_of_ble_eq_true rfl⟩) rfl hl.1 (lv_room (Nat.le_of_ble_eq_true rfl)) dX5_candle_29 (fun H locs hw => ?_)
        refine lv_if_eq (tgt := 47) hx hb dX5_candle_32 (by decide) (fun c8 => ?_) (fun c8 => ?_)
        · have hf := cd_ite_t c8 hf
          refine lv_bipush (v := (-2 : Int32)) hx hb dX5_candle_47 (by decide) ?_
          have z : some ((-2 : Int32), T) = some o := hf
          cases z
          rw [hQ]
          exact cd_reti C0 hw dX5_candle_49
        · have hf := cd_ite_f c8 hf
          refine lv_iload hx hb dX5_candle_35 (lv_at hl 5 rfl) ?_
          refine lv_iconst (v := (0 : Int32)) hx hb dX5_candle_37 (by decide) ?_
          refine lv_sipush (v := (999 : Int32)) hx hb dX5_candle_38 (by decide) ?_
          obtain ⟨r9, e9, hf⟩ := cd_bind_some hf
          refine cd_callS (As := [.int a4, .int (0 : Int32), .int (999 : Int32)]) (rest := []) C0 hw (c_X5_within l G cI cZ sa sb a4 (0 : Int32) (999 : Int32) r9 e9) [] rfl rfl (va_cwS 3 hts gX5_candle_X5_within rfl rfl rfl (by decide +kernel) ⟨Nat.le_of_ble_eq_true rfl, Nat.le_of_ble_eq_true rfl⟩) rfl hl.1 (lv_room (Nat.le_of_ble_eq_true rfl)) dX5_candle_41 (fun H locs hw => ?_)
          refine lv_if_ne (tgt := 50) hx hb dX5_candle_44 (by decide) (fun c10 => ?_) (fun c10 => ?_)
          · have hf := cd_ite_f c10 hf
            refine lv_aload_n hx hb dX5_candle_50 rfl (lv_at hl 0 rfl) ?_
            refine va_get (D := G) (ci := 5) (v := .ref (ht 0)) (C := RX5) (T := TX5) (N := 8) hx hb hts nw_X5_candle_X5 hown hK hw.1 0 rfl rfl 0 (by decide) hL0 (fun _ h9 => h9) rfl dX5_candle_51 ?_
            refine va_get (D := G) (ci := 3) (v := .ref (ht 1)) (C := RX3) (T := TX3) (N := 14) hx hb hts nw_X5_candle_X3 hown hK hw.1 2 rfl rfl 0 (by decide) hL1 (fun _ h9 => h9) rfl dX5_candle_54 ?_
            refine lv_iload_n hx hb dX5_candle_57 rfl (lv_at hl 1 rfl) ?_
            obtain ⟨v11, e11, hf⟩ := cd_bind_some hf
            refine cd_iald hx hb hK hw 3 rfl e11 dX5_candle_58 ?_
            refine lv_istore (lv' := [(6, .int v11), (0, .ref (h 0)), (1, .int a0), (2, .int a1), (3, .int a2), (4, .int a3), (5, .int a4)]) hx hb dX5_candle_59 hl (by decide) rfl (fun ls hl => ?_)
            refine lv_aload_n hx hb dX5_candle_61 rfl (lv_at hl 1 rfl) ?_
            refine va_get (D := G) (ci := 5) (v := .ref (ht 0)) (C := RX5) (T := TX5) (N := 8) hx hb hts nw_X5_candle_X5 hown hK hw.1 0 rfl rfl 0 (by decide) hL0 (fun _ h9 => h9) rfl dX5_candle_62 ?_
            refine lv_iload_n hx hb dX5_candle_65 rfl (lv_at hl 2 rfl) ?_
            refine lv_iload_n hx hb dX5_candle_66 rfl (lv_at hl 3 rfl) ?_
            refine lv_iload_n hx hb dX5_candle_67 rfl (lv_at hl 4 rfl) ?_
            refine lv_iload hx hb dX5_candle_68 (lv_at hl 5 rfl) ?_
            refine lv_iload hx hb dX5_candle_70 (lv_at hl 6 rfl) ?_
            obtain ⟨r12, e12, hf⟩ := cd_bind_some hf
            refine cd_callVw (As := [.int a0, .int a1, .int a2, .int a3, .int a4]) (rest := []) (wr := (pc_top cZ h ht h1 h2 hp hy hv hz K)) (wn := (pc_top cZ h ht h1 h2 hp hy hv hz K) ++ (pc_town cI ht r12)) C0 hw (c_X3_place l G cI cZ sa sb ht T a0 a1 a2 a3 a4 r12 e12) [2, 3, 4, 5, 6, 7, 8, 9, 10, 11, 12] [0, 1] [0, 1, 2, 3, 4, 5, 6, 7, 8, 9, 10, 11, 12] rfl rfl rfl rfl (by decide) rfl rfl 0 3 rfl rfl rfl (cwV 5 hts gX5_candle_X3_place rfl rfl rfl (by decide +kernel) ⟨Nat.le_of_ble_eq_true rfl, Nat.le_of_ble_eq_true rfl⟩) rfl hl.1 (lv_room (Nat.le_of_ble_eq_true rfl)) dX5_candle_72 (fun H locs hw => ?_)
            refine lv_iload hx hb dX5_candle_75 (lv_at hl 0 rfl) ?_
            have z : some (v11, r12) = some o := hf
            cases z
            rw [hQ]
            exact cd_reti C0 hw dX5_candle_77
          · have hf := cd_ite_t c10 hf
            refine lv_bipush (v := (-2 : Int32)) hx hb dX5_candle_47 (by decide) ?_
            have z : some ((-2 : Int32), T) = some o := hf
            cases z
            rw [hQ]
            exact cd_reti C0 hw dX5_candle_49
      · have hf := cd_ite_t c6 hf
        refine lv_iconst (v := (-1 : Int32)) hx hb dX5_candle_22 (by decide) ?_
        have z : some ((-1 : Int32), T) = some o := hf
        cases z
        rw [hQ]
        exact cd_reti C0 hw dX5_candle_23
abbrev rm_X5_done : Room := { frames := 7, cells := 0, slots := 0, locals := 154 }
theorem nw_X5_done_X0 : ∀ w ∈ u_ws RX0 TX0 6, w ∈ wsX5_done := by decide +kernel
theorem nw_X5_done_X1 : ∀ w ∈ u_ws RX1 TX1 6, w ∈ wsX5_done := by decide +kernel
theorem nw_X5_done_X5 : ∀ w ∈ u_ws RX5 TX5 8, w ∈ wsX5_done := by decide +kernel
set_option maxHeartbeats 4000000 in
set_option maxRecDepth 100000 in
theorem c_X5_done (l : Launch) (G : va_G) (cI cZ : ClassId) (sa sb : Nat) (h ht h1 h2 hp hy hs hv hz : Nat → Nat) (K T P Y S : Nat → Nat → Int32) (o : Int32 × (Nat → Nat → Int32) × (Nat → Nat → Int32) × (Nat → Nat → Int32) × (Nat → Nat → Int32)) (hf : f_X5_done K T P Y S = some o) : cd_Ct l G cI cZ sa sb yX5_done wsX5_done rm_X5_done [.ref (h 0)] ((pc_top cZ h ht h1 h2 hp hy hv hz K) ++ (pc_town cI ht T) ++ (pc_pad cI hp P) ++ (pc_play hy hs Y) ++ (pc_town cI hs S)) ((pc_top cZ h ht h1 h2 hp hy hv hz K) ++ (pc_town cI ht o.2.1) ++ (pc_pad cI hp o.2.2.1) ++ (pc_play hy hs o.2.2.2.1) ++ (pc_town cI hs o.2.2.2.2)) (some (.int o.1)) := by
  refine cd_of (cc := cX5_done) (maxL := 1) (ret := (some .int)) (by decide) rfl (Nat.le_of_ble_eq_true rfl) ?_
  intro p e s m ag below meth c A ls Q C0 hl hw hQ
  have C0 : cd_CX G cI cZ sa sb p s m ag meth c cX5_done 1 (some .int) wsX5_done RX5 A := C0
  obtain ⟨⟨hx, hb, hml, hown, hts⟩, hr, hlocks, hA, hE⟩ := id C0
  have hK := hE.1
  have hL0 := hts (.fieldLink RX5 12 "CandleDebts" "town" "LCandleDebts$Town;") (by decide +kernel)
  have hL1 := hts (.fieldLink RX5 36 "CandleDebts" "play" "LCandleDebts$Play;") (by decide +kernel)
  have hL2 := hts (.fieldLink RX5 107 "CandleDebts$Play" "scene" "LCandleDebts$Town;") (by decide +kernel)
  have hL3 := hts (.fieldLink RX5 29 "CandleDebts" "pad" "LCandleDebts$Pad;") (by decide +kernel)
  have hL4 := hts (.fieldLink RX5 86 "CandleDebts$Pad" "count" "I") (by decide +kernel)
  have hL5 := hts (.fieldLink RX5 97 "CandleDebts$Play" "acts" "I") (by decide +kernel)
  have hl : lv_has ls 1 [(0, .ref (h 0))] := hl
  unfold f_X5_done at hf
  refine lv_aload_n hx hb dX5_done_0 rfl (lv_at hl 0 rfl) ?_
  obtain ⟨r1, e1, hf⟩ := cd_bind_some hf
  refine cd_callVw (As := []) (rest := []) (wr := ([] : va_W)) (wn := (pc_top cZ h ht h1 h2 hp hy hv hz K) ++ (pc_town cI ht T) ++ (pc_pad cI hp r1.2.1) ++ (pc_play hy hs r1.2.2.1) ++ (pc_town cI hs r1.2.2.2)) C0 hw (c_X5_nightCanBe l G cI cZ sa sb h ht h1 h2 hp hy hs hv hz K T P Y S r1 e1) [0, 1, 2, 3, 4, 5, 6, 7, 8, 9, 10, 11, 12, 13, 14, 15, 16, 17, 18, 19, 20, 21, 22, 23, 24, 25, 26] [] [0, 1, 2, 3, 4, 5, 6, 7, 8, 9, 10, 11, 12, 13, 14, 15, 16, 17, 18, 19, 20, 21, 22, 23, 24, 25, 26] rfl rfl rfl rfl (by decide) rfl rfl 0 5 rfl rfl rfl (cwV 0 hts gX5_done_X5_nightCanBe rfl rfl rfl (by decide +kernel) ⟨Nat.le_of_ble_eq_true rfl, Nat.le_of_ble_eq_true rfl⟩) rfl hl.1 (lv_room (Nat.le_of_ble_eq_true rfl)) dX5_done_1 (fun H locs hw => ?_)
  refine lv_if_ne (tgt := 10) hx hb dX5_done_4 (by decide) (fun c2 => ?_) (fun c2 => ?_)
  · have hf := cd_ite_f c2 hf
    refine lv_aload_n hx hb dX5_done_10 rfl (lv_at hl 0 rfl) ?_
    refine va_get (D := G) (ci := 5) (v := .ref (ht 0)) (C := RX5) (T := TX5) (N := 8) hx hb hts nw_X5_done_X5 hown hK hw.1 0 rfl rfl 0 (by decide) hL0 (fun _ h9 => h9) rfl dX5_done_11 ?_
    refine lv_aload_n hx hb dX5_done_14 rfl (lv_at hl 0 rfl) ?_
    refine va_get (D := G) (ci := 5) (v := .ref (hy 0)) (C := RX5) (T := TX5) (N := 8) hx hb hts nw_X5_done_X5 hown hK hw.1 0 rfl rfl 5 (by decide) hL1 (fun _ h9 => h9) rfl dX5_done_15 ?_
    refine va_get (D := G) (ci := 1) (v := .ref (hs 0)) (C := RX1) (T := TX1) (N := 6) hx hb hts nw_X5_done_X1 hown hK hw.1 15 rfl rfl 0 (by decide) hL2 (fun _ h9 => h9) rfl dX5_done_18 ?_
    obtain ⟨r3, e3, hf⟩ := cd_bind_some hf
    refine cd_callVw (As := [.ref (hs 0)]) (rest := []) (wr := (pc_top cZ h ht h1 h2 hp hy hv hz K) ++ (pc_pad cI hp r1.2.1) ++ (pc_play hy hs r1.2.2.1)) (wn := (pc_top cZ h ht h1 h2 hp hy hv hz K) ++ (pc_town cI ht r3) ++ (pc_pad cI hp r1.2.1) ++ (pc_play hy hs r1.2.2.1) ++ (pc_town cI hs r1.2.2.2)) C0 hw (c_X3_copyFrom l G cI cZ sa sb ht hs T r1.2.2.2 r3 e3) [2, 3, 4, 5, 6, 7, 8, 9, 10, 11, 12, 16, 17, 18, 19, 20, 21, 22, 23, 24, 25, 26] [0, 1, 13, 14, 15] [0, 1, 5, 6, 7, 8, 9, 10, 11, 12, 13, 14, 15, 2, 3, 4, 16, 17, 18, 19, 20, 21, 22, 23, 24, 25, 26] rfl rfl rfl rfl (by decide) rfl rfl 0 3 rfl rfl rfl (cwV 1 hts gX5_done_X3_copyFrom rfl rfl rfl (by decide +kernel) ⟨Nat.le_of_ble_eq_true rfl, Nat.le_of_ble_eq_true rfl⟩) rfl hl.1 (lv_room (Nat.le_of_ble_eq_true rfl)) dX5_done_21 (fun H locs hw => ?_)
    refine lv_aload_n hx hb dX5_done_24 rfl (lv_at hl 0 rfl) ?_
    refine va_get (D := G) (ci := 5) (v := .ref (hp 0)) (C := RX5) (T := TX5) (N := 8) hx hb hts nw_X5_done_X5 hown hK hw.1 0 rfl rfl 4 (by decide) hL3 (fun _ h9 => h9) rfl dX5_done_25 ?_
    refine lv_iconst (v := (0 : Int32)) hx hb dX5_done_28 (by decide) ?_
    refine va_put (D := G) (ci := 0) (v := .int (0 : Int32)) (ty := .int) (C := RX0) (T := TX0) (N := 6) hx hb hts nw_X5_done_X0 tyX0 tyX0_ok nmX0 hown hK hw.1 hw.2.1 hw.2.2 13 rfl rfl 1 (by decide) hL4 (fun _ h9 => h9) rfl (by decide +kernel) rfl rfl (Nat.le_of_ble_eq_true rfl) dX5_done_29 (fun H locs hP hD hS => ?_)
    have hw : cd_WS G A s.heap H locs ((pc_top cZ h ht h1 h2 hp hy hv hz K) ++ (pc_town cI ht r3) ++ (pc_pad cI hp (cd_fld r1.2.1 1 (0 : Int32))) ++ (pc_play hy hs r1.2.2.1) ++ (pc_town cI hs r1.2.2.2)) := ⟨hP, hD, hS⟩
    refine lv_aload_n hx hb dX5_done_32 rfl (lv_at hl 0 rfl) ?_
    refine va_get (D := G) (ci := 5) (v := .ref (hy 0)) (C := RX5) (T := TX5) (N := 8) hx hb hts nw_X5_done_X5 hown hK hw.1 0 rfl rfl 5 (by decide) hL1 (fun _ h9 => h9) rfl dX5_done_33 ?_
    refine va_get (D := G) (ci := 1) (v := .int (r1.2.2.1 1 0)) (C := RX1) (T := TX1) (N := 6) hx hb hts nw_X5_done_X1 hown hK hw.1 15 rfl rfl 1 (by decide) hL5 (fun _ h9 => h9) rfl dX5_done_36 ?_
    have z : some ((r1.2.2.1 1 0), r3, (cd_fld r1.2.1 1 (0 : Int32)), r1.2.2.1, r1.2.2.2) = some o := hf
    cases z
    rw [hQ]
    exact cd_reti C0 hw dX5_done_39
  · have hf := cd_ite_t c2 hf
    refine lv_bipush (v := (-5 : Int32)) hx hb dX5_done_7 (by decide) ?_
    have z : some ((-5 : Int32), T, r1.2.1, r1.2.2.1, r1.2.2.2) = some o := hf
    cases z
    rw [hQ]
    exact cd_reti C0 hw dX5_done_9
abbrev rm_X5_draught : Room := { frames := 2, cells := 0, slots := 0, locals := 42 }
theorem nw_X5_draught_X3 : ∀ w ∈ u_ws RX3 TX3 14, w ∈ wsX5_draught := by decide +kernel
theorem nw_X5_draught_X5 : ∀ w ∈ u_ws RX5 TX5 8, w ∈ wsX5_draught := by decide +kernel
set_option maxHeartbeats 4000000 in
set_option maxRecDepth 100000 in
theorem c_X5_draught (l : Launch) (G : va_G) (cI cZ : ClassId) (sa sb : Nat) (h ht h1 h2 hp hy hs hv hz : Nat → Nat) (K T : Nat → Nat → Int32) (a0 : Int32) (a1 : Int32) (o : Int32 × (Nat → Nat → Int32)) (hf : f_X5_draught a0 a1 K T = some o) : cd_Ct l G cI cZ sa sb yX5_draught wsX5_draught rm_X5_draught [.ref (h 0), .int a0, .int a1] ((pc_top cZ h ht h1 h2 hp hy hv hz K) ++ (pc_town cI ht T)) ((pc_top cZ h ht h1 h2 hp hy hv hz K) ++ (pc_town cI ht o.2)) (some (.int o.1)) := by
  refine cd_of (cc := cX5_draught) (maxL := 4) (ret := (some .int)) (by decide) rfl (Nat.le_of_ble_eq_true rfl) ?_
  intro p e s m ag below meth c A ls Q C0 hl hw hQ
  have C0 : cd_CX G cI cZ sa sb p s m ag meth c cX5_draught 4 (some .int) wsX5_draught RX5 A := C0
  obtain ⟨⟨hx, hb, hml, hown, hts⟩, hr, hlocks, hA, hE⟩ := id C0
  have hK := hE.1
  have hL0 := hts (.fieldLink RX5 12 "CandleDebts" "town" "LCandleDebts$Town;") (by decide +kernel)
  have hL1 := hts (.fieldLink RX5 73 "CandleDebts$Town" "draughts" "[I") (by decide +kernel)
  have hl : lv_has ls 4 [(0, .ref (h 0)), (1, .int a0), (2, .int a1)] := hl
  unfold f_X5_draught at hf
  refine lv_iload_n hx hb dX5_draught_0 rfl (lv_at hl 1 rfl) ?_
  obtain ⟨r1, e1, hf⟩ := cd_bind_some hf
  refine cd_callS (As := [.int a0]) (rest := []) C0 hw (c_X5_isCandle l G cI cZ sa sb a0 r1 e1) [] rfl rfl (va_cwS 1 hts gX5_draught_X5_isCandle rfl rfl rfl (by decide +kernel) ⟨Nat.le_of_ble_eq_true rfl, Nat.le_of_ble_eq_true rfl⟩) rfl hl.1 (lv_room (Nat.le_of_ble_eq_true rfl)) dX5_draught_1 (fun H locs hw => ?_)
  refine lv_if_ne (tgt := 9) hx hb dX5_draught_4 (by decide) (fun c2 => ?_) (fun c2 => ?_)
  · have hf := cd_ite_f c2 hf
    refine lv_iload_n hx hb dX5_draught_9 rfl (lv_at hl 2 rfl) ?_
    refine lv_iconst (v := (0 : Int32)) hx hb dX5_draught_10 (by decide) ?_
    refine lv_bipush (v := (9 : Int32)) hx hb dX5_draught_11 (by decide) ?_
    obtain ⟨r3, e3, hf⟩ := cd_bind_some hf
    refine cd_callS (As := [.int a1, .int (0 : Int32), .int (9 : Int32)]) (rest := []) C0 hw (c_X5_within l G cI cZ sa sb a1 (0 : Int32) (9 : Int32) r3 e3) [] rfl rfl (va_cwS 3 hts gX5_draught_X5_within rfl rfl rfl (by decide +kernel) ⟨Nat.le_of_ble_eq_true rfl, Nat.le_of_ble_eq_true rfl⟩) rfl hl.1 (lv_room (Nat.le_of_ble_eq_true rfl)) dX5_draught_13 (fun H locs hw => ?_)
    refine lv_if_ne (tgt := 22) hx hb dX5_draught_16 (by decide) (fun c4 => ?_) (fun c4 => ?_)
    · have hf := cd_ite_f c4 hf
      refine lv_aload_n hx hb dX5_draught_22 rfl (lv_at hl 0 rfl) ?_
      refine va_get (D := G) (ci := 5) (v := .ref (ht 0)) (C := RX5) (T := TX5) (N := 8) hx hb hts nw_X5_draught_X5 hown hK hw.1 0 rfl rfl 0 (by decide) hL0 (fun _ h9 => h9) rfl dX5_draught_23 ?_
      refine va_get (D := G) (ci := 3) (v := .ref (ht 3)) (C := RX3) (T := TX3) (N := 14) hx hb hts nw_X5_draught_X3 hown hK hw.1 2 rfl rfl 2 (by decide) hL1 (fun _ h9 => h9) rfl dX5_draught_26 ?_
      refine lv_iload_n hx hb dX5_draught_29 rfl (lv_at hl 1 rfl) ?_
      obtain ⟨v5, e5, hf⟩ := cd_bind_some hf
      refine cd_iald hx hb hK hw 5 rfl e5 dX5_draught_30 ?_
      refine lv_istore_n (lv' := [(3, .int v5), (0, .ref (h 0)), (1, .int a0), (2, .int a1)]) hx hb dX5_draught_31 rfl hl (by decide) rfl (fun ls hl => ?_)
      refine lv_aload_n hx hb dX5_draught_32 rfl (lv_at hl 1 rfl) ?_
      refine va_get (D := G) (ci := 5) (v := .ref (ht 0)) (C := RX5) (T := TX5) (N := 8) hx hb hts nw_X5_draught_X5 hown hK hw.1 0 rfl rfl 0 (by decide) hL0 (fun _ h9 => h9) rfl dX5_draught_33 ?_
      refine va_get (D := G) (ci := 3) (v := .ref (ht 3)) (C := RX3) (T := TX3) (N := 14) hx hb hts nw_X5_draught_X3 hown hK hw.1 2 rfl rfl 2 (by decide) hL1 (fun _ h9 => h9) rfl dX5_draught_36 ?_
      refine lv_iload_n hx hb dX5_draught_39 rfl (lv_at hl 2 rfl) ?_
      refine lv_iload_n hx hb dX5_draught_40 rfl (lv_at hl 3 rfl) ?_
      obtain ⟨j6, e6, hf⟩ := cd_bind_some hf
      refine cd_iast hx hb hK hw 5 rfl e6 dX5_draught_41 (fun H locs hw => ?_)
      have hw : cd_WS G A s.heap H locs ((pc_top cZ h ht h1 h2 hp hy hv hz K) ++ (pc_town cI ht (cd_set T 2 j6 a1))) := hw
      refine lv_iload_n hx hb dX5_draught_42 rfl (lv_at hl 0 rfl) ?_
      have z : some (v5, (cd_set T 2 j6 a1)) = some o := hf
      cases z
      rw [hQ]
      exact cd_reti C0 hw dX5_draught_43
    · have hf := cd_ite_t c4 hf
      refine lv_bipush (v := (-2 : Int32)) hx hb dX5_draught_19 (by decide) ?_
      have z : some ((-2 : Int32), T) = some o := hf
      cases z
      rw [hQ]
      exact cd_reti C0 hw dX5_draught_21
  · have hf := cd_ite_t c2 hf
    refine lv_iconst (v := (-1 : Int32)) hx hb dX5_draught_7 (by decide) ?_
    have z : some ((-1 : Int32), T) = some o := hf
    cases z
    rw [hQ]
    exact cd_reti C0 hw dX5_draught_8
abbrev rm_X5_fault : Room := { frames := 5, cells := 0, slots := 0, locals := 110 }
theorem nw_X5_fault_X5 : ∀ w ∈ u_ws RX5 TX5 8, w ∈ wsX5_fault := by decide +kernel
set_option maxHeartbeats 4000000 in
set_option maxRecDepth 100000 in
theorem c_X5_fault (l : Launch) (G : va_G) (cI cZ : ClassId) (sa sb : Nat) (h ht h1 h2 hp hy hs hv hz : Nat → Nat) (K P : Nat → Nat → Int32) (o : Int32 × (Nat → Nat → Int32)) (hf : f_X5_fault K P = some o) : cd_Ct l G cI cZ sa sb yX5_fault wsX5_fault rm_X5_fault [.ref (h 0)] ((pc_top cZ h ht h1 h2 hp hy hv hz K) ++ (pc_pad cI hp P)) ((pc_top cZ h ht h1 h2 hp hy hv hz K) ++ (pc_pad cI hp o.2)) (some (.int o.1)) := by
  refine cd_of (cc := cX5_fault) (maxL := 1) (ret := (some .int)) (by decide) rfl (Nat.le_of_ble_eq_true rfl) ?_
  intro p e s m ag below meth c A ls Q C0 hl hw hQ
  have C0 : cd_CX G cI cZ sa sb p s m ag meth c cX5_fault 1 (some .int) wsX5_fault RX5 A := C0
  obtain ⟨⟨hx, hb, hml, hown, hts⟩, hr, hlocks, hA, hE⟩ := id C0
  have hK := hE.1
  have hL0 := hts (.fieldLink RX5 29 "CandleDebts" "pad" "LCandleDebts$Pad;") (by decide +kernel)
  have hl : lv_has ls 1 [(0, .ref (h 0))] := hl
  unfold f_X5_fault at hf
  refine lv_aload_n hx hb dX5_fault_0 rfl (lv_at hl 0 rfl) ?_
  refine va_get (D := G) (ci := 5) (v := .ref (hp 0)) (C := RX5) (T := TX5) (N := 8) hx hb hts nw_X5_fault_X5 hown hK hw.1 0 rfl rfl 4 (by decide) hL0 (fun _ h9 => h9) rfl dX5_fault_1 ?_
  obtain ⟨r1, e1, hf⟩ := cd_bind_some hf
  refine cd_callVw (As := []) (rest := []) (wr := (pc_top cZ h ht h1 h2 hp hy hv hz K)) (wn := (pc_top cZ h ht h1 h2 hp hy hv hz K) ++ (pc_pad cI hp r1.2)) C0 hw (c_X0_firstFault l G cI cZ sa sb hp P r1 e1) [2, 3] [0, 1] [0, 1, 2, 3] rfl rfl rfl rfl (by decide) rfl rfl 0 0 rfl rfl rfl (cwV 0 hts gX5_fault_X0_firstFault rfl rfl rfl (by decide +kernel) ⟨Nat.le_of_ble_eq_true rfl, Nat.le_of_ble_eq_true rfl⟩) rfl hl.1 (lv_room (Nat.le_of_ble_eq_true rfl)) dX5_fault_4 (fun H locs hw => ?_)
  have z : some (r1.1, r1.2) = some o := hf
  cases z
  rw [hQ]
  exact cd_reti C0 hw dX5_fault_7
abbrev rm_X5_forget : Room := { frames := 0, cells := 0, slots := 0, locals := 0 }
theorem nw_X5_forget_X3 : ∀ w ∈ u_ws RX3 TX3 14, w ∈ wsX5_forget := by decide +kernel
theorem nw_X5_forget_X5 : ∀ w ∈ u_ws RX5 TX5 8, w ∈ wsX5_forget := by decide +kernel
set_option maxHeartbeats 4000000 in
set_option maxRecDepth 100000 in
theorem c_X5_forget (l : Launch) (G : va_G) (cI cZ : ClassId) (sa sb : Nat) (h ht h1 h2 hp hy hs hv hz : Nat → Nat) (K T : Nat → Nat → Int32) (o : Int32 × (Nat → Nat → Int32)) (hf : f_X5_forget K T = some o) : cd_Ct l G cI cZ sa sb yX5_forget wsX5_forget rm_X5_forget [.ref (h 0)] ((pc_top cZ h ht h1 h2 hp hy hv hz K) ++ (pc_town cI ht T)) ((pc_top cZ h ht h1 h2 hp hy hv hz K) ++ (pc_town cI ht o.2)) (some (.int o.1)) := by
  refine cd_of (cc := cX5_forget) (maxL := 2) (ret := (some .int)) (by decide) rfl (Nat.le_of_ble_eq_true rfl) ?_
  intro p e s m ag below meth c A ls Q C0 hl hw hQ
  have C0 : cd_CX G cI cZ sa sb p s m ag meth c cX5_forget 2 (some .int) wsX5_forget RX5 A := C0
  obtain ⟨⟨hx, hb, hml, hown, hts⟩, hr, hlocks, hA, hE⟩ := id C0
  have hK := hE.1
  have hL0 := hts (.fieldLink RX5 12 "CandleDebts" "town" "LCandleDebts$Town;") (by decide +kernel)
  have hL1 := hts (.fieldLink RX5 193 "CandleDebts$Town" "sights" "I") (by decide +kernel)
  have hl : lv_has ls 2 [(0, .ref (h 0))] := hl
  unfold f_X5_forget at hf
  refine lv_aload_n hx hb dX5_forget_0 rfl (lv_at hl 0 rfl) ?_
  refine va_get (D := G) (ci := 5) (v := .ref (ht 0)) (C := RX5) (T := TX5) (N := 8) hx hb hts nw_X5_forget_X5 hown hK hw.1 0 rfl rfl 0 (by decide) hL0 (fun _ h9 => h9) rfl dX5_forget_1 ?_
  refine va_get (D := G) (ci := 3) (v := .int (T 10 0)) (C := RX3) (T := TX3) (N := 14) hx hb hts nw_X5_forget_X3 hown hK hw.1 2 rfl rfl 10 (by decide) hL1 (fun _ h9 => h9) rfl dX5_forget_4 ?_
  refine lv_istore_n (lv' := [(1, .int (T 10 0)), (0, .ref (h 0))]) hx hb dX5_forget_7 rfl hl (by decide) rfl (fun ls hl => ?_)
  refine lv_aload_n hx hb dX5_forget_8 rfl (lv_at hl 1 rfl) ?_
  refine va_get (D := G) (ci := 5) (v := .ref (ht 0)) (C := RX5) (T := TX5) (N := 8) hx hb hts nw_X5_forget_X5 hown hK hw.1 0 rfl rfl 0 (by decide) hL0 (fun _ h9 => h9) rfl dX5_forget_9 ?_
  refine lv_iconst (v := (0 : Int32)) hx hb dX5_forget_12 (by decide) ?_
  refine va_put (D := G) (ci := 3) (v := .int (0 : Int32)) (ty := .int) (C := RX3) (T := TX3) (N := 14) hx hb hts nw_X5_forget_X3 tyX3 tyX3_ok nmX3 hown hK hw.1 hw.2.1 hw.2.2 2 rfl rfl 10 (by decide) hL1 (fun _ h9 => h9) rfl (by decide +kernel) rfl rfl (Nat.le_of_ble_eq_true rfl) dX5_forget_13 (fun H locs hP hD hS => ?_)
  have hw : cd_WS G A s.heap H locs ((pc_top cZ h ht h1 h2 hp hy hv hz K) ++ (pc_town cI ht (cd_fld T 10 (0 : Int32)))) := ⟨hP, hD, hS⟩
  refine lv_iload_n hx hb dX5_forget_16 rfl (lv_at hl 0 rfl) ?_
  have z : some ((T 10 0), (cd_fld T 10 (0 : Int32))) = some o := hf
  cases z
  rw [hQ]
  exact cd_reti C0 hw dX5_forget_17
abbrev rm_X5_has : Room := { frames := 7, cells := 0, slots := 0, locals := 154 }
theorem nw_X5_has_X1 : ∀ w ∈ u_ws RX1 TX1 6, w ∈ wsX5_has := by decide +kernel
theorem nw_X5_has_X3 : ∀ w ∈ u_ws RX3 TX3 14, w ∈ wsX5_has := by decide +kernel
theorem nw_X5_has_X5 : ∀ w ∈ u_ws RX5 TX5 8, w ∈ wsX5_has := by decide +kernel
set_option maxHeartbeats 4000000 in
set_option maxRecDepth 100000 in
theorem c_X5_has (l : Launch) (G : va_G) (cI cZ : ClassId) (sa sb : Nat) (h ht h1 h2 hp hy hs hv hz : Nat → Nat) (K T P Y S : Nat → Nat → Int32) (a0 : Int32) (o : Int32 × (Nat → Nat → Int32) × (Nat → Nat → Int32) × (Nat → Nat → Int32)) (hf : f_X5_has a0 K T P Y S = some o) : cd_Ct l G cI cZ sa sb yX5_has wsX5_has rm_X5_has [.ref (h 0), .int a0] ((pc_top cZ h ht h1 h2 hp hy hv hz K) ++ (pc_town cI ht T) ++ (pc_pad cI hp P) ++ (pc_play hy hs Y) ++ (pc_town cI hs S)) ((pc_top cZ h ht h1 h2 hp hy hv hz K) ++ (pc_town cI ht T) ++ (pc_pad cI hp o.2.1) ++ (pc_play hy hs o.2.2.1) ++ (pc_town cI hs o.2.2.2)) (some (.int o.1)) := by
  refine cd_of (cc := cX5_has) (maxL := 2) (ret := (some .int)) (by decide) rfl (Nat.le_of_ble_eq_true rfl) ?_
  intro p e s m ag below meth c A ls Q C0 hl hw hQ
  have C0 : cd_CX G cI cZ sa sb p s m ag meth c cX5_has 2 (some .int) wsX5_has RX5 A := C0
  obtain ⟨⟨hx, hb, hml, hown, hts⟩, hr, hlocks, hA, hE⟩ := id C0
  have hK := hE.1
  have hL0 := hts (.fieldLink RX5 36 "CandleDebts" "play" "LCandleDebts$Play;") (by decide +kernel)
  have hL1 := hts (.fieldLink RX5 107 "CandleDebts$Play" "scene" "LCandleDebts$Town;") (by decide +kernel)
  have hL2 := hts (.fieldLink RX5 76 "CandleDebts$Town" "purses" "[I") (by decide +kernel)
  have hl : lv_has ls 2 [(0, .ref (h 0)), (1, .int a0)] := hl
  unfold f_X5_has at hf
  refine lv_iload_n hx hb dX5_has_0 rfl (lv_at hl 1 rfl) ?_
  obtain ⟨r1, e1, hf⟩ := cd_bind_some hf
  refine cd_callS (As := [.int a0]) (rest := []) C0 hw (c_X5_isOne l G cI cZ sa sb a0 r1 e1) [] rfl rfl (va_cwS 1 hts gX5_has_X5_isOne rfl rfl rfl (by decide +kernel) ⟨Nat.le_of_ble_eq_true rfl, Nat.le_of_ble_eq_true rfl⟩) rfl hl.1 (lv_room (Nat.le_of_ble_eq_true rfl)) dX5_has_1 (fun H locs hw => ?_)
  refine lv_if_ne (tgt := 9) hx hb dX5_has_4 (by decide) (fun c2 => ?_) (fun c2 => ?_)
  · have hf := cd_ite_f c2 hf
    refine lv_aload_n hx hb dX5_has_9 rfl (lv_at hl 0 rfl) ?_
    obtain ⟨r3, e3, hf⟩ := cd_bind_some hf
    refine cd_callVw (As := []) (rest := []) (wr := ([] : va_W)) (wn := (pc_top cZ h ht h1 h2 hp hy hv hz K) ++ (pc_town cI ht T) ++ (pc_pad cI hp r3.2.1) ++ (pc_play hy hs r3.2.2.1) ++ (pc_town cI hs r3.2.2.2)) C0 hw (c_X5_nightCanBe l G cI cZ sa sb h ht h1 h2 hp hy hs hv hz K T P Y S r3 e3) [0, 1, 2, 3, 4, 5, 6, 7, 8, 9, 10, 11, 12, 13, 14, 15, 16, 17, 18, 19, 20, 21, 22, 23, 24, 25, 26] [] [0, 1, 2, 3, 4, 5, 6, 7, 8, 9, 10, 11, 12, 13, 14, 15, 16, 17, 18, 19, 20, 21, 22, 23, 24, 25, 26] rfl rfl rfl rfl (by decide) rfl rfl 0 5 rfl rfl rfl (cwV 0 hts gX5_has_X5_nightCanBe rfl rfl rfl (by decide +kernel) ⟨Nat.le_of_ble_eq_true rfl, Nat.le_of_ble_eq_true rfl⟩) rfl hl.1 (lv_room (Nat.le_of_ble_eq_true rfl)) dX5_has_10 (fun H locs hw => ?_)
    obtain ⟨x4, e4, hf⟩ := cd_bind_some hf
    have K4 : ∀ (ls : Array Slot) (H : Heap) (locs : List Loc), lv_has ls 2 [] → cd_WS G A s.heap H locs ((pc_top cZ h ht h1 h2 hp hy hv hz K) ++ (pc_town cI ht T) ++ (pc_pad cI hp r3.2.1) ++ (pc_play hy hs r3.2.2.1) ++ (pc_town cI hs r3.2.2.2)) → W p l e rm_X5_has s m ag below meth c H locs 0 0 Q (F0 m 33 ls [.int x4]) := by
      intro ls H locs hl hw
      have z : some (x4, r3.2.1, r3.2.2.1, r3.2.2.2) = some o := hf
      cases z
      rw [hQ]
      exact cd_reti C0 hw dX5_has_33
    refine lv_if_eq (tgt := 31) hx hb dX5_has_13 (by decide) (fun c4 => ?_) (fun c4 => ?_)
    · have e4 := cd_ite_t c4 e4
      refine lv_bipush (v := (-5 : Int32)) hx hb dX5_has_31 (by decide) ?_
      have z : some (-5 : Int32) = some x4 := e4
      cases z
      exact K4 _ _ _ (lv_sub hl [] rfl) hw
    · have e4 := cd_ite_f c4 e4
      refine lv_aload_n hx hb dX5_has_16 rfl (lv_at hl 0 rfl) ?_
      refine va_get (D := G) (ci := 5) (v := .ref (hy 0)) (C := RX5) (T := TX5) (N := 8) hx hb hts nw_X5_has_X5 hown hK hw.1 0 rfl rfl 5 (by decide) hL0 (fun _ h9 => h9) rfl dX5_has_17 ?_
      refine va_get (D := G) (ci := 1) (v := .ref (hs 0)) (C := RX1) (T := TX1) (N := 6) hx hb hts nw_X5_has_X1 hown hK hw.1 15 rfl rfl 0 (by decide) hL1 (fun _ h9 => h9) rfl dX5_has_20 ?_
      refine va_get (D := G) (ci := 3) (v := .ref (hs 8)) (C := RX3) (T := TX3) (N := 14) hx hb hts nw_X5_has_X3 hown hK hw.1 16 rfl rfl 7 (by decide) hL2 (fun _ h9 => h9) rfl dX5_has_23 ?_
      refine lv_iload_n hx hb dX5_has_26 rfl (lv_at hl 1 rfl) ?_
      obtain ⟨v5, e5, e4⟩ := cd_bind_some e4
      refine cd_iald hx hb hK hw 24 rfl e5 dX5_has_27 ?_
      refine lv_goto (tgt := 33) hx hb dX5_has_28 (by decide) ?_
      have z : some v5 = some x4 := e4
      cases z
      exact K4 _ _ _ (lv_sub hl [] rfl) hw
  · have hf := cd_ite_t c2 hf
    refine lv_iconst (v := (-1 : Int32)) hx hb dX5_has_7 (by decide) ?_
    have z : some ((-1 : Int32), P, Y, S) = some o := hf
    cases z
    rw [hQ]
    exact cd_reti C0 hw dX5_has_8
abbrev rm_X5_joined : Room := { frames := 2, cells := 0, slots := 0, locals := 42 }
theorem nw_X5_joined_X3 : ∀ w ∈ u_ws RX3 TX3 14, w ∈ wsX5_joined := by decide +kernel
theorem nw_X5_joined_X5 : ∀ w ∈ u_ws RX5 TX5 8, w ∈ wsX5_joined := by decide +kernel
set_option maxHeartbeats 4000000 in
set_option maxRecDepth 100000 in
theorem c_X5_joined (l : Launch) (G : va_G) (cI cZ : ClassId) (sa sb : Nat) (h ht h1 h2 hp hy hs hv hz : Nat → Nat) (K T : Nat → Nat → Int32) (a0 : Int32) (o : Int32) (hf : f_X5_joined a0 K T = some o) : cd_Ct l G cI cZ sa sb yX5_joined wsX5_joined rm_X5_joined [.ref (h 0), .int a0] ((pc_top cZ h ht h1 h2 hp hy hv hz K) ++ (pc_town cI ht T)) ((pc_top cZ h ht h1 h2 hp hy hv hz K) ++ (pc_town cI ht T)) (some (.int o)) := by
  refine cd_of (cc := cX5_joined) (maxL := 2) (ret := (some .int)) (by decide) rfl (Nat.le_of_ble_eq_true rfl) ?_
  intro p e s m ag below meth c A ls Q C0 hl hw hQ
  have C0 : cd_CX G cI cZ sa sb p s m ag meth c cX5_joined 2 (some .int) wsX5_joined RX5 A := C0
  obtain ⟨⟨hx, hb, hml, hown, hts⟩, hr, hlocks, hA, hE⟩ := id C0
  have hK := hE.1
  have hL0 := hts (.fieldLink RX5 12 "CandleDebts" "town" "LCandleDebts$Town;") (by decide +kernel)
  have hL1 := hts (.fieldLink RX5 142 "CandleDebts$Town" "groups" "[I") (by decide +kernel)
  have hl : lv_has ls 2 [(0, .ref (h 0)), (1, .int a0)] := hl
  unfold f_X5_joined at hf
  refine lv_iload_n hx hb dX5_joined_0 rfl (lv_at hl 1 rfl) ?_
  obtain ⟨r1, e1, hf⟩ := cd_bind_some hf
  refine cd_callS (As := [.int a0]) (rest := []) C0 hw (c_X5_isCandle l G cI cZ sa sb a0 r1 e1) [] rfl rfl (va_cwS 1 hts gX5_joined_X5_isCandle rfl rfl rfl (by decide +kernel) ⟨Nat.le_of_ble_eq_true rfl, Nat.le_of_ble_eq_true rfl⟩) rfl hl.1 (lv_room (Nat.le_of_ble_eq_true rfl)) dX5_joined_1 (fun H locs hw => ?_)
  obtain ⟨x2, e2, hf⟩ := cd_bind_some hf
  have K2 : ∀ (ls : Array Slot) (H : Heap) (locs : List Loc), lv_has ls 2 [] → cd_WS G A s.heap H locs ((pc_top cZ h ht h1 h2 hp hy hv hz K) ++ (pc_town cI ht T)) → W p l e rm_X5_joined s m ag below meth c H locs 0 0 Q (F0 m 27 ls [.int x2]) := by
    intro ls H locs hl hw
    have z : some x2 = some o := hf
    cases z
    rw [hQ]
    exact cd_reti C0 hw dX5_joined_27
  refine lv_if_eq (tgt := 26) hx hb dX5_joined_4 (by decide) (fun c2 => ?_) (fun c2 => ?_)
  · have e2 := cd_ite_t c2 e2
    refine lv_iconst (v := (-1 : Int32)) hx hb dX5_joined_26 (by decide) ?_
    have z : some (-1 : Int32) = some x2 := e2
    cases z
    exact K2 _ _ _ (lv_sub hl [] rfl) hw
  · have e2 := cd_ite_f c2 e2
    refine lv_aload_n hx hb dX5_joined_7 rfl (lv_at hl 0 rfl) ?_
    refine va_get (D := G) (ci := 5) (v := .ref (ht 0)) (C := RX5) (T := TX5) (N := 8) hx hb hts nw_X5_joined_X5 hown hK hw.1 0 rfl rfl 0 (by decide) hL0 (fun _ h9 => h9) rfl dX5_joined_8 ?_
    refine va_get (D := G) (ci := 3) (v := .ref (ht 7)) (C := RX3) (T := TX3) (N := 14) hx hb hts nw_X5_joined_X3 hown hK hw.1 2 rfl rfl 6 (by decide) hL1 (fun _ h9 => h9) rfl dX5_joined_11 ?_
    refine lv_iload_n hx hb dX5_joined_14 rfl (lv_at hl 1 rfl) ?_
    obtain ⟨v3, e3, e2⟩ := cd_bind_some e2
    refine cd_iald hx hb hK hw 9 rfl e3 dX5_joined_15 ?_
    refine lv_iload_n hx hb dX5_joined_16 rfl (lv_at hl 1 rfl) ?_
    obtain ⟨r4, e4, e2⟩ := cd_bind_some e2
    refine cd_callS (As := [.int a0]) (rest := [.int v3]) C0 hw (c_X5_bit l G cI cZ sa sb a0 r4 e4) [] rfl rfl (va_cwS 1 hts gX5_joined_X5_bit rfl rfl rfl (by decide +kernel) ⟨Nat.le_of_ble_eq_true rfl, Nat.le_of_ble_eq_true rfl⟩) rfl hl.1 (lv_room (Nat.le_of_ble_eq_true rfl)) dX5_joined_17 (fun H locs hw => ?_)
    refine lv_iconst (v := (-1 : Int32)) hx hb dX5_joined_20 (by decide) ?_
    refine lv_ixor hx hb dX5_joined_21 ?_
    refine lv_iand hx hb dX5_joined_22 ?_
    refine lv_goto (tgt := 27) hx hb dX5_joined_23 (by decide) ?_
    have z : some (v3 &&& (r4 ^^^ (-1 : Int32))) = some x2 := e2
    cases z
    exact K2 _ _ _ (lv_sub hl [] rfl) hw
abbrev rm_X5_matchesFor : Room := { frames := 2, cells := 0, slots := 0, locals := 42 }
theorem nw_X5_matchesFor_X3 : ∀ w ∈ u_ws RX3 TX3 14, w ∈ wsX5_matchesFor := by decide +kernel
theorem nw_X5_matchesFor_X5 : ∀ w ∈ u_ws RX5 TX5 8, w ∈ wsX5_matchesFor := by decide +kernel
set_option maxHeartbeats 4000000 in
set_option maxRecDepth 100000 in
theorem c_X5_matchesFor (l : Launch) (G : va_G) (cI cZ : ClassId) (sa sb : Nat) (h ht h1 h2 hp hy hs hv hz : Nat → Nat) (K T : Nat → Nat → Int32) (a0 : Int32) (o : Int32) (hf : f_X5_matchesFor a0 K T = some o) : cd_Ct l G cI cZ sa sb yX5_matchesFor wsX5_matchesFor rm_X5_matchesFor [.ref (h 0), .int a0] ((pc_top cZ h ht h1 h2 hp hy hv hz K) ++ (pc_town cI ht T)) ((pc_top cZ h ht h1 h2 hp hy hv hz K) ++ (pc_town cI ht T)) (some (.int o)) := by
  refine cd_of (cc := cX5_matchesFor) (maxL := 7) (ret := (some .int)) (by decide) rfl (Nat.le_of_ble_eq_true rfl) ?_
  intro p e s m ag below meth c A ls Q C0 hl hw hQ
  have C0 : cd_CX G cI cZ sa sb p s m ag meth c cX5_matchesFor 7 (some .int) wsX5_matchesFor RX5 A := C0
  obtain ⟨⟨hx, hb, hml, hown, hts⟩, hr, hlocks, hA, hE⟩ := id C0
  have hK := hE.1
  have hL0 := hts (.fieldLink RX5 12 "CandleDebts" "town" "LCandleDebts$Town;") (by decide +kernel)
  have hL1 := hts (.fieldLink RX5 65 "CandleDebts$Town" "wax" "[I") (by decide +kernel)
  have hl : lv_has ls 7 [(0, .ref (h 0)), (1, .int a0)] := hl
  unfold f_X5_matchesFor at hf
  refine lv_iconst (v := (0 : Int32)) hx hb dX5_matchesFor_0 (by decide) ?_
  refine lv_istore_n (lv' := [(2, .int (0 : Int32)), (0, .ref (h 0)), (1, .int a0)]) hx hb dX5_matchesFor_1 rfl hl (by decide) rfl (fun ls hl => ?_)
  refine lv_iconst (v := (0 : Int32)) hx hb dX5_matchesFor_2 (by decide) ?_
  refine lv_istore_n (lv' := [(3, .int (0 : Int32)), (2, .int (0 : Int32)), (0, .ref (h 0)), (1, .int a0)]) hx hb dX5_matchesFor_3 rfl hl (by decide) rfl (fun ls hl => ?_)
  refine lv_iconst (v := (0 : Int32)) hx hb dX5_matchesFor_4 (by decide) ?_
  refine lv_istore (lv' := [(4, .int (0 : Int32)), (3, .int (0 : Int32)), (2, .int (0 : Int32)), (0, .ref (h 0)), (1, .int a0)]) hx hb dX5_matchesFor_5 hl (by decide) rfl (fun ls hl => ?_)
  refine lv_iconst (v := (0 : Int32)) hx hb dX5_matchesFor_7 (by decide) ?_
  refine lv_istore (lv' := [(5, .int (0 : Int32)), (4, .int (0 : Int32)), (3, .int (0 : Int32)), (2, .int (0 : Int32)), (0, .ref (h 0)), (1, .int a0)]) hx hb dX5_matchesFor_8 hl (by decide) rfl (fun ls hl => ?_)
  obtain ⟨x1, e1, hf⟩ := cd_bind_some hf
  have K1 : ∀ (t1 : Int32), t1 = x1 → ∀ (ls : Array Slot) (H : Heap) (locs : List Loc), lv_has ls 7 [(2, .int t1)] → cd_WS G A s.heap H locs ((pc_top cZ h ht h1 h2 hp hy hv hz K) ++ (pc_town cI ht T)) → W p l e rm_X5_matchesFor s m ag below meth c H locs 0 0 Q (F0 m 113 ls []) := by
    intro t1 hs_1
    subst hs_1
    intro ls H locs hl hw
    refine lv_iload_n hx hb dX5_matchesFor_113 rfl (lv_at hl 0 rfl) ?_
    have z : some t1 = some o := hf
    cases z
    rw [hQ]
    exact cd_reti C0 hw dX5_matchesFor_114
  refine cd_iter_ind (body := (f_X5_matchesFor_b10 a0 T)) (K := fun r => r = x1) (P := fun (z1 : Int32 × Int32 × Int32 × Int32) => ∀ (ls : Array Slot) (H : Heap) (locs : List Loc), lv_has ls 7 [(0, .ref (h 0)), (1, .int a0), (2, .int z1.1), (3, .int z1.2.1), (4, .int z1.2.2.1), (5, .int z1.2.2.2)] → cd_WS G A s.heap H locs ((pc_top cZ h ht h1 h2 hp hy hv hz K) ++ (pc_town cI ht T)) → W p l e rm_X5_matchesFor s m ag below meth c H locs 0 0 Q (F0 m 10 ls [])) ?_ cd_N ((0 : Int32), (0 : Int32), (0 : Int32), (0 : Int32)) x1 e1 rfl _ _ _ (lv_sub hl [4, 5, 3, 2, 1, 0] rfl) hw
  intro z1 o1 hb1 hk1 ls H locs hl hw
  unfold f_X5_matchesFor_b10 at hb1
  refine lv_iload hx hb dX5_matchesFor_10 (lv_at hl 5 rfl) ?_
  refine lv_bipush (v := (12 : Int32)) hx hb dX5_matchesFor_12 (by decide) ?_
  refine lv_icmp_ge (tgt := 113) hx hb dX5_matchesFor_14 (by decide) (fun c2 => ?_) (fun c2 => ?_)
  · have hb1 := cd_ite_t c2 hb1
    have z : some (Sum.inl z1.1) = some o1 := hb1
    cases z
    exact K1 _ hk1 _ _ _ (lv_sub hl [2] rfl) hw
  · have hb1 := cd_ite_f c2 hb1
    refine lv_aload_n hx hb dX5_matchesFor_17 rfl (lv_at hl 0 rfl) ?_
    refine va_get (D := G) (ci := 5) (v := .ref (ht 0)) (C := RX5) (T := TX5) (N := 8) hx hb hts nw_X5_matchesFor_X5 hown hK hw.1 0 rfl rfl 0 (by decide) hL0 (fun _ h9 => h9) rfl dX5_matchesFor_18 ?_
    refine va_get (D := G) (ci := 3) (v := .ref (ht 1)) (C := RX3) (T := TX3) (N := 14) hx hb hts nw_X5_matchesFor_X3 hown hK hw.1 2 rfl rfl 0 (by decide) hL1 (fun _ h9 => h9) rfl dX5_matchesFor_21 ?_
    refine lv_iload hx hb dX5_matchesFor_24 (lv_at hl 5 rfl) ?_
    obtain ⟨v3, e3, hb1⟩ := cd_bind_some hb1
    refine cd_iald hx hb hK hw 3 rfl e3 dX5_matchesFor_26 ?_
    obtain ⟨x4, e4, hb1⟩ := cd_bind_some hb1
    have K4 : ∀ (ls : Array Slot) (H : Heap) (locs : List Loc), lv_has ls 7 [(0, .ref (h 0)), (1, .int a0), (2, .int z1.1), (3, .int x4.1), (4, .int x4.2), (5, .int z1.2.2.2)] → cd_WS G A s.heap H locs ((pc_top cZ h ht h1 h2 hp hy hv hz K) ++ (pc_town cI ht T)) → W p l e rm_X5_matchesFor s m ag below meth c H locs 0 0 Q (F0 m 53 ls []) := by
      intro ls H locs hl hw
      refine lv_aload_n hx hb dX5_matchesFor_53 rfl (lv_at hl 0 rfl) ?_
      refine va_get (D := G) (ci := 5) (v := .ref (ht 0)) (C := RX5) (T := TX5) (N := 8) hx hb hts nw_X5_matchesFor_X5 hown hK hw.1 0 rfl rfl 0 (by decide) hL0 (fun _ h9 => h9) rfl dX5_matchesFor_54 ?_
      refine va_get (D := G) (ci := 3) (v := .ref (ht 1)) (C := RX3) (T := TX3) (N := 14) hx hb hts nw_X5_matchesFor_X3 hown hK hw.1 2 rfl rfl 0 (by decide) hL1 (fun _ h9 => h9) rfl dX5_matchesFor_57 ?_
      refine lv_iload hx hb dX5_matchesFor_60 (lv_at hl 5 rfl) ?_
      obtain ⟨v5, e5, hb1⟩ := cd_bind_some hb1
      refine cd_iald hx hb hK hw 3 rfl e5 dX5_matchesFor_62 ?_
      obtain ⟨x6, e6, hb1⟩ := cd_bind_some hb1
      have K6 : ∀ (ls : Array Slot) (H : Heap) (locs : List Loc), lv_has ls 7 [(0, .ref (h 0)), (1, .int a0), (2, .int z1.1), (3, .int x4.1), (4, .int x4.2), (5, .int z1.2.2.2)] → cd_WS G A s.heap H locs ((pc_top cZ h ht h1 h2 hp hy hv hz K) ++ (pc_town cI ht T)) → W p l e rm_X5_matchesFor s m ag below meth c H locs 0 0 Q (F0 m 78 ls [.int x6]) := by
        intro ls H locs hl hw
        refine lv_istore (lv' := [(6, .int x6), (0, .ref (h 0)), (1, .int a0), (2, .int z1.1), (3, .int x4.1), (4, .int x4.2), (5, .int z1.2.2.2)]) hx hb dX5_matchesFor_78 hl (by decide) rfl (fun ls hl => ?_)
        refine lv_iload hx hb dX5_matchesFor_80 (lv_at hl 0 rfl) ?_
        refine lv_if_eq (tgt := 107) hx hb dX5_matchesFor_82 (by decide) (fun c7 => ?_) (fun c7 => ?_)
        · have hb1 := cd_ite_t c7 hb1
          refine lv_iinc (v := (z1.2.2.2 + (1 : Int32))) (lv' := [(5, .int (z1.2.2.2 + (1 : Int32))), (6, .int x6), (0, .ref (h 0)), (1, .int a0), (2, .int z1.1), (3, .int x4.1), (4, .int x4.2)]) hx hb dX5_matchesFor_107 hl (k := 6) rfl rfl (by decide) rfl (fun ls hl => ?_)
          refine lv_goto (tgt := 10) hx hb dX5_matchesFor_110 (by decide) ?_
          have z : some (Sum.inr (z1.1, x4.1, x4.2, (z1.2.2.2 + (1 : Int32)))) = some o1 := hb1
          cases z
          exact hk1 _ _ _ (lv_sub hl [2, 3, 4, 5, 6, 0] rfl) hw
        · have hb1 := cd_ite_f c7 hb1
          refine lv_iload_n hx hb dX5_matchesFor_85 rfl (lv_at hl 3 rfl) ?_
          refine lv_iload_n hx hb dX5_matchesFor_86 rfl (lv_at hl 4 rfl) ?_
          obtain ⟨x8, e8, hb1⟩ := cd_bind_some hb1
          have K8 : ∀ (ls : Array Slot) (H : Heap) (locs : List Loc), lv_has ls 7 [(0, .ref (h 0)), (1, .int a0), (5, .int z1.2.2.2)] → cd_WS G A s.heap H locs ((pc_top cZ h ht h1 h2 hp hy hv hz K) ++ (pc_town cI ht T)) → W p l e rm_X5_matchesFor s m ag below meth c H locs 0 0 Q (F0 m 100 ls [.int x8, .int z1.1]) := by
            intro ls H locs hl hw
            refine lv_iadd hx hb dX5_matchesFor_100 ?_
            refine lv_istore_n (lv' := [(2, .int (z1.1 + x8)), (0, .ref (h 0)), (1, .int a0), (5, .int z1.2.2.2)]) hx hb dX5_matchesFor_101 rfl hl (by decide) rfl (fun ls hl => ?_)
            refine lv_iconst (v := (0 : Int32)) hx hb dX5_matchesFor_102 (by decide) ?_
            refine lv_istore_n (lv' := [(3, .int (0 : Int32)), (2, .int (z1.1 + x8)), (0, .ref (h 0)), (1, .int a0), (5, .int z1.2.2.2)]) hx hb dX5_matchesFor_103 rfl hl (by decide) rfl (fun ls hl => ?_)
            refine lv_iconst (v := (0 : Int32)) hx hb dX5_matchesFor_104 (by decide) ?_
            refine lv_istore (lv' := [(4, .int (0 : Int32)), (3, .int (0 : Int32)), (2, .int (z1.1 + x8)), (0, .ref (h 0)), (1, .int a0), (5, .int z1.2.2.2)]) hx hb dX5_matchesFor_105 hl (by decide) rfl (fun ls hl => ?_)
            refine lv_iinc (v := (z1.2.2.2 + (1 : Int32))) (lv' := [(5, .int (z1.2.2.2 + (1 : Int32))), (4, .int (0 : Int32)), (3, .int (0 : Int32)), (2, .int (z1.1 + x8)), (0, .ref (h 0)), (1, .int a0)]) hx hb dX5_matchesFor_107 hl (k := 5) rfl rfl (by decide) rfl (fun ls hl => ?_)
            refine lv_goto (tgt := 10) hx hb dX5_matchesFor_110 (by decide) ?_
            have z : some (Sum.inr ((z1.1 + x8), (0 : Int32), (0 : Int32), (z1.2.2.2 + (1 : Int32)))) = some o1 := hb1
            cases z
            exact hk1 _ _ _ (lv_sub hl [4, 5, 3, 2, 1, 0] rfl) hw
          refine lv_if_eq (tgt := 99) hx hb dX5_matchesFor_87 (by decide) (fun c8 => ?_) (fun c8 => ?_)
          · have e8 := cd_ite_t c8 e8
            refine lv_iconst (v := (0 : Int32)) hx hb dX5_matchesFor_99 (by decide) ?_
            have z : some (0 : Int32) = some x8 := e8
            cases z
            exact K8 _ _ _ (lv_sub hl [1, 2, 6] rfl) hw
          · have e8 := cd_ite_f c8 e8
            refine lv_iload hx hb dX5_matchesFor_90 (lv_at hl 5 rfl) ?_
            refine lv_if_ne (tgt := 99) hx hb dX5_matchesFor_92 (by decide) (fun c9 => ?_) (fun c9 => ?_)
            · have e8 := cd_ite_f c9 e8
              refine lv_iconst (v := (0 : Int32)) hx hb dX5_matchesFor_99 (by decide) ?_
              have z : some (0 : Int32) = some x8 := e8
              cases z
              exact K8 _ _ _ (lv_sub hl [1, 2, 6] rfl) hw
            · have e8 := cd_ite_t c9 e8
              refine lv_iconst (v := (1 : Int32)) hx hb dX5_matchesFor_95 (by decide) ?_
              refine lv_goto (tgt := 100) hx hb dX5_matchesFor_96 (by decide) ?_
              have z : some (1 : Int32) = some x8 := e8
              cases z
              exact K8 _ _ _ (lv_sub hl [1, 2, 6] rfl) hw
      refine lv_if_eq (tgt := 73) hx hb dX5_matchesFor_63 (by decide) (fun c6 => ?_) (fun c6 => ?_)
      · have e6 := cd_ite_t c6 e6
        refine lv_iconst (v := (1 : Int32)) hx hb dX5_matchesFor_73 (by decide) ?_
        refine lv_goto (tgt := 78) hx hb dX5_matchesFor_74 (by decide) ?_
        have z : some (1 : Int32) = some x6 := e6
        cases z
        exact K6 _ _ _ (lv_sub hl [0, 1, 2, 3, 4, 5] rfl) hw
      · have e6 := cd_ite_f c6 e6
        refine lv_iload hx hb dX5_matchesFor_66 (lv_at hl 5 rfl) ?_
        refine lv_bipush (v := (11 : Int32)) hx hb dX5_matchesFor_68 (by decide) ?_
        refine lv_icmp_ne (tgt := 77) hx hb dX5_matchesFor_70 (by decide) (fun c10 => ?_) (fun c10 => ?_)
        · have e6 := cd_ite_f c10 e6
          refine lv_iconst (v := (0 : Int32)) hx hb dX5_matchesFor_77 (by decide) ?_
          have z : some (0 : Int32) = some x6 := e6
          cases z
          exact K6 _ _ _ (lv_sub hl [0, 1, 2, 3, 4, 5] rfl) hw
        · have e6 := cd_ite_t c10 e6
          refine lv_iconst (v := (1 : Int32)) hx hb dX5_matchesFor_73 (by decide) ?_
          refine lv_goto (tgt := 78) hx hb dX5_matchesFor_74 (by decide) ?_
          have z : some (1 : Int32) = some x6 := e6
          cases z
          exact K6 _ _ _ (lv_sub hl [0, 1, 2, 3, 4, 5] rfl) hw
    refine lv_if_le (tgt := 53) hx hb dX5_matchesFor_27 (by decide) (fun c4 => ?_) (fun c4 => ?_)
    · have e4 := cd_ite_t c4 e4
      have z : some (z1.2.1, z1.2.2.1) = some x4 := e4
      cases z
      exact K4 _ _ _ (lv_sub hl [0, 1, 2, 3, 4, 5] rfl) hw
    · have e4 := cd_ite_f c4 e4
      refine lv_iload_n hx hb dX5_matchesFor_30 rfl (lv_at hl 3 rfl) ?_
      refine lv_iload_n hx hb dX5_matchesFor_31 rfl (lv_at hl 1 rfl) ?_
      refine lv_iload hx hb dX5_matchesFor_32 (lv_at hl 5 rfl) ?_
      obtain ⟨r11, e11, e4⟩ := cd_bind_some e4
      refine cd_callS (As := [.int a0, .int z1.2.2.2]) (rest := [.int z1.2.1]) C0 hw (c_X5_holds l G cI cZ sa sb a0 z1.2.2.2 r11 e11) [] rfl rfl (va_cwS 2 hts gX5_matchesFor_X5_holds rfl rfl rfl (by decide +kernel) ⟨Nat.le_of_ble_eq_true rfl, Nat.le_of_ble_eq_true rfl⟩) rfl hl.1 (lv_room (Nat.le_of_ble_eq_true rfl)) dX5_matchesFor_34 (fun H locs hw => ?_)
      refine lv_ior hx hb dX5_matchesFor_37 ?_
      refine lv_istore_n (lv' := [(3, .int (z1.2.1 ||| r11)), (0, .ref (h 0)), (1, .int a0), (2, .int z1.1), (4, .int z1.2.2.1), (5, .int z1.2.2.2)]) hx hb dX5_matchesFor_38 rfl hl (by decide) rfl (fun ls hl => ?_)
      refine lv_iload hx hb dX5_matchesFor_39 (lv_at hl 4 rfl) ?_
      refine lv_aload_n hx hb dX5_matchesFor_41 rfl (lv_at hl 1 rfl) ?_
      refine va_get (D := G) (ci := 5) (v := .ref (ht 0)) (C := RX5) (T := TX5) (N := 8) hx hb hts nw_X5_matchesFor_X5 hown hK hw.1 0 rfl rfl 0 (by decide) hL0 (fun _ h9 => h9) rfl dX5_matchesFor_42 ?_
      refine lv_iload hx hb dX5_matchesFor_45 (lv_at hl 5 rfl) ?_
      obtain ⟨r12, e12, e4⟩ := cd_bind_some e4
      refine cd_callV (As := [.int z1.2.2.2]) (rest := [.int z1.2.2.1]) C0 hw (c_X3_isLit l G cI cZ sa sb ht T z1.2.2.2 r12 e12) [2, 3, 4, 5, 6, 7, 8, 9, 10, 11, 12] rfl rfl 0 3 rfl rfl rfl (cwV 1 hts gX5_matchesFor_X3_isLit rfl rfl rfl (by decide +kernel) ⟨Nat.le_of_ble_eq_true rfl, Nat.le_of_ble_eq_true rfl⟩) rfl hl.1 (lv_room (Nat.le_of_ble_eq_true rfl)) dX5_matchesFor_47 (fun H locs hw => ?_)
      refine lv_ior hx hb dX5_matchesFor_50 ?_
      refine lv_istore (lv' := [(4, .int (z1.2.2.1 ||| r12)), (3, .int (z1.2.1 ||| r11)), (0, .ref (h 0)), (1, .int a0), (2, .int z1.1), (5, .int z1.2.2.2)]) hx hb dX5_matchesFor_51 hl (by decide) rfl (fun ls hl => ?_)
      have z : some ((z1.2.1 ||| r11), (z1.2.2.1 ||| r12)) = some x4 := e4
      cases z
      exact K4 _ _ _ (lv_sub hl [2, 3, 4, 1, 0, 5] rfl) hw
abbrev rm_X5_jubilee : Room := { frames := 3, cells := 0, slots := 0, locals := 68 }
theorem nw_X5_jubilee_X3 : ∀ w ∈ u_ws RX3 TX3 14, w ∈ wsX5_jubilee := by decide +kernel
theorem nw_X5_jubilee_X5 : ∀ w ∈ u_ws RX5 TX5 8, w ∈ wsX5_jubilee := by decide +kernel
set_option maxHeartbeats 4000000 in
set_option maxRecDepth 100000 in
theorem c_X5_jubilee (l : Launch) (G : va_G) (cI cZ : ClassId) (sa sb : Nat) (h ht h1 h2 hp hy hs hv hz : Nat → Nat) (K T : Nat → Nat → Int32) (a0 : Int32) (o : Int32) (hf : f_X5_jubilee a0 K T = some o) : cd_Ct l G cI cZ sa sb yX5_jubilee wsX5_jubilee rm_X5_jubilee [.ref (h 0), .int a0] ((pc_top cZ h ht h1 h2 hp hy hv hz K) ++ (pc_town cI ht T)) ((pc_top cZ h ht h1 h2 hp hy hv hz K) ++ (pc_town cI ht T)) (some (.int o)) := by
  refine cd_of (cc := cX5_jubilee) (maxL := 3) (ret := (some .int)) (by decide) rfl (Nat.le_of_ble_eq_true rfl) ?_
  intro p e s m ag below meth c A ls Q C0 hl hw hQ
  have C0 : cd_CX G cI cZ sa sb p s m ag meth c cX5_jubilee 3 (some .int) wsX5_jubilee RX5 A := C0
  obtain ⟨⟨hx, hb, hml, hown, hts⟩, hr, hlocks, hA, hE⟩ := id C0
  have hK := hE.1
  have hL0 := hts (.fieldLink RX5 12 "CandleDebts" "town" "LCandleDebts$Town;") (by decide +kernel)
  have hL1 := hts (.fieldLink RX5 65 "CandleDebts$Town" "wax" "[I") (by decide +kernel)
  have hl : lv_has ls 3 [(0, .ref (h 0)), (1, .int a0)] := hl
  unfold f_X5_jubilee at hf
  refine lv_iload_n hx hb dX5_jubilee_0 rfl (lv_at hl 1 rfl) ?_
  refine lv_iconst (v := (0 : Int32)) hx hb dX5_jubilee_1 (by decide) ?_
  refine lv_bipush (v := (12 : Int32)) hx hb dX5_jubilee_2 (by decide) ?_
  obtain ⟨r1, e1, hf⟩ := cd_bind_some hf
  refine cd_callS (As := [.int (12 : Int32)]) (rest := [.int (0 : Int32), .int a0]) C0 hw (c_X5_bit l G cI cZ sa sb (12 : Int32) r1 e1) [] rfl rfl (va_cwS 1 hts gX5_jubilee_X5_bit rfl rfl rfl (by decide +kernel) ⟨Nat.le_of_ble_eq_true rfl, Nat.le_of_ble_eq_true rfl⟩) rfl hl.1 (lv_room (Nat.le_of_ble_eq_true rfl)) dX5_jubilee_4 (fun H locs hw => ?_)
  refine lv_iconst (v := (1 : Int32)) hx hb dX5_jubilee_7 (by decide) ?_
  refine lv_isub hx hb dX5_jubilee_8 ?_
  obtain ⟨r2, e2, hf⟩ := cd_bind_some hf
  refine cd_callS (As := [.int a0, .int (0 : Int32), .int (r1 - (1 : Int32))]) (rest := []) C0 hw (c_X5_within l G cI cZ sa sb a0 (0 : Int32) (r1 - (1 : Int32)) r2 e2) [] rfl rfl (va_cwS 3 hts gX5_jubilee_X5_within rfl rfl rfl (by decide +kernel) ⟨Nat.le_of_ble_eq_true rfl, Nat.le_of_ble_eq_true rfl⟩) rfl hl.1 (lv_room (Nat.le_of_ble_eq_true rfl)) dX5_jubilee_9 (fun H locs hw => ?_)
  refine lv_if_ne (tgt := 18) hx hb dX5_jubilee_12 (by decide) (fun c3 => ?_) (fun c3 => ?_)
  · have hf := cd_ite_f c3 hf
    refine lv_iconst (v := (0 : Int32)) hx hb dX5_jubilee_18 (by decide) ?_
    refine lv_istore_n (lv' := [(2, .int (0 : Int32)), (0, .ref (h 0)), (1, .int a0)]) hx hb dX5_jubilee_19 rfl hl (by decide) rfl (fun ls hl => ?_)
    obtain ⟨x4, e4, hf⟩ := cd_bind_some hf
    have K4 : ∀ (t4 : Unit), Sum.inr t4 = x4 → ∀ (ls : Array Slot) (H : Heap) (locs : List Loc), lv_has ls 3 [(0, .ref (h 0)), (1, .int a0)] → cd_WS G A s.heap H locs ((pc_top cZ h ht h1 h2 hp hy hv hz K) ++ (pc_town cI ht T)) → W p l e rm_X5_jubilee s m ag below meth c H locs 0 0 Q (F0 m 55 ls []) := by
      intro t4 hs_4
      subst hs_4
      intro ls H locs hl hw
      refine lv_aload_n hx hb dX5_jubilee_55 rfl (lv_at hl 0 rfl) ?_
      refine lv_iload_n hx hb dX5_jubilee_56 rfl (lv_at hl 1 rfl) ?_
      obtain ⟨r10, e10, hf⟩ := cd_bind_some hf
      refine cd_callV (As := [.int a0]) (rest := []) C0 hw (c_X5_matchesFor l G cI cZ sa sb h ht h1 h2 hp hy hs hv hz K T a0 r10 e10) [0, 1, 2, 3, 4, 5, 6, 7, 8, 9, 10, 11, 12] rfl rfl 0 5 rfl rfl rfl (cwV 1 hts gX5_jubilee_X5_matchesFor rfl rfl rfl (by decide +kernel) ⟨Nat.le_of_ble_eq_true rfl, Nat.le_of_ble_eq_true rfl⟩) rfl hl.1 (lv_room (Nat.le_of_ble_eq_true rfl)) dX5_jubilee_57 (fun H locs hw => ?_)
      have z : some r10 = some o := hf
      cases z
      rw [hQ]
      exact cd_reti C0 hw dX5_jubilee_60
    refine cd_iter_ind (body := (f_X5_jubilee_b20 a0 T)) (K := fun r => r = x4) (P := fun (z4 : Int32) => ∀ (ls : Array Slot) (H : Heap) (locs : List Loc), lv_has ls 3 [(0, .ref (h 0)), (1, .int a0), (2, .int z4)] → cd_WS G A s.heap H locs ((pc_top cZ h ht h1 h2 hp hy hv hz K) ++ (pc_town cI ht T)) → W p l e rm_X5_jubilee s m ag below meth c H locs 0 0 Q (F0 m 20 ls [])) ?_ cd_N (0 : Int32) x4 e4 rfl _ _ _ (lv_sub hl [1, 2, 0] rfl) hw
    intro z4 o4 hb4 hk4 ls H locs hl hw
    unfold f_X5_jubilee_b20 at hb4
    refine lv_iload_n hx hb dX5_jubilee_20 rfl (lv_at hl 2 rfl) ?_
    refine lv_bipush (v := (12 : Int32)) hx hb dX5_jubilee_21 (by decide) ?_
    refine lv_icmp_ge (tgt := 55) hx hb dX5_jubilee_23 (by decide) (fun c5 => ?_) (fun c5 => ?_)
    · have hb4 := cd_ite_t c5 hb4
      have z : some (Sum.inl (Sum.inr ())) = some o4 := hb4
      cases z
      exact K4 _ hk4 _ _ _ (lv_sub hl [0, 1] rfl) hw
    · have hb4 := cd_ite_f c5 hb4
      refine lv_iload_n hx hb dX5_jubilee_26 rfl (lv_at hl 1 rfl) ?_
      refine lv_iload_n hx hb dX5_jubilee_27 rfl (lv_at hl 2 rfl) ?_
      obtain ⟨r6, e6, hb4⟩ := cd_bind_some hb4
      refine cd_callS (As := [.int a0, .int z4]) (rest := []) C0 hw (c_X5_holds l G cI cZ sa sb a0 z4 r6 e6) [] rfl rfl (va_cwS 2 hts gX5_jubilee_X5_holds rfl rfl rfl (by decide +kernel) ⟨Nat.le_of_ble_eq_true rfl, Nat.le_of_ble_eq_true rfl⟩) rfl hl.1 (lv_room (Nat.le_of_ble_eq_true rfl)) dX5_jubilee_28 (fun H locs hw => ?_)
      refine lv_if_eq (tgt := 49) hx hb dX5_jubilee_31 (by decide) (fun c7 => ?_) (fun c7 => ?_)
      · have hb4 := cd_ite_t c7 hb4
        refine lv_iinc (v := (z4 + (1 : Int32))) (lv' := [(2, .int (z4 + (1 : Int32))), (0, .ref (h 0)), (1, .int a0)]) hx hb dX5_jubilee_49 hl (k := 2) rfl rfl (by decide) rfl (fun ls hl => ?_)
        refine lv_goto (tgt := 20) hx hb dX5_jubilee_52 (by decide) ?_
        have z : some (Sum.inr (z4 + (1 : Int32))) = some o4 := hb4
        cases z
        exact hk4 _ _ _ (lv_sub hl [1, 2, 0] rfl) hw
      · have hb4 := cd_ite_f c7 hb4
        refine lv_aload_n hx hb dX5_jubilee_34 rfl (lv_at hl 0 rfl) ?_
        refine va_get (D := G) (ci := 5) (v := .ref (ht 0)) (C := RX5) (T := TX5) (N := 8) hx hb hts nw_X5_jubilee_X5 hown hK hw.1 0 rfl rfl 0 (by decide) hL0 (fun _ h9 => h9) rfl dX5_jubilee_35 ?_
        refine va_get (D := G) (ci := 3) (v := .ref (ht 1)) (C := RX3) (T := TX3) (N := 14) hx hb hts nw_X5_jubilee_X3 hown hK hw.1 2 rfl rfl 0 (by decide) hL1 (fun _ h9 => h9) rfl dX5_jubilee_38 ?_
        refine lv_iload_n hx hb dX5_jubilee_41 rfl (lv_at hl 2 rfl) ?_
        obtain ⟨v8, e8, hb4⟩ := cd_bind_some hb4
        refine cd_iald hx hb hK hw 3 rfl e8 dX5_jubilee_42 ?_
        refine lv_if_ne (tgt := 49) hx hb dX5_jubilee_43 (by decide) (fun c9 => ?_) (fun c9 => ?_)
        · have hb4 := cd_ite_f c9 hb4
          refine lv_iinc (v := (z4 + (1 : Int32))) (lv' := [(2, .int (z4 + (1 : Int32))), (0, .ref (h 0)), (1, .int a0)]) hx hb dX5_jubilee_49 hl (k := 2) rfl rfl (by decide) rfl (fun ls hl => ?_)
          refine lv_goto (tgt := 20) hx hb dX5_jubilee_52 (by decide) ?_
          have z : some (Sum.inr (z4 + (1 : Int32))) = some o4 := hb4
          cases z
          exact hk4 _ _ _ (lv_sub hl [1, 2, 0] rfl) hw
        · have hb4 := cd_ite_t c9 hb4
          refine lv_bipush (v := (-6 : Int32)) hx hb dX5_jubilee_46 (by decide) ?_
          have z : some (Sum.inl (Sum.inl (-6 : Int32))) = some o4 := hb4
          cases z
          have y4 : Sum.inl (-6 : Int32) = x4 := hk4
          subst y4
          have z : some (-6 : Int32) = some o := hf
          cases z
          rw [hQ]
          exact cd_reti C0 hw dX5_jubilee_48
  · have hf := cd_ite_t c3 hf
    refine lv_bipush (v := (-2 : Int32)) hx hb dX5_jubilee_15 (by decide) ?_
    have z : some (-2 : Int32) = some o := hf
    cases z
    rw [hQ]
    exact cd_reti C0 hw dX5_jubilee_17
abbrev rm_X5_judge : Room := { frames := 6, cells := 0, slots := 0, locals := 134 }
theorem nw_X5_judge_X1 : ∀ w ∈ u_ws RX1 TX1 6, w ∈ wsX5_judge := by decide +kernel
theorem nw_X5_judge_X5 : ∀ w ∈ u_ws RX5 TX5 8, w ∈ wsX5_judge := by decide +kernel
set_option maxHeartbeats 4000000 in
set_option maxRecDepth 100000 in
theorem c_X5_judge (l : Launch) (G : va_G) (cI cZ : ClassId) (sa sb : Nat) (h ht h1 h2 hp hy hs hv hz : Nat → Nat) (K T P Y S : Nat → Nat → Int32) (a0 : Int32) (o : Int32 × (Nat → Nat → Int32) × (Nat → Nat → Int32) × (Nat → Nat → Int32)) (hf : f_X5_judge a0 K T P Y S = some o) : cd_Ct l G cI cZ sa sb yX5_judge wsX5_judge rm_X5_judge [.ref (h 0), .int a0] ((pc_top cZ h ht h1 h2 hp hy hv hz K) ++ (pc_town cI ht T) ++ (pc_pad cI hp P) ++ (pc_play hy hs Y) ++ (pc_town cI hs S)) ((pc_top cZ h ht h1 h2 hp hy hv hz K) ++ (pc_town cI ht T) ++ (pc_pad cI hp o.2.1) ++ (pc_play hy hs o.2.2.1) ++ (pc_town cI hs o.2.2.2)) (some (.int o.1)) := by
  refine cd_of (cc := cX5_judge) (maxL := 2) (ret := (some .int)) (by decide) rfl (Nat.le_of_ble_eq_true rfl) ?_
  intro p e s m ag below meth c A ls Q C0 hl hw hQ
  have C0 : cd_CX G cI cZ sa sb p s m ag meth c cX5_judge 2 (some .int) wsX5_judge RX5 A := C0
  obtain ⟨⟨hx, hb, hml, hown, hts⟩, hr, hlocks, hA, hE⟩ := id C0
  have hK := hE.1
  have hL0 := hts (.fieldLink RX5 29 "CandleDebts" "pad" "LCandleDebts$Pad;") (by decide +kernel)
  have hL1 := hts (.fieldLink RX5 36 "CandleDebts" "play" "LCandleDebts$Play;") (by decide +kernel)
  have hL2 := hts (.fieldLink RX5 12 "CandleDebts" "town" "LCandleDebts$Town;") (by decide +kernel)
  have hL3 := hts (.fieldLink RX5 97 "CandleDebts$Play" "acts" "I") (by decide +kernel)
  have hL4 := hts (.fieldLink RX5 100 "CandleDebts$Play" "why" "I") (by decide +kernel)
  have hl : lv_has ls 2 [(0, .ref (h 0)), (1, .int a0)] := hl
  unfold f_X5_judge at hf
  refine lv_iload_n hx hb dX5_judge_0 rfl (lv_at hl 1 rfl) ?_
  refine lv_iconst (v := (0 : Int32)) hx hb dX5_judge_1 (by decide) ?_
  refine lv_iconst (v := (1 : Int32)) hx hb dX5_judge_2 (by decide) ?_
  obtain ⟨r1, e1, hf⟩ := cd_bind_some hf
  refine cd_callS (As := [.int a0, .int (0 : Int32), .int (1 : Int32)]) (rest := []) C0 hw (c_X5_within l G cI cZ sa sb a0 (0 : Int32) (1 : Int32) r1 e1) [] rfl rfl (va_cwS 3 hts gX5_judge_X5_within rfl rfl rfl (by decide +kernel) ⟨Nat.le_of_ble_eq_true rfl, Nat.le_of_ble_eq_true rfl⟩) rfl hl.1 (lv_room (Nat.le_of_ble_eq_true rfl)) dX5_judge_3 (fun H locs hw => ?_)
  refine lv_if_ne (tgt := 12) hx hb dX5_judge_6 (by decide) (fun c2 => ?_) (fun c2 => ?_)
  · have hf := cd_ite_f c2 hf
    refine lv_aload_n hx hb dX5_judge_12 rfl (lv_at hl 0 rfl) ?_
    refine va_get (D := G) (ci := 5) (v := .ref (hp 0)) (C := RX5) (T := TX5) (N := 8) hx hb hts nw_X5_judge_X5 hown hK hw.1 0 rfl rfl 4 (by decide) hL0 (fun _ h9 => h9) rfl dX5_judge_13 ?_
    obtain ⟨r3, e3, hf⟩ := cd_bind_some hf
    refine cd_callVw (As := []) (rest := []) (wr := (pc_top cZ h ht h1 h2 hp hy hv hz K) ++ (pc_town cI ht T) ++ (pc_play hy hs Y) ++ (pc_town cI hs S)) (wn := (pc_top cZ h ht h1 h2 hp hy hv hz K) ++ (pc_town cI ht T) ++ (pc_pad cI hp r3.2) ++ (pc_play hy hs Y) ++ (pc_town cI hs S)) C0 hw (c_X0_firstFault l G cI cZ sa sb hp P r3 e3) [13, 14] [0, 1, 2, 3, 4, 5, 6, 7, 8, 9, 10, 11, 12, 15, 16, 17, 18, 19, 20, 21, 22, 23, 24, 25, 26] [0, 1, 2, 3, 4, 5, 6, 7, 8, 9, 10, 11, 12, 25, 26, 13, 14, 15, 16, 17, 18, 19, 20, 21, 22, 23, 24] rfl rfl rfl rfl (by decide) rfl rfl 0 0 rfl rfl rfl (cwV 0 hts gX5_judge_X0_firstFault rfl rfl rfl (by decide +kernel) ⟨Nat.le_of_ble_eq_true rfl, Nat.le_of_ble_eq_true rfl⟩) rfl hl.1 (lv_room (Nat.le_of_ble_eq_true rfl)) dX5_judge_16 (fun H locs hw => ?_)
    refine lv_bipush (v := (-6 : Int32)) hx hb dX5_judge_19 (by decide) ?_
    refine lv_icmp_eq (tgt := 27) hx hb dX5_judge_21 (by decide) (fun c4 => ?_) (fun c4 => ?_)
    · have hf := cd_ite_t c4 hf
      refine lv_aload_n hx hb dX5_judge_27 rfl (lv_at hl 0 rfl) ?_
      refine va_get (D := G) (ci := 5) (v := .ref (hy 0)) (C := RX5) (T := TX5) (N := 8) hx hb hts nw_X5_judge_X5 hown hK hw.1 0 rfl rfl 5 (by decide) hL1 (fun _ h9 => h9) rfl dX5_judge_28 ?_
      refine lv_aload_n hx hb dX5_judge_31 rfl (lv_at hl 0 rfl) ?_
      refine va_get (D := G) (ci := 5) (v := .ref (ht 0)) (C := RX5) (T := TX5) (N := 8) hx hb hts nw_X5_judge_X5 hown hK hw.1 0 rfl rfl 0 (by decide) hL2 (fun _ h9 => h9) rfl dX5_judge_32 ?_
      refine lv_aload_n hx hb dX5_judge_35 rfl (lv_at hl 0 rfl) ?_
      refine va_get (D := G) (ci := 5) (v := .ref (hp 0)) (C := RX5) (T := TX5) (N := 8) hx hb hts nw_X5_judge_X5 hown hK hw.1 0 rfl rfl 4 (by decide) hL0 (fun _ h9 => h9) rfl dX5_judge_36 ?_
      obtain ⟨r5, e5, hf⟩ := cd_bind_some hf
      refine cd_callVw (As := [.ref (ht 0), .ref (hp 0)]) (rest := []) (wr := (pc_top cZ h ht h1 h2 hp hy hv hz K)) (wn := (pc_top cZ h ht h1 h2 hp hy hv hz K) ++ (pc_town cI ht T) ++ (pc_pad cI hp r5.2.2.2) ++ (pc_play hy hs r5.2.1) ++ (pc_town cI hs r5.2.2.1)) C0 hw (c_X1_night l G cI cZ sa sb hy hs ht hp Y S T r3.2 r5 e5) [15, 16, 17, 18, 19, 20, 21, 22, 23, 24, 25, 26, 2, 3, 4, 5, 6, 7, 8, 9, 10, 11, 12, 13, 14] [0, 1] [0, 1, 14, 15, 16, 17, 18, 19, 20, 21, 22, 23, 24, 25, 26, 2, 3, 4, 5, 6, 7, 8, 9, 10, 11, 12, 13] rfl rfl rfl rfl (by decide) rfl rfl 0 1 rfl rfl rfl (cwV 2 hts gX5_judge_X1_night rfl rfl rfl (by decide +kernel) ⟨Nat.le_of_ble_eq_true rfl, Nat.le_of_ble_eq_true rfl⟩) rfl hl.1 (lv_room (Nat.le_of_ble_eq_true rfl)) dX5_judge_39 (fun H locs hw => ?_)
      refine lv_if_eq (tgt := 48) hx hb dX5_judge_42 (by decide) (fun c6 => ?_) (fun c6 => ?_)
      · have hf := cd_ite_t c6 hf
        refine lv_iload_n hx hb dX5_judge_48 rfl (lv_at hl 1 rfl) ?_
        obtain ⟨x7, e7, hf⟩ := cd_bind_some hf
        have K7 : ∀ (ls : Array Slot) (H : Heap) (locs : List Loc), lv_has ls 2 [] → cd_WS G A s.heap H locs ((pc_top cZ h ht h1 h2 hp hy hv hz K) ++ (pc_town cI ht T) ++ (pc_pad cI hp r5.2.2.2) ++ (pc_play hy hs r5.2.1) ++ (pc_town cI hs r5.2.2.1)) → W p l e rm_X5_judge s m ag below meth c H locs 0 0 Q (F0 m 69 ls [.int x7]) := by
          intro ls H locs hl hw
          have z : some (x7, r5.2.2.2, r5.2.1, r5.2.2.1) = some o := hf
          cases z
          rw [hQ]
          exact cd_reti C0 hw dX5_judge_69
        refine lv_if_ne (tgt := 62) hx hb dX5_judge_49 (by decide) (fun c7 => ?_) (fun c7 => ?_)
        · have e7 := cd_ite_f c7 e7
          refine lv_aload_n hx hb dX5_judge_62 rfl (lv_at hl 0 rfl) ?_
          refine va_get (D := G) (ci := 5) (v := .ref (hy 0)) (C := RX5) (T := TX5) (N := 8) hx hb hts nw_X5_judge_X5 hown hK hw.1 0 rfl rfl 5 (by decide) hL1 (fun _ h9 => h9) rfl dX5_judge_63 ?_
          refine va_get (D := G) (ci := 1) (v := .int (r5.2.1 2 0)) (C := RX1) (T := TX1) (N := 6) hx hb hts nw_X5_judge_X1 hown hK hw.1 15 rfl rfl 2 (by decide) hL4 (fun _ h9 => h9) rfl dX5_judge_66 ?_
          have z : some (r5.2.1 2 0) = some x7 := e7
          cases z
          exact K7 _ _ _ (lv_sub hl [] rfl) hw
        · have e7 := cd_ite_t c7 e7
          refine lv_aload_n hx hb dX5_judge_52 rfl (lv_at hl 0 rfl) ?_
          refine va_get (D := G) (ci := 5) (v := .ref (hy 0)) (C := RX5) (T := TX5) (N := 8) hx hb hts nw_X5_judge_X5 hown hK hw.1 0 rfl rfl 5 (by decide) hL1 (fun _ h9 => h9) rfl dX5_judge_53 ?_
          refine va_get (D := G) (ci := 1) (v := .int (r5.2.1 1 0)) (C := RX1) (T := TX1) (N := 6) hx hb hts nw_X5_judge_X1 hown hK hw.1 15 rfl rfl 1 (by decide) hL3 (fun _ h9 => h9) rfl dX5_judge_56 ?_
          refine lv_goto (tgt := 69) hx hb dX5_judge_59 (by decide) ?_
          have z : some (r5.2.1 1 0) = some x7 := e7
          cases z
          exact K7 _ _ _ (lv_sub hl [] rfl) hw
      · have hf := cd_ite_f c6 hf
        refine lv_bipush (v := (-6 : Int32)) hx hb dX5_judge_45 (by decide) ?_
        have z : some ((-6 : Int32), r5.2.2.2, r5.2.1, r5.2.2.1) = some o := hf
        cases z
        rw [hQ]
        exact cd_reti C0 hw dX5_judge_47
    · have hf := cd_ite_f c4 hf
      refine lv_bipush (v := (-5 : Int32)) hx hb dX5_judge_24 (by decide) ?_
      have z : some ((-5 : Int32), r3.2, Y, S) = some o := hf
      cases z
      rw [hQ]
      exact cd_reti C0 hw dX5_judge_26
  · have hf := cd_ite_t c2 hf
    refine lv_bipush (v := (-2 : Int32)) hx hb dX5_judge_9 (by decide) ?_
    have z : some ((-2 : Int32), P, Y, S) = some o := hf
    cases z
    rw [hQ]
    exact cd_reti C0 hw dX5_judge_11
abbrev rm_X5_lasts : Room := { frames := 3, cells := 0, slots := 0, locals := 67 }
theorem nw_X5_lasts_X5 : ∀ w ∈ u_ws RX5 TX5 8, w ∈ wsX5_lasts := by decide +kernel
set_option maxHeartbeats 4000000 in
set_option maxRecDepth 100000 in
theorem c_X5_lasts (l : Launch) (G : va_G) (cI cZ : ClassId) (sa sb : Nat) (h ht h1 h2 hp hy hs hv hz : Nat → Nat) (K T : Nat → Nat → Int32) (a0 : Int32) (o : Int32) (hf : f_X5_lasts a0 K T = some o) : cd_Ct l G cI cZ sa sb yX5_lasts wsX5_lasts rm_X5_lasts [.ref (h 0), .int a0] ((pc_top cZ h ht h1 h2 hp hy hv hz K) ++ (pc_town cI ht T)) ((pc_top cZ h ht h1 h2 hp hy hv hz K) ++ (pc_town cI ht T)) (some (.int o)) := by
  refine cd_of (cc := cX5_lasts) (maxL := 2) (ret := (some .int)) (by decide) rfl (Nat.le_of_ble_eq_true rfl) ?_
  intro p e s m ag below meth c A ls Q C0 hl hw hQ
  have C0 : cd_CX G cI cZ sa sb p s m ag meth c cX5_lasts 2 (some .int) wsX5_lasts RX5 A := C0
  obtain ⟨⟨hx, hb, hml, hown, hts⟩, hr, hlocks, hA, hE⟩ := id C0
  have hK := hE.1
  have hL0 := hts (.fieldLink RX5 12 "CandleDebts" "town" "LCandleDebts$Town;") (by decide +kernel)
  have hl : lv_has ls 2 [(0, .ref (h 0)), (1, .int a0)] := hl
  unfold f_X5_lasts at hf
  refine lv_iload_n hx hb dX5_lasts_0 rfl (lv_at hl 1 rfl) ?_
  obtain ⟨r1, e1, hf⟩ := cd_bind_some hf
  refine cd_callS (As := [.int a0]) (rest := []) C0 hw (c_X5_isCandle l G cI cZ sa sb a0 r1 e1) [] rfl rfl (va_cwS 1 hts gX5_lasts_X5_isCandle rfl rfl rfl (by decide +kernel) ⟨Nat.le_of_ble_eq_true rfl, Nat.le_of_ble_eq_true rfl⟩) rfl hl.1 (lv_room (Nat.le_of_ble_eq_true rfl)) dX5_lasts_1 (fun H locs hw => ?_)
  obtain ⟨x2, e2, hf⟩ := cd_bind_some hf
  have K2 : ∀ (ls : Array Slot) (H : Heap) (locs : List Loc), lv_has ls 2 [] → cd_WS G A s.heap H locs ((pc_top cZ h ht h1 h2 hp hy hv hz K) ++ (pc_town cI ht T)) → W p l e rm_X5_lasts s m ag below meth c H locs 0 0 Q (F0 m 19 ls [.int x2]) := by
    intro ls H locs hl hw
    have z : some x2 = some o := hf
    cases z
    rw [hQ]
    exact cd_reti C0 hw dX5_lasts_19
  refine lv_if_eq (tgt := 18) hx hb dX5_lasts_4 (by decide) (fun c2 => ?_) (fun c2 => ?_)
  · have e2 := cd_ite_t c2 e2
    refine lv_iconst (v := (-1 : Int32)) hx hb dX5_lasts_18 (by decide) ?_
    have z : some (-1 : Int32) = some x2 := e2
    cases z
    exact K2 _ _ _ (lv_sub hl [] rfl) hw
  · have e2 := cd_ite_f c2 e2
    refine lv_aload_n hx hb dX5_lasts_7 rfl (lv_at hl 0 rfl) ?_
    refine va_get (D := G) (ci := 5) (v := .ref (ht 0)) (C := RX5) (T := TX5) (N := 8) hx hb hts nw_X5_lasts_X5 hown hK hw.1 0 rfl rfl 0 (by decide) hL0 (fun _ h9 => h9) rfl dX5_lasts_8 ?_
    refine lv_iload_n hx hb dX5_lasts_11 rfl (lv_at hl 1 rfl) ?_
    obtain ⟨r3, e3, e2⟩ := cd_bind_some e2
    refine cd_callV (As := [.int a0]) (rest := []) C0 hw (c_X3_minutesLeft l G cI cZ sa sb ht T a0 r3 e3) [2, 3, 4, 5, 6, 7, 8, 9, 10, 11, 12] rfl rfl 0 3 rfl rfl rfl (cwV 1 hts gX5_lasts_X3_minutesLeft rfl rfl rfl (by decide +kernel) ⟨Nat.le_of_ble_eq_true rfl, Nat.le_of_ble_eq_true rfl⟩) rfl hl.1 (lv_room (Nat.le_of_ble_eq_true rfl)) dX5_lasts_12 (fun H locs hw => ?_)
    refine lv_goto (tgt := 19) hx hb dX5_lasts_15 (by decide) ?_
    have z : some r3 = some x2 := e2
    cases z
    exact K2 _ _ _ (lv_sub hl [] rfl) hw
abbrev rm_X5_look : Room := { frames := 6, cells := 0, slots := 0, locals := 140 }
theorem nw_X5_look_X5 : ∀ w ∈ u_ws RX5 TX5 8, w ∈ wsX5_look := by decide +kernel
set_option maxHeartbeats 4000000 in
set_option maxRecDepth 100000 in
theorem c_X5_look (l : Launch) (G : va_G) (cI cZ : ClassId) (sa sb : Nat) (h ht h1 h2 hp hy hs hv hz : Nat → Nat) (K T Z : Nat → Nat → Int32) (a0 : Int32) (o : Int32 × (Nat → Nat → Int32)) (hf : f_X5_look a0 K T Z = some o) : cd_Ct l G cI cZ sa sb yX5_look wsX5_look rm_X5_look [.ref (h 0), .int a0] ((pc_top cZ h ht h1 h2 hp hy hv hz K) ++ (pc_town cI ht T) ++ (pc_snz cI hz Z)) ((pc_top cZ h ht h1 h2 hp hy hv hz K) ++ (pc_town cI ht T) ++ (pc_snz cI hz o.2)) (some (.int o.1)) := by
  refine cd_of (cc := cX5_look) (maxL := 6) (ret := (some .int)) (by decide) rfl (Nat.le_of_ble_eq_true rfl) ?_
  intro p e s m ag below meth c A ls Q C0 hl hw hQ
  have C0 : cd_CX G cI cZ sa sb p s m ag meth c cX5_look 6 (some .int) wsX5_look RX5 A := C0
  obtain ⟨⟨hx, hb, hml, hown, hts⟩, hr, hlocks, hA, hE⟩ := id C0
  have hK := hE.1
  have hL0 := hts (.fieldLink RX5 50 "CandleDebts" "sneezing" "LCandleDebts$Sneezing;") (by decide +kernel)
  have hL1 := hts (.fieldLink RX5 12 "CandleDebts" "town" "LCandleDebts$Town;") (by decide +kernel)
  have hl : lv_has ls 6 [(0, .ref (h 0)), (1, .int a0)] := hl
  unfold f_X5_look at hf
  refine lv_iload_n hx hb dX5_look_0 rfl (lv_at hl 1 rfl) ?_
  refine lv_iconst (v := (0 : Int32)) hx hb dX5_look_1 (by decide) ?_
  refine lv_iconst (v := (1 : Int32)) hx hb dX5_look_2 (by decide) ?_
  obtain ⟨r1, e1, hf⟩ := cd_bind_some hf
  refine cd_callS (As := [.int a0, .int (0 : Int32), .int (1 : Int32)]) (rest := []) C0 hw (c_X5_within l G cI cZ sa sb a0 (0 : Int32) (1 : Int32) r1 e1) [] rfl rfl (va_cwS 3 hts gX5_look_X5_within rfl rfl rfl (by decide +kernel) ⟨Nat.le_of_ble_eq_true rfl, Nat.le_of_ble_eq_true rfl⟩) rfl hl.1 (lv_room (Nat.le_of_ble_eq_true rfl)) dX5_look_3 (fun H locs hw => ?_)
  refine lv_if_ne (tgt := 12) hx hb dX5_look_6 (by decide) (fun c2 => ?_) (fun c2 => ?_)
  · have hf := cd_ite_f c2 hf
    refine lv_aload_n hx hb dX5_look_12 rfl (lv_at hl 0 rfl) ?_
    refine va_get (D := G) (ci := 5) (v := .ref (hz 0)) (C := RX5) (T := TX5) (N := 8) hx hb hts nw_X5_look_X5 hown hK hw.1 0 rfl rfl 7 (by decide) hL0 (fun _ h9 => h9) rfl dX5_look_13 ?_
    refine lv_aload_n hx hb dX5_look_16 rfl (lv_at hl 0 rfl) ?_
    refine va_get (D := G) (ci := 5) (v := .ref (ht 0)) (C := RX5) (T := TX5) (N := 8) hx hb hts nw_X5_look_X5 hown hK hw.1 0 rfl rfl 0 (by decide) hL1 (fun _ h9 => h9) rfl dX5_look_17 ?_
    obtain ⟨r3, e3, hf⟩ := cd_bind_some hf
    refine cd_callVw (As := [.ref (ht 0)]) (rest := []) (wr := (pc_top cZ h ht h1 h2 hp hy hv hz K)) (wn := (pc_top cZ h ht h1 h2 hp hy hv hz K) ++ (pc_town cI ht T) ++ (pc_snz cI hz r3)) C0 hw (c_X2_fit l G cI cZ sa sb hz ht Z T r3 e3) [13, 14, 15, 16, 2, 3, 4, 5, 6, 7, 8, 9, 10, 11, 12] [0, 1] [0, 1, 6, 7, 8, 9, 10, 11, 12, 13, 14, 15, 16, 2, 3, 4, 5] rfl rfl rfl rfl (by decide) rfl rfl 0 2 rfl rfl rfl (cwV 1 hts gX5_look_X2_fit rfl rfl rfl (by decide +kernel) ⟨Nat.le_of_ble_eq_true rfl, Nat.le_of_ble_eq_true rfl⟩) rfl hl.1 (lv_room (Nat.le_of_ble_eq_true rfl)) dX5_look_20 (fun H locs hw => ?_)
    refine lv_aload_n hx hb dX5_look_23 rfl (lv_at hl 0 rfl) ?_
    refine va_get (D := G) (ci := 5) (v := .ref (hz 0)) (C := RX5) (T := TX5) (N := 8) hx hb hts nw_X5_look_X5 hown hK hw.1 0 rfl rfl 7 (by decide) hL0 (fun _ h9 => h9) rfl dX5_look_24 ?_
    obtain ⟨r4, e4, hf⟩ := cd_bind_some hf
    refine cd_callV (As := []) (rest := []) C0 hw (c_X2_howMany l G cI cZ sa sb hz r3 r4 e4) [13, 14, 15, 16] rfl rfl 0 2 rfl rfl rfl (cwV 0 hts gX5_look_X2_howMany rfl rfl rfl (by decide +kernel) ⟨Nat.le_of_ble_eq_true rfl, Nat.le_of_ble_eq_true rfl⟩) rfl hl.1 (lv_room (Nat.le_of_ble_eq_true rfl)) dX5_look_27 (fun H locs hw => ?_)
    refine lv_if_ne (tgt := 36) hx hb dX5_look_30 (by decide) (fun c5 => ?_) (fun c5 => ?_)
    · have hf := cd_ite_f c5 hf
      refine lv_iconst (v := (0 : Int32)) hx hb dX5_look_36 (by decide) ?_
      refine lv_istore_n (lv' := [(2, .int (0 : Int32)), (0, .ref (h 0)), (1, .int a0)]) hx hb dX5_look_37 rfl hl (by decide) rfl (fun ls hl => ?_)
      refine lv_aload_n hx hb dX5_look_38 rfl (lv_at hl 1 rfl) ?_
      refine va_get (D := G) (ci := 5) (v := .ref (hz 0)) (C := RX5) (T := TX5) (N := 8) hx hb hts nw_X5_look_X5 hown hK hw.1 0 rfl rfl 7 (by decide) hL0 (fun _ h9 => h9) rfl dX5_look_39 ?_
      refine lv_aload_n hx hb dX5_look_42 rfl (lv_at hl 1 rfl) ?_
      refine va_get (D := G) (ci := 5) (v := .ref (ht 0)) (C := RX5) (T := TX5) (N := 8) hx hb hts nw_X5_look_X5 hown hK hw.1 0 rfl rfl 0 (by decide) hL1 (fun _ h9 => h9) rfl dX5_look_43 ?_
      refine lv_iconst (v := (0 : Int32)) hx hb dX5_look_46 (by decide) ?_
      obtain ⟨r6, e6, hf⟩ := cd_bind_some hf
      refine cd_callVw (As := [.ref (ht 0), .int (0 : Int32)]) (rest := []) (wr := (pc_top cZ h ht h1 h2 hp hy hv hz K)) (wn := (pc_top cZ h ht h1 h2 hp hy hv hz K) ++ (pc_town cI ht T) ++ (pc_snz cI hz r6.2)) C0 hw (c_X2_mostLeft l G cI cZ sa sb hz ht r3 T (0 : Int32) r6 e6) [13, 14, 15, 16, 2, 3, 4, 5, 6, 7, 8, 9, 10, 11, 12] [0, 1] [0, 1, 6, 7, 8, 9, 10, 11, 12, 13, 14, 15, 16, 2, 3, 4, 5] rfl rfl rfl rfl (by decide) rfl rfl 0 2 rfl rfl rfl (cwV 2 hts gX5_look_X2_mostLeft rfl rfl rfl (by decide +kernel) ⟨Nat.le_of_ble_eq_true rfl, Nat.le_of_ble_eq_true rfl⟩) rfl hl.1 (lv_room (Nat.le_of_ble_eq_true rfl)) dX5_look_47 (fun H locs hw => ?_)
      refine lv_istore_n (lv' := [(3, .int r6.1), (2, .int (0 : Int32)), (0, .ref (h 0)), (1, .int a0)]) hx hb dX5_look_50 rfl hl (by decide) rfl (fun ls hl => ?_)
      refine lv_iconst (v := (1 : Int32)) hx hb dX5_look_51 (by decide) ?_
      refine lv_istore (lv' := [(4, .int (1 : Int32)), (3, .int r6.1), (2, .int (0 : Int32)), (0, .ref (h 0)), (1, .int a0)]) hx hb dX5_look_52 hl (by decide) rfl (fun ls hl => ?_)
      obtain ⟨x7, e7, hf⟩ := cd_bind_some hf
      have K7 : ∀ (t7 : Int32 × Int32 × (Nat → Nat → Int32)), t7 = x7 → ∀ (ls : Array Slot) (H : Heap) (locs : List Loc), lv_has ls 6 [(1, .int a0), (2, .int t7.1), (3, .int t7.2.1)] → cd_WS G A s.heap H locs ((pc_top cZ h ht h1 h2 hp hy hv hz K) ++ (pc_town cI ht T) ++ (pc_snz cI hz t7.2.2)) → W p l e rm_X5_look s m ag below meth c H locs 0 0 Q (F0 m 94 ls []) := by
        intro t7 hs_7
        subst hs_7
        intro ls H locs hl hw
        refine lv_iload_n hx hb dX5_look_94 rfl (lv_at hl 0 rfl) ?_
        obtain ⟨x11, e11, hf⟩ := cd_bind_some hf
        have K11 : ∀ (ls : Array Slot) (H : Heap) (locs : List Loc), lv_has ls 6 [] → cd_WS G A s.heap H locs ((pc_top cZ h ht h1 h2 hp hy hv hz K) ++ (pc_town cI ht T) ++ (pc_snz cI hz t7.2.2)) → W p l e rm_X5_look s m ag below meth c H locs 0 0 Q (F0 m 103 ls [.int x11]) := by
          intro ls H locs hl hw
          have z : some (x11, t7.2.2) = some o := hf
          cases z
          rw [hQ]
          exact cd_reti C0 hw dX5_look_103
        refine lv_if_ne (tgt := 102) hx hb dX5_look_95 (by decide) (fun c11 => ?_) (fun c11 => ?_)
        · have e11 := cd_ite_f c11 e11
          refine lv_iload_n hx hb dX5_look_102 rfl (lv_at hl 2 rfl) ?_
          have z : some t7.2.1 = some x11 := e11
          cases z
          exact K11 _ _ _ (lv_sub hl [] rfl) hw
        · have e11 := cd_ite_t c11 e11
          refine lv_iload_n hx hb dX5_look_98 rfl (lv_at hl 1 rfl) ?_
          refine lv_goto (tgt := 103) hx hb dX5_look_99 (by decide) ?_
          have z : some t7.1 = some x11 := e11
          cases z
          exact K11 _ _ _ (lv_sub hl [] rfl) hw
      refine cd_iter_ind (body := (f_X5_look_b54 T)) (K := fun r => r = x7) (P := fun (z7 : Int32 × Int32 × Int32 × (Nat → Nat → Int32)) => ∀ (ls : Array Slot) (H : Heap) (locs : List Loc), lv_has ls 6 [(0, .ref (h 0)), (1, .int a0), (2, .int z7.1), (3, .int z7.2.1), (4, .int z7.2.2.1)] → cd_WS G A s.heap H locs ((pc_top cZ h ht h1 h2 hp hy hv hz K) ++ (pc_town cI ht T) ++ (pc_snz cI hz z7.2.2.2)) → W p l e rm_X5_look s m ag below meth c H locs 0 0 Q (F0 m 54 ls [])) ?_ cd_N ((0 : Int32), r6.1, (1 : Int32), r6.2) x7 e7 rfl _ _ _ (lv_sub hl [3, 4, 2, 1, 0] rfl) hw
      intro z7 o7 hb7 hk7 ls H locs hl hw
      unfold f_X5_look_b54 at hb7
      refine lv_iload hx hb dX5_look_54 (lv_at hl 4 rfl) ?_
      refine lv_bipush (v := (12 : Int32)) hx hb dX5_look_56 (by decide) ?_
      refine lv_icmp_ge (tgt := 94) hx hb dX5_look_58 (by decide) (fun c8 => ?_) (fun c8 => ?_)
      · have hb7 := cd_ite_t c8 hb7
        have z : some (Sum.inl (z7.1, z7.2.1, z7.2.2.2)) = some o7 := hb7
        cases z
        exact K7 _ hk7 _ _ _ (lv_sub hl [1, 2, 3] rfl) hw
      · have hb7 := cd_ite_f c8 hb7
        refine lv_aload_n hx hb dX5_look_61 rfl (lv_at hl 0 rfl) ?_
        refine va_get (D := G) (ci := 5) (v := .ref (hz 0)) (C := RX5) (T := TX5) (N := 8) hx hb hts nw_X5_look_X5 hown hK hw.1 0 rfl rfl 7 (by decide) hL0 (fun _ h9 => h9) rfl dX5_look_62 ?_
        refine lv_aload_n hx hb dX5_look_65 rfl (lv_at hl 0 rfl) ?_
        refine va_get (D := G) (ci := 5) (v := .ref (ht 0)) (C := RX5) (T := TX5) (N := 8) hx hb hts nw_X5_look_X5 hown hK hw.1 0 rfl rfl 0 (by decide) hL1 (fun _ h9 => h9) rfl dX5_look_66 ?_
        refine lv_iload hx hb dX5_look_69 (lv_at hl 4 rfl) ?_
        obtain ⟨r9, e9, hb7⟩ := cd_bind_some hb7
        refine cd_callVw (As := [.ref (ht 0), .int z7.2.2.1]) (rest := []) (wr := (pc_top cZ h ht h1 h2 hp hy hv hz K)) (wn := (pc_top cZ h ht h1 h2 hp hy hv hz K) ++ (pc_town cI ht T) ++ (pc_snz cI hz r9.2)) C0 hw (c_X2_mostLeft l G cI cZ sa sb hz ht z7.2.2.2 T z7.2.2.1 r9 e9) [13, 14, 15, 16, 2, 3, 4, 5, 6, 7, 8, 9, 10, 11, 12] [0, 1] [0, 1, 6, 7, 8, 9, 10, 11, 12, 13, 14, 15, 16, 2, 3, 4, 5] rfl rfl rfl rfl (by decide) rfl rfl 0 2 rfl rfl rfl (cwV 2 hts gX5_look_X2_mostLeft rfl rfl rfl (by decide +kernel) ⟨Nat.le_of_ble_eq_true rfl, Nat.le_of_ble_eq_true rfl⟩) rfl hl.1 (lv_room (Nat.le_of_ble_eq_true rfl)) dX5_look_71 (fun H locs hw => ?_)
        refine lv_istore (lv' := [(5, .int r9.1), (0, .ref (h 0)), (1, .int a0), (2, .int z7.1), (3, .int z7.2.1), (4, .int z7.2.2.1)]) hx hb dX5_look_74 hl (by decide) rfl (fun ls hl => ?_)
        refine lv_iload hx hb dX5_look_76 (lv_at hl 0 rfl) ?_
        refine lv_iload_n hx hb dX5_look_78 rfl (lv_at hl 4 rfl) ?_
        refine lv_icmp_ge (tgt := 88) hx hb dX5_look_79 (by decide) (fun c10 => ?_) (fun c10 => ?_)
        · have hb7 := cd_ite_t c10 hb7
          refine lv_iinc (v := (z7.2.2.1 + (1 : Int32))) (lv' := [(4, .int (z7.2.2.1 + (1 : Int32))), (5, .int r9.1), (0, .ref (h 0)), (1, .int a0), (2, .int z7.1), (3, .int z7.2.1)]) hx hb dX5_look_88 hl (k := 5) rfl rfl (by decide) rfl (fun ls hl => ?_)
          refine lv_goto (tgt := 54) hx hb dX5_look_91 (by decide) ?_
          have z : some (Sum.inr (z7.1, z7.2.1, (z7.2.2.1 + (1 : Int32)), r9.2)) = some o7 := hb7
          cases z
          exact hk7 _ _ _ (lv_sub hl [2, 3, 4, 5, 0] rfl) hw
        · have hb7 := cd_ite_f c10 hb7
          refine lv_iload hx hb dX5_look_82 (lv_at hl 5 rfl) ?_
          refine lv_istore_n (lv' := [(2, .int z7.2.2.1), (5, .int r9.1), (0, .ref (h 0)), (1, .int a0), (3, .int z7.2.1), (4, .int z7.2.2.1)]) hx hb dX5_look_84 rfl hl (by decide) rfl (fun ls hl => ?_)
          refine lv_iload hx hb dX5_look_85 (lv_at hl 1 rfl) ?_
          refine lv_istore_n (lv' := [(3, .int r9.1), (2, .int z7.2.2.1), (5, .int r9.1), (0, .ref (h 0)), (1, .int a0), (4, .int z7.2.2.1)]) hx hb dX5_look_87 rfl hl (by decide) rfl (fun ls hl => ?_)
          refine lv_iinc (v := (z7.2.2.1 + (1 : Int32))) (lv' := [(4, .int (z7.2.2.1 + (1 : Int32))), (3, .int r9.1), (2, .int z7.2.2.1), (5, .int r9.1), (0, .ref (h 0)), (1, .int a0)]) hx hb dX5_look_88 hl (k := 5) rfl rfl (by decide) rfl (fun ls hl => ?_)
          refine lv_goto (tgt := 54) hx hb dX5_look_91 (by decide) ?_
          have z : some (Sum.inr (z7.2.2.1, r9.1, (z7.2.2.1 + (1 : Int32)), r9.2)) = some o7 := hb7
          cases z
          exact hk7 _ _ _ (lv_sub hl [4, 5, 2, 1, 0] rfl) hw
    · have hf := cd_ite_t c5 hf
      refine lv_bipush (v := (-6 : Int32)) hx hb dX5_look_33 (by decide) ?_
      have z : some ((-6 : Int32), r3) = some o := hf
      cases z
      rw [hQ]
      exact cd_reti C0 hw dX5_look_35
  · have hf := cd_ite_t c2 hf
    refine lv_bipush (v := (-2 : Int32)) hx hb dX5_look_9 (by decide) ?_
    have z : some ((-2 : Int32), Z) = some o := hf
    cases z
    rw [hQ]
    exact cd_reti C0 hw dX5_look_11
abbrev rm_X5_matches : Room := { frames := 1, cells := 0, slots := 0, locals := 22 }
theorem nw_X5_matches_X3 : ∀ w ∈ u_ws RX3 TX3 14, w ∈ wsX5_matches := by decide +kernel
theorem nw_X5_matches_X5 : ∀ w ∈ u_ws RX5 TX5 8, w ∈ wsX5_matches := by decide +kernel
set_option maxHeartbeats 4000000 in
set_option maxRecDepth 100000 in
theorem c_X5_matches (l : Launch) (G : va_G) (cI cZ : ClassId) (sa sb : Nat) (h ht h1 h2 hp hy hs hv hz : Nat → Nat) (K T : Nat → Nat → Int32) (a0 : Int32) (o : Int32 × (Nat → Nat → Int32)) (hf : f_X5_matches a0 K T = some o) : cd_Ct l G cI cZ sa sb yX5_matches wsX5_matches rm_X5_matches [.ref (h 0), .int a0] ((pc_top cZ h ht h1 h2 hp hy hv hz K) ++ (pc_town cI ht T)) ((pc_top cZ h ht h1 h2 hp hy hv hz K) ++ (pc_town cI ht o.2)) (some (.int o.1)) := by
  refine cd_of (cc := cX5_matches) (maxL := 3) (ret := (some .int)) (by decide) rfl (Nat.le_of_ble_eq_true rfl) ?_
  intro p e s m ag below meth c A ls Q C0 hl hw hQ
  have C0 : cd_CX G cI cZ sa sb p s m ag meth c cX5_matches 3 (some .int) wsX5_matches RX5 A := C0
  obtain ⟨⟨hx, hb, hml, hown, hts⟩, hr, hlocks, hA, hE⟩ := id C0
  have hK := hE.1
  have hL0 := hts (.fieldLink RX5 12 "CandleDebts" "town" "LCandleDebts$Town;") (by decide +kernel)
  have hL1 := hts (.fieldLink RX5 79 "CandleDebts$Town" "matchesLeft" "I") (by decide +kernel)
  have hl : lv_has ls 3 [(0, .ref (h 0)), (1, .int a0)] := hl
  unfold f_X5_matches at hf
  refine lv_iload_n hx hb dX5_matches_0 rfl (lv_at hl 1 rfl) ?_
  refine lv_iconst (v := (0 : Int32)) hx hb dX5_matches_1 (by decide) ?_
  refine lv_bipush (v := (99 : Int32)) hx hb dX5_matches_2 (by decide) ?_
  obtain ⟨r1, e1, hf⟩ := cd_bind_some hf
  refine cd_callS (As := [.int a0, .int (0 : Int32), .int (99 : Int32)]) (rest := []) C0 hw (c_X5_within l G cI cZ sa sb a0 (0 : Int32) (99 : Int32) r1 e1) [] rfl rfl (va_cwS 3 hts gX5_matches_X5_within rfl rfl rfl (by decide +kernel) ⟨Nat.le_of_ble_eq_true rfl, Nat.le_of_ble_eq_true rfl⟩) rfl hl.1 (lv_room (Nat.le_of_ble_eq_true rfl)) dX5_matches_4 (fun H locs hw => ?_)
  refine lv_if_ne (tgt := 13) hx hb dX5_matches_7 (by decide) (fun c2 => ?_) (fun c2 => ?_)
  · have hf := cd_ite_f c2 hf
    refine lv_aload_n hx hb dX5_matches_13 rfl (lv_at hl 0 rfl) ?_
    refine va_get (D := G) (ci := 5) (v := .ref (ht 0)) (C := RX5) (T := TX5) (N := 8) hx hb hts nw_X5_matches_X5 hown hK hw.1 0 rfl rfl 0 (by decide) hL0 (fun _ h9 => h9) rfl dX5_matches_14 ?_
    refine va_get (D := G) (ci := 3) (v := .int (T 12 0)) (C := RX3) (T := TX3) (N := 14) hx hb hts nw_X5_matches_X3 hown hK hw.1 2 rfl rfl 12 (by decide) hL1 (fun _ h9 => h9) rfl dX5_matches_17 ?_
    refine lv_istore_n (lv' := [(2, .int (T 12 0)), (0, .ref (h 0)), (1, .int a0)]) hx hb dX5_matches_20 rfl hl (by decide) rfl (fun ls hl => ?_)
    refine lv_aload_n hx hb dX5_matches_21 rfl (lv_at hl 1 rfl) ?_
    refine va_get (D := G) (ci := 5) (v := .ref (ht 0)) (C := RX5) (T := TX5) (N := 8) hx hb hts nw_X5_matches_X5 hown hK hw.1 0 rfl rfl 0 (by decide) hL0 (fun _ h9 => h9) rfl dX5_matches_22 ?_
    refine lv_iload_n hx hb dX5_matches_25 rfl (lv_at hl 2 rfl) ?_
    refine va_put (D := G) (ci := 3) (v := .int a0) (ty := .int) (C := RX3) (T := TX3) (N := 14) hx hb hts nw_X5_matches_X3 tyX3 tyX3_ok nmX3 hown hK hw.1 hw.2.1 hw.2.2 2 rfl rfl 12 (by decide) hL1 (fun _ h9 => h9) rfl (by decide +kernel) rfl rfl (Nat.le_of_ble_eq_true rfl) dX5_matches_26 (fun H locs hP hD hS => ?_)
    have hw : cd_WS G A s.heap H locs ((pc_top cZ h ht h1 h2 hp hy hv hz K) ++ (pc_town cI ht (cd_fld T 12 a0))) := ⟨hP, hD, hS⟩
    refine lv_iload_n hx hb dX5_matches_29 rfl (lv_at hl 0 rfl) ?_
    have z : some ((T 12 0), (cd_fld T 12 a0)) = some o := hf
    cases z
    rw [hQ]
    exact cd_reti C0 hw dX5_matches_30
  · have hf := cd_ite_t c2 hf
    refine lv_bipush (v := (-2 : Int32)) hx hb dX5_matches_10 (by decide) ?_
    have z : some ((-2 : Int32), T) = some o := hf
    cases z
    rw [hQ]
    exact cd_reti C0 hw dX5_matches_12
abbrev rm_X5_may : Room := { frames := 3, cells := 0, slots := 0, locals := 63 }
theorem nw_X5_may_X3 : ∀ w ∈ u_ws RX3 TX3 14, w ∈ wsX5_may := by decide +kernel
theorem nw_X5_may_X5 : ∀ w ∈ u_ws RX5 TX5 8, w ∈ wsX5_may := by decide +kernel
set_option maxHeartbeats 4000000 in
set_option maxRecDepth 100000 in
theorem c_X5_may (l : Launch) (G : va_G) (cI cZ : ClassId) (sa sb : Nat) (h ht h1 h2 hp hy hs hv hz : Nat → Nat) (K T : Nat → Nat → Int32) (a0 : Int32) (o : Int32) (hf : f_X5_may a0 K T = some o) : cd_Ct l G cI cZ sa sb yX5_may wsX5_may rm_X5_may [.ref (h 0), .int a0] ((pc_top cZ h ht h1 h2 hp hy hv hz K) ++ (pc_town cI ht T)) ((pc_top cZ h ht h1 h2 hp hy hv hz K) ++ (pc_town cI ht T)) (some (.int o)) := by
  refine cd_of (cc := cX5_may) (maxL := 4) (ret := (some .int)) (by decide) rfl (Nat.le_of_ble_eq_true rfl) ?_
  intro p e s m ag below meth c A ls Q C0 hl hw hQ
  have C0 : cd_CX G cI cZ sa sb p s m ag meth c cX5_may 4 (some .int) wsX5_may RX5 A := C0
  obtain ⟨⟨hx, hb, hml, hown, hts⟩, hr, hlocks, hA, hE⟩ := id C0
  have hK := hE.1
  have hL0 := hts (.fieldLink RX5 12 "CandleDebts" "town" "LCandleDebts$Town;") (by decide +kernel)
  have hL1 := hts (.fieldLink RX5 151 "CandleDebts$Town" "creditors" "[I") (by decide +kernel)
  have hl : lv_has ls 4 [(0, .ref (h 0)), (1, .int a0)] := hl
  unfold f_X5_may at hf
  refine lv_iload_n hx hb dX5_may_0 rfl (lv_at hl 1 rfl) ?_
  obtain ⟨r1, e1, hf⟩ := cd_bind_some hf
  refine cd_callS (As := [.int a0]) (rest := []) C0 hw (c_X5_isOne l G cI cZ sa sb a0 r1 e1) [] rfl rfl (va_cwS 1 hts gX5_may_X5_isOne rfl rfl rfl (by decide +kernel) ⟨Nat.le_of_ble_eq_true rfl, Nat.le_of_ble_eq_true rfl⟩) rfl hl.1 (lv_room (Nat.le_of_ble_eq_true rfl)) dX5_may_1 (fun H locs hw => ?_)
  refine lv_if_ne (tgt := 9) hx hb dX5_may_4 (by decide) (fun c2 => ?_) (fun c2 => ?_)
  · have hf := cd_ite_f c2 hf
    refine lv_iconst (v := (0 : Int32)) hx hb dX5_may_9 (by decide) ?_
    refine lv_istore_n (lv' := [(2, .int (0 : Int32)), (0, .ref (h 0)), (1, .int a0)]) hx hb dX5_may_10 rfl hl (by decide) rfl (fun ls hl => ?_)
    refine lv_iconst (v := (0 : Int32)) hx hb dX5_may_11 (by decide) ?_
    refine lv_istore_n (lv' := [(3, .int (0 : Int32)), (2, .int (0 : Int32)), (0, .ref (h 0)), (1, .int a0)]) hx hb dX5_may_12 rfl hl (by decide) rfl (fun ls hl => ?_)
    obtain ⟨x3, e3, hf⟩ := cd_bind_some hf
    have K3 : ∀ (t3 : Int32), t3 = x3 → ∀ (ls : Array Slot) (H : Heap) (locs : List Loc), lv_has ls 4 [(2, .int t3)] → cd_WS G A s.heap H locs ((pc_top cZ h ht h1 h2 hp hy hv hz K) ++ (pc_town cI ht T)) → W p l e rm_X5_may s m ag below meth c H locs 0 0 Q (F0 m 56 ls []) := by
      intro t3 hs_3
      subst hs_3
      intro ls H locs hl hw
      refine lv_iload_n hx hb dX5_may_56 rfl (lv_at hl 0 rfl) ?_
      have z : some t3 = some o := hf
      cases z
      rw [hQ]
      exact cd_reti C0 hw dX5_may_57
    refine cd_iter_ind (body := (f_X5_may_b13 a0 T)) (K := fun r => r = x3) (P := fun (z3 : Int32 × Int32) => ∀ (ls : Array Slot) (H : Heap) (locs : List Loc), lv_has ls 4 [(0, .ref (h 0)), (1, .int a0), (2, .int z3.1), (3, .int z3.2)] → cd_WS G A s.heap H locs ((pc_top cZ h ht h1 h2 hp hy hv hz K) ++ (pc_town cI ht T)) → W p l e rm_X5_may s m ag below meth c H locs 0 0 Q (F0 m 13 ls [])) ?_ cd_N ((0 : Int32), (0 : Int32)) x3 e3 rfl _ _ _ (lv_sub hl [2, 3, 1, 0] rfl) hw
    intro z3 o3 hb3 hk3 ls H locs hl hw
    unfold f_X5_may_b13 at hb3
    refine lv_iload_n hx hb dX5_may_13 rfl (lv_at hl 3 rfl) ?_
    refine lv_bipush (v := (12 : Int32)) hx hb dX5_may_14 (by decide) ?_
    refine lv_icmp_ge (tgt := 56) hx hb dX5_may_16 (by decide) (fun c4 => ?_) (fun c4 => ?_)
    · have hb3 := cd_ite_t c4 hb3
      have z : some (Sum.inl z3.1) = some o3 := hb3
      cases z
      exact K3 _ hk3 _ _ _ (lv_sub hl [2] rfl) hw
    · have hb3 := cd_ite_f c4 hb3
      refine lv_aload_n hx hb dX5_may_19 rfl (lv_at hl 0 rfl) ?_
      refine va_get (D := G) (ci := 5) (v := .ref (ht 0)) (C := RX5) (T := TX5) (N := 8) hx hb hts nw_X5_may_X5 hown hK hw.1 0 rfl rfl 0 (by decide) hL0 (fun _ h9 => h9) rfl dX5_may_20 ?_
      refine lv_iload_n hx hb dX5_may_23 rfl (lv_at hl 3 rfl) ?_
      obtain ⟨r5, e5, hb3⟩ := cd_bind_some hb3
      refine cd_callV (As := [.int z3.2]) (rest := []) C0 hw (c_X3_canBeAsked l G cI cZ sa sb ht T z3.2 r5 e5) [2, 3, 4, 5, 6, 7, 8, 9, 10, 11, 12] rfl rfl 0 3 rfl rfl rfl (cwV 1 hts gX5_may_X3_canBeAsked rfl rfl rfl (by decide +kernel) ⟨Nat.le_of_ble_eq_true rfl, Nat.le_of_ble_eq_true rfl⟩) rfl hl.1 (lv_room (Nat.le_of_ble_eq_true rfl)) dX5_may_24 (fun H locs hw => ?_)
      refine lv_if_eq (tgt := 50) hx hb dX5_may_27 (by decide) (fun c6 => ?_) (fun c6 => ?_)
      · have hb3 := cd_ite_t c6 hb3
        refine lv_iinc (v := (z3.2 + (1 : Int32))) (lv' := [(3, .int (z3.2 + (1 : Int32))), (0, .ref (h 0)), (1, .int a0), (2, .int z3.1)]) hx hb dX5_may_50 hl (k := 3) rfl rfl (by decide) rfl (fun ls hl => ?_)
        refine lv_goto (tgt := 13) hx hb dX5_may_53 (by decide) ?_
        have z : some (Sum.inr (z3.1, (z3.2 + (1 : Int32)))) = some o3 := hb3
        cases z
        exact hk3 _ _ _ (lv_sub hl [1, 2, 3, 0] rfl) hw
      · have hb3 := cd_ite_f c6 hb3
        refine lv_aload_n hx hb dX5_may_30 rfl (lv_at hl 0 rfl) ?_
        refine va_get (D := G) (ci := 5) (v := .ref (ht 0)) (C := RX5) (T := TX5) (N := 8) hx hb hts nw_X5_may_X5 hown hK hw.1 0 rfl rfl 0 (by decide) hL0 (fun _ h9 => h9) rfl dX5_may_31 ?_
        refine va_get (D := G) (ci := 3) (v := .ref (ht 4)) (C := RX3) (T := TX3) (N := 14) hx hb hts nw_X5_may_X3 hown hK hw.1 2 rfl rfl 3 (by decide) hL1 (fun _ h9 => h9) rfl dX5_may_34 ?_
        refine lv_iload_n hx hb dX5_may_37 rfl (lv_at hl 3 rfl) ?_
        obtain ⟨v7, e7, hb3⟩ := cd_bind_some hb3
        refine cd_iald hx hb hK hw 6 rfl e7 dX5_may_38 ?_
        refine lv_iload_n hx hb dX5_may_39 rfl (lv_at hl 1 rfl) ?_
        refine lv_icmp_ne (tgt := 50) hx hb dX5_may_40 (by decide) (fun c8 => ?_) (fun c8 => ?_)
        · have hb3 := cd_ite_f c8 hb3
          refine lv_iinc (v := (z3.2 + (1 : Int32))) (lv' := [(3, .int (z3.2 + (1 : Int32))), (0, .ref (h 0)), (1, .int a0), (2, .int z3.1)]) hx hb dX5_may_50 hl (k := 3) rfl rfl (by decide) rfl (fun ls hl => ?_)
          refine lv_goto (tgt := 13) hx hb dX5_may_53 (by decide) ?_
          have z : some (Sum.inr (z3.1, (z3.2 + (1 : Int32)))) = some o3 := hb3
          cases z
          exact hk3 _ _ _ (lv_sub hl [1, 2, 3, 0] rfl) hw
        · have hb3 := cd_ite_t c8 hb3
          refine lv_iload_n hx hb dX5_may_43 rfl (lv_at hl 2 rfl) ?_
          refine lv_iload_n hx hb dX5_may_44 rfl (lv_at hl 3 rfl) ?_
          obtain ⟨r9, e9, hb3⟩ := cd_bind_some hb3
          refine cd_callS (As := [.int z3.2]) (rest := [.int z3.1]) C0 hw (c_X5_bit l G cI cZ sa sb z3.2 r9 e9) [] rfl rfl (va_cwS 1 hts gX5_may_X5_bit rfl rfl rfl (by decide +kernel) ⟨Nat.le_of_ble_eq_true rfl, Nat.le_of_ble_eq_true rfl⟩) rfl hl.1 (lv_room (Nat.le_of_ble_eq_true rfl)) dX5_may_45 (fun H locs hw => ?_)
          refine lv_ior hx hb dX5_may_48 ?_
          refine lv_istore_n (lv' := [(2, .int (z3.1 ||| r9)), (0, .ref (h 0)), (1, .int a0), (3, .int z3.2)]) hx hb dX5_may_49 rfl hl (by decide) rfl (fun ls hl => ?_)
          refine lv_iinc (v := (z3.2 + (1 : Int32))) (lv' := [(3, .int (z3.2 + (1 : Int32))), (2, .int (z3.1 ||| r9)), (0, .ref (h 0)), (1, .int a0)]) hx hb dX5_may_50 hl (k := 3) rfl rfl (by decide) rfl (fun ls hl => ?_)
          refine lv_goto (tgt := 13) hx hb dX5_may_53 (by decide) ?_
          have z : some (Sum.inr ((z3.1 ||| r9), (z3.2 + (1 : Int32)))) = some o3 := hb3
          cases z
          exact hk3 _ _ _ (lv_sub hl [2, 3, 1, 0] rfl) hw
  · have hf := cd_ite_t c2 hf
    refine lv_iconst (v := (-1 : Int32)) hx hb dX5_may_7 (by decide) ?_
    have z : some (-1 : Int32) = some o := hf
    cases z
    rw [hQ]
    exact cd_reti C0 hw dX5_may_8
abbrev rm_X5_partOf : Room := { frames := 0, cells := 0, slots := 0, locals := 0 }
set_option maxHeartbeats 4000000 in
set_option maxRecDepth 100000 in
theorem c_X5_partOf (l : Launch) (G : va_G) (cI cZ : ClassId) (sa sb : Nat) (a0 : Int64) (a1 : Int64) (a2 : Int32) (o : Int64) (hf : f_X5_partOf a0 a1 a2 = some o) : cd_Ct l G cI cZ sa sb yX5_partOf wsX5_partOf rm_X5_partOf [.long a0, .long a1, .int a2] (([] : va_W)) (([] : va_W)) (some (.long o)) := by
  refine cd_of (cc := cX5_partOf) (maxL := 12) (ret := (some .long)) (by decide) rfl (Nat.le_of_ble_eq_true rfl) ?_
  intro p e s m ag below meth c A ls Q C0 hl hw hQ
  have C0 : cd_CX G cI cZ sa sb p s m ag meth c cX5_partOf 12 (some .long) wsX5_partOf RX5 A := C0
  obtain ⟨⟨hx, hb, hml, hown, hts⟩, hr, hlocks, hA, hE⟩ := id C0
  have hK := hE.1
  have hl : lv_has ls 12 [(0, .long a0), (2, .long a1), (4, .int a2)] := hl
  unfold f_X5_partOf at hf
  refine lv_lload_n hx hb dX5_partOf_0 rfl (lv_at hl 1 rfl) ?_
  refine lv_lstore (lv' := [(5, .long a1), (0, .long a0), (2, .long a1), (4, .int a2)]) hx hb dX5_partOf_1 hl (by decide) rfl (fun ls hl => ?_)
  refine lv_lload_n hx hb dX5_partOf_3 rfl (lv_at hl 1 rfl) ?_
  refine lv_lstore (lv' := [(7, .long a0), (5, .long a1), (0, .long a0), (2, .long a1), (4, .int a2)]) hx hb dX5_partOf_4 hl (by decide) rfl (fun ls hl => ?_)
  refine lv_iconst (v := (0 : Int32)) hx hb dX5_partOf_6 (by decide) ?_
  refine lv_istore (lv' := [(9, .int (0 : Int32)), (7, .long a0), (5, .long a1), (0, .long a0), (2, .long a1), (4, .int a2)]) hx hb dX5_partOf_7 hl (by decide) rfl (fun ls hl => ?_)
  obtain ⟨x1, e1, hf⟩ := cd_bind_some hf
  have K1 : ∀ (t1 : Int64), t1 = x1 → ∀ (ls : Array Slot) (H : Heap) (locs : List Loc), lv_has ls 12 [(0, .long a0), (2, .long a1), (4, .int a2), (5, .long t1)] → cd_WS G A s.heap H locs (([] : va_W)) → W p l e rm_X5_partOf s m ag below meth c H locs 0 0 Q (F0 m 44 ls []) := by
    intro t1 hs_1
    subst hs_1
    intro ls H locs hl hw
    refine lv_lload hx hb dX5_partOf_44 (lv_at hl 3 rfl) ?_
    refine lv_lconst (v := 1) hx hb dX5_partOf_46 (by decide) ?_
    refine W.lcmp hx hb dX5_partOf_47 ?_
    refine lv_if_ge (tgt := 62) hx hb dX5_partOf_48 (by decide) (fun c5 => ?_) (fun c5 => ?_)
    · have hf := cd_ite_t c5 hf
      refine lv_iload hx hb dX5_partOf_62 (lv_at hl 2 rfl) ?_
      obtain ⟨x6, e6, hf⟩ := cd_bind_some hf
      have K6 : ∀ (ls : Array Slot) (H : Heap) (locs : List Loc), lv_has ls 12 [] → cd_WS G A s.heap H locs (([] : va_W)) → W p l e rm_X5_partOf s m ag below meth c H locs 0 0 Q (F0 m 78 ls [.long x6]) := by
        intro ls H locs hl hw
        have z : some x6 = some o := hf
        cases z
        rw [hQ]
        exact cd_retl C0 hw dX5_partOf_78
      refine lv_if_ne (tgt := 74) hx hb dX5_partOf_64 (by decide) (fun c6 => ?_) (fun c6 => ?_)
      · have e6 := cd_ite_f c6 e6
        refine lv_lload_n hx hb dX5_partOf_74 rfl (lv_at hl 1 rfl) ?_
        refine lv_lload hx hb dX5_partOf_75 (lv_at hl 3 rfl) ?_
        obtain ⟨u8, e8, e6⟩ := cd_bind_some e6
        refine lv_ldiv hx hb dX5_partOf_77 (cd_nzl_eq e8) ?_
        have z : some (a1 / t1) = some x6 := e6
        cases z
        exact K6 _ _ _ (lv_sub hl [] rfl) hw
      · have e6 := cd_ite_t c6 e6
        refine lv_lload_n hx hb dX5_partOf_67 rfl (lv_at hl 0 rfl) ?_
        refine lv_lload hx hb dX5_partOf_68 (lv_at hl 3 rfl) ?_
        obtain ⟨u7, e7, e6⟩ := cd_bind_some e6
        refine lv_ldiv hx hb dX5_partOf_70 (cd_nzl_eq e7) ?_
        refine lv_goto (tgt := 78) hx hb dX5_partOf_71 (by decide) ?_
        have z : some (a0 / t1) = some x6 := e6
        cases z
        exact K6 _ _ _ (lv_sub hl [] rfl) hw
    · have hf := cd_ite_f c5 hf
      refine lv_iload hx hb dX5_partOf_51 (lv_at hl 2 rfl) ?_
      obtain ⟨x9, e9, hf⟩ := cd_bind_some hf
      have K9 : ∀ (ls : Array Slot) (H : Heap) (locs : List Loc), lv_has ls 12 [] → cd_WS G A s.heap H locs (([] : va_W)) → W p l e rm_X5_partOf s m ag below meth c H locs 0 0 Q (F0 m 61 ls [.long x9]) := by
        intro ls H locs hl hw
        have z : some x9 = some o := hf
        cases z
        rw [hQ]
        exact cd_retl C0 hw dX5_partOf_61
      refine lv_if_ne (tgt := 60) hx hb dX5_partOf_53 (by decide) (fun c9 => ?_) (fun c9 => ?_)
      · have e9 := cd_ite_f c9 e9
        refine lv_lload_n hx hb dX5_partOf_60 rfl (lv_at hl 1 rfl) ?_
        have z : some a1 = some x9 := e9
        cases z
        exact K9 _ _ _ (lv_sub hl [] rfl) hw
      · have e9 := cd_ite_t c9 e9
        refine lv_lload_n hx hb dX5_partOf_56 rfl (lv_at hl 0 rfl) ?_
        refine lv_goto (tgt := 61) hx hb dX5_partOf_57 (by decide) ?_
        have z : some a0 = some x9 := e9
        cases z
        exact K9 _ _ _ (lv_sub hl [] rfl) hw
  refine cd_iter_ind (body := f_X5_partOf_b9) (K := fun r => r = x1) (P := fun (z1 : Int64 × Int64 × Int32) => ∀ (ls : Array Slot) (H : Heap) (locs : List Loc), lv_has ls 12 [(0, .long a0), (2, .long a1), (4, .int a2), (5, .long z1.1), (7, .long z1.2.1), (9, .int z1.2.2)] → cd_WS G A s.heap H locs (([] : va_W)) → W p l e rm_X5_partOf s m ag below meth c H locs 0 0 Q (F0 m 9 ls [])) ?_ cd_N (a1, a0, (0 : Int32)) x1 e1 rfl _ _ _ (lv_sub hl [3, 4, 5, 2, 1, 0] rfl) hw
  intro z1 o1 hb1 hk1 ls H locs hl hw
  unfold f_X5_partOf_b9 at hb1
  refine lv_iload hx hb dX5_partOf_9 (lv_at hl 5 rfl) ?_
  refine lv_bipush (v := (100 : Int32)) hx hb dX5_partOf_11 (by decide) ?_
  refine lv_icmp_ge (tgt := 44) hx hb dX5_partOf_13 (by decide) (fun c2 => ?_) (fun c2 => ?_)
  · have hb1 := cd_ite_t c2 hb1
    have z : some (Sum.inl z1.1) = some o1 := hb1
    cases z
    exact K1 _ hk1 _ _ _ (lv_sub hl [0, 1, 2, 3] rfl) hw
  · have hb1 := cd_ite_f c2 hb1
    refine lv_lload hx hb dX5_partOf_16 (lv_at hl 4 rfl) ?_
    refine lv_lconst (v := 0) hx hb dX5_partOf_18 (by decide) ?_
    refine W.lcmp hx hb dX5_partOf_19 ?_
    refine lv_if_le (tgt := 44) hx hb dX5_partOf_20 (by decide) (fun c3 => ?_) (fun c3 => ?_)
    · have hb1 := cd_ite_t c3 hb1
      have z : some (Sum.inl z1.1) = some o1 := hb1
      cases z
      exact K1 _ hk1 _ _ _ (lv_sub hl [0, 1, 2, 3] rfl) hw
    · have hb1 := cd_ite_f c3 hb1
      refine lv_lload hx hb dX5_partOf_23 (lv_at hl 3 rfl) ?_
      refine lv_lload hx hb dX5_partOf_25 (lv_at hl 4 rfl) ?_
      obtain ⟨u4, e4, hb1⟩ := cd_bind_some hb1
      refine lv_lrem hx hb dX5_partOf_27 (cd_nzl_eq e4) ?_
      refine lv_lstore (lv' := [(10, .long (z1.1 - z1.1 / z1.2.1 * z1.2.1)), (0, .long a0), (2, .long a1), (4, .int a2), (5, .long z1.1), (7, .long z1.2.1), (9, .int z1.2.2)]) hx hb dX5_partOf_28 hl (by decide) rfl (fun ls hl => ?_)
      refine lv_lload hx hb dX5_partOf_30 (lv_at hl 5 rfl) ?_
      refine lv_lstore (lv' := [(5, .long z1.2.1), (10, .long (z1.1 - z1.1 / z1.2.1 * z1.2.1)), (0, .long a0), (2, .long a1), (4, .int a2), (7, .long z1.2.1), (9, .int z1.2.2)]) hx hb dX5_partOf_32 hl (by decide) rfl (fun ls hl => ?_)
      refine lv_lload hx hb dX5_partOf_34 (lv_at hl 1 rfl) ?_
      refine lv_lstore (lv' := [(7, .long (z1.1 - z1.1 / z1.2.1 * z1.2.1)), (5, .long z1.2.1), (10, .long (z1.1 - z1.1 / z1.2.1 * z1.2.1)), (0, .long a0), (2, .long a1), (4, .int a2), (9, .int z1.2.2)]) hx hb dX5_partOf_36 hl (by decide) rfl (fun ls hl => ?_)
      refine lv_iinc (v := (z1.2.2 + (1 : Int32))) (lv' := [(9, .int (z1.2.2 + (1 : Int32))), (7, .long (z1.1 - z1.1 / z1.2.1 * z1.2.1)), (5, .long z1.2.1), (10, .long (z1.1 - z1.1 / z1.2.1 * z1.2.1)), (0, .long a0), (2, .long a1), (4, .int a2)]) hx hb dX5_partOf_38 hl (k := 6) rfl rfl (by decide) rfl (fun ls hl => ?_)
      refine lv_goto (tgt := 9) hx hb dX5_partOf_41 (by decide) ?_
      have z : some (Sum.inr (z1.2.1, (z1.1 - z1.1 / z1.2.1 * z1.2.1), (z1.2.2 + (1 : Int32)))) = some o1 := hb1
      cases z
      exact hk1 _ _ _ (lv_sub hl [4, 5, 6, 2, 1, 0] rfl) hw
abbrev rm_X5_moths : Room := { frames := 5, cells := 0, slots := 0, locals := 112 }
theorem nw_X5_moths_X5 : ∀ w ∈ u_ws RX5 TX5 8, w ∈ wsX5_moths := by decide +kernel
set_option maxHeartbeats 4000000 in
set_option maxRecDepth 100000 in
theorem c_X5_moths (l : Launch) (G : va_G) (cI cZ : ClassId) (sa sb : Nat) (h ht h1 h2 hp hy hs hv hz : Nat → Nat) (K T : Nat → Nat → Int32) (a0 : Int32) (a1 : Int32) (a2 : Int32) (a3 : Int32) (o : Int64) (hf : f_X5_moths a0 a1 a2 a3 K T = some o) : cd_Ct l G cI cZ sa sb yX5_moths wsX5_moths rm_X5_moths [.ref (h 0), .int a0, .int a1, .int a2, .int a3] ((pc_top cZ h ht h1 h2 hp hy hv hz K) ++ (pc_town cI ht T)) ((pc_top cZ h ht h1 h2 hp hy hv hz K) ++ (pc_town cI ht T)) (some (.long o)) := by
  refine cd_of (cc := cX5_moths) (maxL := 10) (ret := (some .long)) (by decide) rfl (Nat.le_of_ble_eq_true rfl) ?_
  intro p e s m ag below meth c A ls Q C0 hl hw hQ
  have C0 : cd_CX G cI cZ sa sb p s m ag meth c cX5_moths 10 (some .long) wsX5_moths RX5 A := C0
  obtain ⟨⟨hx, hb, hml, hown, hts⟩, hr, hlocks, hA, hE⟩ := id C0
  have hK := hE.1
  have hL0 := hts (.constantLong RX5 214 (-1000000000000000002)) (by decide +kernel)
  have hL1 := hts (.fieldLink RX5 12 "CandleDebts" "town" "LCandleDebts$Town;") (by decide +kernel)
  have hL2 := hts (.constantLong RX5 222 (10)) (by decide +kernel)
  have hL3 := hts (.constantLong RX5 212 (-1000000000000000001)) (by decide +kernel)
  have hl : lv_has ls 10 [(0, .ref (h 0)), (1, .int a0), (2, .int a1), (3, .int a2), (4, .int a3)] := hl
  unfold f_X5_moths at hf
  refine lv_iload_n hx hb dX5_moths_0 rfl (lv_at hl 1 rfl) ?_
  refine lv_iconst (v := (-1 : Int32)) hx hb dX5_moths_1 (by decide) ?_
  refine lv_icmp_eq (tgt := 27) hx hb dX5_moths_2 (by decide) (fun c1 => ?_) (fun c1 => ?_)
  · have hf := cd_ite_t c1 hf
    refine lv_iload_n hx hb dX5_moths_27 rfl (lv_at hl 2 rfl) ?_
    refine lv_iconst (v := (0 : Int32)) hx hb dX5_moths_28 (by decide) ?_
    refine lv_bipush (v := (10 : Int32)) hx hb dX5_moths_29 (by decide) ?_
    obtain ⟨r2, e2, hf⟩ := cd_bind_some hf
    refine cd_callS (As := [.int a1, .int (0 : Int32), .int (10 : Int32)]) (rest := []) C0 hw (c_X5_within l G cI cZ sa sb a1 (0 : Int32) (10 : Int32) r2 e2) [] rfl rfl (va_cwS 3 hts gX5_moths_X5_within rfl rfl rfl (by decide +kernel) ⟨Nat.le_of_ble_eq_true rfl, Nat.le_of_ble_eq_true rfl⟩) rfl hl.1 (lv_room (Nat.le_of_ble_eq_true rfl)) dX5_moths_31 (fun H locs hw => ?_)
    refine lv_if_eq (tgt := 57) hx hb dX5_moths_34 (by decide) (fun c3 => ?_) (fun c3 => ?_)
    · have hf := cd_ite_t c3 hf
      refine lv_ldc2 (v := (-1000000000000000002 : Int64)) hx hb hown hL0 dX5_moths_57 ?_
      have z : some (-1000000000000000002 : Int64) = some o := hf
      cases z
      rw [hQ]
      exact cd_retl C0 hw dX5_moths_60
    · have hf := cd_ite_f c3 hf
      refine lv_iload_n hx hb dX5_moths_37 rfl (lv_at hl 3 rfl) ?_
      refine lv_iconst (v := (0 : Int32)) hx hb dX5_moths_38 (by decide) ?_
      refine lv_bipush (v := (15 : Int32)) hx hb dX5_moths_39 (by decide) ?_
      obtain ⟨r4, e4, hf⟩ := cd_bind_some hf
      refine cd_callS (As := [.int a2, .int (0 : Int32), .int (15 : Int32)]) (rest := []) C0 hw (c_X5_within l G cI cZ sa sb a2 (0 : Int32) (15 : Int32) r4 e4) [] rfl rfl (va_cwS 3 hts gX5_moths_X5_within rfl rfl rfl (by decide +kernel) ⟨Nat.le_of_ble_eq_true rfl, Nat.le_of_ble_eq_true rfl⟩) rfl hl.1 (lv_room (Nat.le_of_ble_eq_true rfl)) dX5_moths_41 (fun H locs hw => ?_)
      refine lv_if_eq (tgt := 57) hx hb dX5_moths_44 (by decide) (fun c5 => ?_) (fun c5 => ?_)
      · have hf := cd_ite_t c5 hf
        refine lv_ldc2 (v := (-1000000000000000002 : Int64)) hx hb hown hL0 dX5_moths_57 ?_
        have z : some (-1000000000000000002 : Int64) = some o := hf
        cases z
        rw [hQ]
        exact cd_retl C0 hw dX5_moths_60
      · have hf := cd_ite_f c5 hf
        refine lv_iload hx hb dX5_moths_47 (lv_at hl 4 rfl) ?_
        refine lv_iconst (v := (0 : Int32)) hx hb dX5_moths_49 (by decide) ?_
        refine lv_iconst (v := (1 : Int32)) hx hb dX5_moths_50 (by decide) ?_
        obtain ⟨r6, e6, hf⟩ := cd_bind_some hf
        refine cd_callS (As := [.int a3, .int (0 : Int32), .int (1 : Int32)]) (rest := []) C0 hw (c_X5_within l G cI cZ sa sb a3 (0 : Int32) (1 : Int32) r6 e6) [] rfl rfl (va_cwS 3 hts gX5_moths_X5_within rfl rfl rfl (by decide +kernel) ⟨Nat.le_of_ble_eq_true rfl, Nat.le_of_ble_eq_true rfl⟩) rfl hl.1 (lv_room (Nat.le_of_ble_eq_true rfl)) dX5_moths_51 (fun H locs hw => ?_)
        refine lv_if_ne (tgt := 61) hx hb dX5_moths_54 (by decide) (fun c7 => ?_) (fun c7 => ?_)
        · have hf := cd_ite_f c7 hf
          refine lv_iload_n hx hb dX5_moths_61 rfl (lv_at hl 1 rfl) ?_
          refine lv_iconst (v := (-1 : Int32)) hx hb dX5_moths_62 (by decide) ?_
          obtain ⟨x8, e8, hf⟩ := cd_bind_some hf
          have K8 : ∀ (ls : Array Slot) (H : Heap) (locs : List Loc), lv_has ls 10 [(2, .int a1), (3, .int a2), (4, .int a3)] → cd_WS G A s.heap H locs ((pc_top cZ h ht h1 h2 hp hy hv hz K) ++ (pc_town cI ht T)) → W p l e rm_X5_moths s m ag below meth c H locs 0 0 Q (F0 m 95 ls [.long x8]) := by
            intro ls H locs hl hw
            refine lv_lstore (lv' := [(5, .long x8), (2, .int a1), (3, .int a2), (4, .int a3)]) hx hb dX5_moths_95 hl (by decide) rfl (fun ls hl => ?_)
            refine lv_lconst (v := 1) hx hb dX5_moths_97 (by decide) ?_
            refine lv_lstore (lv' := [(7, .long (1 : Int64)), (5, .long x8), (2, .int a1), (3, .int a2), (4, .int a3)]) hx hb dX5_moths_98 hl (by decide) rfl (fun ls hl => ?_)
            refine lv_iconst (v := (0 : Int32)) hx hb dX5_moths_100 (by decide) ?_
            refine lv_istore (lv' := [(9, .int (0 : Int32)), (7, .long (1 : Int64)), (5, .long x8), (2, .int a1), (3, .int a2), (4, .int a3)]) hx hb dX5_moths_101 hl (by decide) rfl (fun ls hl => ?_)
            obtain ⟨x9, e9, hf⟩ := cd_bind_some hf
            have K9 : ∀ (t9 : Int64 × Int64), t9 = x9 → ∀ (ls : Array Slot) (H : Heap) (locs : List Loc), lv_has ls 10 [(4, .int a3), (5, .long t9.1), (7, .long t9.2)] → cd_WS G A s.heap H locs ((pc_top cZ h ht h1 h2 hp hy hv hz K) ++ (pc_town cI ht T)) → W p l e rm_X5_moths s m ag below meth c H locs 0 0 Q (F0 m 133 ls []) := by
              intro t9 hs_9
              subst hs_9
              intro ls H locs hl hw
              refine lv_lload hx hb dX5_moths_133 (lv_at hl 1 rfl) ?_
              refine lv_lload hx hb dX5_moths_135 (lv_at hl 2 rfl) ?_
              refine lv_iload hx hb dX5_moths_137 (lv_at hl 0 rfl) ?_
              obtain ⟨r11, e11, hf⟩ := cd_bind_some hf
              refine cd_callS (As := [.long t9.1, .long t9.2, .int a3]) (rest := []) C0 hw (c_X5_partOf l G cI cZ sa sb t9.1 t9.2 a3 r11 e11) [] rfl rfl (va_cwS 3 hts gX5_moths_X5_partOf rfl rfl rfl (by decide +kernel) ⟨Nat.le_of_ble_eq_true rfl, Nat.le_of_ble_eq_true rfl⟩) rfl hl.1 (lv_room (Nat.le_of_ble_eq_true rfl)) dX5_moths_139 (fun H locs hw => ?_)
              have z : some r11 = some o := hf
              cases z
              rw [hQ]
              exact cd_retl C0 hw dX5_moths_142
            refine cd_iter_ind (body := (f_X5_moths_b103 a1 a2)) (K := fun r => r = x9) (P := fun (z9 : Int64 × Int64 × Int32) => ∀ (ls : Array Slot) (H : Heap) (locs : List Loc), lv_has ls 10 [(2, .int a1), (3, .int a2), (4, .int a3), (5, .long z9.1), (7, .long z9.2.1), (9, .int z9.2.2)] → cd_WS G A s.heap H locs ((pc_top cZ h ht h1 h2 hp hy hv hz K) ++ (pc_town cI ht T)) → W p l e rm_X5_moths s m ag below meth c H locs 0 0 Q (F0 m 103 ls [])) ?_ cd_N (x8, (1 : Int64), (0 : Int32)) x9 e9 rfl _ _ _ (lv_sub hl [3, 4, 5, 2, 1, 0] rfl) hw
            intro z9 o9 hb9 hk9 ls H locs hl hw
            unfold f_X5_moths_b103 at hb9
            refine lv_iload hx hb dX5_moths_103 (lv_at hl 5 rfl) ?_
            refine lv_iload_n hx hb dX5_moths_105 rfl (lv_at hl 1 rfl) ?_
            refine lv_icmp_ge (tgt := 133) hx hb dX5_moths_106 (by decide) (fun c10 => ?_) (fun c10 => ?_)
            · have hb9 := cd_ite_t c10 hb9
              have z : some (Sum.inl (z9.1, z9.2.1)) = some o9 := hb9
              cases z
              exact K9 _ hk9 _ _ _ (lv_sub hl [2, 3, 4] rfl) hw
            · have hb9 := cd_ite_f c10 hb9
              refine lv_lload hx hb dX5_moths_109 (lv_at hl 3 rfl) ?_
              refine lv_bipush (v := (10 : Int32)) hx hb dX5_moths_111 (by decide) ?_
              refine lv_iload_n hx hb dX5_moths_113 rfl (lv_at hl 0 rfl) ?_
              refine lv_isub hx hb dX5_moths_114 ?_
              refine lv_i2l hx hb dX5_moths_115 rfl ?_
              refine lv_lmul hx hb dX5_moths_116 ?_
              refine lv_lstore (lv' := [(5, .long (z9.1 * (((10 : Int32) - a1).toInt64))), (2, .int a1), (3, .int a2), (4, .int a3), (7, .long z9.2.1), (9, .int z9.2.2)]) hx hb dX5_moths_117 hl (by decide) rfl (fun ls hl => ?_)
              refine lv_lload hx hb dX5_moths_119 (lv_at hl 4 rfl) ?_
              refine lv_ldc2 (v := (10 : Int64)) hx hb hown hL2 dX5_moths_121 ?_
              refine lv_lmul hx hb dX5_moths_124 ?_
              refine lv_lstore (lv' := [(7, .long (z9.2.1 * (10 : Int64))), (5, .long (z9.1 * (((10 : Int32) - a1).toInt64))), (2, .int a1), (3, .int a2), (4, .int a3), (9, .int z9.2.2)]) hx hb dX5_moths_125 hl (by decide) rfl (fun ls hl => ?_)
              refine lv_iinc (v := (z9.2.2 + (1 : Int32))) (lv' := [(9, .int (z9.2.2 + (1 : Int32))), (7, .long (z9.2.1 * (10 : Int64))), (5, .long (z9.1 * (((10 : Int32) - a1).toInt64))), (2, .int a1), (3, .int a2), (4, .int a3)]) hx hb dX5_moths_127 hl (k := 5) rfl rfl (by decide) rfl (fun ls hl => ?_)
              refine lv_goto (tgt := 103) hx hb dX5_moths_130 (by decide) ?_
              have z : some (Sum.inr ((z9.1 * (((10 : Int32) - a1).toInt64)), (z9.2.1 * (10 : Int64)), (z9.2.2 + (1 : Int32)))) = some o9 := hb9
              cases z
              exact hk9 _ _ _ (lv_sub hl [3, 4, 5, 2, 1, 0] rfl) hw
          refine lv_icmp_ne (tgt := 78) hx hb dX5_moths_63 (by decide) (fun c8 => ?_) (fun c8 => ?_)
          · have e8 := cd_ite_f c8 e8
            refine lv_aload_n hx hb dX5_moths_78 rfl (lv_at hl 0 rfl) ?_
            refine va_get (D := G) (ci := 5) (v := .ref (ht 0)) (C := RX5) (T := TX5) (N := 8) hx hb hts nw_X5_moths_X5 hown hK hw.1 0 rfl rfl 0 (by decide) hL1 (fun _ h9 => h9) rfl dX5_moths_79 ?_
            refine lv_iload_n hx hb dX5_moths_82 rfl (lv_at hl 1 rfl) ?_
            refine lv_iload_n hx hb dX5_moths_83 rfl (lv_at hl 3 rfl) ?_
            obtain ⟨r13, e13, e8⟩ := cd_bind_some e8
            refine cd_callV (As := [.int a0, .int a2]) (rest := []) C0 hw (c_X3_outlasts l G cI cZ sa sb ht T a0 a2 r13 e13) [2, 3, 4, 5, 6, 7, 8, 9, 10, 11, 12] rfl rfl 0 3 rfl rfl rfl (cwV 2 hts gX5_moths_X3_outlasts rfl rfl rfl (by decide +kernel) ⟨Nat.le_of_ble_eq_true rfl, Nat.le_of_ble_eq_true rfl⟩) rfl hl.1 (lv_room (Nat.le_of_ble_eq_true rfl)) dX5_moths_84 (fun H locs hw => ?_)
            refine lv_if_eq (tgt := 94) hx hb dX5_moths_87 (by decide) (fun c14 => ?_) (fun c14 => ?_)
            · have e8 := cd_ite_t c14 e8
              refine lv_lconst (v := 0) hx hb dX5_moths_94 (by decide) ?_
              have z : some (0 : Int64) = some x8 := e8
              cases z
              exact K8 _ _ _ (lv_sub hl [2, 3, 4] rfl) hw
            · have e8 := cd_ite_f c14 e8
              refine lv_lconst (v := 1) hx hb dX5_moths_90 (by decide) ?_
              refine lv_goto (tgt := 95) hx hb dX5_moths_91 (by decide) ?_
              have z : some (1 : Int64) = some x8 := e8
              cases z
              exact K8 _ _ _ (lv_sub hl [2, 3, 4] rfl) hw
          · have e8 := cd_ite_t c8 e8
            refine lv_aload_n hx hb dX5_moths_66 rfl (lv_at hl 0 rfl) ?_
            refine va_get (D := G) (ci := 5) (v := .ref (ht 0)) (C := RX5) (T := TX5) (N := 8) hx hb hts nw_X5_moths_X5 hown hK hw.1 0 rfl rfl 0 (by decide) hL1 (fun _ h9 => h9) rfl dX5_moths_67 ?_
            refine lv_iload_n hx hb dX5_moths_70 rfl (lv_at hl 3 rfl) ?_
            obtain ⟨r12, e12, e8⟩ := cd_bind_some e8
            refine cd_callV (As := [.int a2]) (rest := []) C0 hw (c_X3_howManyOutlast l G cI cZ sa sb ht T a2 r12 e12) [2, 3, 4, 5, 6, 7, 8, 9, 10, 11, 12] rfl rfl 0 3 rfl rfl rfl (cwV 1 hts gX5_moths_X3_howManyOutlast rfl rfl rfl (by decide +kernel) ⟨Nat.le_of_ble_eq_true rfl, Nat.le_of_ble_eq_true rfl⟩) rfl hl.1 (lv_room (Nat.le_of_ble_eq_true rfl)) dX5_moths_71 (fun H locs hw => ?_)
            refine lv_i2l hx hb dX5_moths_74 rfl ?_
            refine lv_goto (tgt := 95) hx hb dX5_moths_75 (by decide) ?_
            have z : some (r12.toInt64) = some x8 := e8
            cases z
            exact K8 _ _ _ (lv_sub hl [2, 3, 4] rfl) hw
        · have hf := cd_ite_t c7 hf
          refine lv_ldc2 (v := (-1000000000000000002 : Int64)) hx hb hown hL0 dX5_moths_57 ?_
          have z : some (-1000000000000000002 : Int64) = some o := hf
          cases z
          rw [hQ]
          exact cd_retl C0 hw dX5_moths_60
  · have hf := cd_ite_f c1 hf
    refine lv_iload_n hx hb dX5_moths_5 rfl (lv_at hl 1 rfl) ?_
    obtain ⟨r15, e15, hf⟩ := cd_bind_some hf
    refine cd_callS (As := [.int a0]) (rest := []) C0 hw (c_X5_isCandle l G cI cZ sa sb a0 r15 e15) [] rfl rfl (va_cwS 1 hts gX5_moths_X5_isCandle rfl rfl rfl (by decide +kernel) ⟨Nat.le_of_ble_eq_true rfl, Nat.le_of_ble_eq_true rfl⟩) rfl hl.1 (lv_room (Nat.le_of_ble_eq_true rfl)) dX5_moths_6 (fun H locs hw => ?_)
    refine lv_if_eq (tgt := 23) hx hb dX5_moths_9 (by decide) (fun c16 => ?_) (fun c16 => ?_)
    · have hf := cd_ite_t c16 hf
      refine lv_ldc2 (v := (-1000000000000000001 : Int64)) hx hb hown hL3 dX5_moths_23 ?_
      have z : some (-1000000000000000001 : Int64) = some o := hf
      cases z
      rw [hQ]
      exact cd_retl C0 hw dX5_moths_26
    · have hf := cd_ite_f c16 hf
      refine lv_aload_n hx hb dX5_moths_12 rfl (lv_at hl 0 rfl) ?_
      refine va_get (D := G) (ci := 5) (v := .ref (ht 0)) (C := RX5) (T := TX5) (N := 8) hx hb hts nw_X5_moths_X5 hown hK hw.1 0 rfl rfl 0 (by decide) hL1 (fun _ h9 => h9) rfl dX5_moths_13 ?_
      refine lv_iload_n hx hb dX5_moths_16 rfl (lv_at hl 1 rfl) ?_
      obtain ⟨r17, e17, hf⟩ := cd_bind_some hf
      refine cd_callV (As := [.int a0]) (rest := []) C0 hw (c_X3_isLit l G cI cZ sa sb ht T a0 r17 e17) [2, 3, 4, 5, 6, 7, 8, 9, 10, 11, 12] rfl rfl 0 3 rfl rfl rfl (cwV 1 hts gX5_moths_X3_isLit rfl rfl rfl (by decide +kernel) ⟨Nat.le_of_ble_eq_true rfl, Nat.le_of_ble_eq_true rfl⟩) rfl hl.1 (lv_room (Nat.le_of_ble_eq_true rfl)) dX5_moths_17 (fun H locs hw => ?_)
      refine lv_if_ne (tgt := 27) hx hb dX5_moths_20 (by decide) (fun c18 => ?_) (fun c18 => ?_)
      · have hf := cd_ite_f c18 hf
        refine lv_iload_n hx hb dX5_moths_27 rfl (lv_at hl 2 rfl) ?_
        refine lv_iconst (v := (0 : Int32)) hx hb dX5_moths_28 (by decide) ?_
        refine lv_bipush (v := (10 : Int32)) hx hb dX5_moths_29 (by decide) ?_
        obtain ⟨r19, e19, hf⟩ := cd_bind_some hf
        refine cd_callS (As := [.int a1, .int (0 : Int32), .int (10 : Int32)]) (rest := []) C0 hw (c_X5_within l G cI cZ sa sb a1 (0 : Int32) (10 : Int32) r19 e19) [] rfl rfl (va_cwS 3 hts gX5_moths_X5_within rfl rfl rfl (by decide +kernel) ⟨Nat.le_of_ble_eq_true rfl, Nat.le_of_ble_eq_true rfl⟩) rfl hl.1 (lv_room (Nat.le_of_ble_eq_true rfl)) dX5_moths_31 (fun H locs hw => ?_)
        refine lv_if_eq (tgt := 57) hx hb dX5_moths_34 (by decide) (fun c20 => ?_) (fun c20 => ?_)
        · have hf := cd_ite_t c20 hf
          refine lv_ldc2 (v := (-1000000000000000002 : Int64)) hx hb hown hL0 dX5_moths_57 ?_
          have z : some (-1000000000000000002 : Int64) = some o := hf
          cases z
          rw [hQ]
          exact cd_retl C0 hw dX5_moths_60
        · have hf := cd_ite_f c20 hf
          refine lv_iload_n hx hb dX5_moths_37 rfl (lv_at hl 3 rfl) ?_
          refine lv_iconst (v := (0 : Int32)) hx hb dX5_moths_38 (by decide) ?_
          refine lv_bipush (v := (15 : Int32)) hx hb dX5_moths_39 (by decide) ?_
          obtain ⟨r21, e21, hf⟩ := cd_bind_some hf
          refine cd_callS (As := [.int a2, .int (0 : Int32), .int (15 : Int32)]) (rest := []) C0 hw (c_X5_within l G cI cZ sa sb a2 (0 : Int32) (15 : Int32) r21 e21) [] rfl rfl (va_cwS 3 hts gX5_moths_X5_within rfl rfl rfl (by decide +kernel) ⟨Nat.le_of_ble_eq_true rfl, Nat.le_of_ble_eq_true rfl⟩) rfl hl.1 (lv_room (Nat.le_of_ble_eq_true rfl)) dX5_moths_41 (fun H locs hw => ?_)
          refine lv_if_eq (tgt := 57) hx hb dX5_moths_44 (by decide) (fun c22 => ?_) (fun c22 => ?_)
          · have hf := cd_ite_t c22 hf
            refine lv_ldc2 (v := (-1000000000000000002 : Int64)) hx hb hown hL0 dX5_moths_57 ?_
            have z : some (-1000000000000000002 : Int64) = some o := hf
            cases z
            rw [hQ]
            exact cd_retl C0 hw dX5_moths_60
          · have hf := cd_ite_f c22 hf
            refine lv_iload hx hb dX5_moths_47 (lv_at hl 4 rfl) ?_
            refine lv_iconst (v := (0 : Int32)) hx hb dX5_moths_49 (by decide) ?_
            refine lv_iconst (v := (1 : Int32)) hx hb dX5_moths_50 (by decide) ?_
            obtain ⟨r23, e23, hf⟩ := cd_bind_some hf
            refine cd_callS (As := [.int a3, .int (0 : Int32), .int (1 : Int32)]) (rest := []) C0 hw (c_X5_within l G cI cZ sa sb a3 (0 : Int32) (1 : Int32) r23 e23) [] rfl rfl (va_cwS 3 hts gX5_moths_X5_within rfl rfl rfl (by decide +kernel) ⟨Nat.le_of_ble_eq_true rfl, Nat.le_of_ble_eq_true rfl⟩) rfl hl.1 (lv_room (Nat.le_of_ble_eq_true rfl)) dX5_moths_51 (fun H locs hw => ?_)
            refine lv_if_ne (tgt := 61) hx hb dX5_moths_54 (by decide) (fun c24 => ?_) (fun c24 => ?_)
            · have hf := cd_ite_f c24 hf
              refine lv_iload_n hx hb dX5_moths_61 rfl (lv_at hl 1 rfl) ?_
              refine lv_iconst (v := (-1 : Int32)) hx hb dX5_moths_62 (by decide) ?_
              obtain ⟨x25, e25, hf⟩ := cd_bind_some hf
              have K25 : ∀ (ls : Array Slot) (H : Heap) (locs : List Loc), lv_has ls 10 [(2, .int a1), (3, .int a2), (4, .int a3)] → cd_WS G A s.heap H locs ((pc_top cZ h ht h1 h2 hp hy hv hz K) ++ (pc_town cI ht T)) → W p l e rm_X5_moths s m ag below meth c H locs 0 0 Q (F0 m 95 ls [.long x25]) := by
                intro ls H locs hl hw
                refine lv_lstore (lv' := [(5, .long x25), (2, .int a1), (3, .int a2), (4, .int a3)]) hx hb dX5_moths_95 hl (by decide) rfl (fun ls hl => ?_)
                refine lv_lconst (v := 1) hx hb dX5_moths_97 (by decide) ?_
                refine lv_lstore (lv' := [(7, .long (1 : Int64)), (5, .long x25), (2, .int a1), (3, .int a2), (4, .int a3)]) hx hb dX5_moths_98 hl (by decide) rfl (fun ls hl => ?_)
                refine lv_iconst (v := (0 : Int32)) hx hb dX5_moths_100 (by decide) ?_
                refine lv_istore (lv' := [(9, .int (0 : Int32)), (7, .long (1 : Int64)), (5, .long x25), (2, .int a1), (3, .int a2), (4, .int a3)]) hx hb dX5_moths_101 hl (by decide) rfl (fun ls hl => ?_)
                obtain ⟨x26, e26, hf⟩ := cd_bind_some hf
                have K26 : ∀ (t26 : Int64 × Int64), t26 = x26 → ∀ (ls : Array Slot) (H : Heap) (locs : List Loc), lv_has ls 10 [(4, .int a3), (5, .long t26.1), (7, .long t26.2)] → cd_WS G A s.heap H locs ((pc_top cZ h ht h1 h2 hp hy hv hz K) ++ (pc_town cI ht T)) → W p l e rm_X5_moths s m ag below meth c H locs 0 0 Q (F0 m 133 ls []) := by
                  intro t26 hs_26
                  subst hs_26
                  intro ls H locs hl hw
                  refine lv_lload hx hb dX5_moths_133 (lv_at hl 1 rfl) ?_
                  refine lv_lload hx hb dX5_moths_135 (lv_at hl 2 rfl) ?_
                  refine lv_iload hx hb dX5_moths_137 (lv_at hl 0 rfl) ?_
                  obtain ⟨r28, e28, hf⟩ := cd_bind_some hf
                  refine cd_callS (As := [.long t26.1, .long t26.2, .int a3]) (rest := []) C0 hw (c_X5_partOf l G cI cZ sa sb t26.1 t26.2 a3 r28 e28) [] rfl rfl (va_cwS 3 hts gX5_moths_X5_partOf rfl rfl rfl (by decide +kernel) ⟨Nat.le_of_ble_eq_true rfl, Nat.le_of_ble_eq_true rfl⟩) rfl hl.1 (lv_room (Nat.le_of_ble_eq_true rfl)) dX5_moths_139 (fun H locs hw => ?_)
                  have z : some r28 = some o := hf
                  cases z
                  rw [hQ]
                  exact cd_retl C0 hw dX5_moths_142
                refine cd_iter_ind (body := (f_X5_moths_b103_26 a1 a2)) (K := fun r => r = x26) (P := fun (z26 : Int64 × Int64 × Int32) => ∀ (ls : Array Slot) (H : Heap) (locs : List Loc), lv_has ls 10 [(2, .int a1), (3, .int a2), (4, .int a3), (5, .long z26.1), (7, .long z26.2.1), (9, .int z26.2.2)] → cd_WS G A s.heap H locs ((pc_top cZ h ht h1 h2 hp hy hv hz K) ++ (pc_town cI ht T)) → W p l e rm_X5_moths s m ag below meth c H locs 0 0 Q (F0 m 103 ls [])) ?_ cd_N (x25, (1 : Int64), (0 : Int32)) x26 e26 rfl _ _ _ (lv_sub hl [3, 4, 5, 2, 1, 0] rfl) hw
                intro z26 o26 hb26 hk26 ls H locs hl hw
                unfold f_X5_moths_b103_26 at hb26
                refine lv_iload hx hb dX5_moths_103 (lv_at hl 5 rfl) ?_
                refine lv_iload_n hx hb dX5_moths_105 rfl (lv_at hl 1 rfl) ?_
                refine lv_icmp_ge (tgt := 133) hx hb dX5_moths_106 (by decide) (fun c27 => ?_) (fun c27 => ?_)
                · have hb26 := cd_ite_t c27 hb26
                  have z : some (Sum.inl (z26.1, z26.2.1)) = some o26 := hb26
                  cases z
                  exact K26 _ hk26 _ _ _ (lv_sub hl [2, 3, 4] rfl) hw
                · have hb26 := cd_ite_f c27 hb26
                  refine lv_lload hx hb dX5_moths_109 (lv_at hl 3 rfl) ?_
                  refine lv_bipush (v := (10 : Int32)) hx hb dX5_moths_111 (by decide) ?_
                  refine lv_iload_n hx hb dX5_moths_113 rfl (lv_at hl 0 rfl) ?_
                  refine lv_isub hx hb dX5_moths_114 ?_
                  refine lv_i2l hx hb dX5_moths_115 rfl ?_
                  refine lv_lmul hx hb dX5_moths_116 ?_
                  refine lv_lstore (lv' := [(5, .long (z26.1 * (((10 : Int32) - a1).toInt64))), (2, .int a1), (3, .int a2), (4, .int a3), (7, .long z26.2.1), (9, .int z26.2.2)]) hx hb dX5_moths_117 hl (by decide) rfl (fun ls hl => ?_)
                  refine lv_lload hx hb dX5_moths_119 (lv_at hl 4 rfl) ?_
                  refine lv_ldc2 (v := (10 : Int64)) hx hb hown hL2 dX5_moths_121 ?_
                  refine lv_lmul hx hb dX5_moths_124 ?_
                  refine lv_lstore (lv' := [(7, .long (z26.2.1 * (10 : Int64))), (5, .long (z26.1 * (((10 : Int32) - a1).toInt64))), (2, .int a1), (3, .int a2), (4, .int a3), (9, .int z26.2.2)]) hx hb dX5_moths_125 hl (by decide) rfl (fun ls hl => ?_)
                  refine lv_iinc (v := (z26.2.2 + (1 : Int32))) (lv' := [(9, .int (z26.2.2 + (1 : Int32))), (7, .long (z26.2.1 * (10 : Int64))), (5, .long (z26.1 * (((10 : Int32) - a1).toInt64))), (2, .int a1), (3, .int a2), (4, .int a3)]) hx hb dX5_moths_127 hl (k := 5) rfl rfl (by decide) rfl (fun ls hl => ?_)
                  refine lv_goto (tgt := 103) hx hb dX5_moths_130 (by decide) ?_
                  have z : some (Sum.inr ((z26.1 * (((10 : Int32) - a1).toInt64)), (z26.2.1 * (10 : Int64)), (z26.2.2 + (1 : Int32)))) = some o26 := hb26
                  cases z
                  exact hk26 _ _ _ (lv_sub hl [3, 4, 5, 2, 1, 0] rfl) hw
              refine lv_icmp_ne (tgt := 78) hx hb dX5_moths_63 (by decide) (fun c25 => ?_) (fun c25 => ?_)
              · have e25 := cd_ite_f c25 e25
                refine lv_aload_n hx hb dX5_moths_78 rfl (lv_at hl 0 rfl) ?_
                refine va_get (D := G) (ci := 5) (v := .ref (ht 0)) (C := RX5) (T := TX5) (N := 8) hx hb hts nw_X5_moths_X5 hown hK hw.1 0 rfl rfl 0 (by decide) hL1 (fun _ h9 => h9) rfl dX5_moths_79 ?_
                refine lv_iload_n hx hb dX5_moths_82 rfl (lv_at hl 1 rfl) ?_
                refine lv_iload_n hx hb dX5_moths_83 rfl (lv_at hl 3 rfl) ?_
                obtain ⟨r30, e30, e25⟩ := cd_bind_some e25
                refine cd_callV (As := [.int a0, .int a2]) (rest := []) C0 hw (c_X3_outlasts l G cI cZ sa sb ht T a0 a2 r30 e30) [2, 3, 4, 5, 6, 7, 8, 9, 10, 11, 12] rfl rfl 0 3 rfl rfl rfl (cwV 2 hts gX5_moths_X3_outlasts rfl rfl rfl (by decide +kernel) ⟨Nat.le_of_ble_eq_true rfl, Nat.le_of_ble_eq_true rfl⟩) rfl hl.1 (lv_room (Nat.le_of_ble_eq_true rfl)) dX5_moths_84 (fun H locs hw => ?_)
                refine lv_if_eq (tgt := 94) hx hb dX5_moths_87 (by decide) (fun c31 => ?_) (fun c31 => ?_)
                · have e25 := cd_ite_t c31 e25
                  refine lv_lconst (v := 0) hx hb dX5_moths_94 (by decide) ?_
                  have z : some (0 : Int64) = some x25 := e25
                  cases z
                  exact K25 _ _ _ (lv_sub hl [2, 3, 4] rfl) hw
                · have e25 := cd_ite_f c31 e25
                  refine lv_lconst (v := 1) hx hb dX5_moths_90 (by decide) ?_
                  refine lv_goto (tgt := 95) hx hb dX5_moths_91 (by decide) ?_
                  have z : some (1 : Int64) = some x25 := e25
                  cases z
                  exact K25 _ _ _ (lv_sub hl [2, 3, 4] rfl) hw
              · have e25 := cd_ite_t c25 e25
                refine lv_aload_n hx hb dX5_moths_66 rfl (lv_at hl 0 rfl) ?_
                refine va_get (D := G) (ci := 5) (v := .ref (ht 0)) (C := RX5) (T := TX5) (N := 8) hx hb hts nw_X5_moths_X5 hown hK hw.1 0 rfl rfl 0 (by decide) hL1 (fun _ h9 => h9) rfl dX5_moths_67 ?_
                refine lv_iload_n hx hb dX5_moths_70 rfl (lv_at hl 3 rfl) ?_
                obtain ⟨r29, e29, e25⟩ := cd_bind_some e25
                refine cd_callV (As := [.int a2]) (rest := []) C0 hw (c_X3_howManyOutlast l G cI cZ sa sb ht T a2 r29 e29) [2, 3, 4, 5, 6, 7, 8, 9, 10, 11, 12] rfl rfl 0 3 rfl rfl rfl (cwV 1 hts gX5_moths_X3_howManyOutlast rfl rfl rfl (by decide +kernel) ⟨Nat.le_of_ble_eq_true rfl, Nat.le_of_ble_eq_true rfl⟩) rfl hl.1 (lv_room (Nat.le_of_ble_eq_true rfl)) dX5_moths_71 (fun H locs hw => ?_)
                refine lv_i2l hx hb dX5_moths_74 rfl ?_
                refine lv_goto (tgt := 95) hx hb dX5_moths_75 (by decide) ?_
                have z : some (r29.toInt64) = some x25 := e25
                cases z
                exact K25 _ _ _ (lv_sub hl [2, 3, 4] rfl) hw
            · have hf := cd_ite_t c24 hf
              refine lv_ldc2 (v := (-1000000000000000002 : Int64)) hx hb hown hL0 dX5_moths_57 ?_
              have z : some (-1000000000000000002 : Int64) = some o := hf
              cases z
              rw [hQ]
              exact cd_retl C0 hw dX5_moths_60
      · have hf := cd_ite_t c18 hf
        refine lv_ldc2 (v := (-1000000000000000001 : Int64)) hx hb hown hL3 dX5_moths_23 ?_
        have z : some (-1000000000000000001 : Int64) = some o := hf
        cases z
        rw [hQ]
        exact cd_retl C0 hw dX5_moths_26
abbrev rm_X5_net : Room := { frames := 2, cells := 0, slots := 0, locals := 42 }
theorem nw_X5_net_X3 : ∀ w ∈ u_ws RX3 TX3 14, w ∈ wsX5_net := by decide +kernel
theorem nw_X5_net_X5 : ∀ w ∈ u_ws RX5 TX5 8, w ∈ wsX5_net := by decide +kernel
set_option maxHeartbeats 4000000 in
set_option maxRecDepth 100000 in
theorem c_X5_net (l : Launch) (G : va_G) (cI cZ : ClassId) (sa sb : Nat) (h ht h1 h2 hp hy hs hv hz : Nat → Nat) (K T : Nat → Nat → Int32) (a0 : Int32) (o : Int32) (hf : f_X5_net a0 K T = some o) : cd_Ct l G cI cZ sa sb yX5_net wsX5_net rm_X5_net [.ref (h 0), .int a0] ((pc_top cZ h ht h1 h2 hp hy hv hz K) ++ (pc_town cI ht T)) ((pc_top cZ h ht h1 h2 hp hy hv hz K) ++ (pc_town cI ht T)) (some (.int o)) := by
  refine cd_of (cc := cX5_net) (maxL := 4) (ret := (some .int)) (by decide) rfl (Nat.le_of_ble_eq_true rfl) ?_
  intro p e s m ag below meth c A ls Q C0 hl hw hQ
  have C0 : cd_CX G cI cZ sa sb p s m ag meth c cX5_net 4 (some .int) wsX5_net RX5 A := C0
  obtain ⟨⟨hx, hb, hml, hown, hts⟩, hr, hlocks, hA, hE⟩ := id C0
  have hK := hE.1
  have hL0 := hts (.constant RX5 154 (100000)) (by decide +kernel)
  have hL1 := hts (.fieldLink RX5 12 "CandleDebts" "town" "LCandleDebts$Town;") (by decide +kernel)
  have hL2 := hts (.fieldLink RX5 151 "CandleDebts$Town" "creditors" "[I") (by decide +kernel)
  have hL3 := hts (.fieldLink RX5 117 "CandleDebts$Town" "sums" "[I") (by decide +kernel)
  have hL4 := hts (.fieldLink RX5 155 "CandleDebts$Town" "debtors" "[I") (by decide +kernel)
  have hl : lv_has ls 4 [(0, .ref (h 0)), (1, .int a0)] := hl
  unfold f_X5_net at hf
  refine lv_iload_n hx hb dX5_net_0 rfl (lv_at hl 1 rfl) ?_
  obtain ⟨r1, e1, hf⟩ := cd_bind_some hf
  refine cd_callS (As := [.int a0]) (rest := []) C0 hw (c_X5_isOne l G cI cZ sa sb a0 r1 e1) [] rfl rfl (va_cwS 1 hts gX5_net_X5_isOne rfl rfl rfl (by decide +kernel) ⟨Nat.le_of_ble_eq_true rfl, Nat.le_of_ble_eq_true rfl⟩) rfl hl.1 (lv_room (Nat.le_of_ble_eq_true rfl)) dX5_net_1 (fun H locs hw => ?_)
  refine lv_if_ne (tgt := 9) hx hb dX5_net_4 (by decide) (fun c2 => ?_) (fun c2 => ?_)
  · have hf := cd_ite_f c2 hf
    refine lv_ldc (v := (100000 : Int32)) hx hb hown hL0 dX5_net_9 ?_
    refine lv_istore_n (lv' := [(2, .int (100000 : Int32)), (0, .ref (h 0)), (1, .int a0)]) hx hb dX5_net_11 rfl hl (by decide) rfl (fun ls hl => ?_)
    refine lv_iconst (v := (0 : Int32)) hx hb dX5_net_12 (by decide) ?_
    refine lv_istore_n (lv' := [(3, .int (0 : Int32)), (2, .int (100000 : Int32)), (0, .ref (h 0)), (1, .int a0)]) hx hb dX5_net_13 rfl hl (by decide) rfl (fun ls hl => ?_)
    obtain ⟨x3, e3, hf⟩ := cd_bind_some hf
    have K3 : ∀ (t3 : Int32), t3 = x3 → ∀ (ls : Array Slot) (H : Heap) (locs : List Loc), lv_has ls 4 [(2, .int t3)] → cd_WS G A s.heap H locs ((pc_top cZ h ht h1 h2 hp hy hv hz K) ++ (pc_town cI ht T)) → W p l e rm_X5_net s m ag below meth c H locs 0 0 Q (F0 m 98 ls []) := by
      intro t3 hs_3
      subst hs_3
      intro ls H locs hl hw
      refine lv_iload_n hx hb dX5_net_98 rfl (lv_at hl 0 rfl) ?_
      have z : some t3 = some o := hf
      cases z
      rw [hQ]
      exact cd_reti C0 hw dX5_net_99
    refine cd_iter_ind (body := (f_X5_net_b14 a0 T)) (K := fun r => r = x3) (P := fun (z3 : Int32 × Int32) => ∀ (ls : Array Slot) (H : Heap) (locs : List Loc), lv_has ls 4 [(0, .ref (h 0)), (1, .int a0), (2, .int z3.1), (3, .int z3.2)] → cd_WS G A s.heap H locs ((pc_top cZ h ht h1 h2 hp hy hv hz K) ++ (pc_town cI ht T)) → W p l e rm_X5_net s m ag below meth c H locs 0 0 Q (F0 m 14 ls [])) ?_ cd_N ((100000 : Int32), (0 : Int32)) x3 e3 rfl _ _ _ (lv_sub hl [2, 3, 1, 0] rfl) hw
    intro z3 o3 hb3 hk3 ls H locs hl hw
    unfold f_X5_net_b14 at hb3
    refine lv_iload_n hx hb dX5_net_14 rfl (lv_at hl 3 rfl) ?_
    refine lv_bipush (v := (12 : Int32)) hx hb dX5_net_15 (by decide) ?_
    refine lv_icmp_ge (tgt := 98) hx hb dX5_net_17 (by decide) (fun c4 => ?_) (fun c4 => ?_)
    · have hb3 := cd_ite_t c4 hb3
      have z : some (Sum.inl z3.1) = some o3 := hb3
      cases z
      exact K3 _ hk3 _ _ _ (lv_sub hl [2] rfl) hw
    · have hb3 := cd_ite_f c4 hb3
      refine lv_aload_n hx hb dX5_net_20 rfl (lv_at hl 0 rfl) ?_
      refine va_get (D := G) (ci := 5) (v := .ref (ht 0)) (C := RX5) (T := TX5) (N := 8) hx hb hts nw_X5_net_X5 hown hK hw.1 0 rfl rfl 0 (by decide) hL1 (fun _ h9 => h9) rfl dX5_net_21 ?_
      refine lv_iload_n hx hb dX5_net_24 rfl (lv_at hl 3 rfl) ?_
      obtain ⟨r5, e5, hb3⟩ := cd_bind_some hb3
      refine cd_callV (As := [.int z3.2]) (rest := []) C0 hw (c_X3_isLit l G cI cZ sa sb ht T z3.2 r5 e5) [2, 3, 4, 5, 6, 7, 8, 9, 10, 11, 12] rfl rfl 0 3 rfl rfl rfl (cwV 1 hts gX5_net_X3_isLit rfl rfl rfl (by decide +kernel) ⟨Nat.le_of_ble_eq_true rfl, Nat.le_of_ble_eq_true rfl⟩) rfl hl.1 (lv_room (Nat.le_of_ble_eq_true rfl)) dX5_net_25 (fun H locs hw => ?_)
      obtain ⟨x6, e6, hb3⟩ := cd_bind_some hb3
      have K6 : ∀ (ls : Array Slot) (H : Heap) (locs : List Loc), lv_has ls 4 [(0, .ref (h 0)), (1, .int a0), (2, .int x6), (3, .int z3.2)] → cd_WS G A s.heap H locs ((pc_top cZ h ht h1 h2 hp hy hv hz K) ++ (pc_town cI ht T)) → W p l e rm_X5_net s m ag below meth c H locs 0 0 Q (F0 m 56 ls []) := by
        intro ls H locs hl hw
        refine lv_aload_n hx hb dX5_net_56 rfl (lv_at hl 0 rfl) ?_
        refine va_get (D := G) (ci := 5) (v := .ref (ht 0)) (C := RX5) (T := TX5) (N := 8) hx hb hts nw_X5_net_X5 hown hK hw.1 0 rfl rfl 0 (by decide) hL1 (fun _ h9 => h9) rfl dX5_net_57 ?_
        refine lv_iload_n hx hb dX5_net_60 rfl (lv_at hl 3 rfl) ?_
        obtain ⟨r7, e7, hb3⟩ := cd_bind_some hb3
        refine cd_callV (As := [.int z3.2]) (rest := []) C0 hw (c_X3_isLit l G cI cZ sa sb ht T z3.2 r7 e7) [2, 3, 4, 5, 6, 7, 8, 9, 10, 11, 12] rfl rfl 0 3 rfl rfl rfl (cwV 1 hts gX5_net_X3_isLit rfl rfl rfl (by decide +kernel) ⟨Nat.le_of_ble_eq_true rfl, Nat.le_of_ble_eq_true rfl⟩) rfl hl.1 (lv_room (Nat.le_of_ble_eq_true rfl)) dX5_net_61 (fun H locs hw => ?_)
        refine lv_if_eq (tgt := 92) hx hb dX5_net_64 (by decide) (fun c8 => ?_) (fun c8 => ?_)
        · have hb3 := cd_ite_t c8 hb3
          refine lv_iinc (v := (z3.2 + (1 : Int32))) (lv' := [(3, .int (z3.2 + (1 : Int32))), (0, .ref (h 0)), (1, .int a0), (2, .int x6)]) hx hb dX5_net_92 hl (k := 3) rfl rfl (by decide) rfl (fun ls hl => ?_)
          refine lv_goto (tgt := 14) hx hb dX5_net_95 (by decide) ?_
          have z : some (Sum.inr (x6, (z3.2 + (1 : Int32)))) = some o3 := hb3
          cases z
          exact hk3 _ _ _ (lv_sub hl [1, 2, 3, 0] rfl) hw
        · have hb3 := cd_ite_f c8 hb3
          refine lv_aload_n hx hb dX5_net_67 rfl (lv_at hl 0 rfl) ?_
          refine va_get (D := G) (ci := 5) (v := .ref (ht 0)) (C := RX5) (T := TX5) (N := 8) hx hb hts nw_X5_net_X5 hown hK hw.1 0 rfl rfl 0 (by decide) hL1 (fun _ h9 => h9) rfl dX5_net_68 ?_
          refine va_get (D := G) (ci := 3) (v := .ref (ht 5)) (C := RX3) (T := TX3) (N := 14) hx hb hts nw_X5_net_X3 hown hK hw.1 2 rfl rfl 4 (by decide) hL4 (fun _ h9 => h9) rfl dX5_net_71 ?_
          refine lv_iload_n hx hb dX5_net_74 rfl (lv_at hl 3 rfl) ?_
          obtain ⟨v9, e9, hb3⟩ := cd_bind_some hb3
          refine cd_iald hx hb hK hw 7 rfl e9 dX5_net_75 ?_
          refine lv_iload_n hx hb dX5_net_76 rfl (lv_at hl 1 rfl) ?_
          refine lv_icmp_ne (tgt := 92) hx hb dX5_net_77 (by decide) (fun c10 => ?_) (fun c10 => ?_)
          · have hb3 := cd_ite_f c10 hb3
            refine lv_iinc (v := (z3.2 + (1 : Int32))) (lv' := [(3, .int (z3.2 + (1 : Int32))), (0, .ref (h 0)), (1, .int a0), (2, .int x6)]) hx hb dX5_net_92 hl (k := 3) rfl rfl (by decide) rfl (fun ls hl => ?_)
            refine lv_goto (tgt := 14) hx hb dX5_net_95 (by decide) ?_
            have z : some (Sum.inr (x6, (z3.2 + (1 : Int32)))) = some o3 := hb3
            cases z
            exact hk3 _ _ _ (lv_sub hl [1, 2, 3, 0] rfl) hw
          · have hb3 := cd_ite_t c10 hb3
            refine lv_iload_n hx hb dX5_net_80 rfl (lv_at hl 2 rfl) ?_
            refine lv_aload_n hx hb dX5_net_81 rfl (lv_at hl 0 rfl) ?_
            refine va_get (D := G) (ci := 5) (v := .ref (ht 0)) (C := RX5) (T := TX5) (N := 8) hx hb hts nw_X5_net_X5 hown hK hw.1 0 rfl rfl 0 (by decide) hL1 (fun _ h9 => h9) rfl dX5_net_82 ?_
            refine va_get (D := G) (ci := 3) (v := .ref (ht 6)) (C := RX3) (T := TX3) (N := 14) hx hb hts nw_X5_net_X3 hown hK hw.1 2 rfl rfl 5 (by decide) hL3 (fun _ h9 => h9) rfl dX5_net_85 ?_
            refine lv_iload_n hx hb dX5_net_88 rfl (lv_at hl 3 rfl) ?_
            obtain ⟨v11, e11, hb3⟩ := cd_bind_some hb3
            refine cd_iald hx hb hK hw 8 rfl e11 dX5_net_89 ?_
            refine lv_isub hx hb dX5_net_90 ?_
            refine lv_istore_n (lv' := [(2, .int (x6 - v11)), (0, .ref (h 0)), (1, .int a0), (3, .int z3.2)]) hx hb dX5_net_91 rfl hl (by decide) rfl (fun ls hl => ?_)
            refine lv_iinc (v := (z3.2 + (1 : Int32))) (lv' := [(3, .int (z3.2 + (1 : Int32))), (2, .int (x6 - v11)), (0, .ref (h 0)), (1, .int a0)]) hx hb dX5_net_92 hl (k := 3) rfl rfl (by decide) rfl (fun ls hl => ?_)
            refine lv_goto (tgt := 14) hx hb dX5_net_95 (by decide) ?_
            have z : some (Sum.inr ((x6 - v11), (z3.2 + (1 : Int32)))) = some o3 := hb3
            cases z
            exact hk3 _ _ _ (lv_sub hl [2, 3, 1, 0] rfl) hw
      refine lv_if_eq (tgt := 56) hx hb dX5_net_28 (by decide) (fun c6 => ?_) (fun c6 => ?_)
      · have e6 := cd_ite_t c6 e6
        have z : some z3.1 = some x6 := e6
        cases z
        exact K6 _ _ _ (lv_sub hl [0, 1, 2, 3] rfl) hw
      · have e6 := cd_ite_f c6 e6
        refine lv_aload_n hx hb dX5_net_31 rfl (lv_at hl 0 rfl) ?_
        refine va_get (D := G) (ci := 5) (v := .ref (ht 0)) (C := RX5) (T := TX5) (N := 8) hx hb hts nw_X5_net_X5 hown hK hw.1 0 rfl rfl 0 (by decide) hL1 (fun _ h9 => h9) rfl dX5_net_32 ?_
        refine va_get (D := G) (ci := 3) (v := .ref (ht 4)) (C := RX3) (T := TX3) (N := 14) hx hb hts nw_X5_net_X3 hown hK hw.1 2 rfl rfl 3 (by decide) hL2 (fun _ h9 => h9) rfl dX5_net_35 ?_
        refine lv_iload_n hx hb dX5_net_38 rfl (lv_at hl 3 rfl) ?_
        obtain ⟨v12, e12, e6⟩ := cd_bind_some e6
        refine cd_iald hx hb hK hw 6 rfl e12 dX5_net_39 ?_
        refine lv_iload_n hx hb dX5_net_40 rfl (lv_at hl 1 rfl) ?_
        refine lv_icmp_ne (tgt := 56) hx hb dX5_net_41 (by decide) (fun c13 => ?_) (fun c13 => ?_)
        · have e6 := cd_ite_f c13 e6
          have z : some z3.1 = some x6 := e6
          cases z
          exact K6 _ _ _ (lv_sub hl [0, 1, 2, 3] rfl) hw
        · have e6 := cd_ite_t c13 e6
          refine lv_iload_n hx hb dX5_net_44 rfl (lv_at hl 2 rfl) ?_
          refine lv_aload_n hx hb dX5_net_45 rfl (lv_at hl 0 rfl) ?_
          refine va_get (D := G) (ci := 5) (v := .ref (ht 0)) (C := RX5) (T := TX5) (N := 8) hx hb hts nw_X5_net_X5 hown hK hw.1 0 rfl rfl 0 (by decide) hL1 (fun _ h9 => h9) rfl dX5_net_46 ?_
          refine va_get (D := G) (ci := 3) (v := .ref (ht 6)) (C := RX3) (T := TX3) (N := 14) hx hb hts nw_X5_net_X3 hown hK hw.1 2 rfl rfl 5 (by decide) hL3 (fun _ h9 => h9) rfl dX5_net_49 ?_
          refine lv_iload_n hx hb dX5_net_52 rfl (lv_at hl 3 rfl) ?_
          obtain ⟨v14, e14, e6⟩ := cd_bind_some e6
          refine cd_iald hx hb hK hw 8 rfl e14 dX5_net_53 ?_
          refine lv_iadd hx hb dX5_net_54 ?_
          refine lv_istore_n (lv' := [(2, .int (z3.1 + v14)), (0, .ref (h 0)), (1, .int a0), (3, .int z3.2)]) hx hb dX5_net_55 rfl hl (by decide) rfl (fun ls hl => ?_)
          have z : some (z3.1 + v14) = some x6 := e6
          cases z
          exact K6 _ _ _ (lv_sub hl [1, 2, 0, 3] rfl) hw
  · have hf := cd_ite_t c2 hf
    refine lv_iconst (v := (-1 : Int32)) hx hb dX5_net_7 (by decide) ?_
    have z : some (-1 : Int32) = some o := hf
    cases z
    rw [hQ]
    exact cd_reti C0 hw dX5_net_8
abbrev rm_X5_purse : Room := { frames := 2, cells := 0, slots := 0, locals := 42 }
theorem nw_X5_purse_X3 : ∀ w ∈ u_ws RX3 TX3 14, w ∈ wsX5_purse := by decide +kernel
theorem nw_X5_purse_X5 : ∀ w ∈ u_ws RX5 TX5 8, w ∈ wsX5_purse := by decide +kernel
set_option maxHeartbeats 4000000 in
set_option maxRecDepth 100000 in
theorem c_X5_purse (l : Launch) (G : va_G) (cI cZ : ClassId) (sa sb : Nat) (h ht h1 h2 hp hy hs hv hz : Nat → Nat) (K T : Nat → Nat → Int32) (a0 : Int32) (a1 : Int32) (o : Int32 × (Nat → Nat → Int32)) (hf : f_X5_purse a0 a1 K T = some o) : cd_Ct l G cI cZ sa sb yX5_purse wsX5_purse rm_X5_purse [.ref (h 0), .int a0, .int a1] ((pc_top cZ h ht h1 h2 hp hy hv hz K) ++ (pc_town cI ht T)) ((pc_top cZ h ht h1 h2 hp hy hv hz K) ++ (pc_town cI ht o.2)) (some (.int o.1)) := by
  refine cd_of (cc := cX5_purse) (maxL := 4) (ret := (some .int)) (by decide) rfl (Nat.le_of_ble_eq_true rfl) ?_
  intro p e s m ag below meth c A ls Q C0 hl hw hQ
  have C0 : cd_CX G cI cZ sa sb p s m ag meth c cX5_purse 4 (some .int) wsX5_purse RX5 A := C0
  obtain ⟨⟨hx, hb, hml, hown, hts⟩, hr, hlocks, hA, hE⟩ := id C0
  have hK := hE.1
  have hL0 := hts (.fieldLink RX5 12 "CandleDebts" "town" "LCandleDebts$Town;") (by decide +kernel)
  have hL1 := hts (.fieldLink RX5 76 "CandleDebts$Town" "purses" "[I") (by decide +kernel)
  have hl : lv_has ls 4 [(0, .ref (h 0)), (1, .int a0), (2, .int a1)] := hl
  unfold f_X5_purse at hf
  refine lv_iload_n hx hb dX5_purse_0 rfl (lv_at hl 1 rfl) ?_
  obtain ⟨r1, e1, hf⟩ := cd_bind_some hf
  refine cd_callS (As := [.int a0]) (rest := []) C0 hw (c_X5_isOne l G cI cZ sa sb a0 r1 e1) [] rfl rfl (va_cwS 1 hts gX5_purse_X5_isOne rfl rfl rfl (by decide +kernel) ⟨Nat.le_of_ble_eq_true rfl, Nat.le_of_ble_eq_true rfl⟩) rfl hl.1 (lv_room (Nat.le_of_ble_eq_true rfl)) dX5_purse_1 (fun H locs hw => ?_)
  refine lv_if_ne (tgt := 9) hx hb dX5_purse_4 (by decide) (fun c2 => ?_) (fun c2 => ?_)
  · have hf := cd_ite_f c2 hf
    refine lv_iload_n hx hb dX5_purse_9 rfl (lv_at hl 2 rfl) ?_
    refine lv_iconst (v := (0 : Int32)) hx hb dX5_purse_10 (by decide) ?_
    refine lv_sipush (v := (9999 : Int32)) hx hb dX5_purse_11 (by decide) ?_
    obtain ⟨r3, e3, hf⟩ := cd_bind_some hf
    refine cd_callS (As := [.int a1, .int (0 : Int32), .int (9999 : Int32)]) (rest := []) C0 hw (c_X5_within l G cI cZ sa sb a1 (0 : Int32) (9999 : Int32) r3 e3) [] rfl rfl (va_cwS 3 hts gX5_purse_X5_within rfl rfl rfl (by decide +kernel) ⟨Nat.le_of_ble_eq_true rfl, Nat.le_of_ble_eq_true rfl⟩) rfl hl.1 (lv_room (Nat.le_of_ble_eq_true rfl)) dX5_purse_14 (fun H locs hw => ?_)
    refine lv_if_ne (tgt := 23) hx hb dX5_purse_17 (by decide) (fun c4 => ?_) (fun c4 => ?_)
    · have hf := cd_ite_f c4 hf
      refine lv_aload_n hx hb dX5_purse_23 rfl (lv_at hl 0 rfl) ?_
      refine va_get (D := G) (ci := 5) (v := .ref (ht 0)) (C := RX5) (T := TX5) (N := 8) hx hb hts nw_X5_purse_X5 hown hK hw.1 0 rfl rfl 0 (by decide) hL0 (fun _ h9 => h9) rfl dX5_purse_24 ?_
      refine va_get (D := G) (ci := 3) (v := .ref (ht 8)) (C := RX3) (T := TX3) (N := 14) hx hb hts nw_X5_purse_X3 hown hK hw.1 2 rfl rfl 7 (by decide) hL1 (fun _ h9 => h9) rfl dX5_purse_27 ?_
      refine lv_iload_n hx hb dX5_purse_30 rfl (lv_at hl 1 rfl) ?_
      obtain ⟨v5, e5, hf⟩ := cd_bind_some hf
      refine cd_iald hx hb hK hw 10 rfl e5 dX5_purse_31 ?_
      refine lv_istore_n (lv' := [(3, .int v5), (0, .ref (h 0)), (1, .int a0), (2, .int a1)]) hx hb dX5_purse_32 rfl hl (by decide) rfl (fun ls hl => ?_)
      refine lv_aload_n hx hb dX5_purse_33 rfl (lv_at hl 1 rfl) ?_
      refine va_get (D := G) (ci := 5) (v := .ref (ht 0)) (C := RX5) (T := TX5) (N := 8) hx hb hts nw_X5_purse_X5 hown hK hw.1 0 rfl rfl 0 (by decide) hL0 (fun _ h9 => h9) rfl dX5_purse_34 ?_
      refine va_get (D := G) (ci := 3) (v := .ref (ht 8)) (C := RX3) (T := TX3) (N := 14) hx hb hts nw_X5_purse_X3 hown hK hw.1 2 rfl rfl 7 (by decide) hL1 (fun _ h9 => h9) rfl dX5_purse_37 ?_
      refine lv_iload_n hx hb dX5_purse_40 rfl (lv_at hl 2 rfl) ?_
      refine lv_iload_n hx hb dX5_purse_41 rfl (lv_at hl 3 rfl) ?_
      obtain ⟨j6, e6, hf⟩ := cd_bind_some hf
      refine cd_iast hx hb hK hw 10 rfl e6 dX5_purse_42 (fun H locs hw => ?_)
      have hw : cd_WS G A s.heap H locs ((pc_top cZ h ht h1 h2 hp hy hv hz K) ++ (pc_town cI ht (cd_set T 7 j6 a1))) := hw
      refine lv_iload_n hx hb dX5_purse_43 rfl (lv_at hl 0 rfl) ?_
      have z : some (v5, (cd_set T 7 j6 a1)) = some o := hf
      cases z
      rw [hQ]
      exact cd_reti C0 hw dX5_purse_44
    · have hf := cd_ite_t c4 hf
      refine lv_bipush (v := (-2 : Int32)) hx hb dX5_purse_20 (by decide) ?_
      have z : some ((-2 : Int32), T) = some o := hf
      cases z
      rw [hQ]
      exact cd_reti C0 hw dX5_purse_22
  · have hf := cd_ite_t c2 hf
    refine lv_iconst (v := (-1 : Int32)) hx hb dX5_purse_7 (by decide) ?_
    have z : some ((-1 : Int32), T) = some o := hf
    cases z
    rw [hQ]
    exact cd_reti C0 hw dX5_purse_8
abbrev rm_X5_round : Room := { frames := 4, cells := 0, slots := 0, locals := 91 }
theorem nw_X5_round_X5 : ∀ w ∈ u_ws RX5 TX5 8, w ∈ wsX5_round := by decide +kernel
set_option maxHeartbeats 4000000 in
set_option maxRecDepth 100000 in
theorem c_X5_round (l : Launch) (G : va_G) (cI cZ : ClassId) (sa sb : Nat) (h ht h1 h2 hp hy hs hv hz : Nat → Nat) (K T V : Nat → Nat → Int32) (a0 : Int32) (a1 : Int32) (o : Int32 × (Nat → Nat → Int32)) (hf : f_X5_round a0 a1 K T V = some o) : cd_Ct l G cI cZ sa sb yX5_round wsX5_round rm_X5_round [.ref (h 0), .int a0, .int a1] ((pc_top cZ h ht h1 h2 hp hy hv hz K) ++ (pc_town cI ht T) ++ (pc_walk cI hv V)) ((pc_top cZ h ht h1 h2 hp hy hv hz K) ++ (pc_town cI ht T) ++ (pc_walk cI hv o.2)) (some (.int o.1)) := by
  refine cd_of (cc := cX5_round) (maxL := 6) (ret := (some .int)) (by decide) rfl (Nat.le_of_ble_eq_true rfl) ?_
  intro p e s m ag below meth c A ls Q C0 hl hw hQ
  have C0 : cd_CX G cI cZ sa sb p s m ag meth c cX5_round 6 (some .int) wsX5_round RX5 A := C0
  obtain ⟨⟨hx, hb, hml, hown, hts⟩, hr, hlocks, hA, hE⟩ := id C0
  have hK := hE.1
  have hL0 := hts (.fieldLink RX5 43 "CandleDebts" "walk" "LCandleDebts$Walk;") (by decide +kernel)
  have hL1 := hts (.fieldLink RX5 12 "CandleDebts" "town" "LCandleDebts$Town;") (by decide +kernel)
  have hL2 := hts (.methodLink RX5 166 Lib.Math.min.name) (by decide +kernel)
  have hL3 := hts (.static Lib.Math.min.name) (by decide +kernel)
  have hL4 := hts (.initialized "java/lang/Math") (by decide +kernel)
  have hL5 := hts (.code Lib.Math.min.name Lib.Math.min.code 2 (some .int)) (by decide +kernel)
  have hL6 := hts (.constant RX5 171 (1000000)) (by decide +kernel)
  have hl : lv_has ls 6 [(0, .ref (h 0)), (1, .int a0), (2, .int a1)] := hl
  unfold f_X5_round at hf
  refine lv_iload_n hx hb dX5_round_0 rfl (lv_at hl 1 rfl) ?_
  obtain ⟨r1, e1, hf⟩ := cd_bind_some hf
  refine cd_callS (As := [.int a0]) (rest := []) C0 hw (c_X5_isCandle l G cI cZ sa sb a0 r1 e1) [] rfl rfl (va_cwS 1 hts gX5_round_X5_isCandle rfl rfl rfl (by decide +kernel) ⟨Nat.le_of_ble_eq_true rfl, Nat.le_of_ble_eq_true rfl⟩) rfl hl.1 (lv_room (Nat.le_of_ble_eq_true rfl)) dX5_round_1 (fun H locs hw => ?_)
  refine lv_if_ne (tgt := 9) hx hb dX5_round_4 (by decide) (fun c2 => ?_) (fun c2 => ?_)
  · have hf := cd_ite_f c2 hf
    refine lv_iload_n hx hb dX5_round_9 rfl (lv_at hl 2 rfl) ?_
    refine lv_iconst (v := (0 : Int32)) hx hb dX5_round_10 (by decide) ?_
    refine lv_iconst (v := (1 : Int32)) hx hb dX5_round_11 (by decide) ?_
    obtain ⟨r3, e3, hf⟩ := cd_bind_some hf
    refine cd_callS (As := [.int a1, .int (0 : Int32), .int (1 : Int32)]) (rest := []) C0 hw (c_X5_within l G cI cZ sa sb a1 (0 : Int32) (1 : Int32) r3 e3) [] rfl rfl (va_cwS 3 hts gX5_round_X5_within rfl rfl rfl (by decide +kernel) ⟨Nat.le_of_ble_eq_true rfl, Nat.le_of_ble_eq_true rfl⟩) rfl hl.1 (lv_room (Nat.le_of_ble_eq_true rfl)) dX5_round_12 (fun H locs hw => ?_)
    refine lv_if_ne (tgt := 21) hx hb dX5_round_15 (by decide) (fun c4 => ?_) (fun c4 => ?_)
    · have hf := cd_ite_f c4 hf
      refine lv_aload_n hx hb dX5_round_21 rfl (lv_at hl 0 rfl) ?_
      refine va_get (D := G) (ci := 5) (v := .ref (hv 0)) (C := RX5) (T := TX5) (N := 8) hx hb hts nw_X5_round_X5 hown hK hw.1 0 rfl rfl 6 (by decide) hL0 (fun _ h9 => h9) rfl dX5_round_22 ?_
      refine lv_aload_n hx hb dX5_round_25 rfl (lv_at hl 0 rfl) ?_
      refine va_get (D := G) (ci := 5) (v := .ref (ht 0)) (C := RX5) (T := TX5) (N := 8) hx hb hts nw_X5_round_X5 hown hK hw.1 0 rfl rfl 0 (by decide) hL1 (fun _ h9 => h9) rfl dX5_round_26 ?_
      refine lv_iload_n hx hb dX5_round_29 rfl (lv_at hl 1 rfl) ?_
      obtain ⟨r5, e5, hf⟩ := cd_bind_some hf
      refine cd_callVw (As := [.ref (ht 0), .int a0]) (rest := []) (wr := (pc_top cZ h ht h1 h2 hp hy hv hz K)) (wn := (pc_top cZ h ht h1 h2 hp hy hv hz K) ++ (pc_town cI ht T) ++ (pc_walk cI hv r5.2)) C0 hw (c_X4_isNeeded l G cI cZ sa sb hv ht V T a0 r5 e5) [13, 14, 15, 16, 2, 3, 4, 5, 6, 7, 8, 9, 10, 11, 12] [0, 1] [0, 1, 6, 7, 8, 9, 10, 11, 12, 13, 14, 15, 16, 2, 3, 4, 5] rfl rfl rfl rfl (by decide) rfl rfl 0 4 rfl rfl rfl (cwV 2 hts gX5_round_X4_isNeeded rfl rfl rfl (by decide +kernel) ⟨Nat.le_of_ble_eq_true rfl, Nat.le_of_ble_eq_true rfl⟩) rfl hl.1 (lv_room (Nat.le_of_ble_eq_true rfl)) dX5_round_30 (fun H locs hw => ?_)
      refine lv_if_ne (tgt := 47) hx hb dX5_round_33 (by decide) (fun c6 => ?_) (fun c6 => ?_)
      · have hf := cd_ite_f c6 hf
        refine lv_aload_n hx hb dX5_round_47 rfl (lv_at hl 0 rfl) ?_
        refine va_get (D := G) (ci := 5) (v := .ref (hv 0)) (C := RX5) (T := TX5) (N := 8) hx hb hts nw_X5_round_X5 hown hK hw.1 0 rfl rfl 6 (by decide) hL0 (fun _ h9 => h9) rfl dX5_round_48 ?_
        refine lv_iload_n hx hb dX5_round_51 rfl (lv_at hl 1 rfl) ?_
        refine lv_iconst (v := (-1 : Int32)) hx hb dX5_round_52 (by decide) ?_
        obtain ⟨r8, e8, hf⟩ := cd_bind_some hf
        refine cd_callVw (As := [.int a0, .int (-1 : Int32)]) (rest := []) (wr := (pc_top cZ h ht h1 h2 hp hy hv hz K) ++ (pc_town cI ht T)) (wn := (pc_top cZ h ht h1 h2 hp hy hv hz K) ++ (pc_town cI ht T) ++ (pc_walk cI hv r8.2)) C0 hw (c_X4_fewestMinutes l G cI cZ sa sb hv r5.2 a0 (-1 : Int32) r8 e8) [13, 14, 15, 16] [0, 1, 2, 3, 4, 5, 6, 7, 8, 9, 10, 11, 12] [0, 1, 2, 3, 4, 5, 6, 7, 8, 9, 10, 11, 12, 13, 14, 15, 16] rfl rfl rfl rfl (by decide) rfl rfl 0 4 rfl rfl rfl (cwV 2 hts gX5_round_X4_fewestMinutes rfl rfl rfl (by decide +kernel) ⟨Nat.le_of_ble_eq_true rfl, Nat.le_of_ble_eq_true rfl⟩) rfl hl.1 (lv_room (Nat.le_of_ble_eq_true rfl)) dX5_round_53 (fun H locs hw => ?_)
        refine lv_istore_n (lv' := [(3, .int r8.1), (0, .ref (h 0)), (1, .int a0), (2, .int a1)]) hx hb dX5_round_56 rfl hl (by decide) rfl (fun ls hl => ?_)
        refine lv_aload_n hx hb dX5_round_57 rfl (lv_at hl 1 rfl) ?_
        refine va_get (D := G) (ci := 5) (v := .ref (hv 0)) (C := RX5) (T := TX5) (N := 8) hx hb hts nw_X5_round_X5 hown hK hw.1 0 rfl rfl 6 (by decide) hL0 (fun _ h9 => h9) rfl dX5_round_58 ?_
        refine lv_iload_n hx hb dX5_round_61 rfl (lv_at hl 2 rfl) ?_
        refine lv_iconst (v := (1 : Int32)) hx hb dX5_round_62 (by decide) ?_
        obtain ⟨r9, e9, hf⟩ := cd_bind_some hf
        refine cd_callVw (As := [.int a0, .int (1 : Int32)]) (rest := []) (wr := (pc_top cZ h ht h1 h2 hp hy hv hz K) ++ (pc_town cI ht T)) (wn := (pc_top cZ h ht h1 h2 hp hy hv hz K) ++ (pc_town cI ht T) ++ (pc_walk cI hv r9.2)) C0 hw (c_X4_fewestMinutes l G cI cZ sa sb hv r8.2 a0 (1 : Int32) r9 e9) [13, 14, 15, 16] [0, 1, 2, 3, 4, 5, 6, 7, 8, 9, 10, 11, 12] [0, 1, 2, 3, 4, 5, 6, 7, 8, 9, 10, 11, 12, 13, 14, 15, 16] rfl rfl rfl rfl (by decide) rfl rfl 0 4 rfl rfl rfl (cwV 2 hts gX5_round_X4_fewestMinutes rfl rfl rfl (by decide +kernel) ⟨Nat.le_of_ble_eq_true rfl, Nat.le_of_ble_eq_true rfl⟩) rfl hl.1 (lv_room (Nat.le_of_ble_eq_true rfl)) dX5_round_63 (fun H locs hw => ?_)
        refine lv_istore (lv' := [(4, .int r9.1), (3, .int r8.1), (0, .ref (h 0)), (1, .int a0), (2, .int a1)]) hx hb dX5_round_66 hl (by decide) rfl (fun ls hl => ?_)
        refine lv_iload_n hx hb dX5_round_68 rfl (lv_at hl 1 rfl) ?_
        refine lv_iload hx hb dX5_round_69 (lv_at hl 0 rfl) ?_
        refine cd_mmin hx hb (hml.trans hl.1.symm) hown hL2 hL3 hL4 hL5 (Nat.le_of_ble_eq_true rfl) (Nat.le_of_ble_eq_true rfl) dX5_round_71 ?_
        refine lv_istore (lv' := [(5, .int (cd_min r8.1 r9.1)), (4, .int r9.1), (3, .int r8.1), (0, .ref (h 0)), (1, .int a0), (2, .int a1)]) hx hb dX5_round_74 hl (by decide) rfl (fun ls hl => ?_)
        refine lv_iload hx hb dX5_round_76 (lv_at hl 0 rfl) ?_
        refine lv_ldc (v := (1000000 : Int32)) hx hb hown hL6 dX5_round_78 ?_
        refine lv_icmp_lt (tgt := 86) hx hb dX5_round_80 (by decide) (fun c10 => ?_) (fun c10 => ?_)
        · have hf := cd_ite_t c10 hf
          refine lv_iload_n hx hb dX5_round_86 rfl (lv_at hl 5 rfl) ?_
          refine lv_if_ne (tgt := 93) hx hb dX5_round_87 (by decide) (fun c11 => ?_) (fun c11 => ?_)
          · have hf := cd_ite_f c11 hf
            refine lv_iload_n hx hb dX5_round_93 rfl (lv_at hl 2 rfl) ?_
            refine lv_iload hx hb dX5_round_94 (lv_at hl 0 rfl) ?_
            obtain ⟨x12, e12, hf⟩ := cd_bind_some hf
            have K12 : ∀ (ls : Array Slot) (H : Heap) (locs : List Loc), lv_has ls 6 [] → cd_WS G A s.heap H locs ((pc_top cZ h ht h1 h2 hp hy hv hz K) ++ (pc_town cI ht T) ++ (pc_walk cI hv r9.2)) → W p l e rm_X5_round s m ag below meth c H locs 0 0 Q (F0 m 104 ls [.int x12]) := by
              intro ls H locs hl hw
              have z : some (x12, r9.2) = some o := hf
              cases z
              rw [hQ]
              exact cd_reti C0 hw dX5_round_104
            refine lv_icmp_ne (tgt := 103) hx hb dX5_round_96 (by decide) (fun c12 => ?_) (fun c12 => ?_)
            · have e12 := cd_ite_f c12 e12
              refine lv_iconst (v := (1 : Int32)) hx hb dX5_round_103 (by decide) ?_
              have z : some (1 : Int32) = some x12 := e12
              cases z
              exact K12 _ _ _ (lv_sub hl [] rfl) hw
            · have e12 := cd_ite_t c12 e12
              refine lv_iconst (v := (0 : Int32)) hx hb dX5_round_99 (by decide) ?_
              refine lv_goto (tgt := 104) hx hb dX5_round_100 (by decide) ?_
              have z : some (0 : Int32) = some x12 := e12
              cases z
              exact K12 _ _ _ (lv_sub hl [] rfl) hw
          · have hf := cd_ite_t c11 hf
            refine lv_iload hx hb dX5_round_90 (lv_at hl 0 rfl) ?_
            have z : some ((cd_min r8.1 r9.1), r9.2) = some o := hf
            cases z
            rw [hQ]
            exact cd_reti C0 hw dX5_round_92
        · have hf := cd_ite_f c10 hf
          refine lv_bipush (v := (-6 : Int32)) hx hb dX5_round_83 (by decide) ?_
          have z : some ((-6 : Int32), r9.2) = some o := hf
          cases z
          rw [hQ]
          exact cd_reti C0 hw dX5_round_85
      · have hf := cd_ite_t c6 hf
        refine lv_iload_n hx hb dX5_round_36 rfl (lv_at hl 2 rfl) ?_
        obtain ⟨x7, e7, hf⟩ := cd_bind_some hf
        have K7 : ∀ (ls : Array Slot) (H : Heap) (locs : List Loc), lv_has ls 6 [] → cd_WS G A s.heap H locs ((pc_top cZ h ht h1 h2 hp hy hv hz K) ++ (pc_town cI ht T) ++ (pc_walk cI hv r5.2)) → W p l e rm_X5_round s m ag below meth c H locs 0 0 Q (F0 m 46 ls [.int x7]) := by
          intro ls H locs hl hw
          have z : some (x7, r5.2) = some o := hf
          cases z
          rw [hQ]
          exact cd_reti C0 hw dX5_round_46
        refine lv_if_ne (tgt := 44) hx hb dX5_round_37 (by decide) (fun c7 => ?_) (fun c7 => ?_)
        · have e7 := cd_ite_f c7 e7
          refine lv_bipush (v := (-6 : Int32)) hx hb dX5_round_44 (by decide) ?_
          have z : some (-6 : Int32) = some x7 := e7
          cases z
          exact K7 _ _ _ (lv_sub hl [] rfl) hw
        · have e7 := cd_ite_t c7 e7
          refine lv_iconst (v := (0 : Int32)) hx hb dX5_round_40 (by decide) ?_
          refine lv_goto (tgt := 46) hx hb dX5_round_41 (by decide) ?_
          have z : some (0 : Int32) = some x7 := e7
          cases z
          exact K7 _ _ _ (lv_sub hl [] rfl) hw
    · have hf := cd_ite_t c4 hf
      refine lv_bipush (v := (-2 : Int32)) hx hb dX5_round_18 (by decide) ?_
      have z : some ((-2 : Int32), V) = some o := hf
      cases z
      rw [hQ]
      exact cd_reti C0 hw dX5_round_20
  · have hf := cd_ite_t c2 hf
    refine lv_iconst (v := (-1 : Int32)) hx hb dX5_round_7 (by decide) ?_
    have z : some ((-1 : Int32), V) = some o := hf
    cases z
    rw [hQ]
    exact cd_reti C0 hw dX5_round_8
abbrev rm_X5_say : Room := { frames := 1, cells := 0, slots := 0, locals := 22 }
theorem nw_X5_say_X0 : ∀ w ∈ u_ws RX0 TX0 6, w ∈ wsX5_say := by decide +kernel
theorem nw_X5_say_X5 : ∀ w ∈ u_ws RX5 TX5 8, w ∈ wsX5_say := by decide +kernel
set_option maxHeartbeats 4000000 in
set_option maxRecDepth 100000 in
theorem c_X5_say (l : Launch) (G : va_G) (cI cZ : ClassId) (sa sb : Nat) (h ht h1 h2 hp hy hs hv hz : Nat → Nat) (K P : Nat → Nat → Int32) (a0 : Int32) (o : Int32 × (Nat → Nat → Int32)) (hf : f_X5_say a0 K P = some o) : cd_Ct l G cI cZ sa sb yX5_say wsX5_say rm_X5_say [.ref (h 0), .int a0] ((pc_top cZ h ht h1 h2 hp hy hv hz K) ++ (pc_pad cI hp P)) ((pc_top cZ h ht h1 h2 hp hy hv hz K) ++ (pc_pad cI hp o.2)) (some (.int o.1)) := by
  refine cd_of (cc := cX5_say) (maxL := 2) (ret := (some .int)) (by decide) rfl (Nat.le_of_ble_eq_true rfl) ?_
  intro p e s m ag below meth c A ls Q C0 hl hw hQ
  have C0 : cd_CX G cI cZ sa sb p s m ag meth c cX5_say 2 (some .int) wsX5_say RX5 A := C0
  obtain ⟨⟨hx, hb, hml, hown, hts⟩, hr, hlocks, hA, hE⟩ := id C0
  have hK := hE.1
  have hL0 := hts (.fieldLink RX5 29 "CandleDebts" "pad" "LCandleDebts$Pad;") (by decide +kernel)
  have hL1 := hts (.fieldLink RX5 86 "CandleDebts$Pad" "count" "I") (by decide +kernel)
  have hl : lv_has ls 2 [(0, .ref (h 0)), (1, .int a0)] := hl
  unfold f_X5_say at hf
  refine lv_iload_n hx hb dX5_say_0 rfl (lv_at hl 1 rfl) ?_
  refine lv_bipush (v := (33 : Int32)) hx hb dX5_say_1 (by decide) ?_
  refine lv_bipush (v := (126 : Int32)) hx hb dX5_say_3 (by decide) ?_
  obtain ⟨r1, e1, hf⟩ := cd_bind_some hf
  refine cd_callS (As := [.int a0, .int (33 : Int32), .int (126 : Int32)]) (rest := []) C0 hw (c_X5_within l G cI cZ sa sb a0 (33 : Int32) (126 : Int32) r1 e1) [] rfl rfl (va_cwS 3 hts gX5_say_X5_within rfl rfl rfl (by decide +kernel) ⟨Nat.le_of_ble_eq_true rfl, Nat.le_of_ble_eq_true rfl⟩) rfl hl.1 (lv_room (Nat.le_of_ble_eq_true rfl)) dX5_say_5 (fun H locs hw => ?_)
  refine lv_if_ne (tgt := 14) hx hb dX5_say_8 (by decide) (fun c2 => ?_) (fun c2 => ?_)
  · have hf := cd_ite_f c2 hf
    refine lv_aload_n hx hb dX5_say_14 rfl (lv_at hl 0 rfl) ?_
    refine va_get (D := G) (ci := 5) (v := .ref (hp 0)) (C := RX5) (T := TX5) (N := 8) hx hb hts nw_X5_say_X5 hown hK hw.1 0 rfl rfl 4 (by decide) hL0 (fun _ h9 => h9) rfl dX5_say_15 ?_
    refine lv_iload_n hx hb dX5_say_18 rfl (lv_at hl 1 rfl) ?_
    obtain ⟨r3, e3, hf⟩ := cd_bind_some hf
    refine cd_callVw (As := [.int a0]) (rest := []) (wr := (pc_top cZ h ht h1 h2 hp hy hv hz K)) (wn := (pc_top cZ h ht h1 h2 hp hy hv hz K) ++ (pc_pad cI hp r3.2)) C0 hw (c_X0_write l G cI cZ sa sb hp P a0 r3 e3) [2, 3] [0, 1] [0, 1, 2, 3] rfl rfl rfl rfl (by decide) rfl rfl 0 0 rfl rfl rfl (cwV 1 hts gX5_say_X0_write rfl rfl rfl (by decide +kernel) ⟨Nat.le_of_ble_eq_true rfl, Nat.le_of_ble_eq_true rfl⟩) rfl hl.1 (lv_room (Nat.le_of_ble_eq_true rfl)) dX5_say_19 (fun H locs hw => ?_)
    obtain ⟨x4, e4, hf⟩ := cd_bind_some hf
    have K4 : ∀ (ls : Array Slot) (H : Heap) (locs : List Loc), lv_has ls 2 [] → cd_WS G A s.heap H locs ((pc_top cZ h ht h1 h2 hp hy hv hz K) ++ (pc_pad cI hp r3.2)) → W p l e rm_X5_say s m ag below meth c H locs 0 0 Q (F0 m 37 ls [.int x4]) := by
      intro ls H locs hl hw
      have z : some (x4, r3.2) = some o := hf
      cases z
      rw [hQ]
      exact cd_reti C0 hw dX5_say_37
    refine lv_if_eq (tgt := 35) hx hb dX5_say_22 (by decide) (fun c4 => ?_) (fun c4 => ?_)
    · have e4 := cd_ite_t c4 e4
      refine lv_bipush (v := (-4 : Int32)) hx hb dX5_say_35 (by decide) ?_
      have z : some (-4 : Int32) = some x4 := e4
      cases z
      exact K4 _ _ _ (lv_sub hl [] rfl) hw
    · have e4 := cd_ite_f c4 e4
      refine lv_aload_n hx hb dX5_say_25 rfl (lv_at hl 0 rfl) ?_
      refine va_get (D := G) (ci := 5) (v := .ref (hp 0)) (C := RX5) (T := TX5) (N := 8) hx hb hts nw_X5_say_X5 hown hK hw.1 0 rfl rfl 4 (by decide) hL0 (fun _ h9 => h9) rfl dX5_say_26 ?_
      refine va_get (D := G) (ci := 0) (v := .int (r3.2 1 0)) (C := RX0) (T := TX0) (N := 6) hx hb hts nw_X5_say_X0 hown hK hw.1 2 rfl rfl 1 (by decide) hL1 (fun _ h9 => h9) rfl dX5_say_29 ?_
      refine lv_goto (tgt := 37) hx hb dX5_say_32 (by decide) ?_
      have z : some (r3.2 1 0) = some x4 := e4
      cases z
      exact K4 _ _ _ (lv_sub hl [] rfl) hw
  · have hf := cd_ite_t c2 hf
    refine lv_bipush (v := (-2 : Int32)) hx hb dX5_say_11 (by decide) ?_
    have z : some ((-2 : Int32), P) = some o := hf
    cases z
    rw [hQ]
    exact cd_reti C0 hw dX5_say_13
abbrev rm_X5_seen : Room := { frames := 2, cells := 0, slots := 0, locals := 42 }
theorem nw_X5_seen_X3 : ∀ w ∈ u_ws RX3 TX3 14, w ∈ wsX5_seen := by decide +kernel
theorem nw_X5_seen_X5 : ∀ w ∈ u_ws RX5 TX5 8, w ∈ wsX5_seen := by decide +kernel
set_option maxHeartbeats 4000000 in
set_option maxRecDepth 100000 in
theorem c_X5_seen (l : Launch) (G : va_G) (cI cZ : ClassId) (sa sb : Nat) (h ht h1 h2 hp hy hs hv hz : Nat → Nat) (K T : Nat → Nat → Int32) (a0 : Int32) (a1 : Int32) (o : Int32 × (Nat → Nat → Int32)) (hf : f_X5_seen a0 a1 K T = some o) : cd_Ct l G cI cZ sa sb yX5_seen wsX5_seen rm_X5_seen [.ref (h 0), .int a0, .int a1] ((pc_top cZ h ht h1 h2 hp hy hv hz K) ++ (pc_town cI ht T)) ((pc_top cZ h ht h1 h2 hp hy hv hz K) ++ (pc_town cI ht o.2)) (some (.int o.1)) := by
  refine cd_of (cc := cX5_seen) (maxL := 3) (ret := (some .int)) (by decide) rfl (Nat.le_of_ble_eq_true rfl) ?_
  intro p e s m ag below meth c A ls Q C0 hl hw hQ
  have C0 : cd_CX G cI cZ sa sb p s m ag meth c cX5_seen 3 (some .int) wsX5_seen RX5 A := C0
  obtain ⟨⟨hx, hb, hml, hown, hts⟩, hr, hlocks, hA, hE⟩ := id C0
  have hK := hE.1
  have hL0 := hts (.fieldLink RX5 12 "CandleDebts" "town" "LCandleDebts$Town;") (by decide +kernel)
  have hL1 := hts (.fieldLink RX5 193 "CandleDebts$Town" "sights" "I") (by decide +kernel)
  have hl : lv_has ls 3 [(0, .ref (h 0)), (1, .int a0), (2, .int a1)] := hl
  unfold f_X5_seen at hf
  refine lv_iload_n hx hb dX5_seen_0 rfl (lv_at hl 1 rfl) ?_
  obtain ⟨r1, e1, hf⟩ := cd_bind_some hf
  refine cd_callS (As := [.int a0]) (rest := []) C0 hw (c_X5_isCandle l G cI cZ sa sb a0 r1 e1) [] rfl rfl (va_cwS 1 hts gX5_seen_X5_isCandle rfl rfl rfl (by decide +kernel) ⟨Nat.le_of_ble_eq_true rfl, Nat.le_of_ble_eq_true rfl⟩) rfl hl.1 (lv_room (Nat.le_of_ble_eq_true rfl)) dX5_seen_1 (fun H locs hw => ?_)
  refine lv_if_ne (tgt := 9) hx hb dX5_seen_4 (by decide) (fun c2 => ?_) (fun c2 => ?_)
  · have hf := cd_ite_f c2 hf
    refine lv_iload_n hx hb dX5_seen_9 rfl (lv_at hl 2 rfl) ?_
    refine lv_iconst (v := (0 : Int32)) hx hb dX5_seen_10 (by decide) ?_
    refine lv_sipush (v := (999 : Int32)) hx hb dX5_seen_11 (by decide) ?_
    obtain ⟨r3, e3, hf⟩ := cd_bind_some hf
    refine cd_callS (As := [.int a1, .int (0 : Int32), .int (999 : Int32)]) (rest := []) C0 hw (c_X5_within l G cI cZ sa sb a1 (0 : Int32) (999 : Int32) r3 e3) [] rfl rfl (va_cwS 3 hts gX5_seen_X5_within rfl rfl rfl (by decide +kernel) ⟨Nat.le_of_ble_eq_true rfl, Nat.le_of_ble_eq_true rfl⟩) rfl hl.1 (lv_room (Nat.le_of_ble_eq_true rfl)) dX5_seen_14 (fun H locs hw => ?_)
    refine lv_if_ne (tgt := 23) hx hb dX5_seen_17 (by decide) (fun c4 => ?_) (fun c4 => ?_)
    · have hf := cd_ite_f c4 hf
      refine lv_aload_n hx hb dX5_seen_23 rfl (lv_at hl 0 rfl) ?_
      refine va_get (D := G) (ci := 5) (v := .ref (ht 0)) (C := RX5) (T := TX5) (N := 8) hx hb hts nw_X5_seen_X5 hown hK hw.1 0 rfl rfl 0 (by decide) hL0 (fun _ h9 => h9) rfl dX5_seen_24 ?_
      refine lv_iload_n hx hb dX5_seen_27 rfl (lv_at hl 1 rfl) ?_
      refine lv_iload_n hx hb dX5_seen_28 rfl (lv_at hl 2 rfl) ?_
      obtain ⟨r5, e5, hf⟩ := cd_bind_some hf
      refine cd_callVw (As := [.int a0, .int a1]) (rest := []) (wr := (pc_top cZ h ht h1 h2 hp hy hv hz K)) (wn := (pc_top cZ h ht h1 h2 hp hy hv hz K) ++ (pc_town cI ht r5.2)) C0 hw (c_X3_addSight l G cI cZ sa sb ht T a0 a1 r5 e5) [2, 3, 4, 5, 6, 7, 8, 9, 10, 11, 12] [0, 1] [0, 1, 2, 3, 4, 5, 6, 7, 8, 9, 10, 11, 12] rfl rfl rfl rfl (by decide) rfl rfl 0 3 rfl rfl rfl (cwV 2 hts gX5_seen_X3_addSight rfl rfl rfl (by decide +kernel) ⟨Nat.le_of_ble_eq_true rfl, Nat.le_of_ble_eq_true rfl⟩) rfl hl.1 (lv_room (Nat.le_of_ble_eq_true rfl)) dX5_seen_29 (fun H locs hw => ?_)
      obtain ⟨x6, e6, hf⟩ := cd_bind_some hf
      have K6 : ∀ (ls : Array Slot) (H : Heap) (locs : List Loc), lv_has ls 3 [] → cd_WS G A s.heap H locs ((pc_top cZ h ht h1 h2 hp hy hv hz K) ++ (pc_town cI ht r5.2)) → W p l e rm_X5_seen s m ag below meth c H locs 0 0 Q (F0 m 47 ls [.int x6]) := by
        intro ls H locs hl hw
        have z : some (x6, r5.2) = some o := hf
        cases z
        rw [hQ]
        exact cd_reti C0 hw dX5_seen_47
      refine lv_if_eq (tgt := 45) hx hb dX5_seen_32 (by decide) (fun c6 => ?_) (fun c6 => ?_)
      · have e6 := cd_ite_t c6 e6
        refine lv_bipush (v := (-4 : Int32)) hx hb dX5_seen_45 (by decide) ?_
        have z : some (-4 : Int32) = some x6 := e6
        cases z
        exact K6 _ _ _ (lv_sub hl [] rfl) hw
      · have e6 := cd_ite_f c6 e6
        refine lv_aload_n hx hb dX5_seen_35 rfl (lv_at hl 0 rfl) ?_
        refine va_get (D := G) (ci := 5) (v := .ref (ht 0)) (C := RX5) (T := TX5) (N := 8) hx hb hts nw_X5_seen_X5 hown hK hw.1 0 rfl rfl 0 (by decide) hL0 (fun _ h9 => h9) rfl dX5_seen_36 ?_
        refine va_get (D := G) (ci := 3) (v := .int (r5.2 10 0)) (C := RX3) (T := TX3) (N := 14) hx hb hts nw_X5_seen_X3 hown hK hw.1 2 rfl rfl 10 (by decide) hL1 (fun _ h9 => h9) rfl dX5_seen_39 ?_
        refine lv_goto (tgt := 47) hx hb dX5_seen_42 (by decide) ?_
        have z : some (r5.2 10 0) = some x6 := e6
        cases z
        exact K6 _ _ _ (lv_sub hl [] rfl) hw
    · have hf := cd_ite_t c4 hf
      refine lv_bipush (v := (-2 : Int32)) hx hb dX5_seen_20 (by decide) ?_
      have z : some ((-2 : Int32), T) = some o := hf
      cases z
      rw [hQ]
      exact cd_reti C0 hw dX5_seen_22
  · have hf := cd_ite_t c2 hf
    refine lv_iconst (v := (-1 : Int32)) hx hb dX5_seen_7 (by decide) ?_
    have z : some ((-1 : Int32), T) = some o := hf
    cases z
    rw [hQ]
    exact cd_reti C0 hw dX5_seen_8
abbrev rm_X5_ship : Room := { frames := 1, cells := 0, slots := 0, locals := 31 }
set_option maxHeartbeats 4000000 in
set_option maxRecDepth 100000 in
theorem c_X5_ship (l : Launch) (G : va_G) (cI cZ : ClassId) (sa sb : Nat) (h ht h1 h2 hp hy hs hv hz : Nat → Nat) (K : Nat → Nat → Int32) (a0 : Int32) (a1 : Int32) (a2 : Int32) (a3 : Int32) (o : Int64) (hf : f_X5_ship a0 a1 a2 a3 K = some o) : cd_Ct l G cI cZ sa sb yX5_ship wsX5_ship rm_X5_ship [.ref (h 0), .int a0, .int a1, .int a2, .int a3] ((pc_top cZ h ht h1 h2 hp hy hv hz K)) ((pc_top cZ h ht h1 h2 hp hy hv hz K)) (some (.long o)) := by
  refine cd_of (cc := cX5_ship) (maxL := 7) (ret := (some .long)) (by decide) rfl (Nat.le_of_ble_eq_true rfl) ?_
  intro p e s m ag below meth c A ls Q C0 hl hw hQ
  have C0 : cd_CX G cI cZ sa sb p s m ag meth c cX5_ship 7 (some .long) wsX5_ship RX5 A := C0
  obtain ⟨⟨hx, hb, hml, hown, hts⟩, hr, hlocks, hA, hE⟩ := id C0
  have hK := hE.1
  have hL0 := hts (.constantLong RX5 214 (-1000000000000000002)) (by decide +kernel)
  have hL1 := hts (.methodLink RX5 228 Lib.Math.max.name) (by decide +kernel)
  have hL2 := hts (.static Lib.Math.max.name) (by decide +kernel)
  have hL3 := hts (.initialized "java/lang/Math") (by decide +kernel)
  have hL4 := hts (.code Lib.Math.max.name Lib.Math.max.code 2 (some .int)) (by decide +kernel)
  have hl : lv_has ls 7 [(0, .ref (h 0)), (1, .int a0), (2, .int a1), (3, .int a2), (4, .int a3)] := hl
  unfold f_X5_ship at hf
  refine lv_iload_n hx hb dX5_ship_0 rfl (lv_at hl 1 rfl) ?_
  refine lv_iconst (v := (1 : Int32)) hx hb dX5_ship_1 (by decide) ?_
  refine lv_bipush (v := (9 : Int32)) hx hb dX5_ship_2 (by decide) ?_
  obtain ⟨r1, e1, hf⟩ := cd_bind_some hf
  refine cd_callS (As := [.int a0, .int (1 : Int32), .int (9 : Int32)]) (rest := []) C0 hw (c_X5_within l G cI cZ sa sb a0 (1 : Int32) (9 : Int32) r1 e1) [] rfl rfl (va_cwS 3 hts gX5_ship_X5_within rfl rfl rfl (by decide +kernel) ⟨Nat.le_of_ble_eq_true rfl, Nat.le_of_ble_eq_true rfl⟩) rfl hl.1 (lv_room (Nat.le_of_ble_eq_true rfl)) dX5_ship_4 (fun H locs hw => ?_)
  refine lv_if_eq (tgt := 40) hx hb dX5_ship_7 (by decide) (fun c2 => ?_) (fun c2 => ?_)
  · have hf := cd_ite_t c2 hf
    refine lv_ldc2 (v := (-1000000000000000002 : Int64)) hx hb hown hL0 dX5_ship_40 ?_
    have z : some (-1000000000000000002 : Int64) = some o := hf
    cases z
    rw [hQ]
    exact cd_retl C0 hw dX5_ship_43
  · have hf := cd_ite_f c2 hf
    refine lv_iload_n hx hb dX5_ship_10 rfl (lv_at hl 2 rfl) ?_
    refine lv_iconst (v := (0 : Int32)) hx hb dX5_ship_11 (by decide) ?_
    refine lv_bipush (v := (99 : Int32)) hx hb dX5_ship_12 (by decide) ?_
    obtain ⟨r3, e3, hf⟩ := cd_bind_some hf
    refine cd_callS (As := [.int a1, .int (0 : Int32), .int (99 : Int32)]) (rest := []) C0 hw (c_X5_within l G cI cZ sa sb a1 (0 : Int32) (99 : Int32) r3 e3) [] rfl rfl (va_cwS 3 hts gX5_ship_X5_within rfl rfl rfl (by decide +kernel) ⟨Nat.le_of_ble_eq_true rfl, Nat.le_of_ble_eq_true rfl⟩) rfl hl.1 (lv_room (Nat.le_of_ble_eq_true rfl)) dX5_ship_14 (fun H locs hw => ?_)
    refine lv_if_eq (tgt := 40) hx hb dX5_ship_17 (by decide) (fun c4 => ?_) (fun c4 => ?_)
    · have hf := cd_ite_t c4 hf
      refine lv_ldc2 (v := (-1000000000000000002 : Int64)) hx hb hown hL0 dX5_ship_40 ?_
      have z : some (-1000000000000000002 : Int64) = some o := hf
      cases z
      rw [hQ]
      exact cd_retl C0 hw dX5_ship_43
    · have hf := cd_ite_f c4 hf
      refine lv_iload_n hx hb dX5_ship_20 rfl (lv_at hl 3 rfl) ?_
      refine lv_iconst (v := (0 : Int32)) hx hb dX5_ship_21 (by decide) ?_
      refine lv_bipush (v := (99 : Int32)) hx hb dX5_ship_22 (by decide) ?_
      obtain ⟨r5, e5, hf⟩ := cd_bind_some hf
      refine cd_callS (As := [.int a2, .int (0 : Int32), .int (99 : Int32)]) (rest := []) C0 hw (c_X5_within l G cI cZ sa sb a2 (0 : Int32) (99 : Int32) r5 e5) [] rfl rfl (va_cwS 3 hts gX5_ship_X5_within rfl rfl rfl (by decide +kernel) ⟨Nat.le_of_ble_eq_true rfl, Nat.le_of_ble_eq_true rfl⟩) rfl hl.1 (lv_room (Nat.le_of_ble_eq_true rfl)) dX5_ship_24 (fun H locs hw => ?_)
      refine lv_if_eq (tgt := 40) hx hb dX5_ship_27 (by decide) (fun c6 => ?_) (fun c6 => ?_)
      · have hf := cd_ite_t c6 hf
        refine lv_ldc2 (v := (-1000000000000000002 : Int64)) hx hb hown hL0 dX5_ship_40 ?_
        have z : some (-1000000000000000002 : Int64) = some o := hf
        cases z
        rw [hQ]
        exact cd_retl C0 hw dX5_ship_43
      · have hf := cd_ite_f c6 hf
        refine lv_iload hx hb dX5_ship_30 (lv_at hl 4 rfl) ?_
        refine lv_iconst (v := (0 : Int32)) hx hb dX5_ship_32 (by decide) ?_
        refine lv_iconst (v := (1 : Int32)) hx hb dX5_ship_33 (by decide) ?_
        obtain ⟨r7, e7, hf⟩ := cd_bind_some hf
        refine cd_callS (As := [.int a3, .int (0 : Int32), .int (1 : Int32)]) (rest := []) C0 hw (c_X5_within l G cI cZ sa sb a3 (0 : Int32) (1 : Int32) r7 e7) [] rfl rfl (va_cwS 3 hts gX5_ship_X5_within rfl rfl rfl (by decide +kernel) ⟨Nat.le_of_ble_eq_true rfl, Nat.le_of_ble_eq_true rfl⟩) rfl hl.1 (lv_room (Nat.le_of_ble_eq_true rfl)) dX5_ship_34 (fun H locs hw => ?_)
        refine lv_if_ne (tgt := 44) hx hb dX5_ship_37 (by decide) (fun c8 => ?_) (fun c8 => ?_)
        · have hf := cd_ite_f c8 hf
          refine lv_iconst (v := (0 : Int32)) hx hb dX5_ship_44 (by decide) ?_
          refine lv_sipush (v := (200 : Int32)) hx hb dX5_ship_45 (by decide) ?_
          refine lv_iload_n hx hb dX5_ship_48 rfl (lv_at hl 1 rfl) ?_
          refine lv_iload_n hx hb dX5_ship_49 rfl (lv_at hl 2 rfl) ?_
          refine lv_imul hx hb dX5_ship_50 ?_
          refine lv_isub hx hb dX5_ship_51 ?_
          refine cd_mmax hx hb (hml.trans hl.1.symm) hown hL1 hL2 hL3 hL4 (Nat.le_of_ble_eq_true rfl) (Nat.le_of_ble_eq_true rfl) dX5_ship_52 ?_
          refine lv_istore (lv' := [(5, .int (cd_max (0 : Int32) ((200 : Int32) - (a0 * a1)))), (0, .ref (h 0)), (1, .int a0), (2, .int a1), (3, .int a2), (4, .int a3)]) hx hb dX5_ship_55 hl (by decide) rfl (fun ls hl => ?_)
          refine lv_iconst (v := (0 : Int32)) hx hb dX5_ship_57 (by decide) ?_
          refine lv_sipush (v := (200 : Int32)) hx hb dX5_ship_58 (by decide) ?_
          refine lv_iload_n hx hb dX5_ship_61 rfl (lv_at hl 2 rfl) ?_
          refine lv_iload_n hx hb dX5_ship_62 rfl (lv_at hl 3 rfl) ?_
          refine lv_iload_n hx hb dX5_ship_63 rfl (lv_at hl 4 rfl) ?_
          refine lv_iadd hx hb dX5_ship_64 ?_
          refine lv_imul hx hb dX5_ship_65 ?_
          refine lv_isub hx hb dX5_ship_66 ?_
          refine cd_mmax hx hb (hml.trans hl.1.symm) hown hL1 hL2 hL3 hL4 (Nat.le_of_ble_eq_true rfl) (Nat.le_of_ble_eq_true rfl) dX5_ship_67 ?_
          refine lv_istore (lv' := [(6, .int (cd_max (0 : Int32) ((200 : Int32) - (a0 * (a1 + a2))))), (5, .int (cd_max (0 : Int32) ((200 : Int32) - (a0 * a1)))), (0, .ref (h 0)), (1, .int a0), (2, .int a1), (3, .int a2), (4, .int a3)]) hx hb dX5_ship_70 hl (by decide) rfl (fun ls hl => ?_)
          refine lv_iload hx hb dX5_ship_72 (lv_at hl 1 rfl) ?_
          obtain ⟨x9, e9, hf⟩ := cd_bind_some hf
          have K9 : ∀ (ls : Array Slot) (H : Heap) (locs : List Loc), lv_has ls 7 [] → cd_WS G A s.heap H locs ((pc_top cZ h ht h1 h2 hp hy hv hz K)) → W p l e rm_X5_ship s m ag below meth c H locs 0 0 Q (F0 m 98 ls [.long x9]) := by
            intro ls H locs hl hw
            have z : some x9 = some o := hf
            cases z
            rw [hQ]
            exact cd_retl C0 hw dX5_ship_98
          refine lv_if_ne (tgt := 87) hx hb dX5_ship_74 (by decide) (fun c9 => ?_) (fun c9 => ?_)
          · have e9 := cd_ite_f c9 e9
            refine lv_iload hx hb dX5_ship_87 (lv_at hl 0 rfl) ?_
            refine lv_i2l hx hb dX5_ship_89 rfl ?_
            refine lv_iload hx hb dX5_ship_90 (lv_at hl 1 rfl) ?_
            refine lv_i2l hx hb dX5_ship_92 rfl ?_
            refine lv_iload hx hb dX5_ship_93 (lv_at hl 6 rfl) ?_
            obtain ⟨r11, e11, e9⟩ := cd_bind_some e9
            refine cd_callS (As := [.long ((cd_max (0 : Int32) ((200 : Int32) - (a0 * (a1 + a2)))).toInt64), .long ((cd_max (0 : Int32) ((200 : Int32) - (a0 * a1))).toInt64), .int a3]) (rest := []) C0 hw (c_X5_partOf l G cI cZ sa sb ((cd_max (0 : Int32) ((200 : Int32) - (a0 * (a1 + a2)))).toInt64) ((cd_max (0 : Int32) ((200 : Int32) - (a0 * a1))).toInt64) a3 r11 e11) [] rfl rfl (va_cwS 3 hts gX5_ship_X5_partOf rfl rfl rfl (by decide +kernel) ⟨Nat.le_of_ble_eq_true rfl, Nat.le_of_ble_eq_true rfl⟩) rfl hl.1 (lv_room (Nat.le_of_ble_eq_true rfl)) dX5_ship_95 (fun H locs hw => ?_)
            have z : some r11 = some x9 := e9
            cases z
            exact K9 _ _ _ (lv_sub hl [] rfl) hw
          · have e9 := cd_ite_t c9 e9
            refine lv_lconst (v := 0) hx hb dX5_ship_77 (by decide) ?_
            refine lv_lconst (v := 1) hx hb dX5_ship_78 (by decide) ?_
            refine lv_iload hx hb dX5_ship_79 (lv_at hl 6 rfl) ?_
            obtain ⟨r10, e10, e9⟩ := cd_bind_some e9
            refine cd_callS (As := [.long (0 : Int64), .long (1 : Int64), .int a3]) (rest := []) C0 hw (c_X5_partOf l G cI cZ sa sb (0 : Int64) (1 : Int64) a3 r10 e10) [] rfl rfl (va_cwS 3 hts gX5_ship_X5_partOf rfl rfl rfl (by decide +kernel) ⟨Nat.le_of_ble_eq_true rfl, Nat.le_of_ble_eq_true rfl⟩) rfl hl.1 (lv_room (Nat.le_of_ble_eq_true rfl)) dX5_ship_81 (fun H locs hw => ?_)
            refine lv_goto (tgt := 98) hx hb dX5_ship_84 (by decide) ?_
            have z : some r10 = some x9 := e9
            cases z
            exact K9 _ _ _ (lv_sub hl [] rfl) hw
        · have hf := cd_ite_t c8 hf
          refine lv_ldc2 (v := (-1000000000000000002 : Int64)) hx hb hown hL0 dX5_ship_40 ?_
          have z : some (-1000000000000000002 : Int64) = some o := hf
          cases z
          rw [hQ]
          exact cd_retl C0 hw dX5_ship_43
abbrev rm_X5_sneezes : Room := { frames := 6, cells := 0, slots := 0, locals := 140 }
theorem nw_X5_sneezes_X5 : ∀ w ∈ u_ws RX5 TX5 8, w ∈ wsX5_sneezes := by decide +kernel
set_option maxHeartbeats 4000000 in
set_option maxRecDepth 100000 in
theorem c_X5_sneezes (l : Launch) (G : va_G) (cI cZ : ClassId) (sa sb : Nat) (h ht h1 h2 hp hy hs hv hz : Nat → Nat) (K T Z : Nat → Nat → Int32) (a0 : Int32) (o : Int32 × (Nat → Nat → Int32)) (hf : f_X5_sneezes a0 K T Z = some o) : cd_Ct l G cI cZ sa sb yX5_sneezes wsX5_sneezes rm_X5_sneezes [.ref (h 0), .int a0] ((pc_top cZ h ht h1 h2 hp hy hv hz K) ++ (pc_town cI ht T) ++ (pc_snz cI hz Z)) ((pc_top cZ h ht h1 h2 hp hy hv hz K) ++ (pc_town cI ht T) ++ (pc_snz cI hz o.2)) (some (.int o.1)) := by
  refine cd_of (cc := cX5_sneezes) (maxL := 2) (ret := (some .int)) (by decide) rfl (Nat.le_of_ble_eq_true rfl) ?_
  intro p e s m ag below meth c A ls Q C0 hl hw hQ
  have C0 : cd_CX G cI cZ sa sb p s m ag meth c cX5_sneezes 2 (some .int) wsX5_sneezes RX5 A := C0
  obtain ⟨⟨hx, hb, hml, hown, hts⟩, hr, hlocks, hA, hE⟩ := id C0
  have hK := hE.1
  have hL0 := hts (.fieldLink RX5 50 "CandleDebts" "sneezing" "LCandleDebts$Sneezing;") (by decide +kernel)
  have hL1 := hts (.fieldLink RX5 12 "CandleDebts" "town" "LCandleDebts$Town;") (by decide +kernel)
  have hl : lv_has ls 2 [(0, .ref (h 0)), (1, .int a0)] := hl
  unfold f_X5_sneezes at hf
  refine lv_aload_n hx hb dX5_sneezes_0 rfl (lv_at hl 0 rfl) ?_
  refine va_get (D := G) (ci := 5) (v := .ref (hz 0)) (C := RX5) (T := TX5) (N := 8) hx hb hts nw_X5_sneezes_X5 hown hK hw.1 0 rfl rfl 7 (by decide) hL0 (fun _ h9 => h9) rfl dX5_sneezes_1 ?_
  refine lv_aload_n hx hb dX5_sneezes_4 rfl (lv_at hl 0 rfl) ?_
  refine va_get (D := G) (ci := 5) (v := .ref (ht 0)) (C := RX5) (T := TX5) (N := 8) hx hb hts nw_X5_sneezes_X5 hown hK hw.1 0 rfl rfl 0 (by decide) hL1 (fun _ h9 => h9) rfl dX5_sneezes_5 ?_
  obtain ⟨r1, e1, hf⟩ := cd_bind_some hf
  refine cd_callVw (As := [.ref (ht 0)]) (rest := []) (wr := (pc_top cZ h ht h1 h2 hp hy hv hz K)) (wn := (pc_top cZ h ht h1 h2 hp hy hv hz K) ++ (pc_town cI ht T) ++ (pc_snz cI hz r1)) C0 hw (c_X2_fit l G cI cZ sa sb hz ht Z T r1 e1) [13, 14, 15, 16, 2, 3, 4, 5, 6, 7, 8, 9, 10, 11, 12] [0, 1] [0, 1, 6, 7, 8, 9, 10, 11, 12, 13, 14, 15, 16, 2, 3, 4, 5] rfl rfl rfl rfl (by decide) rfl rfl 0 2 rfl rfl rfl (cwV 1 hts gX5_sneezes_X2_fit rfl rfl rfl (by decide +kernel) ⟨Nat.le_of_ble_eq_true rfl, Nat.le_of_ble_eq_true rfl⟩) rfl hl.1 (lv_room (Nat.le_of_ble_eq_true rfl)) dX5_sneezes_8 (fun H locs hw => ?_)
  refine lv_iload_n hx hb dX5_sneezes_11 rfl (lv_at hl 1 rfl) ?_
  refine lv_iconst (v := (-1 : Int32)) hx hb dX5_sneezes_12 (by decide) ?_
  obtain ⟨x2, e2, hf⟩ := cd_bind_some hf
  have K2 : ∀ (ls : Array Slot) (H : Heap) (locs : List Loc), lv_has ls 2 [] → cd_WS G A s.heap H locs ((pc_top cZ h ht h1 h2 hp hy hv hz K) ++ (pc_town cI ht T) ++ (pc_snz cI hz r1)) → W p l e rm_X5_sneezes s m ag below meth c H locs 0 0 Q (F0 m 34 ls [.int x2]) := by
    intro ls H locs hl hw
    have z : some (x2, r1) = some o := hf
    cases z
    rw [hQ]
    exact cd_reti C0 hw dX5_sneezes_34
  refine lv_icmp_ne (tgt := 26) hx hb dX5_sneezes_13 (by decide) (fun c2 => ?_) (fun c2 => ?_)
  · have e2 := cd_ite_f c2 e2
    refine lv_aload_n hx hb dX5_sneezes_26 rfl (lv_at hl 0 rfl) ?_
    refine va_get (D := G) (ci := 5) (v := .ref (hz 0)) (C := RX5) (T := TX5) (N := 8) hx hb hts nw_X5_sneezes_X5 hown hK hw.1 0 rfl rfl 7 (by decide) hL0 (fun _ h9 => h9) rfl dX5_sneezes_27 ?_
    refine lv_iload_n hx hb dX5_sneezes_30 rfl (lv_at hl 1 rfl) ?_
    obtain ⟨r4, e4, e2⟩ := cd_bind_some e2
    refine cd_callV (As := [.int a0]) (rest := []) C0 hw (c_X2_at l G cI cZ sa sb hz r1 a0 r4 e4) [13, 14, 15, 16] rfl rfl 0 2 rfl rfl rfl (cwV 1 hts gX5_sneezes_X2_at rfl rfl rfl (by decide +kernel) ⟨Nat.le_of_ble_eq_true rfl, Nat.le_of_ble_eq_true rfl⟩) rfl hl.1 (lv_room (Nat.le_of_ble_eq_true rfl)) dX5_sneezes_31 (fun H locs hw => ?_)
    have z : some r4 = some x2 := e2
    cases z
    exact K2 _ _ _ (lv_sub hl [] rfl) hw
  · have e2 := cd_ite_t c2 e2
    refine lv_aload_n hx hb dX5_sneezes_16 rfl (lv_at hl 0 rfl) ?_
    refine va_get (D := G) (ci := 5) (v := .ref (hz 0)) (C := RX5) (T := TX5) (N := 8) hx hb hts nw_X5_sneezes_X5 hown hK hw.1 0 rfl rfl 7 (by decide) hL0 (fun _ h9 => h9) rfl dX5_sneezes_17 ?_
    obtain ⟨r3, e3, e2⟩ := cd_bind_some e2
    refine cd_callV (As := []) (rest := []) C0 hw (c_X2_howMany l G cI cZ sa sb hz r1 r3 e3) [13, 14, 15, 16] rfl rfl 0 2 rfl rfl rfl (cwV 0 hts gX5_sneezes_X2_howMany rfl rfl rfl (by decide +kernel) ⟨Nat.le_of_ble_eq_true rfl, Nat.le_of_ble_eq_true rfl⟩) rfl hl.1 (lv_room (Nat.le_of_ble_eq_true rfl)) dX5_sneezes_20 (fun H locs hw => ?_)
    refine lv_goto (tgt := 34) hx hb dX5_sneezes_23 (by decide) ?_
    have z : some r3 = some x2 := e2
    cases z
    exact K2 _ _ _ (lv_sub hl [] rfl) hw
abbrev rm_X5_worthOf : Room := { frames := 1, cells := 0, slots := 0, locals := 21 }
set_option maxHeartbeats 4000000 in
set_option maxRecDepth 100000 in
theorem c_X5_worthOf (l : Launch) (G : va_G) (cI cZ : ClassId) (sa sb : Nat) (a0 : Int32) (o : Int32) (hf : f_X5_worthOf a0 = some o) : cd_Ct l G cI cZ sa sb yX5_worthOf wsX5_worthOf rm_X5_worthOf [.int a0] (([] : va_W)) (([] : va_W)) (some (.int o)) := by
  refine cd_of (cc := cX5_worthOf) (maxL := 4) (ret := (some .int)) (by decide) rfl (Nat.le_of_ble_eq_true rfl) ?_
  intro p e s m ag below meth c A ls Q C0 hl hw hQ
  have C0 : cd_CX G cI cZ sa sb p s m ag meth c cX5_worthOf 4 (some .int) wsX5_worthOf RX5 A := C0
  obtain ⟨⟨hx, hb, hml, hown, hts⟩, hr, hlocks, hA, hE⟩ := id C0
  have hK := hE.1
  have hL0 := hts (.fieldLink RX5 254 "CandleDebts" "ROW_WORTH" "[I") (by decide +kernel)
  have hl : lv_has ls 4 [(0, .int a0)] := hl
  unfold f_X5_worthOf at hf
  refine lv_iconst (v := (0 : Int32)) hx hb dX5_worthOf_0 (by decide) ?_
  refine lv_istore_n (lv' := [(1, .int (0 : Int32)), (0, .int a0)]) hx hb dX5_worthOf_1 rfl hl (by decide) rfl (fun ls hl => ?_)
  refine lv_iconst (v := (0 : Int32)) hx hb dX5_worthOf_2 (by decide) ?_
  refine lv_istore_n (lv' := [(2, .int (0 : Int32)), (1, .int (0 : Int32)), (0, .int a0)]) hx hb dX5_worthOf_3 rfl hl (by decide) rfl (fun ls hl => ?_)
  refine lv_iconst (v := (0 : Int32)) hx hb dX5_worthOf_4 (by decide) ?_
  refine lv_istore_n (lv' := [(3, .int (0 : Int32)), (2, .int (0 : Int32)), (1, .int (0 : Int32)), (0, .int a0)]) hx hb dX5_worthOf_5 rfl hl (by decide) rfl (fun ls hl => ?_)
  obtain ⟨x1, e1, hf⟩ := cd_bind_some hf
  have K1 : ∀ (t1 : Int32 × Int32), t1 = x1 → ∀ (ls : Array Slot) (H : Heap) (locs : List Loc), lv_has ls 4 [(1, .int t1.1), (2, .int t1.2)] → cd_WS G A s.heap H locs (([] : va_W)) → W p l e rm_X5_worthOf s m ag below meth c H locs 0 0 Q (F0 m 42 ls []) := by
    intro t1 hs_1
    subst hs_1
    intro ls H locs hl hw
    refine lv_iload_n hx hb dX5_worthOf_42 rfl (lv_at hl 0 rfl) ?_
    refine va_gets (v := .ref sa) hx hb hE.2.2.1 hw.2.2 hown hL0 (fun _ h9 => h9) dX5_worthOf_43 ?_
    refine lv_iload_n hx hb dX5_worthOf_46 rfl (lv_at hl 1 rfl) ?_
    obtain ⟨v6, e6, hf⟩ := cd_bind_some hf
    refine cd_siald hx hb hw hE.2.2.2.1 e6 dX5_worthOf_47 ?_
    refine lv_ixor hx hb dX5_worthOf_48 ?_
    have z : some (t1.1 ^^^ v6) = some o := hf
    cases z
    rw [hQ]
    exact cd_reti C0 hw dX5_worthOf_49
  refine cd_iter_ind (body := (f_X5_worthOf_b6 a0)) (K := fun r => r = x1) (P := fun (z1 : Int32 × Int32 × Int32) => ∀ (ls : Array Slot) (H : Heap) (locs : List Loc), lv_has ls 4 [(0, .int a0), (1, .int z1.1), (2, .int z1.2.1), (3, .int z1.2.2)] → cd_WS G A s.heap H locs (([] : va_W)) → W p l e rm_X5_worthOf s m ag below meth c H locs 0 0 Q (F0 m 6 ls [])) ?_ cd_N ((0 : Int32), (0 : Int32), (0 : Int32)) x1 e1 rfl _ _ _ (lv_sub hl [3, 2, 1, 0] rfl) hw
  intro z1 o1 hb1 hk1 ls H locs hl hw
  unfold f_X5_worthOf_b6 at hb1
  refine lv_iload_n hx hb dX5_worthOf_6 rfl (lv_at hl 3 rfl) ?_
  refine lv_bipush (v := (12 : Int32)) hx hb dX5_worthOf_7 (by decide) ?_
  refine lv_icmp_ge (tgt := 42) hx hb dX5_worthOf_9 (by decide) (fun c2 => ?_) (fun c2 => ?_)
  · have hb1 := cd_ite_t c2 hb1
    have z : some (Sum.inl (z1.1, z1.2.1)) = some o1 := hb1
    cases z
    exact K1 _ hk1 _ _ _ (lv_sub hl [1, 2] rfl) hw
  · have hb1 := cd_ite_f c2 hb1
    refine lv_iload_n hx hb dX5_worthOf_12 rfl (lv_at hl 0 rfl) ?_
    refine lv_iload_n hx hb dX5_worthOf_13 rfl (lv_at hl 3 rfl) ?_
    obtain ⟨r3, e3, hb1⟩ := cd_bind_some hb1
    refine cd_callS (As := [.int a0, .int z1.2.2]) (rest := []) C0 hw (c_X5_holds l G cI cZ sa sb a0 z1.2.2 r3 e3) [] rfl rfl (va_cwS 2 hts gX5_worthOf_X5_holds rfl rfl rfl (by decide +kernel) ⟨Nat.le_of_ble_eq_true rfl, Nat.le_of_ble_eq_true rfl⟩) rfl hl.1 (lv_room (Nat.le_of_ble_eq_true rfl)) dX5_worthOf_14 (fun H locs hw => ?_)
    refine lv_if_eq (tgt := 26) hx hb dX5_worthOf_17 (by decide) (fun c4 => ?_) (fun c4 => ?_)
    · have hb1 := cd_ite_t c4 hb1
      refine lv_iload_n hx hb dX5_worthOf_26 rfl (lv_at hl 1 rfl) ?_
      refine va_gets (v := .ref sa) hx hb hE.2.2.1 hw.2.2 hown hL0 (fun _ h9 => h9) dX5_worthOf_27 ?_
      refine lv_iload_n hx hb dX5_worthOf_30 rfl (lv_at hl 2 rfl) ?_
      obtain ⟨v5, e5, hb1⟩ := cd_bind_some hb1
      refine cd_siald hx hb hw hE.2.2.2.1 e5 dX5_worthOf_31 ?_
      refine lv_ixor hx hb dX5_worthOf_32 ?_
      refine lv_istore_n (lv' := [(1, .int (z1.1 ^^^ v5)), (0, .int a0), (2, .int z1.2.1), (3, .int z1.2.2)]) hx hb dX5_worthOf_33 rfl hl (by decide) rfl (fun ls hl => ?_)
      refine lv_iconst (v := (0 : Int32)) hx hb dX5_worthOf_34 (by decide) ?_
      refine lv_istore_n (lv' := [(2, .int (0 : Int32)), (1, .int (z1.1 ^^^ v5)), (0, .int a0), (3, .int z1.2.2)]) hx hb dX5_worthOf_35 rfl hl (by decide) rfl (fun ls hl => ?_)
      refine lv_iinc (v := (z1.2.2 + (1 : Int32))) (lv' := [(3, .int (z1.2.2 + (1 : Int32))), (2, .int (0 : Int32)), (1, .int (z1.1 ^^^ v5)), (0, .int a0)]) hx hb dX5_worthOf_36 hl (k := 3) rfl rfl (by decide) rfl (fun ls hl => ?_)
      refine lv_goto (tgt := 6) hx hb dX5_worthOf_39 (by decide) ?_
      have z : some (Sum.inr ((z1.1 ^^^ v5), (0 : Int32), (z1.2.2 + (1 : Int32)))) = some o1 := hb1
      cases z
      exact hk1 _ _ _ (lv_sub hl [3, 2, 1, 0] rfl) hw
    · have hb1 := cd_ite_f c4 hb1
      refine lv_iinc (v := (z1.2.1 + (1 : Int32))) (lv' := [(2, .int (z1.2.1 + (1 : Int32))), (0, .int a0), (1, .int z1.1), (3, .int z1.2.2)]) hx hb dX5_worthOf_20 hl (k := 2) rfl rfl (by decide) rfl (fun ls hl => ?_)
      refine lv_goto (tgt := 36) hx hb dX5_worthOf_23 (by decide) ?_
      refine lv_iinc (v := (z1.2.2 + (1 : Int32))) (lv' := [(3, .int (z1.2.2 + (1 : Int32))), (2, .int (z1.2.1 + (1 : Int32))), (0, .int a0), (1, .int z1.1)]) hx hb dX5_worthOf_36 hl (k := 3) rfl rfl (by decide) rfl (fun ls hl => ?_)
      refine lv_goto (tgt := 6) hx hb dX5_worthOf_39 (by decide) ?_
      have z : some (Sum.inr (z1.1, (z1.2.1 + (1 : Int32)), (z1.2.2 + (1 : Int32)))) = some o1 := hb1
      cases z
      exact hk1 _ _ _ (lv_sub hl [2, 3, 1, 0] rfl) hw
abbrev rm_X5_winningSnuff : Room := { frames := 2, cells := 0, slots := 0, locals := 44 }
set_option maxHeartbeats 4000000 in
set_option maxRecDepth 100000 in
theorem c_X5_winningSnuff (l : Launch) (G : va_G) (cI cZ : ClassId) (sa sb : Nat) (a0 : Int32) (o : Int32) (hf : f_X5_winningSnuff a0 = some o) : cd_Ct l G cI cZ sa sb yX5_winningSnuff wsX5_winningSnuff rm_X5_winningSnuff [.int a0] (([] : va_W)) (([] : va_W)) (some (.int o)) := by
  refine cd_of (cc := cX5_winningSnuff) (maxL := 3) (ret := (some .int)) (by decide) rfl (Nat.le_of_ble_eq_true rfl) ?_
  intro p e s m ag below meth c A ls Q C0 hl hw hQ
  have C0 : cd_CX G cI cZ sa sb p s m ag meth c cX5_winningSnuff 3 (some .int) wsX5_winningSnuff RX5 A := C0
  obtain ⟨⟨hx, hb, hml, hown, hts⟩, hr, hlocks, hA, hE⟩ := id C0
  have hK := hE.1
  have hl : lv_has ls 3 [(0, .int a0)] := hl
  unfold f_X5_winningSnuff at hf
  refine lv_iconst (v := (0 : Int32)) hx hb dX5_winningSnuff_0 (by decide) ?_
  refine lv_istore_n (lv' := [(1, .int (0 : Int32)), (0, .int a0)]) hx hb dX5_winningSnuff_1 rfl hl (by decide) rfl (fun ls hl => ?_)
  obtain ⟨x1, e1, hf⟩ := cd_bind_some hf
  have K1 : ∀ (t1 : Unit), Sum.inr t1 = x1 → ∀ (ls : Array Slot) (H : Heap) (locs : List Loc), lv_has ls 3 [] → cd_WS G A s.heap H locs (([] : va_W)) → W p l e rm_X5_winningSnuff s m ag below meth c H locs 0 0 Q (F0 m 54 ls []) := by
    intro t1 hs_1
    subst hs_1
    intro ls H locs hl hw
    refine lv_bipush (v := (-6 : Int32)) hx hb dX5_winningSnuff_54 (by decide) ?_
    have z : some (-6 : Int32) = some o := hf
    cases z
    rw [hQ]
    exact cd_reti C0 hw dX5_winningSnuff_56
  refine cd_iter_ind (body := (f_X5_winningSnuff_b2 a0)) (K := fun r => r = x1) (P := fun (z1 : Int32) => ∀ (ls : Array Slot) (H : Heap) (locs : List Loc), lv_has ls 3 [(0, .int a0), (1, .int z1)] → cd_WS G A s.heap H locs (([] : va_W)) → W p l e rm_X5_winningSnuff s m ag below meth c H locs 0 0 Q (F0 m 2 ls [])) ?_ cd_N (0 : Int32) x1 e1 rfl _ _ _ (lv_sub hl [1, 0] rfl) hw
  intro z1 o1 hb1 hk1 ls H locs hl hw
  unfold f_X5_winningSnuff_b2 at hb1
  refine lv_iload_n hx hb dX5_winningSnuff_2 rfl (lv_at hl 1 rfl) ?_
  refine lv_bipush (v := (12 : Int32)) hx hb dX5_winningSnuff_3 (by decide) ?_
  refine lv_icmp_ge (tgt := 54) hx hb dX5_winningSnuff_5 (by decide) (fun c2 => ?_) (fun c2 => ?_)
  · have hb1 := cd_ite_t c2 hb1
    have z : some (Sum.inl (Sum.inr ())) = some o1 := hb1
    cases z
    exact K1 _ hk1 _ _ _ (lv_sub hl [] rfl) hw
  · have hb1 := cd_ite_f c2 hb1
    refine lv_iload_n hx hb dX5_winningSnuff_8 rfl (lv_at hl 1 rfl) ?_
    obtain ⟨r3, e3, hb1⟩ := cd_bind_some hb1
    refine cd_callS (As := [.int z1]) (rest := []) C0 hw (c_X5_bit l G cI cZ sa sb z1 r3 e3) [] rfl rfl (va_cwS 1 hts gX5_winningSnuff_X5_bit rfl rfl rfl (by decide +kernel) ⟨Nat.le_of_ble_eq_true rfl, Nat.le_of_ble_eq_true rfl⟩) rfl hl.1 (lv_room (Nat.le_of_ble_eq_true rfl)) dX5_winningSnuff_9 (fun H locs hw => ?_)
    refine lv_iload_n hx hb dX5_winningSnuff_12 rfl (lv_at hl 1 rfl) ?_
    refine lv_iconst (v := (1 : Int32)) hx hb dX5_winningSnuff_13 (by decide) ?_
    refine lv_iadd hx hb dX5_winningSnuff_14 ?_
    obtain ⟨r4, e4, hb1⟩ := cd_bind_some hb1
    refine cd_callS (As := [.int (z1 + (1 : Int32))]) (rest := [.int r3]) C0 hw (c_X5_bit l G cI cZ sa sb (z1 + (1 : Int32)) r4 e4) [] rfl rfl (va_cwS 1 hts gX5_winningSnuff_X5_bit rfl rfl rfl (by decide +kernel) ⟨Nat.le_of_ble_eq_true rfl, Nat.le_of_ble_eq_true rfl⟩) rfl hl.1 (lv_room (Nat.le_of_ble_eq_true rfl)) dX5_winningSnuff_15 (fun H locs hw => ?_)
    refine lv_ior hx hb dX5_winningSnuff_18 ?_
    refine lv_iload_n hx hb dX5_winningSnuff_19 rfl (lv_at hl 1 rfl) ?_
    obtain ⟨r5, e5, hb1⟩ := cd_bind_some hb1
    refine cd_callS (As := [.int z1]) (rest := [.int (r3 ||| r4)]) C0 hw (c_X5_bit l G cI cZ sa sb z1 r5 e5) [] rfl rfl (va_cwS 1 hts gX5_winningSnuff_X5_bit rfl rfl rfl (by decide +kernel) ⟨Nat.le_of_ble_eq_true rfl, Nat.le_of_ble_eq_true rfl⟩) rfl hl.1 (lv_room (Nat.le_of_ble_eq_true rfl)) dX5_winningSnuff_20 (fun H locs hw => ?_)
    refine lv_iconst (v := (1 : Int32)) hx hb dX5_winningSnuff_23 (by decide) ?_
    refine lv_ishr hx hb dX5_winningSnuff_24 ?_
    refine lv_ior hx hb dX5_winningSnuff_25 ?_
    refine lv_istore_n (lv' := [(2, .int ((r3 ||| r4) ||| (r5 >>> ((1 : Int32) &&& 31)))), (0, .int a0), (1, .int z1)]) hx hb dX5_winningSnuff_26 rfl hl (by decide) rfl (fun ls hl => ?_)
    refine lv_iload_n hx hb dX5_winningSnuff_27 rfl (lv_at hl 1 rfl) ?_
    refine lv_iload_n hx hb dX5_winningSnuff_28 rfl (lv_at hl 2 rfl) ?_
    obtain ⟨r6, e6, hb1⟩ := cd_bind_some hb1
    refine cd_callS (As := [.int a0, .int z1]) (rest := []) C0 hw (c_X5_holds l G cI cZ sa sb a0 z1 r6 e6) [] rfl rfl (va_cwS 2 hts gX5_winningSnuff_X5_holds rfl rfl rfl (by decide +kernel) ⟨Nat.le_of_ble_eq_true rfl, Nat.le_of_ble_eq_true rfl⟩) rfl hl.1 (lv_room (Nat.le_of_ble_eq_true rfl)) dX5_winningSnuff_29 (fun H locs hw => ?_)
    refine lv_if_eq (tgt := 48) hx hb dX5_winningSnuff_32 (by decide) (fun c7 => ?_) (fun c7 => ?_)
    · have hb1 := cd_ite_t c7 hb1
      refine lv_iinc (v := (z1 + (1 : Int32))) (lv' := [(1, .int (z1 + (1 : Int32))), (2, .int ((r3 ||| r4) ||| (r5 >>> ((1 : Int32) &&& 31)))), (0, .int a0)]) hx hb dX5_winningSnuff_48 hl (k := 2) rfl rfl (by decide) rfl (fun ls hl => ?_)
      refine lv_goto (tgt := 2) hx hb dX5_winningSnuff_51 (by decide) ?_
      have z : some (Sum.inr (z1 + (1 : Int32))) = some o1 := hb1
      cases z
      exact hk1 _ _ _ (lv_sub hl [2, 0] rfl) hw
    · have hb1 := cd_ite_f c7 hb1
      refine lv_iload_n hx hb dX5_winningSnuff_35 rfl (lv_at hl 1 rfl) ?_
      refine lv_iload_n hx hb dX5_winningSnuff_36 rfl (lv_at hl 0 rfl) ?_
      refine lv_iconst (v := (-1 : Int32)) hx hb dX5_winningSnuff_37 (by decide) ?_
      refine lv_ixor hx hb dX5_winningSnuff_38 ?_
      refine lv_iand hx hb dX5_winningSnuff_39 ?_
      obtain ⟨r8, e8, hb1⟩ := cd_bind_some hb1
      refine cd_callS (As := [.int (a0 &&& (((r3 ||| r4) ||| (r5 >>> ((1 : Int32) &&& 31))) ^^^ (-1 : Int32)))]) (rest := []) C0 hw (c_X5_worthOf l G cI cZ sa sb (a0 &&& (((r3 ||| r4) ||| (r5 >>> ((1 : Int32) &&& 31))) ^^^ (-1 : Int32))) r8 e8) [] rfl rfl (va_cwS 1 hts gX5_winningSnuff_X5_worthOf rfl rfl rfl (by decide +kernel) ⟨Nat.le_of_ble_eq_true rfl, Nat.le_of_ble_eq_true rfl⟩) rfl hl.1 (lv_room (Nat.le_of_ble_eq_true rfl)) dX5_winningSnuff_40 (fun H locs hw => ?_)
      refine lv_if_ne (tgt := 48) hx hb dX5_winningSnuff_43 (by decide) (fun c9 => ?_) (fun c9 => ?_)
      · have hb1 := cd_ite_f c9 hb1
        refine lv_iinc (v := (z1 + (1 : Int32))) (lv' := [(1, .int (z1 + (1 : Int32))), (2, .int ((r3 ||| r4) ||| (r5 >>> ((1 : Int32) &&& 31)))), (0, .int a0)]) hx hb dX5_winningSnuff_48 hl (k := 2) rfl rfl (by decide) rfl (fun ls hl => ?_)
        refine lv_goto (tgt := 2) hx hb dX5_winningSnuff_51 (by decide) ?_
        have z : some (Sum.inr (z1 + (1 : Int32))) = some o1 := hb1
        cases z
        exact hk1 _ _ _ (lv_sub hl [2, 0] rfl) hw
      · have hb1 := cd_ite_t c9 hb1
        refine lv_iload_n hx hb dX5_winningSnuff_46 rfl (lv_at hl 2 rfl) ?_
        have z : some (Sum.inl (Sum.inl z1)) = some o1 := hb1
        cases z
        have y1 : Sum.inl z1 = x1 := hk1
        subst y1
        have z : some z1 = some o := hf
        cases z
        rw [hQ]
        exact cd_reti C0 hw dX5_winningSnuff_47
abbrev rm_X5_snuff : Room := { frames := 3, cells := 0, slots := 0, locals := 66 }
theorem nw_X5_snuff_X3 : ∀ w ∈ u_ws RX3 TX3 14, w ∈ wsX5_snuff := by decide +kernel
theorem nw_X5_snuff_X5 : ∀ w ∈ u_ws RX5 TX5 8, w ∈ wsX5_snuff := by decide +kernel
set_option maxHeartbeats 4000000 in
set_option maxRecDepth 100000 in
theorem c_X5_snuff (l : Launch) (G : va_G) (cI cZ : ClassId) (sa sb : Nat) (h ht h1 h2 hp hy hs hv hz : Nat → Nat) (K T : Nat → Nat → Int32) (a0 : Int32) (o : Int32) (hf : f_X5_snuff a0 K T = some o) : cd_Ct l G cI cZ sa sb yX5_snuff wsX5_snuff rm_X5_snuff [.ref (h 0), .int a0] ((pc_top cZ h ht h1 h2 hp hy hv hz K) ++ (pc_town cI ht T)) ((pc_top cZ h ht h1 h2 hp hy hv hz K) ++ (pc_town cI ht T)) (some (.int o)) := by
  refine cd_of (cc := cX5_snuff) (maxL := 3) (ret := (some .int)) (by decide) rfl (Nat.le_of_ble_eq_true rfl) ?_
  intro p e s m ag below meth c A ls Q C0 hl hw hQ
  have C0 : cd_CX G cI cZ sa sb p s m ag meth c cX5_snuff 3 (some .int) wsX5_snuff RX5 A := C0
  obtain ⟨⟨hx, hb, hml, hown, hts⟩, hr, hlocks, hA, hE⟩ := id C0
  have hK := hE.1
  have hL0 := hts (.fieldLink RX5 12 "CandleDebts" "town" "LCandleDebts$Town;") (by decide +kernel)
  have hL1 := hts (.fieldLink RX5 123 "CandleDebts$Town" "lit" "I") (by decide +kernel)
  have hl : lv_has ls 3 [(0, .ref (h 0)), (1, .int a0)] := hl
  unfold f_X5_snuff at hf
  refine lv_iload_n hx hb dX5_snuff_0 rfl (lv_at hl 1 rfl) ?_
  refine lv_iconst (v := (0 : Int32)) hx hb dX5_snuff_1 (by decide) ?_
  refine lv_iconst (v := (1 : Int32)) hx hb dX5_snuff_2 (by decide) ?_
  obtain ⟨r1, e1, hf⟩ := cd_bind_some hf
  refine cd_callS (As := [.int a0, .int (0 : Int32), .int (1 : Int32)]) (rest := []) C0 hw (c_X5_within l G cI cZ sa sb a0 (0 : Int32) (1 : Int32) r1 e1) [] rfl rfl (va_cwS 3 hts gX5_snuff_X5_within rfl rfl rfl (by decide +kernel) ⟨Nat.le_of_ble_eq_true rfl, Nat.le_of_ble_eq_true rfl⟩) rfl hl.1 (lv_room (Nat.le_of_ble_eq_true rfl)) dX5_snuff_3 (fun H locs hw => ?_)
  refine lv_if_ne (tgt := 12) hx hb dX5_snuff_6 (by decide) (fun c2 => ?_) (fun c2 => ?_)
  · have hf := cd_ite_f c2 hf
    refine lv_aload_n hx hb dX5_snuff_12 rfl (lv_at hl 0 rfl) ?_
    refine va_get (D := G) (ci := 5) (v := .ref (ht 0)) (C := RX5) (T := TX5) (N := 8) hx hb hts nw_X5_snuff_X5 hown hK hw.1 0 rfl rfl 0 (by decide) hL0 (fun _ h9 => h9) rfl dX5_snuff_13 ?_
    refine va_get (D := G) (ci := 3) (v := .int (T 11 0)) (C := RX3) (T := TX3) (N := 14) hx hb hts nw_X5_snuff_X3 hown hK hw.1 2 rfl rfl 11 (by decide) hL1 (fun _ h9 => h9) rfl dX5_snuff_16 ?_
    obtain ⟨r3, e3, hf⟩ := cd_bind_some hf
    refine cd_callS (As := [.int (T 11 0)]) (rest := []) C0 hw (c_X5_winningSnuff l G cI cZ sa sb (T 11 0) r3 e3) [] rfl rfl (va_cwS 1 hts gX5_snuff_X5_winningSnuff rfl rfl rfl (by decide +kernel) ⟨Nat.le_of_ble_eq_true rfl, Nat.le_of_ble_eq_true rfl⟩) rfl hl.1 (lv_room (Nat.le_of_ble_eq_true rfl)) dX5_snuff_19 (fun H locs hw => ?_)
    refine lv_istore_n (lv' := [(2, .int r3), (0, .ref (h 0)), (1, .int a0)]) hx hb dX5_snuff_22 rfl hl (by decide) rfl (fun ls hl => ?_)
    refine lv_iload_n hx hb dX5_snuff_23 rfl (lv_at hl 2 rfl) ?_
    refine lv_iconst (v := (1 : Int32)) hx hb dX5_snuff_24 (by decide) ?_
    refine lv_icmp_ne (tgt := 30) hx hb dX5_snuff_25 (by decide) (fun c4 => ?_) (fun c4 => ?_)
    · have hf := cd_ite_f c4 hf
      refine lv_iload_n hx hb dX5_snuff_30 rfl (lv_at hl 0 rfl) ?_
      refine lv_bipush (v := (-6 : Int32)) hx hb dX5_snuff_31 (by decide) ?_
      obtain ⟨x5, e5, hf⟩ := cd_bind_some hf
      have K5 : ∀ (ls : Array Slot) (H : Heap) (locs : List Loc), lv_has ls 3 [] → cd_WS G A s.heap H locs ((pc_top cZ h ht h1 h2 hp hy hv hz K) ++ (pc_town cI ht T)) → W p l e rm_X5_snuff s m ag below meth c H locs 0 0 Q (F0 m 41 ls [.int x5]) := by
        intro ls H locs hl hw
        have z : some x5 = some o := hf
        cases z
        rw [hQ]
        exact cd_reti C0 hw dX5_snuff_41
      refine lv_icmp_ne (tgt := 40) hx hb dX5_snuff_33 (by decide) (fun c5 => ?_) (fun c5 => ?_)
      · have e5 := cd_ite_f c5 e5
        refine lv_iconst (v := (1 : Int32)) hx hb dX5_snuff_40 (by decide) ?_
        have z : some (1 : Int32) = some x5 := e5
        cases z
        exact K5 _ _ _ (lv_sub hl [] rfl) hw
      · have e5 := cd_ite_t c5 e5
        refine lv_iconst (v := (0 : Int32)) hx hb dX5_snuff_36 (by decide) ?_
        refine lv_goto (tgt := 41) hx hb dX5_snuff_37 (by decide) ?_
        have z : some (0 : Int32) = some x5 := e5
        cases z
        exact K5 _ _ _ (lv_sub hl [] rfl) hw
    · have hf := cd_ite_t c4 hf
      refine lv_iload_n hx hb dX5_snuff_28 rfl (lv_at hl 0 rfl) ?_
      have z : some r3 = some o := hf
      cases z
      rw [hQ]
      exact cd_reti C0 hw dX5_snuff_29
  · have hf := cd_ite_t c2 hf
    refine lv_bipush (v := (-2 : Int32)) hx hb dX5_snuff_9 (by decide) ?_
    have z : some (-2 : Int32) = some o := hf
    cases z
    rw [hQ]
    exact cd_reti C0 hw dX5_snuff_11
abbrev rm_X5_then : Room := { frames := 7, cells := 0, slots := 0, locals := 154 }
theorem nw_X5_then_X1 : ∀ w ∈ u_ws RX1 TX1 6, w ∈ wsX5_then := by decide +kernel
theorem nw_X5_then_X3 : ∀ w ∈ u_ws RX3 TX3 14, w ∈ wsX5_then := by decide +kernel
theorem nw_X5_then_X5 : ∀ w ∈ u_ws RX5 TX5 8, w ∈ wsX5_then := by decide +kernel
set_option maxHeartbeats 4000000 in
set_option maxRecDepth 100000 in
theorem c_X5_then (l : Launch) (G : va_G) (cI cZ : ClassId) (sa sb : Nat) (h ht h1 h2 hp hy hs hv hz : Nat → Nat) (K T P Y S : Nat → Nat → Int32) (a0 : Int32) (o : Int32 × (Nat → Nat → Int32) × (Nat → Nat → Int32) × (Nat → Nat → Int32)) (hf : f_X5_then a0 K T P Y S = some o) : cd_Ct l G cI cZ sa sb yX5_then wsX5_then rm_X5_then [.ref (h 0), .int a0] ((pc_top cZ h ht h1 h2 hp hy hv hz K) ++ (pc_town cI ht T) ++ (pc_pad cI hp P) ++ (pc_play hy hs Y) ++ (pc_town cI hs S)) ((pc_top cZ h ht h1 h2 hp hy hv hz K) ++ (pc_town cI ht T) ++ (pc_pad cI hp o.2.1) ++ (pc_play hy hs o.2.2.1) ++ (pc_town cI hs o.2.2.2)) (some (.int o.1)) := by
  refine cd_of (cc := cX5_then) (maxL := 2) (ret := (some .int)) (by decide) rfl (Nat.le_of_ble_eq_true rfl) ?_
  intro p e s m ag below meth c A ls Q C0 hl hw hQ
  have C0 : cd_CX G cI cZ sa sb p s m ag meth c cX5_then 2 (some .int) wsX5_then RX5 A := C0
  obtain ⟨⟨hx, hb, hml, hown, hts⟩, hr, hlocks, hA, hE⟩ := id C0
  have hK := hE.1
  have hL0 := hts (.fieldLink RX5 36 "CandleDebts" "play" "LCandleDebts$Play;") (by decide +kernel)
  have hL1 := hts (.fieldLink RX5 107 "CandleDebts$Play" "scene" "LCandleDebts$Town;") (by decide +kernel)
  have hL2 := hts (.fieldLink RX5 123 "CandleDebts$Town" "lit" "I") (by decide +kernel)
  have hL3 := hts (.fieldLink RX5 79 "CandleDebts$Town" "matchesLeft" "I") (by decide +kernel)
  have hL4 := hts (.fieldLink RX5 126 "CandleDebts$Town" "minute" "I") (by decide +kernel)
  have hL5 := hts (.fieldLink RX5 129 "CandleDebts$Play" "paid" "I") (by decide +kernel)
  have hL6 := hts (.fieldLink RX5 132 "CandleDebts$Play" "outAct" "I") (by decide +kernel)
  have hL7 := hts (.fieldLink RX5 135 "CandleDebts$Play" "outCandle" "I") (by decide +kernel)
  have hl : lv_has ls 2 [(0, .ref (h 0)), (1, .int a0)] := hl
  unfold f_X5_then at hf
  refine lv_iload_n hx hb dX5_then_0 rfl (lv_at hl 1 rfl) ?_
  refine lv_iconst (v := (0 : Int32)) hx hb dX5_then_1 (by decide) ?_
  refine lv_iconst (v := (5 : Int32)) hx hb dX5_then_2 (by decide) ?_
  obtain ⟨r1, e1, hf⟩ := cd_bind_some hf
  refine cd_callS (As := [.int a0, .int (0 : Int32), .int (5 : Int32)]) (rest := []) C0 hw (c_X5_within l G cI cZ sa sb a0 (0 : Int32) (5 : Int32) r1 e1) [] rfl rfl (va_cwS 3 hts gX5_then_X5_within rfl rfl rfl (by decide +kernel) ⟨Nat.le_of_ble_eq_true rfl, Nat.le_of_ble_eq_true rfl⟩) rfl hl.1 (lv_room (Nat.le_of_ble_eq_true rfl)) dX5_then_3 (fun H locs hw => ?_)
  refine lv_if_ne (tgt := 12) hx hb dX5_then_6 (by decide) (fun c2 => ?_) (fun c2 => ?_)
  · have hf := cd_ite_f c2 hf
    refine lv_aload_n hx hb dX5_then_12 rfl (lv_at hl 0 rfl) ?_
    obtain ⟨r3, e3, hf⟩ := cd_bind_some hf
    refine cd_callVw (As := []) (rest := []) (wr := ([] : va_W)) (wn := (pc_top cZ h ht h1 h2 hp hy hv hz K) ++ (pc_town cI ht T) ++ (pc_pad cI hp r3.2.1) ++ (pc_play hy hs r3.2.2.1) ++ (pc_town cI hs r3.2.2.2)) C0 hw (c_X5_nightCanBe l G cI cZ sa sb h ht h1 h2 hp hy hs hv hz K T P Y S r3 e3) [0, 1, 2, 3, 4, 5, 6, 7, 8, 9, 10, 11, 12, 13, 14, 15, 16, 17, 18, 19, 20, 21, 22, 23, 24, 25, 26] [] [0, 1, 2, 3, 4, 5, 6, 7, 8, 9, 10, 11, 12, 13, 14, 15, 16, 17, 18, 19, 20, 21, 22, 23, 24, 25, 26] rfl rfl rfl rfl (by decide) rfl rfl 0 5 rfl rfl rfl (cwV 0 hts gX5_then_X5_nightCanBe rfl rfl rfl (by decide +kernel) ⟨Nat.le_of_ble_eq_true rfl, Nat.le_of_ble_eq_true rfl⟩) rfl hl.1 (lv_room (Nat.le_of_ble_eq_true rfl)) dX5_then_13 (fun H locs hw => ?_)
    refine lv_if_ne (tgt := 22) hx hb dX5_then_16 (by decide) (fun c4 => ?_) (fun c4 => ?_)
    · have hf := cd_ite_f c4 hf
      refine lv_iload_n hx hb dX5_then_22 rfl (lv_at hl 1 rfl) ?_
      by_cases c5_0 : a0 = (0 : Int32)
      · have hf := cd_ite_t c5_0 hf
        refine lv_tableIn (off := 33) (tgt := 56) hx hb dX5_then_23 (by rw [c5_0]; decide) (by rw [c5_0]; decide) (by rw [c5_0]; rfl) (by decide) ?_
        refine lv_aload_n hx hb dX5_then_56 rfl (lv_at hl 0 rfl) ?_
        refine va_get (D := G) (ci := 5) (v := .ref (hy 0)) (C := RX5) (T := TX5) (N := 8) hx hb hts nw_X5_then_X5 hown hK hw.1 0 rfl rfl 5 (by decide) hL0 (fun _ h9 => h9) rfl dX5_then_57 ?_
        refine va_get (D := G) (ci := 1) (v := .ref (hs 0)) (C := RX1) (T := TX1) (N := 6) hx hb hts nw_X5_then_X1 hown hK hw.1 15 rfl rfl 0 (by decide) hL1 (fun _ h9 => h9) rfl dX5_then_60 ?_
        refine va_get (D := G) (ci := 3) (v := .int (r3.2.2.2 11 0)) (C := RX3) (T := TX3) (N := 14) hx hb hts nw_X5_then_X3 hown hK hw.1 16 rfl rfl 11 (by decide) hL2 (fun _ h9 => h9) rfl dX5_then_63 ?_
        have z : some ((r3.2.2.2 11 0), r3.2.1, r3.2.2.1, r3.2.2.2) = some o := hf
        cases z
        rw [hQ]
        exact cd_reti C0 hw dX5_then_66
      · have hf := cd_ite_f c5_0 hf
        by_cases c5_1 : a0 = (1 : Int32)
        · have hf := cd_ite_t c5_1 hf
          refine lv_tableIn (off := 44) (tgt := 67) hx hb dX5_then_23 (by rw [c5_1]; decide) (by rw [c5_1]; decide) (by rw [c5_1]; rfl) (by decide) ?_
          refine lv_aload_n hx hb dX5_then_67 rfl (lv_at hl 0 rfl) ?_
          refine va_get (D := G) (ci := 5) (v := .ref (hy 0)) (C := RX5) (T := TX5) (N := 8) hx hb hts nw_X5_then_X5 hown hK hw.1 0 rfl rfl 5 (by decide) hL0 (fun _ h9 => h9) rfl dX5_then_68 ?_
          refine va_get (D := G) (ci := 1) (v := .ref (hs 0)) (C := RX1) (T := TX1) (N := 6) hx hb hts nw_X5_then_X1 hown hK hw.1 15 rfl rfl 0 (by decide) hL1 (fun _ h9 => h9) rfl dX5_then_71 ?_
          refine va_get (D := G) (ci := 3) (v := .int (r3.2.2.2 12 0)) (C := RX3) (T := TX3) (N := 14) hx hb hts nw_X5_then_X3 hown hK hw.1 16 rfl rfl 12 (by decide) hL3 (fun _ h9 => h9) rfl dX5_then_74 ?_
          have z : some ((r3.2.2.2 12 0), r3.2.1, r3.2.2.1, r3.2.2.2) = some o := hf
          cases z
          rw [hQ]
          exact cd_reti C0 hw dX5_then_77
        · have hf := cd_ite_f c5_1 hf
          by_cases c5_2 : a0 = (2 : Int32)
          · have hf := cd_ite_t c5_2 hf
            refine lv_tableIn (off := 55) (tgt := 78) hx hb dX5_then_23 (by rw [c5_2]; decide) (by rw [c5_2]; decide) (by rw [c5_2]; rfl) (by decide) ?_
            refine lv_aload_n hx hb dX5_then_78 rfl (lv_at hl 0 rfl) ?_
            refine va_get (D := G) (ci := 5) (v := .ref (hy 0)) (C := RX5) (T := TX5) (N := 8) hx hb hts nw_X5_then_X5 hown hK hw.1 0 rfl rfl 5 (by decide) hL0 (fun _ h9 => h9) rfl dX5_then_79 ?_
            refine va_get (D := G) (ci := 1) (v := .ref (hs 0)) (C := RX1) (T := TX1) (N := 6) hx hb hts nw_X5_then_X1 hown hK hw.1 15 rfl rfl 0 (by decide) hL1 (fun _ h9 => h9) rfl dX5_then_82 ?_
            refine va_get (D := G) (ci := 3) (v := .int (r3.2.2.2 13 0)) (C := RX3) (T := TX3) (N := 14) hx hb hts nw_X5_then_X3 hown hK hw.1 16 rfl rfl 13 (by decide) hL4 (fun _ h9 => h9) rfl dX5_then_85 ?_
            have z : some ((r3.2.2.2 13 0), r3.2.1, r3.2.2.1, r3.2.2.2) = some o := hf
            cases z
            rw [hQ]
            exact cd_reti C0 hw dX5_then_88
          · have hf := cd_ite_f c5_2 hf
            by_cases c5_3 : a0 = (3 : Int32)
            · have hf := cd_ite_t c5_3 hf
              refine lv_tableIn (off := 66) (tgt := 89) hx hb dX5_then_23 (by rw [c5_3]; decide) (by rw [c5_3]; decide) (by rw [c5_3]; rfl) (by decide) ?_
              refine lv_aload_n hx hb dX5_then_89 rfl (lv_at hl 0 rfl) ?_
              refine va_get (D := G) (ci := 5) (v := .ref (hy 0)) (C := RX5) (T := TX5) (N := 8) hx hb hts nw_X5_then_X5 hown hK hw.1 0 rfl rfl 5 (by decide) hL0 (fun _ h9 => h9) rfl dX5_then_90 ?_
              refine va_get (D := G) (ci := 1) (v := .int (r3.2.2.1 3 0)) (C := RX1) (T := TX1) (N := 6) hx hb hts nw_X5_then_X1 hown hK hw.1 15 rfl rfl 3 (by decide) hL5 (fun _ h9 => h9) rfl dX5_then_93 ?_
              have z : some ((r3.2.2.1 3 0), r3.2.1, r3.2.2.1, r3.2.2.2) = some o := hf
              cases z
              rw [hQ]
              exact cd_reti C0 hw dX5_then_96
            · have hf := cd_ite_f c5_3 hf
              by_cases c5_4 : a0 = (4 : Int32)
              · have hf := cd_ite_t c5_4 hf
                refine lv_tableIn (off := 74) (tgt := 97) hx hb dX5_then_23 (by rw [c5_4]; decide) (by rw [c5_4]; decide) (by rw [c5_4]; rfl) (by decide) ?_
                refine lv_aload_n hx hb dX5_then_97 rfl (lv_at hl 0 rfl) ?_
                refine va_get (D := G) (ci := 5) (v := .ref (hy 0)) (C := RX5) (T := TX5) (N := 8) hx hb hts nw_X5_then_X5 hown hK hw.1 0 rfl rfl 5 (by decide) hL0 (fun _ h9 => h9) rfl dX5_then_98 ?_
                refine va_get (D := G) (ci := 1) (v := .int (r3.2.2.1 4 0)) (C := RX1) (T := TX1) (N := 6) hx hb hts nw_X5_then_X1 hown hK hw.1 15 rfl rfl 4 (by decide) hL6 (fun _ h9 => h9) rfl dX5_then_101 ?_
                have z : some ((r3.2.2.1 4 0), r3.2.1, r3.2.2.1, r3.2.2.2) = some o := hf
                cases z
                rw [hQ]
                exact cd_reti C0 hw dX5_then_104
              · have hf := cd_ite_f c5_4 hf
                refine lv_tableOut (tgt := 105) hx hb dX5_then_23 (by have q0 : a0.toInt ≠ 0 := cd_ne c5_0; have q1 : a0.toInt ≠ 1 := cd_ne c5_1; have q2 : a0.toInt ≠ 2 := cd_ne c5_2; have q3 : a0.toInt ≠ 3 := cd_ne c5_3; have q4 : a0.toInt ≠ 4 := cd_ne c5_4; omega) (by decide) ?_
                refine lv_aload_n hx hb dX5_then_105 rfl (lv_at hl 0 rfl) ?_
                refine va_get (D := G) (ci := 5) (v := .ref (hy 0)) (C := RX5) (T := TX5) (N := 8) hx hb hts nw_X5_then_X5 hown hK hw.1 0 rfl rfl 5 (by decide) hL0 (fun _ h9 => h9) rfl dX5_then_106 ?_
                refine va_get (D := G) (ci := 1) (v := .int (r3.2.2.1 5 0)) (C := RX1) (T := TX1) (N := 6) hx hb hts nw_X5_then_X1 hown hK hw.1 15 rfl rfl 5 (by decide) hL7 (fun _ h9 => h9) rfl dX5_then_109 ?_
                have z : some ((r3.2.2.1 5 0), r3.2.1, r3.2.2.1, r3.2.2.2) = some o := hf
                cases z
                rw [hQ]
                exact cd_reti C0 hw dX5_then_112
    · have hf := cd_ite_t c4 hf
      refine lv_bipush (v := (-5 : Int32)) hx hb dX5_then_19 (by decide) ?_
      have z : some ((-5 : Int32), r3.2.1, r3.2.2.1, r3.2.2.2) = some o := hf
      cases z
      rw [hQ]
      exact cd_reti C0 hw dX5_then_21
  · have hf := cd_ite_t c2 hf
    refine lv_bipush (v := (-2 : Int32)) hx hb dX5_then_9 (by decide) ?_
    have z : some ((-2 : Int32), P, Y, S) = some o := hf
    cases z
    rw [hQ]
    exact cd_reti C0 hw dX5_then_11
abbrev rm_X5_toldOfCandle : Room := { frames := 2, cells := 0, slots := 0, locals := 44 }
theorem nw_X5_toldOfCandle_X3 : ∀ w ∈ u_ws RX3 TX3 14, w ∈ wsX5_toldOfCandle := by decide +kernel
theorem nw_X5_toldOfCandle_X5 : ∀ w ∈ u_ws RX5 TX5 8, w ∈ wsX5_toldOfCandle := by decide +kernel
set_option maxHeartbeats 4000000 in
set_option maxRecDepth 100000 in
theorem c_X5_toldOfCandle (l : Launch) (G : va_G) (cI cZ : ClassId) (sa sb : Nat) (h ht h1 h2 hp hy hs hv hz : Nat → Nat) (K T : Nat → Nat → Int32) (a0 : Int32) (a1 : Int32) (o : Int32) (hf : f_X5_toldOfCandle a0 a1 K T = some o) : cd_Ct l G cI cZ sa sb yX5_toldOfCandle wsX5_toldOfCandle rm_X5_toldOfCandle [.ref (h 0), .int a0, .int a1] ((pc_top cZ h ht h1 h2 hp hy hv hz K) ++ (pc_town cI ht T)) ((pc_top cZ h ht h1 h2 hp hy hv hz K) ++ (pc_town cI ht T)) (some (.int o)) := by
  refine cd_of (cc := cX5_toldOfCandle) (maxL := 3) (ret := (some .int)) (by decide) rfl (Nat.le_of_ble_eq_true rfl) ?_
  intro p e s m ag below meth c A ls Q C0 hl hw hQ
  have C0 : cd_CX G cI cZ sa sb p s m ag meth c cX5_toldOfCandle 3 (some .int) wsX5_toldOfCandle RX5 A := C0
  obtain ⟨⟨hx, hb, hml, hown, hts⟩, hr, hlocks, hA, hE⟩ := id C0
  have hK := hE.1
  have hL0 := hts (.fieldLink RX5 12 "CandleDebts" "town" "LCandleDebts$Town;") (by decide +kernel)
  have hL1 := hts (.fieldLink RX5 65 "CandleDebts$Town" "wax" "[I") (by decide +kernel)
  have hL2 := hts (.fieldLink RX5 120 "CandleDebts$Town" "trimmed" "[I") (by decide +kernel)
  have hL3 := hts (.fieldLink RX5 73 "CandleDebts$Town" "draughts" "[I") (by decide +kernel)
  have hL4 := hts (.fieldLink RX5 151 "CandleDebts$Town" "creditors" "[I") (by decide +kernel)
  have hL5 := hts (.fieldLink RX5 155 "CandleDebts$Town" "debtors" "[I") (by decide +kernel)
  have hL6 := hts (.fieldLink RX5 117 "CandleDebts$Town" "sums" "[I") (by decide +kernel)
  have hl : lv_has ls 3 [(0, .ref (h 0)), (1, .int a0), (2, .int a1)] := hl
  unfold f_X5_toldOfCandle at hf
  refine lv_iload_n hx hb dX5_toldOfCandle_0 rfl (lv_at hl 2 rfl) ?_
  by_cases c1_0 : a1 = (0 : Int32)
  · have hf := cd_ite_t c1_0 hf
    refine lv_tableIn (off := 47) (tgt := 48) hx hb dX5_toldOfCandle_1 (by rw [c1_0]; decide) (by rw [c1_0]; decide) (by rw [c1_0]; rfl) (by decide) ?_
    refine lv_aload_n hx hb dX5_toldOfCandle_48 rfl (lv_at hl 0 rfl) ?_
    refine va_get (D := G) (ci := 5) (v := .ref (ht 0)) (C := RX5) (T := TX5) (N := 8) hx hb hts nw_X5_toldOfCandle_X5 hown hK hw.1 0 rfl rfl 0 (by decide) hL0 (fun _ h9 => h9) rfl dX5_toldOfCandle_49 ?_
    refine va_get (D := G) (ci := 3) (v := .ref (ht 1)) (C := RX3) (T := TX3) (N := 14) hx hb hts nw_X5_toldOfCandle_X3 hown hK hw.1 2 rfl rfl 0 (by decide) hL1 (fun _ h9 => h9) rfl dX5_toldOfCandle_52 ?_
    refine lv_iload_n hx hb dX5_toldOfCandle_55 rfl (lv_at hl 1 rfl) ?_
    obtain ⟨v2, e2, hf⟩ := cd_bind_some hf
    refine cd_iald hx hb hK hw 3 rfl e2 dX5_toldOfCandle_56 ?_
    have z : some v2 = some o := hf
    cases z
    rw [hQ]
    exact cd_reti C0 hw dX5_toldOfCandle_57
  · have hf := cd_ite_f c1_0 hf
    by_cases c1_1 : a1 = (1 : Int32)
    · have hf := cd_ite_t c1_1 hf
      refine lv_tableIn (off := 57) (tgt := 58) hx hb dX5_toldOfCandle_1 (by rw [c1_1]; decide) (by rw [c1_1]; decide) (by rw [c1_1]; rfl) (by decide) ?_
      refine lv_aload_n hx hb dX5_toldOfCandle_58 rfl (lv_at hl 0 rfl) ?_
      refine va_get (D := G) (ci := 5) (v := .ref (ht 0)) (C := RX5) (T := TX5) (N := 8) hx hb hts nw_X5_toldOfCandle_X5 hown hK hw.1 0 rfl rfl 0 (by decide) hL0 (fun _ h9 => h9) rfl dX5_toldOfCandle_59 ?_
      refine lv_iload_n hx hb dX5_toldOfCandle_62 rfl (lv_at hl 1 rfl) ?_
      obtain ⟨r3, e3, hf⟩ := cd_bind_some hf
      refine cd_callV (As := [.int a0]) (rest := []) C0 hw (c_X3_isLit l G cI cZ sa sb ht T a0 r3 e3) [2, 3, 4, 5, 6, 7, 8, 9, 10, 11, 12] rfl rfl 0 3 rfl rfl rfl (cwV 1 hts gX5_toldOfCandle_X3_isLit rfl rfl rfl (by decide +kernel) ⟨Nat.le_of_ble_eq_true rfl, Nat.le_of_ble_eq_true rfl⟩) rfl hl.1 (lv_room (Nat.le_of_ble_eq_true rfl)) dX5_toldOfCandle_63 (fun H locs hw => ?_)
      obtain ⟨x4, e4, hf⟩ := cd_bind_some hf
      have K4 : ∀ (ls : Array Slot) (H : Heap) (locs : List Loc), lv_has ls 3 [] → cd_WS G A s.heap H locs ((pc_top cZ h ht h1 h2 hp hy hv hz K) ++ (pc_town cI ht T)) → W p l e rm_X5_toldOfCandle s m ag below meth c H locs 0 0 Q (F0 m 74 ls [.int x4]) := by
        intro ls H locs hl hw
        have z : some x4 = some o := hf
        cases z
        rw [hQ]
        exact cd_reti C0 hw dX5_toldOfCandle_74
      refine lv_if_eq (tgt := 73) hx hb dX5_toldOfCandle_66 (by decide) (fun c4 => ?_) (fun c4 => ?_)
      · have e4 := cd_ite_t c4 e4
        refine lv_iconst (v := (0 : Int32)) hx hb dX5_toldOfCandle_73 (by decide) ?_
        have z : some (0 : Int32) = some x4 := e4
        cases z
        exact K4 _ _ _ (lv_sub hl [] rfl) hw
      · have e4 := cd_ite_f c4 e4
        refine lv_iconst (v := (1 : Int32)) hx hb dX5_toldOfCandle_69 (by decide) ?_
        refine lv_goto (tgt := 74) hx hb dX5_toldOfCandle_70 (by decide) ?_
        have z : some (1 : Int32) = some x4 := e4
        cases z
        exact K4 _ _ _ (lv_sub hl [] rfl) hw
    · have hf := cd_ite_f c1_1 hf
      by_cases c1_2 : a1 = (2 : Int32)
      · have hf := cd_ite_t c1_2 hf
        refine lv_tableIn (off := 74) (tgt := 75) hx hb dX5_toldOfCandle_1 (by rw [c1_2]; decide) (by rw [c1_2]; decide) (by rw [c1_2]; rfl) (by decide) ?_
        refine lv_aload_n hx hb dX5_toldOfCandle_75 rfl (lv_at hl 0 rfl) ?_
        refine va_get (D := G) (ci := 5) (v := .ref (ht 0)) (C := RX5) (T := TX5) (N := 8) hx hb hts nw_X5_toldOfCandle_X5 hown hK hw.1 0 rfl rfl 0 (by decide) hL0 (fun _ h9 => h9) rfl dX5_toldOfCandle_76 ?_
        refine va_get (D := G) (ci := 3) (v := .ref (ht 2)) (C := RX3) (T := TX3) (N := 14) hx hb hts nw_X5_toldOfCandle_X3 hown hK hw.1 2 rfl rfl 1 (by decide) hL2 (fun _ h9 => h9) rfl dX5_toldOfCandle_79 ?_
        refine lv_iload_n hx hb dX5_toldOfCandle_82 rfl (lv_at hl 1 rfl) ?_
        obtain ⟨v5, e5, hf⟩ := cd_bind_some hf
        refine cd_iald hx hb hK hw 4 rfl e5 dX5_toldOfCandle_83 ?_
        have z : some v5 = some o := hf
        cases z
        rw [hQ]
        exact cd_reti C0 hw dX5_toldOfCandle_84
      · have hf := cd_ite_f c1_2 hf
        by_cases c1_3 : a1 = (3 : Int32)
        · have hf := cd_ite_t c1_3 hf
          refine lv_tableIn (off := 84) (tgt := 85) hx hb dX5_toldOfCandle_1 (by rw [c1_3]; decide) (by rw [c1_3]; decide) (by rw [c1_3]; rfl) (by decide) ?_
          refine lv_aload_n hx hb dX5_toldOfCandle_85 rfl (lv_at hl 0 rfl) ?_
          refine va_get (D := G) (ci := 5) (v := .ref (ht 0)) (C := RX5) (T := TX5) (N := 8) hx hb hts nw_X5_toldOfCandle_X5 hown hK hw.1 0 rfl rfl 0 (by decide) hL0 (fun _ h9 => h9) rfl dX5_toldOfCandle_86 ?_
          refine va_get (D := G) (ci := 3) (v := .ref (ht 3)) (C := RX3) (T := TX3) (N := 14) hx hb hts nw_X5_toldOfCandle_X3 hown hK hw.1 2 rfl rfl 2 (by decide) hL3 (fun _ h9 => h9) rfl dX5_toldOfCandle_89 ?_
          refine lv_iload_n hx hb dX5_toldOfCandle_92 rfl (lv_at hl 1 rfl) ?_
          obtain ⟨v6, e6, hf⟩ := cd_bind_some hf
          refine cd_iald hx hb hK hw 5 rfl e6 dX5_toldOfCandle_93 ?_
          have z : some v6 = some o := hf
          cases z
          rw [hQ]
          exact cd_reti C0 hw dX5_toldOfCandle_94
        · have hf := cd_ite_f c1_3 hf
          by_cases c1_4 : a1 = (4 : Int32)
          · have hf := cd_ite_t c1_4 hf
            refine lv_tableIn (off := 94) (tgt := 95) hx hb dX5_toldOfCandle_1 (by rw [c1_4]; decide) (by rw [c1_4]; decide) (by rw [c1_4]; rfl) (by decide) ?_
            refine lv_aload_n hx hb dX5_toldOfCandle_95 rfl (lv_at hl 0 rfl) ?_
            refine va_get (D := G) (ci := 5) (v := .ref (ht 0)) (C := RX5) (T := TX5) (N := 8) hx hb hts nw_X5_toldOfCandle_X5 hown hK hw.1 0 rfl rfl 0 (by decide) hL0 (fun _ h9 => h9) rfl dX5_toldOfCandle_96 ?_
            refine va_get (D := G) (ci := 3) (v := .ref (ht 4)) (C := RX3) (T := TX3) (N := 14) hx hb hts nw_X5_toldOfCandle_X3 hown hK hw.1 2 rfl rfl 3 (by decide) hL4 (fun _ h9 => h9) rfl dX5_toldOfCandle_99 ?_
            refine lv_iload_n hx hb dX5_toldOfCandle_102 rfl (lv_at hl 1 rfl) ?_
            obtain ⟨v7, e7, hf⟩ := cd_bind_some hf
            refine cd_iald hx hb hK hw 6 rfl e7 dX5_toldOfCandle_103 ?_
            have z : some v7 = some o := hf
            cases z
            rw [hQ]
            exact cd_reti C0 hw dX5_toldOfCandle_104
          · have hf := cd_ite_f c1_4 hf
            by_cases c1_5 : a1 = (5 : Int32)
            · have hf := cd_ite_t c1_5 hf
              refine lv_tableIn (off := 104) (tgt := 105) hx hb dX5_toldOfCandle_1 (by rw [c1_5]; decide) (by rw [c1_5]; decide) (by rw [c1_5]; rfl) (by decide) ?_
              refine lv_aload_n hx hb dX5_toldOfCandle_105 rfl (lv_at hl 0 rfl) ?_
              refine va_get (D := G) (ci := 5) (v := .ref (ht 0)) (C := RX5) (T := TX5) (N := 8) hx hb hts nw_X5_toldOfCandle_X5 hown hK hw.1 0 rfl rfl 0 (by decide) hL0 (fun _ h9 => h9) rfl dX5_toldOfCandle_106 ?_
              refine va_get (D := G) (ci := 3) (v := .ref (ht 5)) (C := RX3) (T := TX3) (N := 14) hx hb hts nw_X5_toldOfCandle_X3 hown hK hw.1 2 rfl rfl 4 (by decide) hL5 (fun _ h9 => h9) rfl dX5_toldOfCandle_109 ?_
              refine lv_iload_n hx hb dX5_toldOfCandle_112 rfl (lv_at hl 1 rfl) ?_
              obtain ⟨v8, e8, hf⟩ := cd_bind_some hf
              refine cd_iald hx hb hK hw 7 rfl e8 dX5_toldOfCandle_113 ?_
              have z : some v8 = some o := hf
              cases z
              rw [hQ]
              exact cd_reti C0 hw dX5_toldOfCandle_114
            · have hf := cd_ite_f c1_5 hf
              by_cases c1_6 : a1 = (6 : Int32)
              · have hf := cd_ite_t c1_6 hf
                refine lv_tableIn (off := 114) (tgt := 115) hx hb dX5_toldOfCandle_1 (by rw [c1_6]; decide) (by rw [c1_6]; decide) (by rw [c1_6]; rfl) (by decide) ?_
                refine lv_aload_n hx hb dX5_toldOfCandle_115 rfl (lv_at hl 0 rfl) ?_
                refine va_get (D := G) (ci := 5) (v := .ref (ht 0)) (C := RX5) (T := TX5) (N := 8) hx hb hts nw_X5_toldOfCandle_X5 hown hK hw.1 0 rfl rfl 0 (by decide) hL0 (fun _ h9 => h9) rfl dX5_toldOfCandle_116 ?_
                refine va_get (D := G) (ci := 3) (v := .ref (ht 6)) (C := RX3) (T := TX3) (N := 14) hx hb hts nw_X5_toldOfCandle_X3 hown hK hw.1 2 rfl rfl 5 (by decide) hL6 (fun _ h9 => h9) rfl dX5_toldOfCandle_119 ?_
                refine lv_iload_n hx hb dX5_toldOfCandle_122 rfl (lv_at hl 1 rfl) ?_
                obtain ⟨v9, e9, hf⟩ := cd_bind_some hf
                refine cd_iald hx hb hK hw 8 rfl e9 dX5_toldOfCandle_123 ?_
                have z : some v9 = some o := hf
                cases z
                rw [hQ]
                exact cd_reti C0 hw dX5_toldOfCandle_124
              · have hf := cd_ite_f c1_6 hf
                by_cases c1_7 : a1 = (7 : Int32)
                · have hf := cd_ite_t c1_7 hf
                  refine lv_tableIn (off := 124) (tgt := 125) hx hb dX5_toldOfCandle_1 (by rw [c1_7]; decide) (by rw [c1_7]; decide) (by rw [c1_7]; rfl) (by decide) ?_
                  refine lv_aload_n hx hb dX5_toldOfCandle_125 rfl (lv_at hl 0 rfl) ?_
                  refine va_get (D := G) (ci := 5) (v := .ref (ht 0)) (C := RX5) (T := TX5) (N := 8) hx hb hts nw_X5_toldOfCandle_X5 hown hK hw.1 0 rfl rfl 0 (by decide) hL0 (fun _ h9 => h9) rfl dX5_toldOfCandle_126 ?_
                  refine lv_iload_n hx hb dX5_toldOfCandle_129 rfl (lv_at hl 1 rfl) ?_
                  obtain ⟨r10, e10, hf⟩ := cd_bind_some hf
                  refine cd_callV (As := [.int a0]) (rest := []) C0 hw (c_X3_burnOf l G cI cZ sa sb ht T a0 r10 e10) [2, 3, 4, 5, 6, 7, 8, 9, 10, 11, 12] rfl rfl 0 3 rfl rfl rfl (cwV 1 hts gX5_toldOfCandle_X3_burnOf rfl rfl rfl (by decide +kernel) ⟨Nat.le_of_ble_eq_true rfl, Nat.le_of_ble_eq_true rfl⟩) rfl hl.1 (lv_room (Nat.le_of_ble_eq_true rfl)) dX5_toldOfCandle_130 (fun H locs hw => ?_)
                  have z : some r10 = some o := hf
                  cases z
                  rw [hQ]
                  exact cd_reti C0 hw dX5_toldOfCandle_133
                · have hf := cd_ite_f c1_7 hf
                  refine lv_tableOut (tgt := 134) hx hb dX5_toldOfCandle_1 (by have q0 : a1.toInt ≠ 0 := cd_ne c1_0; have q1 : a1.toInt ≠ 1 := cd_ne c1_1; have q2 : a1.toInt ≠ 2 := cd_ne c1_2; have q3 : a1.toInt ≠ 3 := cd_ne c1_3; have q4 : a1.toInt ≠ 4 := cd_ne c1_4; have q5 : a1.toInt ≠ 5 := cd_ne c1_5; have q6 : a1.toInt ≠ 6 := cd_ne c1_6; have q7 : a1.toInt ≠ 7 := cd_ne c1_7; omega) (by decide) ?_
                  refine lv_bipush (v := (-2 : Int32)) hx hb dX5_toldOfCandle_134 (by decide) ?_
                  have z : some (-2 : Int32) = some o := hf
                  cases z
                  rw [hQ]
                  exact cd_reti C0 hw dX5_toldOfCandle_136
abbrev rm_X5_told : Room := { frames := 3, cells := 0, slots := 0, locals := 66 }
theorem nw_X5_told_X0 : ∀ w ∈ u_ws RX0 TX0 6, w ∈ wsX5_told := by decide +kernel
theorem nw_X5_told_X3 : ∀ w ∈ u_ws RX3 TX3 14, w ∈ wsX5_told := by decide +kernel
theorem nw_X5_told_X5 : ∀ w ∈ u_ws RX5 TX5 8, w ∈ wsX5_told := by decide +kernel
set_option maxHeartbeats 4000000 in
set_option maxRecDepth 100000 in
theorem c_X5_told (l : Launch) (G : va_G) (cI cZ : ClassId) (sa sb : Nat) (h ht h1 h2 hp hy hs hv hz : Nat → Nat) (K T P : Nat → Nat → Int32) (a0 : Int32) (o : Int32) (hf : f_X5_told a0 K T P = some o) : cd_Ct l G cI cZ sa sb yX5_told wsX5_told rm_X5_told [.ref (h 0), .int a0] ((pc_top cZ h ht h1 h2 hp hy hv hz K) ++ (pc_town cI ht T) ++ (pc_pad cI hp P)) ((pc_top cZ h ht h1 h2 hp hy hv hz K) ++ (pc_town cI ht T) ++ (pc_pad cI hp P)) (some (.int o)) := by
  refine cd_of (cc := cX5_told) (maxL := 2) (ret := (some .int)) (by decide) rfl (Nat.le_of_ble_eq_true rfl) ?_
  intro p e s m ag below meth c A ls Q C0 hl hw hQ
  have C0 : cd_CX G cI cZ sa sb p s m ag meth c cX5_told 2 (some .int) wsX5_told RX5 A := C0
  obtain ⟨⟨hx, hb, hml, hown, hts⟩, hr, hlocks, hA, hE⟩ := id C0
  have hK := hE.1
  have hL0 := hts (.fieldLink RX5 29 "CandleDebts" "pad" "LCandleDebts$Pad;") (by decide +kernel)
  have hL1 := hts (.fieldLink RX5 86 "CandleDebts$Pad" "count" "I") (by decide +kernel)
  have hL2 := hts (.fieldLink RX5 12 "CandleDebts" "town" "LCandleDebts$Town;") (by decide +kernel)
  have hL3 := hts (.fieldLink RX5 123 "CandleDebts$Town" "lit" "I") (by decide +kernel)
  have hL4 := hts (.fieldLink RX5 79 "CandleDebts$Town" "matchesLeft" "I") (by decide +kernel)
  have hL5 := hts (.fieldLink RX5 126 "CandleDebts$Town" "minute" "I") (by decide +kernel)
  have hL6 := hts (.fieldLink RX5 193 "CandleDebts$Town" "sights" "I") (by decide +kernel)
  have hL7 := hts (.fieldLink RX5 76 "CandleDebts$Town" "purses" "[I") (by decide +kernel)
  have hl : lv_has ls 2 [(0, .ref (h 0)), (1, .int a0)] := hl
  unfold f_X5_told at hf
  refine lv_iload_n hx hb dX5_told_0 rfl (lv_at hl 1 rfl) ?_
  refine lv_bipush (v := (10 : Int32)) hx hb dX5_told_1 (by decide) ?_
  refine lv_bipush (v := (15 : Int32)) hx hb dX5_told_3 (by decide) ?_
  obtain ⟨r1, e1, hf⟩ := cd_bind_some hf
  refine cd_callS (As := [.int a0, .int (10 : Int32), .int (15 : Int32)]) (rest := []) C0 hw (c_X5_within l G cI cZ sa sb a0 (10 : Int32) (15 : Int32) r1 e1) [] rfl rfl (va_cwS 3 hts gX5_told_X5_within rfl rfl rfl (by decide +kernel) ⟨Nat.le_of_ble_eq_true rfl, Nat.le_of_ble_eq_true rfl⟩) rfl hl.1 (lv_room (Nat.le_of_ble_eq_true rfl)) dX5_told_5 (fun H locs hw => ?_)
  refine lv_if_eq (tgt := 24) hx hb dX5_told_8 (by decide) (fun c2 => ?_) (fun c2 => ?_)
  · have hf := cd_ite_t c2 hf
    refine lv_iload_n hx hb dX5_told_24 rfl (lv_at hl 1 rfl) ?_
    refine lv_bipush (v := (100 : Int32)) hx hb dX5_told_25 (by decide) ?_
    refine lv_sipush (v := (219 : Int32)) hx hb dX5_told_27 (by decide) ?_
    obtain ⟨r3, e3, hf⟩ := cd_bind_some hf
    refine cd_callS (As := [.int a0, .int (100 : Int32), .int (219 : Int32)]) (rest := []) C0 hw (c_X5_within l G cI cZ sa sb a0 (100 : Int32) (219 : Int32) r3 e3) [] rfl rfl (va_cwS 3 hts gX5_told_X5_within rfl rfl rfl (by decide +kernel) ⟨Nat.le_of_ble_eq_true rfl, Nat.le_of_ble_eq_true rfl⟩) rfl hl.1 (lv_room (Nat.le_of_ble_eq_true rfl)) dX5_told_30 (fun H locs hw => ?_)
    refine lv_if_eq (tgt := 52) hx hb dX5_told_33 (by decide) (fun c4 => ?_) (fun c4 => ?_)
    · have hf := cd_ite_t c4 hf
      refine lv_iload_n hx hb dX5_told_52 rfl (lv_at hl 1 rfl) ?_
      by_cases c5_0 : a0 = (0 : Int32)
      · have hf := cd_ite_t c5_0 hf
        refine lv_tableIn (off := 35) (tgt := 88) hx hb dX5_told_53 (by rw [c5_0]; decide) (by rw [c5_0]; decide) (by rw [c5_0]; rfl) (by decide) ?_
        refine lv_aload_n hx hb dX5_told_88 rfl (lv_at hl 0 rfl) ?_
        refine va_get (D := G) (ci := 5) (v := .ref (hp 0)) (C := RX5) (T := TX5) (N := 8) hx hb hts nw_X5_told_X5 hown hK hw.1 0 rfl rfl 4 (by decide) hL0 (fun _ h9 => h9) rfl dX5_told_89 ?_
        refine va_get (D := G) (ci := 0) (v := .int (P 1 0)) (C := RX0) (T := TX0) (N := 6) hx hb hts nw_X5_told_X0 hown hK hw.1 13 rfl rfl 1 (by decide) hL1 (fun _ h9 => h9) rfl dX5_told_92 ?_
        have z : some (P 1 0) = some o := hf
        cases z
        rw [hQ]
        exact cd_reti C0 hw dX5_told_95
      · have hf := cd_ite_f c5_0 hf
        by_cases c5_1 : a0 = (1 : Int32)
        · have hf := cd_ite_t c5_1 hf
          refine lv_tableIn (off := 43) (tgt := 96) hx hb dX5_told_53 (by rw [c5_1]; decide) (by rw [c5_1]; decide) (by rw [c5_1]; rfl) (by decide) ?_
          refine lv_aload_n hx hb dX5_told_96 rfl (lv_at hl 0 rfl) ?_
          refine va_get (D := G) (ci := 5) (v := .ref (ht 0)) (C := RX5) (T := TX5) (N := 8) hx hb hts nw_X5_told_X5 hown hK hw.1 0 rfl rfl 0 (by decide) hL2 (fun _ h9 => h9) rfl dX5_told_97 ?_
          refine va_get (D := G) (ci := 3) (v := .int (T 11 0)) (C := RX3) (T := TX3) (N := 14) hx hb hts nw_X5_told_X3 hown hK hw.1 2 rfl rfl 11 (by decide) hL3 (fun _ h9 => h9) rfl dX5_told_100 ?_
          have z : some (T 11 0) = some o := hf
          cases z
          rw [hQ]
          exact cd_reti C0 hw dX5_told_103
        · have hf := cd_ite_f c5_1 hf
          by_cases c5_2 : a0 = (2 : Int32)
          · have hf := cd_ite_t c5_2 hf
            refine lv_tableIn (off := 51) (tgt := 104) hx hb dX5_told_53 (by rw [c5_2]; decide) (by rw [c5_2]; decide) (by rw [c5_2]; rfl) (by decide) ?_
            refine lv_aload_n hx hb dX5_told_104 rfl (lv_at hl 0 rfl) ?_
            refine va_get (D := G) (ci := 5) (v := .ref (ht 0)) (C := RX5) (T := TX5) (N := 8) hx hb hts nw_X5_told_X5 hown hK hw.1 0 rfl rfl 0 (by decide) hL2 (fun _ h9 => h9) rfl dX5_told_105 ?_
            refine va_get (D := G) (ci := 3) (v := .int (T 12 0)) (C := RX3) (T := TX3) (N := 14) hx hb hts nw_X5_told_X3 hown hK hw.1 2 rfl rfl 12 (by decide) hL4 (fun _ h9 => h9) rfl dX5_told_108 ?_
            have z : some (T 12 0) = some o := hf
            cases z
            rw [hQ]
            exact cd_reti C0 hw dX5_told_111
          · have hf := cd_ite_f c5_2 hf
            by_cases c5_3 : a0 = (3 : Int32)
            · have hf := cd_ite_t c5_3 hf
              refine lv_tableIn (off := 59) (tgt := 112) hx hb dX5_told_53 (by rw [c5_3]; decide) (by rw [c5_3]; decide) (by rw [c5_3]; rfl) (by decide) ?_
              refine lv_aload_n hx hb dX5_told_112 rfl (lv_at hl 0 rfl) ?_
              refine va_get (D := G) (ci := 5) (v := .ref (ht 0)) (C := RX5) (T := TX5) (N := 8) hx hb hts nw_X5_told_X5 hown hK hw.1 0 rfl rfl 0 (by decide) hL2 (fun _ h9 => h9) rfl dX5_told_113 ?_
              refine va_get (D := G) (ci := 3) (v := .int (T 13 0)) (C := RX3) (T := TX3) (N := 14) hx hb hts nw_X5_told_X3 hown hK hw.1 2 rfl rfl 13 (by decide) hL5 (fun _ h9 => h9) rfl dX5_told_116 ?_
              have z : some (T 13 0) = some o := hf
              cases z
              rw [hQ]
              exact cd_reti C0 hw dX5_told_119
            · have hf := cd_ite_f c5_3 hf
              by_cases c5_4 : a0 = (4 : Int32)
              · have hf := cd_ite_t c5_4 hf
                refine lv_tableIn (off := 67) (tgt := 120) hx hb dX5_told_53 (by rw [c5_4]; decide) (by rw [c5_4]; decide) (by rw [c5_4]; rfl) (by decide) ?_
                refine lv_aload_n hx hb dX5_told_120 rfl (lv_at hl 0 rfl) ?_
                refine va_get (D := G) (ci := 5) (v := .ref (ht 0)) (C := RX5) (T := TX5) (N := 8) hx hb hts nw_X5_told_X5 hown hK hw.1 0 rfl rfl 0 (by decide) hL2 (fun _ h9 => h9) rfl dX5_told_121 ?_
                refine va_get (D := G) (ci := 3) (v := .int (T 10 0)) (C := RX3) (T := TX3) (N := 14) hx hb hts nw_X5_told_X3 hown hK hw.1 2 rfl rfl 10 (by decide) hL6 (fun _ h9 => h9) rfl dX5_told_124 ?_
                have z : some (T 10 0) = some o := hf
                cases z
                rw [hQ]
                exact cd_reti C0 hw dX5_told_127
              · have hf := cd_ite_f c5_4 hf
                refine lv_tableOut (tgt := 128) hx hb dX5_told_53 (by have q0 : a0.toInt ≠ 0 := cd_ne c5_0; have q1 : a0.toInt ≠ 1 := cd_ne c5_1; have q2 : a0.toInt ≠ 2 := cd_ne c5_2; have q3 : a0.toInt ≠ 3 := cd_ne c5_3; have q4 : a0.toInt ≠ 4 := cd_ne c5_4; omega) (by decide) ?_
                refine lv_bipush (v := (-2 : Int32)) hx hb dX5_told_128 (by decide) ?_
                have z : some (-2 : Int32) = some o := hf
                cases z
                rw [hQ]
                exact cd_reti C0 hw dX5_told_130
    · have hf := cd_ite_f c4 hf
      refine lv_aload_n hx hb dX5_told_36 rfl (lv_at hl 0 rfl) ?_
      refine lv_iload_n hx hb dX5_told_37 rfl (lv_at hl 1 rfl) ?_
      refine lv_bipush (v := (100 : Int32)) hx hb dX5_told_38 (by decide) ?_
      refine lv_isub hx hb dX5_told_40 ?_
      refine lv_bipush (v := (10 : Int32)) hx hb dX5_told_41 (by decide) ?_
      refine lv_idiv hx hb dX5_told_43 (by decide) ?_
      refine lv_iload_n hx hb dX5_told_44 rfl (lv_at hl 1 rfl) ?_
      refine lv_bipush (v := (10 : Int32)) hx hb dX5_told_45 (by decide) ?_
      refine lv_irem hx hb dX5_told_47 (by decide) ?_
      obtain ⟨r6, e6, hf⟩ := cd_bind_some hf
      refine cd_callV (As := [.int ((a0 - (100 : Int32)) / (10 : Int32)), .int (a0 - a0 / (10 : Int32) * (10 : Int32))]) (rest := []) C0 hw (c_X5_toldOfCandle l G cI cZ sa sb h ht h1 h2 hp hy hs hv hz K T ((a0 - (100 : Int32)) / (10 : Int32)) (a0 - a0 / (10 : Int32) * (10 : Int32)) r6 e6) [0, 1, 2, 3, 4, 5, 6, 7, 8, 9, 10, 11, 12] rfl rfl 0 5 rfl rfl rfl (cwV 2 hts gX5_told_X5_toldOfCandle rfl rfl rfl (by decide +kernel) ⟨Nat.le_of_ble_eq_true rfl, Nat.le_of_ble_eq_true rfl⟩) rfl hl.1 (lv_room (Nat.le_of_ble_eq_true rfl)) dX5_told_48 (fun H locs hw => ?_)
      have z : some r6 = some o := hf
      cases z
      rw [hQ]
      exact cd_reti C0 hw dX5_told_51
  · have hf := cd_ite_f c2 hf
    refine lv_aload_n hx hb dX5_told_11 rfl (lv_at hl 0 rfl) ?_
    refine va_get (D := G) (ci := 5) (v := .ref (ht 0)) (C := RX5) (T := TX5) (N := 8) hx hb hts nw_X5_told_X5 hown hK hw.1 0 rfl rfl 0 (by decide) hL2 (fun _ h9 => h9) rfl dX5_told_12 ?_
    refine va_get (D := G) (ci := 3) (v := .ref (ht 8)) (C := RX3) (T := TX3) (N := 14) hx hb hts nw_X5_told_X3 hown hK hw.1 2 rfl rfl 7 (by decide) hL7 (fun _ h9 => h9) rfl dX5_told_15 ?_
    refine lv_iload_n hx hb dX5_told_18 rfl (lv_at hl 1 rfl) ?_
    refine lv_bipush (v := (10 : Int32)) hx hb dX5_told_19 (by decide) ?_
    refine lv_isub hx hb dX5_told_21 ?_
    obtain ⟨v7, e7, hf⟩ := cd_bind_some hf
    refine cd_iald hx hb hK hw 10 rfl e7 dX5_told_22 ?_
    have z : some v7 = some o := hf
    cases z
    rw [hQ]
    exact cd_reti C0 hw dX5_told_23
abbrev rm_X5_trims : Room := { frames := 2, cells := 0, slots := 0, locals := 46 }
theorem nw_X5_trims_X3 : ∀ w ∈ u_ws RX3 TX3 14, w ∈ wsX5_trims := by decide +kernel
theorem nw_X5_trims_X5 : ∀ w ∈ u_ws RX5 TX5 8, w ∈ wsX5_trims := by decide +kernel
set_option maxHeartbeats 4000000 in
set_option maxRecDepth 100000 in
theorem c_X5_trims (l : Launch) (G : va_G) (cI cZ : ClassId) (sa sb : Nat) (h ht h1 h2 hp hy hs hv hz : Nat → Nat) (K T : Nat → Nat → Int32) (a0 : Int32) (a1 : Int32) (o : Int32) (hf : f_X5_trims a0 a1 K T = some o) : cd_Ct l G cI cZ sa sb yX5_trims wsX5_trims rm_X5_trims [.ref (h 0), .int a0, .int a1] ((pc_top cZ h ht h1 h2 hp hy hv hz K) ++ (pc_town cI ht T)) ((pc_top cZ h ht h1 h2 hp hy hv hz K) ++ (pc_town cI ht T)) (some (.int o)) := by
  refine cd_of (cc := cX5_trims) (maxL := 5) (ret := (some .int)) (by decide) rfl (Nat.le_of_ble_eq_true rfl) ?_
  intro p e s m ag below meth c A ls Q C0 hl hw hQ
  have C0 : cd_CX G cI cZ sa sb p s m ag meth c cX5_trims 5 (some .int) wsX5_trims RX5 A := C0
  obtain ⟨⟨hx, hb, hml, hown, hts⟩, hr, hlocks, hA, hE⟩ := id C0
  have hK := hE.1
  have hL0 := hts (.fieldLink RX5 12 "CandleDebts" "town" "LCandleDebts$Town;") (by decide +kernel)
  have hL1 := hts (.fieldLink RX5 120 "CandleDebts$Town" "trimmed" "[I") (by decide +kernel)
  have hl : lv_has ls 5 [(0, .ref (h 0)), (1, .int a0), (2, .int a1)] := hl
  unfold f_X5_trims at hf
  refine lv_iload_n hx hb dX5_trims_0 rfl (lv_at hl 1 rfl) ?_
  obtain ⟨r1, e1, hf⟩ := cd_bind_some hf
  refine cd_callS (As := [.int a0]) (rest := []) C0 hw (c_X5_isCandle l G cI cZ sa sb a0 r1 e1) [] rfl rfl (va_cwS 1 hts gX5_trims_X5_isCandle rfl rfl rfl (by decide +kernel) ⟨Nat.le_of_ble_eq_true rfl, Nat.le_of_ble_eq_true rfl⟩) rfl hl.1 (lv_room (Nat.le_of_ble_eq_true rfl)) dX5_trims_1 (fun H locs hw => ?_)
  refine lv_if_ne (tgt := 9) hx hb dX5_trims_4 (by decide) (fun c2 => ?_) (fun c2 => ?_)
  · have hf := cd_ite_f c2 hf
    refine lv_iload_n hx hb dX5_trims_9 rfl (lv_at hl 2 rfl) ?_
    refine lv_iconst (v := (1 : Int32)) hx hb dX5_trims_10 (by decide) ?_
    refine lv_sipush (v := (999 : Int32)) hx hb dX5_trims_11 (by decide) ?_
    obtain ⟨r3, e3, hf⟩ := cd_bind_some hf
    refine cd_callS (As := [.int a1, .int (1 : Int32), .int (999 : Int32)]) (rest := []) C0 hw (c_X5_within l G cI cZ sa sb a1 (1 : Int32) (999 : Int32) r3 e3) [] rfl rfl (va_cwS 3 hts gX5_trims_X5_within rfl rfl rfl (by decide +kernel) ⟨Nat.le_of_ble_eq_true rfl, Nat.le_of_ble_eq_true rfl⟩) rfl hl.1 (lv_room (Nat.le_of_ble_eq_true rfl)) dX5_trims_14 (fun H locs hw => ?_)
    refine lv_if_ne (tgt := 23) hx hb dX5_trims_17 (by decide) (fun c4 => ?_) (fun c4 => ?_)
    · have hf := cd_ite_f c4 hf
      refine lv_aload_n hx hb dX5_trims_23 rfl (lv_at hl 0 rfl) ?_
      refine va_get (D := G) (ci := 5) (v := .ref (ht 0)) (C := RX5) (T := TX5) (N := 8) hx hb hts nw_X5_trims_X5 hown hK hw.1 0 rfl rfl 0 (by decide) hL0 (fun _ h9 => h9) rfl dX5_trims_24 ?_
      refine va_get (D := G) (ci := 3) (v := .ref (ht 2)) (C := RX3) (T := TX3) (N := 14) hx hb hts nw_X5_trims_X3 hown hK hw.1 2 rfl rfl 1 (by decide) hL1 (fun _ h9 => h9) rfl dX5_trims_27 ?_
      refine lv_iload_n hx hb dX5_trims_30 rfl (lv_at hl 1 rfl) ?_
      obtain ⟨v5, e5, hf⟩ := cd_bind_some hf
      refine cd_iald hx hb hK hw 4 rfl e5 dX5_trims_31 ?_
      refine lv_istore_n (lv' := [(3, .int v5), (0, .ref (h 0)), (1, .int a0), (2, .int a1)]) hx hb dX5_trims_32 rfl hl (by decide) rfl (fun ls hl => ?_)
      refine lv_iconst (v := (0 : Int32)) hx hb dX5_trims_33 (by decide) ?_
      refine lv_istore (lv' := [(4, .int (0 : Int32)), (3, .int v5), (0, .ref (h 0)), (1, .int a0), (2, .int a1)]) hx hb dX5_trims_34 hl (by decide) rfl (fun ls hl => ?_)
      obtain ⟨x6, e6, hf⟩ := cd_bind_some hf
      have K6 : ∀ (t6 : Unit), Sum.inr t6 = x6 → ∀ (ls : Array Slot) (H : Heap) (locs : List Loc), lv_has ls 5 [] → cd_WS G A s.heap H locs ((pc_top cZ h ht h1 h2 hp hy hv hz K) ++ (pc_town cI ht T)) → W p l e rm_X5_trims s m ag below meth c H locs 0 0 Q (F0 m 70 ls []) := by
        intro t6 hs_6
        subst hs_6
        intro ls H locs hl hw
        refine lv_bipush (v := (-6 : Int32)) hx hb dX5_trims_70 (by decide) ?_
        have z : some (-6 : Int32) = some o := hf
        cases z
        rw [hQ]
        exact cd_reti C0 hw dX5_trims_72
      refine cd_iter_ind (body := (f_X5_trims_b36 a0 a1 T v5)) (K := fun r => r = x6) (P := fun (z6 : Int32) => ∀ (ls : Array Slot) (H : Heap) (locs : List Loc), lv_has ls 5 [(0, .ref (h 0)), (1, .int a0), (2, .int a1), (3, .int v5), (4, .int z6)] → cd_WS G A s.heap H locs ((pc_top cZ h ht h1 h2 hp hy hv hz K) ++ (pc_town cI ht T)) → W p l e rm_X5_trims s m ag below meth c H locs 0 0 Q (F0 m 36 ls [])) ?_ cd_N (0 : Int32) x6 e6 rfl _ _ _ (lv_sub hl [2, 3, 4, 1, 0] rfl) hw
      intro z6 o6 hb6 hk6 ls H locs hl hw
      unfold f_X5_trims_b36 at hb6
      refine lv_iload_n hx hb dX5_trims_36 rfl (lv_at hl 3 rfl) ?_
      refine lv_iload hx hb dX5_trims_37 (lv_at hl 4 rfl) ?_
      refine lv_iadd hx hb dX5_trims_39 ?_
      refine lv_bipush (v := (9 : Int32)) hx hb dX5_trims_40 (by decide) ?_
      refine lv_icmp_gt (tgt := 70) hx hb dX5_trims_42 (by decide) (fun c7 => ?_) (fun c7 => ?_)
      · have hb6 := cd_ite_t c7 hb6
        have z : some (Sum.inl (Sum.inr ())) = some o6 := hb6
        cases z
        exact K6 _ hk6 _ _ _ (lv_sub hl [] rfl) hw
      · have hb6 := cd_ite_f c7 hb6
        refine lv_aload_n hx hb dX5_trims_45 rfl (lv_at hl 0 rfl) ?_
        refine va_get (D := G) (ci := 5) (v := .ref (ht 0)) (C := RX5) (T := TX5) (N := 8) hx hb hts nw_X5_trims_X5 hown hK hw.1 0 rfl rfl 0 (by decide) hL0 (fun _ h9 => h9) rfl dX5_trims_46 ?_
        refine lv_iload_n hx hb dX5_trims_49 rfl (lv_at hl 1 rfl) ?_
        refine lv_iload_n hx hb dX5_trims_50 rfl (lv_at hl 3 rfl) ?_
        refine lv_iload hx hb dX5_trims_51 (lv_at hl 4 rfl) ?_
        refine lv_iadd hx hb dX5_trims_53 ?_
        obtain ⟨r8, e8, hb6⟩ := cd_bind_some hb6
        refine cd_callV (As := [.int a0, .int (v5 + z6)]) (rest := []) C0 hw (c_X3_minutesLeftTrimmed l G cI cZ sa sb ht T a0 (v5 + z6) r8 e8) [2, 3, 4, 5, 6, 7, 8, 9, 10, 11, 12] rfl rfl 0 3 rfl rfl rfl (cwV 2 hts gX5_trims_X3_minutesLeftTrimmed rfl rfl rfl (by decide +kernel) ⟨Nat.le_of_ble_eq_true rfl, Nat.le_of_ble_eq_true rfl⟩) rfl hl.1 (lv_room (Nat.le_of_ble_eq_true rfl)) dX5_trims_54 (fun H locs hw => ?_)
        refine lv_iload_n hx hb dX5_trims_57 rfl (lv_at hl 2 rfl) ?_
        refine lv_icmp_lt (tgt := 64) hx hb dX5_trims_58 (by decide) (fun c9 => ?_) (fun c9 => ?_)
        · have hb6 := cd_ite_t c9 hb6
          refine lv_iinc (v := (z6 + (1 : Int32))) (lv' := [(4, .int (z6 + (1 : Int32))), (0, .ref (h 0)), (1, .int a0), (2, .int a1), (3, .int v5)]) hx hb dX5_trims_64 hl (k := 4) rfl rfl (by decide) rfl (fun ls hl => ?_)
          refine lv_goto (tgt := 36) hx hb dX5_trims_67 (by decide) ?_
          have z : some (Sum.inr (z6 + (1 : Int32))) = some o6 := hb6
          cases z
          exact hk6 _ _ _ (lv_sub hl [1, 2, 3, 4, 0] rfl) hw
        · have hb6 := cd_ite_f c9 hb6
          refine lv_iload hx hb dX5_trims_61 (lv_at hl 4 rfl) ?_
          have z : some (Sum.inl (Sum.inl z6)) = some o6 := hb6
          cases z
          have y6 : Sum.inl z6 = x6 := hk6
          subst y6
          have z : some z6 = some o := hf
          cases z
          rw [hQ]
          exact cd_reti C0 hw dX5_trims_63
    · have hf := cd_ite_t c4 hf
      refine lv_bipush (v := (-2 : Int32)) hx hb dX5_trims_20 (by decide) ?_
      have z : some (-2 : Int32) = some o := hf
      cases z
      rw [hQ]
      exact cd_reti C0 hw dX5_trims_22
  · have hf := cd_ite_t c2 hf
    refine lv_iconst (v := (-1 : Int32)) hx hb dX5_trims_7 (by decide) ?_
    have z : some (-1 : Int32) = some o := hf
    cases z
    rw [hQ]
    exact cd_reti C0 hw dX5_trims_8
abbrev rm_X5_wipe : Room := { frames := 0, cells := 0, slots := 0, locals := 0 }
theorem nw_X5_wipe_X0 : ∀ w ∈ u_ws RX0 TX0 6, w ∈ wsX5_wipe := by decide +kernel
theorem nw_X5_wipe_X5 : ∀ w ∈ u_ws RX5 TX5 8, w ∈ wsX5_wipe := by decide +kernel
set_option maxHeartbeats 4000000 in
set_option maxRecDepth 100000 in
theorem c_X5_wipe (l : Launch) (G : va_G) (cI cZ : ClassId) (sa sb : Nat) (h ht h1 h2 hp hy hs hv hz : Nat → Nat) (K P : Nat → Nat → Int32) (o : Int32 × (Nat → Nat → Int32)) (hf : f_X5_wipe K P = some o) : cd_Ct l G cI cZ sa sb yX5_wipe wsX5_wipe rm_X5_wipe [.ref (h 0)] ((pc_top cZ h ht h1 h2 hp hy hv hz K) ++ (pc_pad cI hp P)) ((pc_top cZ h ht h1 h2 hp hy hv hz K) ++ (pc_pad cI hp o.2)) (some (.int o.1)) := by
  refine cd_of (cc := cX5_wipe) (maxL := 2) (ret := (some .int)) (by decide) rfl (Nat.le_of_ble_eq_true rfl) ?_
  intro p e s m ag below meth c A ls Q C0 hl hw hQ
  have C0 : cd_CX G cI cZ sa sb p s m ag meth c cX5_wipe 2 (some .int) wsX5_wipe RX5 A := C0
  obtain ⟨⟨hx, hb, hml, hown, hts⟩, hr, hlocks, hA, hE⟩ := id C0
  have hK := hE.1
  have hL0 := hts (.fieldLink RX5 29 "CandleDebts" "pad" "LCandleDebts$Pad;") (by decide +kernel)
  have hL1 := hts (.fieldLink RX5 86 "CandleDebts$Pad" "count" "I") (by decide +kernel)
  have hl : lv_has ls 2 [(0, .ref (h 0))] := hl
  unfold f_X5_wipe at hf
  refine lv_aload_n hx hb dX5_wipe_0 rfl (lv_at hl 0 rfl) ?_
  refine va_get (D := G) (ci := 5) (v := .ref (hp 0)) (C := RX5) (T := TX5) (N := 8) hx hb hts nw_X5_wipe_X5 hown hK hw.1 0 rfl rfl 4 (by decide) hL0 (fun _ h9 => h9) rfl dX5_wipe_1 ?_
  refine va_get (D := G) (ci := 0) (v := .int (P 1 0)) (C := RX0) (T := TX0) (N := 6) hx hb hts nw_X5_wipe_X0 hown hK hw.1 2 rfl rfl 1 (by decide) hL1 (fun _ h9 => h9) rfl dX5_wipe_4 ?_
  refine lv_istore_n (lv' := [(1, .int (P 1 0)), (0, .ref (h 0))]) hx hb dX5_wipe_7 rfl hl (by decide) rfl (fun ls hl => ?_)
  refine lv_aload_n hx hb dX5_wipe_8 rfl (lv_at hl 1 rfl) ?_
  refine va_get (D := G) (ci := 5) (v := .ref (hp 0)) (C := RX5) (T := TX5) (N := 8) hx hb hts nw_X5_wipe_X5 hown hK hw.1 0 rfl rfl 4 (by decide) hL0 (fun _ h9 => h9) rfl dX5_wipe_9 ?_
  refine lv_iconst (v := (0 : Int32)) hx hb dX5_wipe_12 (by decide) ?_
  refine va_put (D := G) (ci := 0) (v := .int (0 : Int32)) (ty := .int) (C := RX0) (T := TX0) (N := 6) hx hb hts nw_X5_wipe_X0 tyX0 tyX0_ok nmX0 hown hK hw.1 hw.2.1 hw.2.2 2 rfl rfl 1 (by decide) hL1 (fun _ h9 => h9) rfl (by decide +kernel) rfl rfl (Nat.le_of_ble_eq_true rfl) dX5_wipe_13 (fun H locs hP hD hS => ?_)
  have hw : cd_WS G A s.heap H locs ((pc_top cZ h ht h1 h2 hp hy hv hz K) ++ (pc_pad cI hp (cd_fld P 1 (0 : Int32)))) := ⟨hP, hD, hS⟩
  refine lv_iload_n hx hb dX5_wipe_16 rfl (lv_at hl 0 rfl) ?_
  have z : some ((P 1 0), (cd_fld P 1 (0 : Int32))) = some o := hf
  cases z
  rw [hQ]
  exact cd_reti C0 hw dX5_wipe_17
abbrev rm_X5_year : Room := { frames := 6, cells := 0, slots := 0, locals := 138 }
theorem nw_X5_year_X1 : ∀ w ∈ u_ws RX1 TX1 6, w ∈ wsX5_year := by decide +kernel
theorem nw_X5_year_X3 : ∀ w ∈ u_ws RX3 TX3 14, w ∈ wsX5_year := by decide +kernel
theorem nw_X5_year_X5 : ∀ w ∈ u_ws RX5 TX5 8, w ∈ wsX5_year := by decide +kernel
set_option maxHeartbeats 4000000 in
set_option maxRecDepth 100000 in
theorem c_X5_year (l : Launch) (G : va_G) (cI cZ : ClassId) (sa sb : Nat) (h ht h1 h2 hp hy hs hv hz : Nat → Nat) (K T Y S : Nat → Nat → Int32) (a0 : Int32) (a1 : Int32) (a2 : Int32) (o : Int32 × (Nat → Nat → Int32) × (Nat → Nat → Int32)) (hf : f_X5_year a0 a1 a2 K T Y S = some o) : cd_Ct l G cI cZ sa sb yX5_year wsX5_year rm_X5_year [.ref (h 0), .int a0, .int a1, .int a2] ((pc_top cZ h ht h1 h2 hp hy hv hz K) ++ (pc_town cI ht T) ++ (pc_play hy hs Y) ++ (pc_town cI hs S)) ((pc_top cZ h ht h1 h2 hp hy hv hz K) ++ (pc_town cI ht T) ++ (pc_play hy hs o.2.1) ++ (pc_town cI hs o.2.2)) (some (.int o.1)) := by
  refine cd_of (cc := cX5_year) (maxL := 4) (ret := (some .int)) (by decide) rfl (Nat.le_of_ble_eq_true rfl) ?_
  intro p e s m ag below meth c A ls Q C0 hl hw hQ
  have C0 : cd_CX G cI cZ sa sb p s m ag meth c cX5_year 4 (some .int) wsX5_year RX5 A := C0
  obtain ⟨⟨hx, hb, hml, hown, hts⟩, hr, hlocks, hA, hE⟩ := id C0
  have hK := hE.1
  have hL0 := hts (.fieldLink RX5 36 "CandleDebts" "play" "LCandleDebts$Play;") (by decide +kernel)
  have hL1 := hts (.fieldLink RX5 12 "CandleDebts" "town" "LCandleDebts$Town;") (by decide +kernel)
  have hL2 := hts (.fieldLink RX5 129 "CandleDebts$Play" "paid" "I") (by decide +kernel)
  have hL3 := hts (.fieldLink RX5 107 "CandleDebts$Play" "scene" "LCandleDebts$Town;") (by decide +kernel)
  have hL4 := hts (.fieldLink RX5 123 "CandleDebts$Town" "lit" "I") (by decide +kernel)
  have hl : lv_has ls 4 [(0, .ref (h 0)), (1, .int a0), (2, .int a1), (3, .int a2)] := hl
  unfold f_X5_year at hf
  refine lv_iload_n hx hb dX5_year_0 rfl (lv_at hl 1 rfl) ?_
  refine lv_iconst (v := (0 : Int32)) hx hb dX5_year_1 (by decide) ?_
  refine lv_sipush (v := (9999 : Int32)) hx hb dX5_year_2 (by decide) ?_
  obtain ⟨r1, e1, hf⟩ := cd_bind_some hf
  refine cd_callS (As := [.int a0, .int (0 : Int32), .int (9999 : Int32)]) (rest := []) C0 hw (c_X5_within l G cI cZ sa sb a0 (0 : Int32) (9999 : Int32) r1 e1) [] rfl rfl (va_cwS 3 hts gX5_year_X5_within rfl rfl rfl (by decide +kernel) ⟨Nat.le_of_ble_eq_true rfl, Nat.le_of_ble_eq_true rfl⟩) rfl hl.1 (lv_room (Nat.le_of_ble_eq_true rfl)) dX5_year_5 (fun H locs hw => ?_)
  refine lv_if_eq (tgt := 30) hx hb dX5_year_8 (by decide) (fun c2 => ?_) (fun c2 => ?_)
  · have hf := cd_ite_t c2 hf
    refine lv_bipush (v := (-2 : Int32)) hx hb dX5_year_30 (by decide) ?_
    have z : some ((-2 : Int32), Y, S) = some o := hf
    cases z
    rw [hQ]
    exact cd_reti C0 hw dX5_year_32
  · have hf := cd_ite_f c2 hf
    refine lv_iload_n hx hb dX5_year_11 rfl (lv_at hl 2 rfl) ?_
    refine lv_iconst (v := (1 : Int32)) hx hb dX5_year_12 (by decide) ?_
    refine lv_bipush (v := (99 : Int32)) hx hb dX5_year_13 (by decide) ?_
    obtain ⟨r3, e3, hf⟩ := cd_bind_some hf
    refine cd_callS (As := [.int a1, .int (1 : Int32), .int (99 : Int32)]) (rest := []) C0 hw (c_X5_within l G cI cZ sa sb a1 (1 : Int32) (99 : Int32) r3 e3) [] rfl rfl (va_cwS 3 hts gX5_year_X5_within rfl rfl rfl (by decide +kernel) ⟨Nat.le_of_ble_eq_true rfl, Nat.le_of_ble_eq_true rfl⟩) rfl hl.1 (lv_room (Nat.le_of_ble_eq_true rfl)) dX5_year_15 (fun H locs hw => ?_)
    refine lv_if_eq (tgt := 30) hx hb dX5_year_18 (by decide) (fun c4 => ?_) (fun c4 => ?_)
    · have hf := cd_ite_t c4 hf
      refine lv_bipush (v := (-2 : Int32)) hx hb dX5_year_30 (by decide) ?_
      have z : some ((-2 : Int32), Y, S) = some o := hf
      cases z
      rw [hQ]
      exact cd_reti C0 hw dX5_year_32
    · have hf := cd_ite_f c4 hf
      refine lv_iload_n hx hb dX5_year_21 rfl (lv_at hl 3 rfl) ?_
      refine lv_iconst (v := (0 : Int32)) hx hb dX5_year_22 (by decide) ?_
      refine lv_iconst (v := (2 : Int32)) hx hb dX5_year_23 (by decide) ?_
      obtain ⟨r5, e5, hf⟩ := cd_bind_some hf
      refine cd_callS (As := [.int a2, .int (0 : Int32), .int (2 : Int32)]) (rest := []) C0 hw (c_X5_within l G cI cZ sa sb a2 (0 : Int32) (2 : Int32) r5 e5) [] rfl rfl (va_cwS 3 hts gX5_year_X5_within rfl rfl rfl (by decide +kernel) ⟨Nat.le_of_ble_eq_true rfl, Nat.le_of_ble_eq_true rfl⟩) rfl hl.1 (lv_room (Nat.le_of_ble_eq_true rfl)) dX5_year_24 (fun H locs hw => ?_)
      refine lv_if_ne (tgt := 33) hx hb dX5_year_27 (by decide) (fun c6 => ?_) (fun c6 => ?_)
      · have hf := cd_ite_f c6 hf
        refine lv_aload_n hx hb dX5_year_33 rfl (lv_at hl 0 rfl) ?_
        refine va_get (D := G) (ci := 5) (v := .ref (hy 0)) (C := RX5) (T := TX5) (N := 8) hx hb hts nw_X5_year_X5 hown hK hw.1 0 rfl rfl 5 (by decide) hL0 (fun _ h9 => h9) rfl dX5_year_34 ?_
        refine lv_aload_n hx hb dX5_year_37 rfl (lv_at hl 0 rfl) ?_
        refine va_get (D := G) (ci := 5) (v := .ref (ht 0)) (C := RX5) (T := TX5) (N := 8) hx hb hts nw_X5_year_X5 hown hK hw.1 0 rfl rfl 0 (by decide) hL1 (fun _ h9 => h9) rfl dX5_year_38 ?_
        refine lv_iload_n hx hb dX5_year_41 rfl (lv_at hl 1 rfl) ?_
        refine lv_iload_n hx hb dX5_year_42 rfl (lv_at hl 2 rfl) ?_
        obtain ⟨r7, e7, hf⟩ := cd_bind_some hf
        refine cd_callVw (As := [.ref (ht 0), .int a0, .int a1]) (rest := []) (wr := (pc_top cZ h ht h1 h2 hp hy hv hz K)) (wn := (pc_top cZ h ht h1 h2 hp hy hv hz K) ++ (pc_town cI ht T) ++ (pc_play hy hs r7.1) ++ (pc_town cI hs r7.2)) C0 hw (c_X1_draws l G cI cZ sa sb hy hs ht Y S T a0 a1 r7 e7) [13, 14, 15, 16, 17, 18, 19, 20, 21, 22, 23, 24, 2, 3, 4, 5, 6, 7, 8, 9, 10, 11, 12] [0, 1] [0, 1, 14, 15, 16, 17, 18, 19, 20, 21, 22, 23, 24, 2, 3, 4, 5, 6, 7, 8, 9, 10, 11, 12, 13] rfl rfl rfl rfl (by decide) rfl rfl 0 1 rfl rfl rfl (cwV 3 hts gX5_year_X1_draws rfl rfl rfl (by decide +kernel) ⟨Nat.le_of_ble_eq_true rfl, Nat.le_of_ble_eq_true rfl⟩) rfl hl.1 (lv_room (Nat.le_of_ble_eq_true rfl)) dX5_year_43 (fun H locs hw => ?_)
        refine lv_iload_n hx hb dX5_year_46 rfl (lv_at hl 3 rfl) ?_
        by_cases c8_0 : a2 = (0 : Int32)
        · have hf := cd_ite_t c8_0 hf
          refine lv_lookup (off := 25) (tgt := 72) hx hb dX5_year_47 (by decide) (by rw [c8_0]; decide) (by decide) ?_
          refine lv_aload_n hx hb dX5_year_72 rfl (lv_at hl 0 rfl) ?_
          refine va_get (D := G) (ci := 5) (v := .ref (hy 0)) (C := RX5) (T := TX5) (N := 8) hx hb hts nw_X5_year_X5 hown hK hw.1 0 rfl rfl 5 (by decide) hL0 (fun _ h9 => h9) rfl dX5_year_73 ?_
          refine va_get (D := G) (ci := 1) (v := .int (r7.1 3 0)) (C := RX1) (T := TX1) (N := 6) hx hb hts nw_X5_year_X1 hown hK hw.1 13 rfl rfl 3 (by decide) hL2 (fun _ h9 => h9) rfl dX5_year_76 ?_
          have z : some ((r7.1 3 0), r7.1, r7.2) = some o := hf
          cases z
          rw [hQ]
          exact cd_reti C0 hw dX5_year_79
        · have hf := cd_ite_f c8_0 hf
          by_cases c8_1 : a2 = (1 : Int32)
          · have hf := cd_ite_t c8_1 hf
            refine lv_lookup (off := 33) (tgt := 80) hx hb dX5_year_47 (by decide) (by rw [c8_1]; decide) (by decide) ?_
            refine lv_aload_n hx hb dX5_year_80 rfl (lv_at hl 0 rfl) ?_
            refine va_get (D := G) (ci := 5) (v := .ref (hy 0)) (C := RX5) (T := TX5) (N := 8) hx hb hts nw_X5_year_X5 hown hK hw.1 0 rfl rfl 5 (by decide) hL0 (fun _ h9 => h9) rfl dX5_year_81 ?_
            refine va_get (D := G) (ci := 1) (v := .ref (hs 0)) (C := RX1) (T := TX1) (N := 6) hx hb hts nw_X5_year_X1 hown hK hw.1 13 rfl rfl 0 (by decide) hL3 (fun _ h9 => h9) rfl dX5_year_84 ?_
            obtain ⟨r9, e9, hf⟩ := cd_bind_some hf
            refine cd_callV (As := []) (rest := []) C0 hw (c_X3_waxOfAll l G cI cZ sa sb hs r7.2 r9 e9) [14, 15, 16, 17, 18, 19, 20, 21, 22, 23, 24] rfl rfl 0 3 rfl rfl rfl (cwV 0 hts gX5_year_X3_waxOfAll rfl rfl rfl (by decide +kernel) ⟨Nat.le_of_ble_eq_true rfl, Nat.le_of_ble_eq_true rfl⟩) rfl hl.1 (lv_room (Nat.le_of_ble_eq_true rfl)) dX5_year_87 (fun H locs hw => ?_)
            have z : some (r9, r7.1, r7.2) = some o := hf
            cases z
            rw [hQ]
            exact cd_reti C0 hw dX5_year_90
          · have hf := cd_ite_f c8_1 hf
            refine lv_lookup (off := 44) (tgt := 91) hx hb dX5_year_47 (by decide) (by have q0 : a2.toInt ≠ 0 := cd_ne c8_0; have q1 : a2.toInt ≠ 1 := cd_ne c8_1; simp [Op.lookupswitch.offset, q0, q1]) (by decide) ?_
            refine lv_aload_n hx hb dX5_year_91 rfl (lv_at hl 0 rfl) ?_
            refine va_get (D := G) (ci := 5) (v := .ref (hy 0)) (C := RX5) (T := TX5) (N := 8) hx hb hts nw_X5_year_X5 hown hK hw.1 0 rfl rfl 5 (by decide) hL0 (fun _ h9 => h9) rfl dX5_year_92 ?_
            refine va_get (D := G) (ci := 1) (v := .ref (hs 0)) (C := RX1) (T := TX1) (N := 6) hx hb hts nw_X5_year_X1 hown hK hw.1 13 rfl rfl 0 (by decide) hL3 (fun _ h9 => h9) rfl dX5_year_95 ?_
            refine va_get (D := G) (ci := 3) (v := .int (r7.2 11 0)) (C := RX3) (T := TX3) (N := 14) hx hb hts nw_X5_year_X3 hown hK hw.1 14 rfl rfl 11 (by decide) hL4 (fun _ h9 => h9) rfl dX5_year_98 ?_
            obtain ⟨r10, e10, hf⟩ := cd_bind_some hf
            refine cd_callS (As := [.int (r7.2 11 0)]) (rest := []) C0 hw (c_J6_bitCount l G cI cZ sa sb (r7.2 11 0) r10 e10) [] rfl rfl (va_cwS 1 hts gX5_year_J6_bitCount_0f7a4 rfl rfl rfl (by decide +kernel) ⟨Nat.le_of_ble_eq_true rfl, Nat.le_of_ble_eq_true rfl⟩) rfl hl.1 (lv_room (Nat.le_of_ble_eq_true rfl)) dX5_year_101 (fun H locs hw => ?_)
            have z : some (r10, r7.1, r7.2) = some o := hf
            cases z
            rw [hQ]
            exact cd_reti C0 hw dX5_year_104
      · have hf := cd_ite_t c6 hf
        refine lv_bipush (v := (-2 : Int32)) hx hb dX5_year_30 (by decide) ?_
        have z : some ((-2 : Int32), Y, S) = some o := hf
        cases z
        rw [hQ]
        exact cd_reti C0 hw dX5_year_32
