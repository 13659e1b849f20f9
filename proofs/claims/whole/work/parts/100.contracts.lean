abbrev rm_J6_bitCount : Room := { frames := 0, cells := 0, slots := 0, locals := 0 }
set_option maxHeartbeats 4000000 in
set_option maxRecDepth 100000 in
theorem c_J6_bitCount (l : Launch) (G : va_G) (cI cZ : ClassId) (sa sb : Nat) (a0 : Int32) (o : Int32) (hf : f_J6_bitCount a0 = some o) : cd_Ct l G cI cZ sa sb yJ6_bitCount_0f7a4 wsJ6_bitCount_0f7a4 rm_J6_bitCount [.int a0] (([] : va_W)) (([] : va_W)) (some (.int o)) := by
  refine cd_of (cc := cJ6_bitCount_0f7a4) (maxL := 1) (ret := (some .int)) (by decide) rfl (Nat.le_of_ble_eq_true rfl) ?_
  intro p e s m ag below meth c A ls Q C0 hl hw hQ
  have C0 : cd_CX G cI cZ sa sb p s m ag meth c cJ6_bitCount_0f7a4 1 (some .int) wsJ6_bitCount_0f7a4 RJ6 A := C0
  obtain ⟨⟨hx, hb, hml, hown, hts⟩, hr, hlocks, hA, hE⟩ := id C0
  have hK := hE.1
  have hL0 := hts (.constant RJ6 265 (1431655765)) (by decide +kernel)
  have hL1 := hts (.constant RJ6 266 (858993459)) (by decide +kernel)
  have hL2 := hts (.constant RJ6 267 (252645135)) (by decide +kernel)
  have hl : lv_has ls 1 [(0, .int a0)] := hl
  unfold f_J6_bitCount at hf
  refine lv_iload_n hx hb dJ6_bitCount_0f7a4_0 rfl (lv_at hl 0 rfl) ?_
  refine lv_iload_n hx hb dJ6_bitCount_0f7a4_1 rfl (lv_at hl 0 rfl) ?_
  refine lv_iconst (v := (1 : Int32)) hx hb dJ6_bitCount_0f7a4_2 (by decide) ?_
  refine cd_iushr hx hb dJ6_bitCount_0f7a4_3 ?_
  refine lv_ldcw (v := (1431655765 : Int32)) hx hb hown hL0 dJ6_bitCount_0f7a4_4 ?_
  refine lv_iand hx hb dJ6_bitCount_0f7a4_7 ?_
  refine lv_isub hx hb dJ6_bitCount_0f7a4_8 ?_
  refine lv_istore_n (lv' := [(0, .int (a0 - ((cd_ushr a0 (1 : Int32)) &&& (1431655765 : Int32))))]) hx hb dJ6_bitCount_0f7a4_9 rfl hl (by decide) rfl (fun ls hl => ?_)
  refine lv_iload_n hx hb dJ6_bitCount_0f7a4_10 rfl (lv_at hl 0 rfl) ?_
  refine lv_ldcw (v := (858993459 : Int32)) hx hb hown hL1 dJ6_bitCount_0f7a4_11 ?_
  refine lv_iand hx hb dJ6_bitCount_0f7a4_14 ?_
  refine lv_iload_n hx hb dJ6_bitCount_0f7a4_15 rfl (lv_at hl 0 rfl) ?_
  refine lv_iconst (v := (2 : Int32)) hx hb dJ6_bitCount_0f7a4_16 (by decide) ?_
  refine cd_iushr hx hb dJ6_bitCount_0f7a4_17 ?_
  refine lv_ldcw (v := (858993459 : Int32)) hx hb hown hL1 dJ6_bitCount_0f7a4_18 ?_
  refine lv_iand hx hb dJ6_bitCount_0f7a4_21 ?_
  refine lv_iadd hx hb dJ6_bitCount_0f7a4_22 ?_
  refine lv_istore_n (lv' := [(0, .int (((a0 - ((cd_ushr a0 (1 : Int32)) &&& (1431655765 : Int32))) &&& (858993459 : Int32)) + ((cd_ushr (a0 - ((cd_ushr a0 (1 : Int32)) &&& (1431655765 : Int32))) (2 : Int32)) &&& (858993459 : Int32))))]) hx hb dJ6_bitCount_0f7a4_23 rfl hl (by decide) rfl (fun ls hl => ?_)
  refine lv_iload_n hx hb dJ6_bitCount_0f7a4_24 rfl (lv_at hl 0 rfl) ?_
  refine lv_iload_n hx hb dJ6_bitCount_0f7a4_25 rfl (lv_at hl 0 rfl) ?_
  refine lv_iconst (v := (4 : Int32)) hx hb dJ6_bitCount_0f7a4_26 (by decide) ?_
  refine cd_iushr hx hb dJ6_bitCount_0f7a4_27 ?_
  refine lv_iadd hx hb dJ6_bitCount_0f7a4_28 ?_
  refine lv_ldcw (v := (252645135 : Int32)) hx hb hown hL2 dJ6_bitCount_0f7a4_29 ?_
  refine lv_iand hx hb dJ6_bitCount_0f7a4_32 ?_
  refine lv_istore_n (lv' := [(0, .int (((((a0 - ((cd_ushr a0 (1 : Int32)) &&& (1431655765 : Int32))) &&& (858993459 : Int32)) + ((cd_ushr (a0 - ((cd_ushr a0 (1 : Int32)) &&& (1431655765 : Int32))) (2 : Int32)) &&& (858993459 : Int32))) + (cd_ushr (((a0 - ((cd_ushr a0 (1 : Int32)) &&& (1431655765 : Int32))) &&& (858993459 : Int32)) + ((cd_ushr (a0 - ((cd_ushr a0 (1 : Int32)) &&& (1431655765 : Int32))) (2 : Int32)) &&& (858993459 : Int32))) (4 : Int32))) &&& (252645135 : Int32)))]) hx hb dJ6_bitCount_0f7a4_33 rfl hl (by decide) rfl (fun ls hl => ?_)
  refine lv_iload_n hx hb dJ6_bitCount_0f7a4_34 rfl (lv_at hl 0 rfl) ?_
  refine lv_iload_n hx hb dJ6_bitCount_0f7a4_35 rfl (lv_at hl 0 rfl) ?_
  refine lv_bipush (v := (8 : Int32)) hx hb dJ6_bitCount_0f7a4_36 (by decide) ?_
  refine cd_iushr hx hb dJ6_bitCount_0f7a4_38 ?_
  refine lv_iadd hx hb dJ6_bitCount_0f7a4_39 ?_
  refine lv_istore_n (lv' := [(0, .int ((((((a0 - ((cd_ushr a0 (1 : Int32)) &&& (1431655765 : Int32))) &&& (858993459 : Int32)) + ((cd_ushr (a0 - ((cd_ushr a0 (1 : Int32)) &&& (1431655765 : Int32))) (2 : Int32)) &&& (858993459 : Int32))) + (cd_ushr (((a0 - ((cd_ushr a0 (1 : Int32)) &&& (1431655765 : Int32))) &&& (858993459 : Int32)) + ((cd_ushr (a0 - ((cd_ushr a0 (1 : Int32)) &&& (1431655765 : Int32))) (2 : Int32)) &&& (858993459 : Int32))) (4 : Int32))) &&& (252645135 : Int32)) + (cd_ushr (((((a0 - ((cd_ushr a0 (1 : Int32)) &&& (1431655765 : Int32))) &&& (858993459 : Int32)) + ((cd_ushr (a0 - ((cd_ushr a0 (1 : Int32)) &&& (1431655765 : Int32))) (2 : Int32)) &&& (858993459 : Int32))) + (cd_ushr (((a0 - ((cd_ushr a0 (1 : Int32)) &&& (1431655765 : Int32))) &&& (858993459 : Int32)) + ((cd_ushr (a0 - ((cd_ushr a0 (1 : Int32)) &&& (1431655765 : Int32))) (2 : Int32)) &&& (858993459 : Int32))) (4 : Int32))) &&& (252645135 : Int32)) (8 : Int32))))]) hx hb dJ6_bitCount_0f7a4_40 rfl hl (by decide) rfl (fun ls hl => ?_)
  refine lv_iload_n hx hb dJ6_bitCount_0f7a4_41 rfl (lv_at hl 0 rfl) ?_
  refine lv_iload_n hx hb dJ6_bitCount_0f7a4_42 rfl (lv_at hl 0 rfl) ?_
  refine lv_bipush (v := (16 : Int32)) hx hb dJ6_bitCount_0f7a4_43 (by decide) ?_
  refine cd_iushr hx hb dJ6_bitCount_0f7a4_45 ?_
  refine lv_iadd hx hb dJ6_bitCount_0f7a4_46 ?_
  refine lv_istore_n (lv' := [(0, .int (((((((a0 - ((cd_ushr a0 (1 : Int32)) &&& (1431655765 : Int32))) &&& (858993459 : Int32)) + ((cd_ushr (a0 - ((cd_ushr a0 (1 : Int32)) &&& (1431655765 : Int32))) (2 : Int32)) &&& (858993459 : Int32))) + (cd_ushr (((a0 - ((cd_ushr a0 (1 : Int32)) &&& (1431655765 : Int32))) &&& (858993459 : Int32)) + ((cd_ushr (a0 - ((cd_ushr a0 (1 : Int32)) &&& (1431655765 : Int32))) (2 : Int32)) &&& (858993459 : Int32))) (4 : Int32))) &&& (252645135 : Int32)) + (cd_ushr (((((a0 - ((cd_ushr a0 (1 : Int32)) &&& (1431655765 : Int32))) &&& (858993459 : Int32)) + ((cd_ushr (a0 - ((cd_ushr a0 (1 : Int32)) &&& (1431655765 : Int32))) (2 : Int32)) &&& (858993459 : Int32))) + (cd_ushr (((a0 - ((cd_ushr a0 (1 : Int32)) &&& (1431655765 : Int32))) &&& (858993459 : Int32)) + ((cd_ushr (a0 - ((cd_ushr a0 (1 : Int32)) &&& (1431655765 : Int32))) (2 : Int32)) &&& (858993459 : Int32))) (4 : Int32))) &&& (252645135 : Int32)) (8 : Int32))) + (cd_ushr ((((((a0 - ((cd_ushr a0 (1 : Int32)) &&& (1431655765 : Int32))) &&& (858993459 : Int32)) + ((cd_ushr (a0 - ((cd_ushr a0 (1 : Int32)) &&& (1431655765 : Int32))) (2 : Int32)) &&& (858993459 : Int32))) + (cd_ushr (((a0 - ((cd_ushr a0 (1 : Int32)) &&& (1431655765 : Int32))) &&& (858993459 : Int32)) + ((cd_ushr (a0 - ((cd_ushr a0 (1 : Int32)) &&& (1431655765 : Int32))) (2 : Int32)) &&& (858993459 : Int32))) (4 : Int32))) &&& (252645135 : Int32)) + (cd_ushr (((((a0 - ((cd_ushr a0 (1 : Int32)) &&& (1431655765 : Int32))) &&& (858993459 : Int32)) + ((cd_ushr (a0 - ((cd_ushr a0 (1 : Int32)) &&& (1431655765 : Int32))) (2 : Int32)) &&& (858993459 : Int32))) + (cd_ushr (((a0 - ((cd_ushr a0 (1 : Int32)) &&& (1431655765 : Int32))) &&& (858993459 : Int32)) + ((cd_ushr (a0 - ((cd_ushr a0 (1 : Int32)) &&& (1431655765 : Int32))) (2 : Int32)) &&& (858993459 : Int32))) (4 : Int32))) &&& (252645135 : Int32)) (8 : Int32))) (16 : Int32))))]) hx hb dJ6_bitCount_0f7a4_47 rfl hl (by decide) rfl (fun ls hl => ?_)
  refine lv_iload_n hx hb dJ6_bitCount_0f7a4_48 rfl (lv_at hl 0 rfl) ?_
  refine lv_bipush (v := (63 : Int32)) hx hb dJ6_bitCount_0f7a4_49 (by decide) ?_
  refine lv_iand hx hb dJ6_bitCount_0f7a4_51 ?_
  have z : some ((((((((a0 - ((cd_ushr a0 (1 : Int32)) &&& (1431655765 : Int32))) &&& (858993459 : Int32)) + ((cd_ushr (a0 - ((cd_ushr a0 (1 : Int32)) &&& (1431655765 : Int32))) (2 : Int32)) &&& (858993459 : Int32))) + (cd_ushr (((a0 - ((cd_ushr a0 (1 : Int32)) &&& (1431655765 : Int32))) &&& (858993459 : Int32)) + ((cd_ushr (a0 - ((cd_ushr a0 (1 : Int32)) &&& (1431655765 : Int32))) (2 : Int32)) &&& (858993459 : Int32))) (4 : Int32))) &&& (252645135 : Int32)) + (cd_ushr (((((a0 - ((cd_ushr a0 (1 : Int32)) &&& (1431655765 : Int32))) &&& (858993459 : Int32)) + ((cd_ushr (a0 - ((cd_ushr a0 (1 : Int32)) &&& (1431655765 : Int32))) (2 : Int32)) &&& (858993459 : Int32))) + (cd_ushr (((a0 - ((cd_ushr a0 (1 : Int32)) &&& (1431655765 : Int32))) &&& (858993459 : Int32)) + ((cd_ushr (a0 - ((cd_ushr a0 (1 : Int32)) &&& (1431655765 : Int32))) (2 : Int32)) &&& (858993459 : Int32))) (4 : Int32))) &&& (252645135 : Int32)) (8 : Int32))) + (cd_ushr ((((((a0 - ((cd_ushr a0 (1 : Int32)) &&& (1431655765 : Int32))) &&& (858993459 : Int32)) + ((cd_ushr (a0 - ((cd_ushr a0 (1 : Int32)) &&& (1431655765 : Int32))) (2 : Int32)) &&& (858993459 : Int32))) + (cd_ushr (((a0 - ((cd_ushr a0 (1 : Int32)) &&& (1431655765 : Int32))) &&& (858993459 : Int32)) + ((cd_ushr (a0 - ((cd_ushr a0 (1 : Int32)) &&& (1431655765 : Int32))) (2 : Int32)) &&& (858993459 : Int32))) (4 : Int32))) &&& (252645135 : Int32)) + (cd_ushr (((((a0 - ((cd_ushr a0 (1 : Int32)) &&& (1431655765 : Int32))) &&& (858993459 : Int32)) + ((cd_ushr (a0 - ((cd_ushr a0 (1 : Int32)) &&& (1431655765 : Int32))) (2 : Int32)) &&& (858993459 : Int32))) + (cd_ushr (((a0 - ((cd_ushr a0 (1 : Int32)) &&& (1431655765 : Int32))) &&& (858993459 : Int32)) + ((cd_ushr (a0 - ((cd_ushr a0 (1 : Int32)) &&& (1431655765 : Int32))) (2 : Int32)) &&& (858993459 : Int32))) (4 : Int32))) &&& (252645135 : Int32)) (8 : Int32))) (16 : Int32))) &&& (63 : Int32)) = some o := hf
  cases z
  rw [hQ]
  exact cd_reti C0 hw dJ6_bitCount_0f7a4_52
abbrev rm_X0_signAt : Room := { frames := 0, cells := 0, slots := 0, locals := 0 }
theorem nw_X0_signAt_X0 : ∀ w ∈ u_ws RX0 TX0 6, w ∈ wsX0_signAt := by decide +kernel
set_option maxHeartbeats 4000000 in
set_option maxRecDepth 100000 in
theorem c_X0_signAt (l : Launch) (G : va_G) (cI cZ : ClassId) (sa sb : Nat) (h : Nat → Nat) (P : Nat → Nat → Int32) (a0 : Int32) (o : Int32) (hf : f_X0_signAt a0 P = some o) : cd_Ct l G cI cZ sa sb yX0_signAt wsX0_signAt rm_X0_signAt [.ref (h 0), .int a0] ((pc_pad cI h P)) ((pc_pad cI h P)) (some (.int o)) := by
  refine cd_of (cc := cX0_signAt) (maxL := 2) (ret := (some .int)) (by decide) rfl (Nat.le_of_ble_eq_true rfl) ?_
  intro p e s m ag below meth c A ls Q C0 hl hw hQ
  have C0 : cd_CX G cI cZ sa sb p s m ag meth c cX0_signAt 2 (some .int) wsX0_signAt RX0 A := C0
  obtain ⟨⟨hx, hb, hml, hown, hts⟩, hr, hlocks, hA, hE⟩ := id C0
  have hK := hE.1
  have hL0 := hts (.fieldLink RX0 15 "CandleDebts$Pad" "count" "I") (by decide +kernel)
  have hL1 := hts (.fieldLink RX0 9 "CandleDebts$Pad" "signs" "[I") (by decide +kernel)
  have hl : lv_has ls 2 [(0, .ref (h 0)), (1, .int a0)] := hl
  unfold f_X0_signAt at hf
  refine lv_iload_n hx hb dX0_signAt_0 rfl (lv_at hl 1 rfl) ?_
  obtain ⟨x1, e1, hf⟩ := cd_bind_some hf
  have K1 : ∀ (ls : Array Slot) (H : Heap) (locs : List Loc), lv_has ls 2 [] → cd_WS G A s.heap H locs ((pc_pad cI h P)) → W p l e rm_X0_signAt s m ag below meth c H locs 0 0 Q (F0 m 28 ls [.int x1]) := by
    intro ls H locs hl hw
    have z : some x1 = some o := hf
    cases z
    rw [hQ]
    exact cd_reti C0 hw dX0_signAt_28
  refine lv_if_lt (tgt := 27) hx hb dX0_signAt_1 (by decide) (fun c1 => ?_) (fun c1 => ?_)
  · have e1 := cd_ite_t c1 e1
    refine lv_iconst (v := (-1 : Int32)) hx hb dX0_signAt_27 (by decide) ?_
    have z : some (-1 : Int32) = some x1 := e1
    cases z
    exact K1 _ _ _ (lv_sub hl [] rfl) hw
  · have e1 := cd_ite_f c1 e1
    refine lv_iload_n hx hb dX0_signAt_4 rfl (lv_at hl 1 rfl) ?_
    refine lv_aload_n hx hb dX0_signAt_5 rfl (lv_at hl 0 rfl) ?_
    refine va_get (D := G) (ci := 0) (v := .int (P 1 0)) (C := RX0) (T := TX0) (N := 6) hx hb hts nw_X0_signAt_X0 hown hK hw.1 0 rfl rfl 1 (by decide) hL0 (fun _ h9 => h9) rfl dX0_signAt_6 ?_
    refine lv_icmp_ge (tgt := 27) hx hb dX0_signAt_9 (by decide) (fun c2 => ?_) (fun c2 => ?_)
    · have e1 := cd_ite_t c2 e1
      refine lv_iconst (v := (-1 : Int32)) hx hb dX0_signAt_27 (by decide) ?_
      have z : some (-1 : Int32) = some x1 := e1
      cases z
      exact K1 _ _ _ (lv_sub hl [] rfl) hw
    · have e1 := cd_ite_f c2 e1
      refine lv_iload_n hx hb dX0_signAt_12 rfl (lv_at hl 1 rfl) ?_
      refine lv_bipush (v := (60 : Int32)) hx hb dX0_signAt_13 (by decide) ?_
      refine lv_icmp_ge (tgt := 27) hx hb dX0_signAt_15 (by decide) (fun c3 => ?_) (fun c3 => ?_)
      · have e1 := cd_ite_t c3 e1
        refine lv_iconst (v := (-1 : Int32)) hx hb dX0_signAt_27 (by decide) ?_
        have z : some (-1 : Int32) = some x1 := e1
        cases z
        exact K1 _ _ _ (lv_sub hl [] rfl) hw
      · have e1 := cd_ite_f c3 e1
        refine lv_aload_n hx hb dX0_signAt_18 rfl (lv_at hl 0 rfl) ?_
        refine va_get (D := G) (ci := 0) (v := .ref (h 1)) (C := RX0) (T := TX0) (N := 6) hx hb hts nw_X0_signAt_X0 hown hK hw.1 0 rfl rfl 0 (by decide) hL1 (fun _ h9 => h9) rfl dX0_signAt_19 ?_
        refine lv_iload_n hx hb dX0_signAt_22 rfl (lv_at hl 1 rfl) ?_
        obtain ⟨v4, e4, e1⟩ := cd_bind_some e1
        refine cd_iald hx hb hK hw 1 rfl e4 dX0_signAt_23 ?_
        refine lv_goto (tgt := 28) hx hb dX0_signAt_24 (by decide) ?_
        have z : some v4 = some x1 := e1
        cases z
        exact K1 _ _ _ (lv_sub hl [] rfl) hw
abbrev rm_X5_within : Room := { frames := 0, cells := 0, slots := 0, locals := 0 }
set_option maxHeartbeats 4000000 in
set_option maxRecDepth 100000 in
theorem c_X5_within (l : Launch) (G : va_G) (cI cZ : ClassId) (sa sb : Nat) (a0 : Int32) (a1 : Int32) (a2 : Int32) (o : Int32) (hf : f_X5_within a0 a1 a2 = some o) : cd_Ct l G cI cZ sa sb yX5_within wsX5_within rm_X5_within [.int a0, .int a1, .int a2] (([] : va_W)) (([] : va_W)) (some (.int o)) := by
  refine cd_of (cc := cX5_within) (maxL := 3) (ret := (some .boolean)) (by decide) rfl (Nat.le_of_ble_eq_true rfl) ?_
  intro p e s m ag below meth c A ls Q C0 hl hw hQ
  have C0 : cd_CX G cI cZ sa sb p s m ag meth c cX5_within 3 (some .boolean) wsX5_within RX5 A := C0
  obtain ⟨⟨hx, hb, hml, hown, hts⟩, hr, hlocks, hA, hE⟩ := id C0
  have hK := hE.1
  have hl : lv_has ls 3 [(0, .int a0), (1, .int a1), (2, .int a2)] := hl
  unfold f_X5_within at hf
  refine lv_iload_n hx hb dX5_within_0 rfl (lv_at hl 0 rfl) ?_
  refine lv_iload_n hx hb dX5_within_1 rfl (lv_at hl 1 rfl) ?_
  obtain ⟨x1, e1, hf⟩ := cd_bind_some hf
  have K1 : ∀ (ls : Array Slot) (H : Heap) (locs : List Loc), lv_has ls 3 [] → cd_WS G A s.heap H locs (([] : va_W)) → W p l e rm_X5_within s m ag below meth c H locs 0 0 Q (F0 m 15 ls [.int x1]) := by
    intro ls H locs hl hw
    obtain ⟨u2, e2, hf⟩ := cd_bind_some hf
    have z : some x1 = some o := hf
    cases z
    rw [hQ]
    exact cd_retz C0 hw (cd_zb_eq e2) dX5_within_15
  refine lv_icmp_lt (tgt := 14) hx hb dX5_within_2 (by decide) (fun c1 => ?_) (fun c1 => ?_)
  · have e1 := cd_ite_t c1 e1
    refine lv_iconst (v := (0 : Int32)) hx hb dX5_within_14 (by decide) ?_
    have z : some (0 : Int32) = some x1 := e1
    cases z
    exact K1 _ _ _ (lv_sub hl [] rfl) hw
  · have e1 := cd_ite_f c1 e1
    refine lv_iload_n hx hb dX5_within_5 rfl (lv_at hl 0 rfl) ?_
    refine lv_iload_n hx hb dX5_within_6 rfl (lv_at hl 2 rfl) ?_
    refine lv_icmp_gt (tgt := 14) hx hb dX5_within_7 (by decide) (fun c3 => ?_) (fun c3 => ?_)
    · have e1 := cd_ite_t c3 e1
      refine lv_iconst (v := (0 : Int32)) hx hb dX5_within_14 (by decide) ?_
      have z : some (0 : Int32) = some x1 := e1
      cases z
      exact K1 _ _ _ (lv_sub hl [] rfl) hw
    · have e1 := cd_ite_f c3 e1
      refine lv_iconst (v := (1 : Int32)) hx hb dX5_within_10 (by decide) ?_
      refine lv_goto (tgt := 15) hx hb dX5_within_11 (by decide) ?_
      have z : some (1 : Int32) = some x1 := e1
      cases z
      exact K1 _ _ _ (lv_sub hl [] rfl) hw
abbrev rm_X0_digitAt : Room := { frames := 1, cells := 0, slots := 0, locals := 22 }
set_option maxHeartbeats 4000000 in
set_option maxRecDepth 100000 in
theorem c_X0_digitAt (l : Launch) (G : va_G) (cI cZ : ClassId) (sa sb : Nat) (h : Nat → Nat) (P : Nat → Nat → Int32) (a0 : Int32) (o : Int32) (hf : f_X0_digitAt a0 P = some o) : cd_Ct l G cI cZ sa sb yX0_digitAt wsX0_digitAt rm_X0_digitAt [.ref (h 0), .int a0] ((pc_pad cI h P)) ((pc_pad cI h P)) (some (.int o)) := by
  refine cd_of (cc := cX0_digitAt) (maxL := 3) (ret := (some .int)) (by decide) rfl (Nat.le_of_ble_eq_true rfl) ?_
  intro p e s m ag below meth c A ls Q C0 hl hw hQ
  have C0 : cd_CX G cI cZ sa sb p s m ag meth c cX0_digitAt 3 (some .int) wsX0_digitAt RX0 A := C0
  obtain ⟨⟨hx, hb, hml, hown, hts⟩, hr, hlocks, hA, hE⟩ := id C0
  have hK := hE.1
  have hL0 := hts (.initialized RX5) (by decide +kernel)
  have hL1 := hts (.static yX5_within) (by decide +kernel)
  have hl : lv_has ls 3 [(0, .ref (h 0)), (1, .int a0)] := hl
  unfold f_X0_digitAt at hf
  refine lv_aload_n hx hb dX0_digitAt_0 rfl (lv_at hl 0 rfl) ?_
  refine lv_iload_n hx hb dX0_digitAt_1 rfl (lv_at hl 1 rfl) ?_
  obtain ⟨r1, e1, hf⟩ := cd_bind_some hf
  refine cd_callV (As := [.int a0]) (rest := []) C0 hw (c_X0_signAt l G cI cZ sa sb h P a0 r1 e1) [0, 1] rfl rfl 0 0 rfl rfl rfl (cwV 1 hts gX0_digitAt_X0_signAt rfl rfl rfl (by decide +kernel) ⟨Nat.le_of_ble_eq_true rfl, Nat.le_of_ble_eq_true rfl⟩) rfl hl.1 (lv_room (Nat.le_of_ble_eq_true rfl)) dX0_digitAt_2 (fun H locs hw => ?_)
  refine lv_istore_n (lv' := [(2, .int r1), (0, .ref (h 0)), (1, .int a0)]) hx hb dX0_digitAt_5 rfl hl (by decide) rfl (fun ls hl => ?_)
  refine lv_iload_n hx hb dX0_digitAt_6 rfl (lv_at hl 0 rfl) ?_
  refine lv_bipush (v := (48 : Int32)) hx hb dX0_digitAt_7 (by decide) ?_
  refine lv_bipush (v := (57 : Int32)) hx hb dX0_digitAt_9 (by decide) ?_
  obtain ⟨r2, e2, hf⟩ := cd_bind_some hf
  refine cd_callSN (As := [.int r1, .int (48 : Int32), .int (57 : Int32)]) (rest := []) C0 hw (c_X5_within l G cI cZ sa sb r1 (48 : Int32) (57 : Int32) r2 e2) [] rfl rfl ⟨va_cnB 3 hts ggX0_digitAt_X5_within rfl rfl rfl (hE.2.1 (.methodLinkNest RX0 50 yX5_within RX5) (by simp [cd_nest])) hL0 (by decide +kernel) ⟨Nat.le_of_ble_eq_true rfl, Nat.le_of_ble_eq_true rfl⟩, hL1, trivial⟩ rfl hl.1 (lv_room (Nat.le_of_ble_eq_true rfl)) dX0_digitAt_11 (fun H locs hw => ?_)
  obtain ⟨x3, e3, hf⟩ := cd_bind_some hf
  have K3 : ∀ (ls : Array Slot) (H : Heap) (locs : List Loc), lv_has ls 3 [] → cd_WS G A s.heap H locs ((pc_pad cI h P)) → W p l e rm_X0_digitAt s m ag below meth c H locs 0 0 Q (F0 m 25 ls [.int x3]) := by
    intro ls H locs hl hw
    have z : some x3 = some o := hf
    cases z
    rw [hQ]
    exact cd_reti C0 hw dX0_digitAt_25
  refine lv_if_eq (tgt := 24) hx hb dX0_digitAt_14 (by decide) (fun c3 => ?_) (fun c3 => ?_)
  · have e3 := cd_ite_t c3 e3
    refine lv_iconst (v := (-1 : Int32)) hx hb dX0_digitAt_24 (by decide) ?_
    have z : some (-1 : Int32) = some x3 := e3
    cases z
    exact K3 _ _ _ (lv_sub hl [] rfl) hw
  · have e3 := cd_ite_f c3 e3
    refine lv_iload_n hx hb dX0_digitAt_17 rfl (lv_at hl 0 rfl) ?_
    refine lv_bipush (v := (48 : Int32)) hx hb dX0_digitAt_18 (by decide) ?_
    refine lv_isub hx hb dX0_digitAt_20 ?_
    refine lv_goto (tgt := 25) hx hb dX0_digitAt_21 (by decide) ?_
    have z : some (r1 - (48 : Int32)) = some x3 := e3
    cases z
    exact K3 _ _ _ (lv_sub hl [] rfl) hw
abbrev rm_X0_letterAt : Room := { frames := 1, cells := 0, slots := 0, locals := 22 }
set_option maxHeartbeats 4000000 in
set_option maxRecDepth 100000 in
theorem c_X0_letterAt (l : Launch) (G : va_G) (cI cZ : ClassId) (sa sb : Nat) (h : Nat → Nat) (P : Nat → Nat → Int32) (a0 : Int32) (o : Int32) (hf : f_X0_letterAt a0 P = some o) : cd_Ct l G cI cZ sa sb yX0_letterAt wsX0_letterAt rm_X0_letterAt [.ref (h 0), .int a0] ((pc_pad cI h P)) ((pc_pad cI h P)) (some (.int o)) := by
  refine cd_of (cc := cX0_letterAt) (maxL := 3) (ret := (some .int)) (by decide) rfl (Nat.le_of_ble_eq_true rfl) ?_
  intro p e s m ag below meth c A ls Q C0 hl hw hQ
  have C0 : cd_CX G cI cZ sa sb p s m ag meth c cX0_letterAt 3 (some .int) wsX0_letterAt RX0 A := C0
  obtain ⟨⟨hx, hb, hml, hown, hts⟩, hr, hlocks, hA, hE⟩ := id C0
  have hK := hE.1
  have hL0 := hts (.initialized RX5) (by decide +kernel)
  have hL1 := hts (.static yX5_within) (by decide +kernel)
  have hl : lv_has ls 3 [(0, .ref (h 0)), (1, .int a0)] := hl
  unfold f_X0_letterAt at hf
  refine lv_aload_n hx hb dX0_letterAt_0 rfl (lv_at hl 0 rfl) ?_
  refine lv_iload_n hx hb dX0_letterAt_1 rfl (lv_at hl 1 rfl) ?_
  obtain ⟨r1, e1, hf⟩ := cd_bind_some hf
  refine cd_callV (As := [.int a0]) (rest := []) C0 hw (c_X0_signAt l G cI cZ sa sb h P a0 r1 e1) [0, 1] rfl rfl 0 0 rfl rfl rfl (cwV 1 hts gX0_letterAt_X0_signAt rfl rfl rfl (by decide +kernel) ⟨Nat.le_of_ble_eq_true rfl, Nat.le_of_ble_eq_true rfl⟩) rfl hl.1 (lv_room (Nat.le_of_ble_eq_true rfl)) dX0_letterAt_2 (fun H locs hw => ?_)
  refine lv_istore_n (lv' := [(2, .int r1), (0, .ref (h 0)), (1, .int a0)]) hx hb dX0_letterAt_5 rfl hl (by decide) rfl (fun ls hl => ?_)
  refine lv_iload_n hx hb dX0_letterAt_6 rfl (lv_at hl 0 rfl) ?_
  refine lv_bipush (v := (97 : Int32)) hx hb dX0_letterAt_7 (by decide) ?_
  refine lv_bipush (v := (108 : Int32)) hx hb dX0_letterAt_9 (by decide) ?_
  obtain ⟨r2, e2, hf⟩ := cd_bind_some hf
  refine cd_callSN (As := [.int r1, .int (97 : Int32), .int (108 : Int32)]) (rest := []) C0 hw (c_X5_within l G cI cZ sa sb r1 (97 : Int32) (108 : Int32) r2 e2) [] rfl rfl ⟨va_cnB 3 hts ggX0_letterAt_X5_within rfl rfl rfl (hE.2.1 (.methodLinkNest RX0 50 yX5_within RX5) (by simp [cd_nest])) hL0 (by decide +kernel) ⟨Nat.le_of_ble_eq_true rfl, Nat.le_of_ble_eq_true rfl⟩, hL1, trivial⟩ rfl hl.1 (lv_room (Nat.le_of_ble_eq_true rfl)) dX0_letterAt_11 (fun H locs hw => ?_)
  obtain ⟨x3, e3, hf⟩ := cd_bind_some hf
  have K3 : ∀ (ls : Array Slot) (H : Heap) (locs : List Loc), lv_has ls 3 [] → cd_WS G A s.heap H locs ((pc_pad cI h P)) → W p l e rm_X0_letterAt s m ag below meth c H locs 0 0 Q (F0 m 25 ls [.int x3]) := by
    intro ls H locs hl hw
    have z : some x3 = some o := hf
    cases z
    rw [hQ]
    exact cd_reti C0 hw dX0_letterAt_25
  refine lv_if_eq (tgt := 24) hx hb dX0_letterAt_14 (by decide) (fun c3 => ?_) (fun c3 => ?_)
  · have e3 := cd_ite_t c3 e3
    refine lv_iconst (v := (-1 : Int32)) hx hb dX0_letterAt_24 (by decide) ?_
    have z : some (-1 : Int32) = some x3 := e3
    cases z
    exact K3 _ _ _ (lv_sub hl [] rfl) hw
  · have e3 := cd_ite_f c3 e3
    refine lv_iload_n hx hb dX0_letterAt_17 rfl (lv_at hl 0 rfl) ?_
    refine lv_bipush (v := (97 : Int32)) hx hb dX0_letterAt_18 (by decide) ?_
    refine lv_isub hx hb dX0_letterAt_20 ?_
    refine lv_goto (tgt := 25) hx hb dX0_letterAt_21 (by decide) ?_
    have z : some (r1 - (97 : Int32)) = some x3 := e3
    cases z
    exact K3 _ _ _ (lv_sub hl [] rfl) hw
abbrev rm_X0_readDraught : Room := { frames := 2, cells := 0, slots := 0, locals := 44 }
theorem nw_X0_readDraught_X0 : ∀ w ∈ u_ws RX0 TX0 6, w ∈ wsX0_readDraught := by decide +kernel
set_option maxHeartbeats 4000000 in
set_option maxRecDepth 100000 in
theorem c_X0_readDraught (l : Launch) (G : va_G) (cI cZ : ClassId) (sa sb : Nat) (h : Nat → Nat) (P : Nat → Nat → Int32) (a0 : Int32) (o : Int32 × (Nat → Nat → Int32)) (hf : f_X0_readDraught a0 P = some o) : cd_Ct l G cI cZ sa sb yX0_readDraught wsX0_readDraught rm_X0_readDraught [.ref (h 0), .int a0] ((pc_pad cI h P)) ((pc_pad cI h o.2)) (some (.int o.1)) := by
  refine cd_of (cc := cX0_readDraught) (maxL := 2) (ret := (some .int)) (by decide) rfl (Nat.le_of_ble_eq_true rfl) ?_
  intro p e s m ag below meth c A ls Q C0 hl hw hQ
  have C0 : cd_CX G cI cZ sa sb p s m ag meth c cX0_readDraught 2 (some .int) wsX0_readDraught RX0 A := C0
  obtain ⟨⟨hx, hb, hml, hown, hts⟩, hr, hlocks, hA, hE⟩ := id C0
  have hK := hE.1
  have hL0 := hts (.fieldLink RX0 32 "CandleDebts$Pad" "first" "I") (by decide +kernel)
  have hL1 := hts (.fieldLink RX0 35 "CandleDebts$Pad" "second" "I") (by decide +kernel)
  have hL2 := hts (.fieldLink RX0 23 "CandleDebts$Pad" "next" "I") (by decide +kernel)
  have hl : lv_has ls 2 [(0, .ref (h 0)), (1, .int a0)] := hl
  unfold f_X0_readDraught at hf
  refine lv_aload_n hx hb dX0_readDraught_0 rfl (lv_at hl 0 rfl) ?_
  refine lv_aload_n hx hb dX0_readDraught_1 rfl (lv_at hl 0 rfl) ?_
  refine lv_iload_n hx hb dX0_readDraught_2 rfl (lv_at hl 1 rfl) ?_
  refine lv_iconst (v := (1 : Int32)) hx hb dX0_readDraught_3 (by decide) ?_
  refine lv_iadd hx hb dX0_readDraught_4 ?_
  obtain ⟨r1, e1, hf⟩ := cd_bind_some hf
  refine cd_callV (As := [.int (a0 + (1 : Int32))]) (rest := [.ref (h 0)]) C0 hw (c_X0_letterAt l G cI cZ sa sb h P (a0 + (1 : Int32)) r1 e1) [0, 1] rfl rfl 0 0 rfl rfl rfl (cwV 1 hts gX0_readDraught_X0_letterAt rfl rfl rfl (by decide +kernel) ⟨Nat.le_of_ble_eq_true rfl, Nat.le_of_ble_eq_true rfl⟩) rfl hl.1 (lv_room (Nat.le_of_ble_eq_true rfl)) dX0_readDraught_5 (fun H locs hw => ?_)
  refine va_put (D := G) (ci := 0) (v := .int r1) (ty := .int) (C := RX0) (T := TX0) (N := 6) hx hb hts nw_X0_readDraught_X0 tyX0 tyX0_ok nmX0 hown hK hw.1 hw.2.1 hw.2.2 0 rfl rfl 3 (by decide) hL0 (fun _ h9 => h9) rfl (by decide +kernel) rfl rfl (Nat.le_of_ble_eq_true rfl) dX0_readDraught_8 (fun H locs hP hD hS => ?_)
  have hw : cd_WS G A s.heap H locs ((pc_pad cI h (cd_fld P 3 r1))) := ⟨hP, hD, hS⟩
  refine lv_aload_n hx hb dX0_readDraught_11 rfl (lv_at hl 0 rfl) ?_
  refine lv_aload_n hx hb dX0_readDraught_12 rfl (lv_at hl 0 rfl) ?_
  refine lv_iload_n hx hb dX0_readDraught_13 rfl (lv_at hl 1 rfl) ?_
  refine lv_iconst (v := (2 : Int32)) hx hb dX0_readDraught_14 (by decide) ?_
  refine lv_iadd hx hb dX0_readDraught_15 ?_
  obtain ⟨r2, e2, hf⟩ := cd_bind_some hf
  refine cd_callV (As := [.int (a0 + (2 : Int32))]) (rest := [.ref (h 0)]) C0 hw (c_X0_digitAt l G cI cZ sa sb h (cd_fld P 3 r1) (a0 + (2 : Int32)) r2 e2) [0, 1] rfl rfl 0 0 rfl rfl rfl (cwV 1 hts gX0_readDraught_X0_digitAt rfl rfl rfl (by decide +kernel) ⟨Nat.le_of_ble_eq_true rfl, Nat.le_of_ble_eq_true rfl⟩) rfl hl.1 (lv_room (Nat.le_of_ble_eq_true rfl)) dX0_readDraught_16 (fun H locs hw => ?_)
  refine va_put (D := G) (ci := 0) (v := .int r2) (ty := .int) (C := RX0) (T := TX0) (N := 6) hx hb hts nw_X0_readDraught_X0 tyX0 tyX0_ok nmX0 hown hK hw.1 hw.2.1 hw.2.2 0 rfl rfl 4 (by decide) hL1 (fun _ h9 => h9) rfl (by decide +kernel) rfl rfl (Nat.le_of_ble_eq_true rfl) dX0_readDraught_19 (fun H locs hP hD hS => ?_)
  have hw : cd_WS G A s.heap H locs ((pc_pad cI h (cd_fld (cd_fld P 3 r1) 4 r2))) := ⟨hP, hD, hS⟩
  refine lv_aload_n hx hb dX0_readDraught_22 rfl (lv_at hl 0 rfl) ?_
  refine lv_iload_n hx hb dX0_readDraught_23 rfl (lv_at hl 1 rfl) ?_
  refine lv_iconst (v := (3 : Int32)) hx hb dX0_readDraught_24 (by decide) ?_
  refine lv_iadd hx hb dX0_readDraught_25 ?_
  refine va_put (D := G) (ci := 0) (v := .int (a0 + (3 : Int32))) (ty := .int) (C := RX0) (T := TX0) (N := 6) hx hb hts nw_X0_readDraught_X0 tyX0 tyX0_ok nmX0 hown hK hw.1 hw.2.1 hw.2.2 0 rfl rfl 5 (by decide) hL2 (fun _ h9 => h9) rfl (by decide +kernel) rfl rfl (Nat.le_of_ble_eq_true rfl) dX0_readDraught_26 (fun H locs hP hD hS => ?_)
  have hw : cd_WS G A s.heap H locs ((pc_pad cI h (cd_fld (cd_fld (cd_fld P 3 r1) 4 r2) 5 (a0 + (3 : Int32))))) := ⟨hP, hD, hS⟩
  refine lv_aload_n hx hb dX0_readDraught_29 rfl (lv_at hl 0 rfl) ?_
  refine va_get (D := G) (ci := 0) (v := .int r1) (C := RX0) (T := TX0) (N := 6) hx hb hts nw_X0_readDraught_X0 hown hK hw.1 0 rfl rfl 3 (by decide) hL0 (fun _ h9 => h9) rfl dX0_readDraught_30 ?_
  refine lv_iconst (v := (-1 : Int32)) hx hb dX0_readDraught_33 (by decide) ?_
  refine lv_icmp_ne (tgt := 41) hx hb dX0_readDraught_34 (by decide) (fun c3 => ?_) (fun c3 => ?_)
  · have hf := cd_ite_f c3 hf
    refine lv_aload_n hx hb dX0_readDraught_41 rfl (lv_at hl 0 rfl) ?_
    refine va_get (D := G) (ci := 0) (v := .int r2) (C := RX0) (T := TX0) (N := 6) hx hb hts nw_X0_readDraught_X0 hown hK hw.1 0 rfl rfl 4 (by decide) hL1 (fun _ h9 => h9) rfl dX0_readDraught_42 ?_
    refine lv_iconst (v := (-1 : Int32)) hx hb dX0_readDraught_45 (by decide) ?_
    obtain ⟨x4, e4, hf⟩ := cd_bind_some hf
    have K4 : ∀ (ls : Array Slot) (H : Heap) (locs : List Loc), lv_has ls 2 [] → cd_WS G A s.heap H locs ((pc_pad cI h (cd_fld (cd_fld (cd_fld P 3 r1) 4 r2) 5 (a0 + (3 : Int32))))) → W p l e rm_X0_readDraught s m ag below meth c H locs 0 0 Q (F0 m 57 ls [.int x4]) := by
      intro ls H locs hl hw
      have z : some (x4, (cd_fld (cd_fld (cd_fld P 3 r1) 4 r2) 5 (a0 + (3 : Int32)))) = some o := hf
      cases z
      rw [hQ]
      exact cd_reti C0 hw dX0_readDraught_57
    refine lv_icmp_ne (tgt := 55) hx hb dX0_readDraught_46 (by decide) (fun c4 => ?_) (fun c4 => ?_)
    · have e4 := cd_ite_f c4 e4
      refine lv_bipush (v := (-6 : Int32)) hx hb dX0_readDraught_55 (by decide) ?_
      have z : some (-6 : Int32) = some x4 := e4
      cases z
      exact K4 _ _ _ (lv_sub hl [] rfl) hw
    · have e4 := cd_ite_t c4 e4
      refine lv_iload_n hx hb dX0_readDraught_49 rfl (lv_at hl 1 rfl) ?_
      refine lv_iconst (v := (2 : Int32)) hx hb dX0_readDraught_50 (by decide) ?_
      refine lv_iadd hx hb dX0_readDraught_51 ?_
      refine lv_goto (tgt := 57) hx hb dX0_readDraught_52 (by decide) ?_
      have z : some (a0 + (2 : Int32)) = some x4 := e4
      cases z
      exact K4 _ _ _ (lv_sub hl [] rfl) hw
  · have hf := cd_ite_t c3 hf
    refine lv_iload_n hx hb dX0_readDraught_37 rfl (lv_at hl 1 rfl) ?_
    refine lv_iconst (v := (1 : Int32)) hx hb dX0_readDraught_38 (by decide) ?_
    refine lv_iadd hx hb dX0_readDraught_39 ?_
    have z : some ((a0 + (1 : Int32)), (cd_fld (cd_fld (cd_fld P 3 r1) 4 r2) 5 (a0 + (3 : Int32)))) = some o := hf
    cases z
    rw [hQ]
    exact cd_reti C0 hw dX0_readDraught_40
abbrev rm_X0_readOfCandle : Room := { frames := 2, cells := 0, slots := 0, locals := 44 }
theorem nw_X0_readOfCandle_X0 : ∀ w ∈ u_ws RX0 TX0 6, w ∈ wsX0_readOfCandle := by decide +kernel
set_option maxHeartbeats 4000000 in
set_option maxRecDepth 100000 in
theorem c_X0_readOfCandle (l : Launch) (G : va_G) (cI cZ : ClassId) (sa sb : Nat) (h : Nat → Nat) (P : Nat → Nat → Int32) (a0 : Int32) (o : Int32 × (Nat → Nat → Int32)) (hf : f_X0_readOfCandle a0 P = some o) : cd_Ct l G cI cZ sa sb yX0_readOfCandle wsX0_readOfCandle rm_X0_readOfCandle [.ref (h 0), .int a0] ((pc_pad cI h P)) ((pc_pad cI h o.2)) (some (.int o.1)) := by
  refine cd_of (cc := cX0_readOfCandle) (maxL := 3) (ret := (some .int)) (by decide) rfl (Nat.le_of_ble_eq_true rfl) ?_
  intro p e s m ag below meth c A ls Q C0 hl hw hQ
  have C0 : cd_CX G cI cZ sa sb p s m ag meth c cX0_readOfCandle 3 (some .int) wsX0_readOfCandle RX0 A := C0
  obtain ⟨⟨hx, hb, hml, hown, hts⟩, hr, hlocks, hA, hE⟩ := id C0
  have hK := hE.1
  have hL0 := hts (.fieldLink RX0 32 "CandleDebts$Pad" "first" "I") (by decide +kernel)
  have hL1 := hts (.fieldLink RX0 29 "CandleDebts$Pad" "kind" "I") (by decide +kernel)
  have hL2 := hts (.fieldLink RX0 23 "CandleDebts$Pad" "next" "I") (by decide +kernel)
  have hL3 := hts (.fieldLink RX0 35 "CandleDebts$Pad" "second" "I") (by decide +kernel)
  have hl : lv_has ls 3 [(0, .ref (h 0)), (1, .int a0)] := hl
  unfold f_X0_readOfCandle at hf
  refine lv_aload_n hx hb dX0_readOfCandle_0 rfl (lv_at hl 0 rfl) ?_
  refine lv_aload_n hx hb dX0_readOfCandle_1 rfl (lv_at hl 0 rfl) ?_
  refine lv_iload_n hx hb dX0_readOfCandle_2 rfl (lv_at hl 1 rfl) ?_
  obtain ⟨r1, e1, hf⟩ := cd_bind_some hf
  refine cd_callV (As := [.int a0]) (rest := [.ref (h 0)]) C0 hw (c_X0_letterAt l G cI cZ sa sb h P a0 r1 e1) [0, 1] rfl rfl 0 0 rfl rfl rfl (cwV 1 hts gX0_readOfCandle_X0_letterAt rfl rfl rfl (by decide +kernel) ⟨Nat.le_of_ble_eq_true rfl, Nat.le_of_ble_eq_true rfl⟩) rfl hl.1 (lv_room (Nat.le_of_ble_eq_true rfl)) dX0_readOfCandle_3 (fun H locs hw => ?_)
  refine va_put (D := G) (ci := 0) (v := .int r1) (ty := .int) (C := RX0) (T := TX0) (N := 6) hx hb hts nw_X0_readOfCandle_X0 tyX0 tyX0_ok nmX0 hown hK hw.1 hw.2.1 hw.2.2 0 rfl rfl 3 (by decide) hL0 (fun _ h9 => h9) rfl (by decide +kernel) rfl rfl (Nat.le_of_ble_eq_true rfl) dX0_readOfCandle_6 (fun H locs hP hD hS => ?_)
  have hw : cd_WS G A s.heap H locs ((pc_pad cI h (cd_fld P 3 r1))) := ⟨hP, hD, hS⟩
  refine lv_aload_n hx hb dX0_readOfCandle_9 rfl (lv_at hl 0 rfl) ?_
  refine lv_aload_n hx hb dX0_readOfCandle_10 rfl (lv_at hl 0 rfl) ?_
  refine lv_iload_n hx hb dX0_readOfCandle_11 rfl (lv_at hl 1 rfl) ?_
  refine lv_iconst (v := (1 : Int32)) hx hb dX0_readOfCandle_12 (by decide) ?_
  refine lv_iadd hx hb dX0_readOfCandle_13 ?_
  obtain ⟨r2, e2, hf⟩ := cd_bind_some hf
  refine cd_callV (As := [.int (a0 + (1 : Int32))]) (rest := [.ref (h 0)]) C0 hw (c_X0_signAt l G cI cZ sa sb h (cd_fld P 3 r1) (a0 + (1 : Int32)) r2 e2) [0, 1] rfl rfl 0 0 rfl rfl rfl (cwV 1 hts gX0_readOfCandle_X0_signAt rfl rfl rfl (by decide +kernel) ⟨Nat.le_of_ble_eq_true rfl, Nat.le_of_ble_eq_true rfl⟩) rfl hl.1 (lv_room (Nat.le_of_ble_eq_true rfl)) dX0_readOfCandle_14 (fun H locs hw => ?_)
  refine va_put (D := G) (ci := 0) (v := .int r2) (ty := .int) (C := RX0) (T := TX0) (N := 6) hx hb hts nw_X0_readOfCandle_X0 tyX0 tyX0_ok nmX0 hown hK hw.1 hw.2.1 hw.2.2 0 rfl rfl 2 (by decide) hL1 (fun _ h9 => h9) rfl (by decide +kernel) rfl rfl (Nat.le_of_ble_eq_true rfl) dX0_readOfCandle_17 (fun H locs hP hD hS => ?_)
  have hw : cd_WS G A s.heap H locs ((pc_pad cI h (cd_fld (cd_fld P 3 r1) 2 r2))) := ⟨hP, hD, hS⟩
  refine lv_aload_n hx hb dX0_readOfCandle_20 rfl (lv_at hl 0 rfl) ?_
  refine lv_iload_n hx hb dX0_readOfCandle_21 rfl (lv_at hl 1 rfl) ?_
  refine lv_iconst (v := (2 : Int32)) hx hb dX0_readOfCandle_22 (by decide) ?_
  refine lv_iadd hx hb dX0_readOfCandle_23 ?_
  refine va_put (D := G) (ci := 0) (v := .int (a0 + (2 : Int32))) (ty := .int) (C := RX0) (T := TX0) (N := 6) hx hb hts nw_X0_readOfCandle_X0 tyX0 tyX0_ok nmX0 hown hK hw.1 hw.2.1 hw.2.2 0 rfl rfl 5 (by decide) hL2 (fun _ h9 => h9) rfl (by decide +kernel) rfl rfl (Nat.le_of_ble_eq_true rfl) dX0_readOfCandle_24 (fun H locs hP hD hS => ?_)
  have hw : cd_WS G A s.heap H locs ((pc_pad cI h (cd_fld (cd_fld (cd_fld P 3 r1) 2 r2) 5 (a0 + (2 : Int32))))) := ⟨hP, hD, hS⟩
  refine lv_aload_n hx hb dX0_readOfCandle_27 rfl (lv_at hl 0 rfl) ?_
  refine va_get (D := G) (ci := 0) (v := .int r1) (C := RX0) (T := TX0) (N := 6) hx hb hts nw_X0_readOfCandle_X0 hown hK hw.1 0 rfl rfl 3 (by decide) hL0 (fun _ h9 => h9) rfl dX0_readOfCandle_28 ?_
  refine lv_iconst (v := (-1 : Int32)) hx hb dX0_readOfCandle_31 (by decide) ?_
  refine lv_icmp_ne (tgt := 37) hx hb dX0_readOfCandle_32 (by decide) (fun c3 => ?_) (fun c3 => ?_)
  · have hf := cd_ite_f c3 hf
    refine lv_aload_n hx hb dX0_readOfCandle_37 rfl (lv_at hl 0 rfl) ?_
    refine va_get (D := G) (ci := 0) (v := .int r2) (C := RX0) (T := TX0) (N := 6) hx hb hts nw_X0_readOfCandle_X0 hown hK hw.1 0 rfl rfl 2 (by decide) hL1 (fun _ h9 => h9) rfl dX0_readOfCandle_38 ?_
    refine lv_bipush (v := (62 : Int32)) hx hb dX0_readOfCandle_41 (by decide) ?_
    refine lv_icmp_ne (tgt := 81) hx hb dX0_readOfCandle_43 (by decide) (fun c4 => ?_) (fun c4 => ?_)
    · have hf := cd_ite_f c4 hf
      refine lv_aload_n hx hb dX0_readOfCandle_81 rfl (lv_at hl 0 rfl) ?_
      refine va_get (D := G) (ci := 0) (v := .int r2) (C := RX0) (T := TX0) (N := 6) hx hb hts nw_X0_readOfCandle_X0 hown hK hw.1 0 rfl rfl 2 (by decide) hL1 (fun _ h9 => h9) rfl dX0_readOfCandle_82 ?_
      refine lv_bipush (v := (42 : Int32)) hx hb dX0_readOfCandle_85 (by decide) ?_
      obtain ⟨x7, e7, hf⟩ := cd_bind_some hf
      have K7 : ∀ (ls : Array Slot) (H : Heap) (locs : List Loc), lv_has ls 3 [(1, .int a0)] → cd_WS G A s.heap H locs ((pc_pad cI h (cd_fld (cd_fld (cd_fld P 3 r1) 2 r2) 5 (a0 + (2 : Int32))))) → W p l e rm_X0_readOfCandle s m ag below meth c H locs 0 0 Q (F0 m 122 ls [.int x7]) := by
        intro ls H locs hl hw
        refine lv_istore_n (lv' := [(2, .int x7), (1, .int a0)]) hx hb dX0_readOfCandle_122 rfl hl (by decide) rfl (fun ls hl => ?_)
        refine lv_iload_n hx hb dX0_readOfCandle_123 rfl (lv_at hl 0 rfl) ?_
        obtain ⟨x8, e8, hf⟩ := cd_bind_some hf
        have K8 : ∀ (ls : Array Slot) (H : Heap) (locs : List Loc), lv_has ls 3 [] → cd_WS G A s.heap H locs ((pc_pad cI h (cd_fld (cd_fld (cd_fld P 3 r1) 2 r2) 5 (a0 + (2 : Int32))))) → W p l e rm_X0_readOfCandle s m ag below meth c H locs 0 0 Q (F0 m 135 ls [.int x8]) := by
          intro ls H locs hl hw
          have z : some (x8, (cd_fld (cd_fld (cd_fld P 3 r1) 2 r2) 5 (a0 + (2 : Int32)))) = some o := hf
          cases z
          rw [hQ]
          exact cd_reti C0 hw dX0_readOfCandle_135
        refine lv_if_eq (tgt := 132) hx hb dX0_readOfCandle_124 (by decide) (fun c8 => ?_) (fun c8 => ?_)
        · have e8 := cd_ite_t c8 e8
          refine lv_iload_n hx hb dX0_readOfCandle_132 rfl (lv_at hl 1 rfl) ?_
          refine lv_iconst (v := (1 : Int32)) hx hb dX0_readOfCandle_133 (by decide) ?_
          refine lv_iadd hx hb dX0_readOfCandle_134 ?_
          have z : some (a0 + (1 : Int32)) = some x8 := e8
          cases z
          exact K8 _ _ _ (lv_sub hl [] rfl) hw
        · have e8 := cd_ite_f c8 e8
          refine lv_bipush (v := (-6 : Int32)) hx hb dX0_readOfCandle_127 (by decide) ?_
          refine lv_goto (tgt := 135) hx hb dX0_readOfCandle_129 (by decide) ?_
          have z : some (-6 : Int32) = some x8 := e8
          cases z
          exact K8 _ _ _ (lv_sub hl [] rfl) hw
      refine lv_icmp_eq (tgt := 117) hx hb dX0_readOfCandle_87 (by decide) (fun c7 => ?_) (fun c7 => ?_)
      · have e7 := cd_ite_t c7 e7
        refine lv_iconst (v := (1 : Int32)) hx hb dX0_readOfCandle_117 (by decide) ?_
        refine lv_goto (tgt := 122) hx hb dX0_readOfCandle_118 (by decide) ?_
        have z : some (1 : Int32) = some x7 := e7
        cases z
        exact K7 _ _ _ (lv_sub hl [1] rfl) hw
      · have e7 := cd_ite_f c7 e7
        refine lv_aload_n hx hb dX0_readOfCandle_90 rfl (lv_at hl 0 rfl) ?_
        refine va_get (D := G) (ci := 0) (v := .int r2) (C := RX0) (T := TX0) (N := 6) hx hb hts nw_X0_readOfCandle_X0 hown hK hw.1 0 rfl rfl 2 (by decide) hL1 (fun _ h9 => h9) rfl dX0_readOfCandle_91 ?_
        refine lv_bipush (v := (45 : Int32)) hx hb dX0_readOfCandle_94 (by decide) ?_
        refine lv_icmp_eq (tgt := 117) hx hb dX0_readOfCandle_96 (by decide) (fun c9 => ?_) (fun c9 => ?_)
        · have e7 := cd_ite_t c9 e7
          refine lv_iconst (v := (1 : Int32)) hx hb dX0_readOfCandle_117 (by decide) ?_
          refine lv_goto (tgt := 122) hx hb dX0_readOfCandle_118 (by decide) ?_
          have z : some (1 : Int32) = some x7 := e7
          cases z
          exact K7 _ _ _ (lv_sub hl [1] rfl) hw
        · have e7 := cd_ite_f c9 e7
          refine lv_aload_n hx hb dX0_readOfCandle_99 rfl (lv_at hl 0 rfl) ?_
          refine va_get (D := G) (ci := 0) (v := .int r2) (C := RX0) (T := TX0) (N := 6) hx hb hts nw_X0_readOfCandle_X0 hown hK hw.1 0 rfl rfl 2 (by decide) hL1 (fun _ h9 => h9) rfl dX0_readOfCandle_100 ?_
          refine lv_bipush (v := (33 : Int32)) hx hb dX0_readOfCandle_103 (by decide) ?_
          refine lv_icmp_eq (tgt := 117) hx hb dX0_readOfCandle_105 (by decide) (fun c10 => ?_) (fun c10 => ?_)
          · have e7 := cd_ite_t c10 e7
            refine lv_iconst (v := (1 : Int32)) hx hb dX0_readOfCandle_117 (by decide) ?_
            refine lv_goto (tgt := 122) hx hb dX0_readOfCandle_118 (by decide) ?_
            have z : some (1 : Int32) = some x7 := e7
            cases z
            exact K7 _ _ _ (lv_sub hl [1] rfl) hw
          · have e7 := cd_ite_f c10 e7
            refine lv_aload_n hx hb dX0_readOfCandle_108 rfl (lv_at hl 0 rfl) ?_
            refine va_get (D := G) (ci := 0) (v := .int r2) (C := RX0) (T := TX0) (N := 6) hx hb hts nw_X0_readOfCandle_X0 hown hK hw.1 0 rfl rfl 2 (by decide) hL1 (fun _ h9 => h9) rfl dX0_readOfCandle_109 ?_
            refine lv_bipush (v := (94 : Int32)) hx hb dX0_readOfCandle_112 (by decide) ?_
            refine lv_icmp_ne (tgt := 121) hx hb dX0_readOfCandle_114 (by decide) (fun c11 => ?_) (fun c11 => ?_)
            · have e7 := cd_ite_f c11 e7
              refine lv_iconst (v := (0 : Int32)) hx hb dX0_readOfCandle_121 (by decide) ?_
              have z : some (0 : Int32) = some x7 := e7
              cases z
              exact K7 _ _ _ (lv_sub hl [1] rfl) hw
            · have e7 := cd_ite_t c11 e7
              refine lv_iconst (v := (1 : Int32)) hx hb dX0_readOfCandle_117 (by decide) ?_
              refine lv_goto (tgt := 122) hx hb dX0_readOfCandle_118 (by decide) ?_
              have z : some (1 : Int32) = some x7 := e7
              cases z
              exact K7 _ _ _ (lv_sub hl [1] rfl) hw
    · have hf := cd_ite_t c4 hf
      refine lv_aload_n hx hb dX0_readOfCandle_46 rfl (lv_at hl 0 rfl) ?_
      refine lv_aload_n hx hb dX0_readOfCandle_47 rfl (lv_at hl 0 rfl) ?_
      refine lv_iload_n hx hb dX0_readOfCandle_48 rfl (lv_at hl 1 rfl) ?_
      refine lv_iconst (v := (2 : Int32)) hx hb dX0_readOfCandle_49 (by decide) ?_
      refine lv_iadd hx hb dX0_readOfCandle_50 ?_
      obtain ⟨r5, e5, hf⟩ := cd_bind_some hf
      refine cd_callV (As := [.int (a0 + (2 : Int32))]) (rest := [.ref (h 0)]) C0 hw (c_X0_letterAt l G cI cZ sa sb h (cd_fld (cd_fld (cd_fld P 3 r1) 2 r2) 5 (a0 + (2 : Int32))) (a0 + (2 : Int32)) r5 e5) [0, 1] rfl rfl 0 0 rfl rfl rfl (cwV 1 hts gX0_readOfCandle_X0_letterAt rfl rfl rfl (by decide +kernel) ⟨Nat.le_of_ble_eq_true rfl, Nat.le_of_ble_eq_true rfl⟩) rfl hl.1 (lv_room (Nat.le_of_ble_eq_true rfl)) dX0_readOfCandle_51 (fun H locs hw => ?_)
      refine va_put (D := G) (ci := 0) (v := .int r5) (ty := .int) (C := RX0) (T := TX0) (N := 6) hx hb hts nw_X0_readOfCandle_X0 tyX0 tyX0_ok nmX0 hown hK hw.1 hw.2.1 hw.2.2 0 rfl rfl 4 (by decide) hL3 (fun _ h9 => h9) rfl (by decide +kernel) rfl rfl (Nat.le_of_ble_eq_true rfl) dX0_readOfCandle_54 (fun H locs hP hD hS => ?_)
      have hw : cd_WS G A s.heap H locs ((pc_pad cI h (cd_fld (cd_fld (cd_fld (cd_fld P 3 r1) 2 r2) 5 (a0 + (2 : Int32))) 4 r5))) := ⟨hP, hD, hS⟩
      refine lv_aload_n hx hb dX0_readOfCandle_57 rfl (lv_at hl 0 rfl) ?_
      refine lv_iload_n hx hb dX0_readOfCandle_58 rfl (lv_at hl 1 rfl) ?_
      refine lv_iconst (v := (3 : Int32)) hx hb dX0_readOfCandle_59 (by decide) ?_
      refine lv_iadd hx hb dX0_readOfCandle_60 ?_
      refine va_put (D := G) (ci := 0) (v := .int (a0 + (3 : Int32))) (ty := .int) (C := RX0) (T := TX0) (N := 6) hx hb hts nw_X0_readOfCandle_X0 tyX0 tyX0_ok nmX0 hown hK hw.1 hw.2.1 hw.2.2 0 rfl rfl 5 (by decide) hL2 (fun _ h9 => h9) rfl (by decide +kernel) rfl rfl (Nat.le_of_ble_eq_true rfl) dX0_readOfCandle_61 (fun H locs hP hD hS => ?_)
      have hw : cd_WS G A s.heap H locs ((pc_pad cI h (cd_fld (cd_fld (cd_fld (cd_fld (cd_fld P 3 r1) 2 r2) 5 (a0 + (2 : Int32))) 4 r5) 5 (a0 + (3 : Int32))))) := ⟨hP, hD, hS⟩
      refine lv_aload_n hx hb dX0_readOfCandle_64 rfl (lv_at hl 0 rfl) ?_
      refine va_get (D := G) (ci := 0) (v := .int r5) (C := RX0) (T := TX0) (N := 6) hx hb hts nw_X0_readOfCandle_X0 hown hK hw.1 0 rfl rfl 4 (by decide) hL3 (fun _ h9 => h9) rfl dX0_readOfCandle_65 ?_
      refine lv_iconst (v := (-1 : Int32)) hx hb dX0_readOfCandle_68 (by decide) ?_
      obtain ⟨x6, e6, hf⟩ := cd_bind_some hf
      have K6 : ∀ (ls : Array Slot) (H : Heap) (locs : List Loc), lv_has ls 3 [] → cd_WS G A s.heap H locs ((pc_pad cI h (cd_fld (cd_fld (cd_fld (cd_fld (cd_fld P 3 r1) 2 r2) 5 (a0 + (2 : Int32))) 4 r5) 5 (a0 + (3 : Int32))))) → W p l e rm_X0_readOfCandle s m ag below meth c H locs 0 0 Q (F0 m 80 ls [.int x6]) := by
        intro ls H locs hl hw
        have z : some (x6, (cd_fld (cd_fld (cd_fld (cd_fld (cd_fld P 3 r1) 2 r2) 5 (a0 + (2 : Int32))) 4 r5) 5 (a0 + (3 : Int32)))) = some o := hf
        cases z
        rw [hQ]
        exact cd_reti C0 hw dX0_readOfCandle_80
      refine lv_icmp_ne (tgt := 78) hx hb dX0_readOfCandle_69 (by decide) (fun c6 => ?_) (fun c6 => ?_)
      · have e6 := cd_ite_f c6 e6
        refine lv_bipush (v := (-6 : Int32)) hx hb dX0_readOfCandle_78 (by decide) ?_
        have z : some (-6 : Int32) = some x6 := e6
        cases z
        exact K6 _ _ _ (lv_sub hl [] rfl) hw
      · have e6 := cd_ite_t c6 e6
        refine lv_iload_n hx hb dX0_readOfCandle_72 rfl (lv_at hl 1 rfl) ?_
        refine lv_iconst (v := (2 : Int32)) hx hb dX0_readOfCandle_73 (by decide) ?_
        refine lv_iadd hx hb dX0_readOfCandle_74 ?_
        refine lv_goto (tgt := 80) hx hb dX0_readOfCandle_75 (by decide) ?_
        have z : some (a0 + (2 : Int32)) = some x6 := e6
        cases z
        exact K6 _ _ _ (lv_sub hl [] rfl) hw
  · have hf := cd_ite_t c3 hf
    refine lv_iload_n hx hb dX0_readOfCandle_35 rfl (lv_at hl 1 rfl) ?_
    have z : some (a0, (cd_fld (cd_fld (cd_fld P 3 r1) 2 r2) 5 (a0 + (2 : Int32)))) = some o := hf
    cases z
    rw [hQ]
    exact cd_reti C0 hw dX0_readOfCandle_36
abbrev rm_X0_readAct : Room := { frames := 3, cells := 0, slots := 0, locals := 66 }
theorem nw_X0_readAct_X0 : ∀ w ∈ u_ws RX0 TX0 6, w ∈ wsX0_readAct := by decide +kernel
set_option maxHeartbeats 4000000 in
set_option maxRecDepth 100000 in
theorem c_X0_readAct (l : Launch) (G : va_G) (cI cZ : ClassId) (sa sb : Nat) (h : Nat → Nat) (P : Nat → Nat → Int32) (a0 : Int32) (o : Int32 × (Nat → Nat → Int32)) (hf : f_X0_readAct a0 P = some o) : cd_Ct l G cI cZ sa sb yX0_readAct wsX0_readAct rm_X0_readAct [.ref (h 0), .int a0] ((pc_pad cI h P)) ((pc_pad cI h o.2)) (some (.int o.1)) := by
  refine cd_of (cc := cX0_readAct) (maxL := 2) (ret := (some .int)) (by decide) rfl (Nat.le_of_ble_eq_true rfl) ?_
  intro p e s m ag below meth c A ls Q C0 hl hw hQ
  have C0 : cd_CX G cI cZ sa sb p s m ag meth c cX0_readAct 2 (some .int) wsX0_readAct RX0 A := C0
  obtain ⟨⟨hx, hb, hml, hown, hts⟩, hr, hlocks, hA, hE⟩ := id C0
  have hK := hE.1
  have hL0 := hts (.fieldLink RX0 29 "CandleDebts$Pad" "kind" "I") (by decide +kernel)
  have hL1 := hts (.fieldLink RX0 32 "CandleDebts$Pad" "first" "I") (by decide +kernel)
  have hL2 := hts (.fieldLink RX0 35 "CandleDebts$Pad" "second" "I") (by decide +kernel)
  have hL3 := hts (.fieldLink RX0 23 "CandleDebts$Pad" "next" "I") (by decide +kernel)
  have hl : lv_has ls 2 [(0, .ref (h 0)), (1, .int a0)] := hl
  unfold f_X0_readAct at hf
  refine lv_aload_n hx hb dX0_readAct_0 rfl (lv_at hl 0 rfl) ?_
  refine lv_aload_n hx hb dX0_readAct_1 rfl (lv_at hl 0 rfl) ?_
  refine lv_iload_n hx hb dX0_readAct_2 rfl (lv_at hl 1 rfl) ?_
  obtain ⟨r1, e1, hf⟩ := cd_bind_some hf
  refine cd_callV (As := [.int a0]) (rest := [.ref (h 0)]) C0 hw (c_X0_signAt l G cI cZ sa sb h P a0 r1 e1) [0, 1] rfl rfl 0 0 rfl rfl rfl (cwV 1 hts gX0_readAct_X0_signAt rfl rfl rfl (by decide +kernel) ⟨Nat.le_of_ble_eq_true rfl, Nat.le_of_ble_eq_true rfl⟩) rfl hl.1 (lv_room (Nat.le_of_ble_eq_true rfl)) dX0_readAct_3 (fun H locs hw => ?_)
  refine va_put (D := G) (ci := 0) (v := .int r1) (ty := .int) (C := RX0) (T := TX0) (N := 6) hx hb hts nw_X0_readAct_X0 tyX0 tyX0_ok nmX0 hown hK hw.1 hw.2.1 hw.2.2 0 rfl rfl 2 (by decide) hL0 (fun _ h9 => h9) rfl (by decide +kernel) rfl rfl (Nat.le_of_ble_eq_true rfl) dX0_readAct_6 (fun H locs hP hD hS => ?_)
  have hw : cd_WS G A s.heap H locs ((pc_pad cI h (cd_fld P 2 r1))) := ⟨hP, hD, hS⟩
  refine lv_aload_n hx hb dX0_readAct_9 rfl (lv_at hl 0 rfl) ?_
  refine lv_iconst (v := (0 : Int32)) hx hb dX0_readAct_10 (by decide) ?_
  refine va_put (D := G) (ci := 0) (v := .int (0 : Int32)) (ty := .int) (C := RX0) (T := TX0) (N := 6) hx hb hts nw_X0_readAct_X0 tyX0 tyX0_ok nmX0 hown hK hw.1 hw.2.1 hw.2.2 0 rfl rfl 3 (by decide) hL1 (fun _ h9 => h9) rfl (by decide +kernel) rfl rfl (Nat.le_of_ble_eq_true rfl) dX0_readAct_11 (fun H locs hP hD hS => ?_)
  have hw : cd_WS G A s.heap H locs ((pc_pad cI h (cd_fld (cd_fld P 2 r1) 3 (0 : Int32)))) := ⟨hP, hD, hS⟩
  refine lv_aload_n hx hb dX0_readAct_14 rfl (lv_at hl 0 rfl) ?_
  refine lv_iconst (v := (0 : Int32)) hx hb dX0_readAct_15 (by decide) ?_
  refine va_put (D := G) (ci := 0) (v := .int (0 : Int32)) (ty := .int) (C := RX0) (T := TX0) (N := 6) hx hb hts nw_X0_readAct_X0 tyX0 tyX0_ok nmX0 hown hK hw.1 hw.2.1 hw.2.2 0 rfl rfl 4 (by decide) hL2 (fun _ h9 => h9) rfl (by decide +kernel) rfl rfl (Nat.le_of_ble_eq_true rfl) dX0_readAct_16 (fun H locs hP hD hS => ?_)
  have hw : cd_WS G A s.heap H locs ((pc_pad cI h (cd_fld (cd_fld (cd_fld P 2 r1) 3 (0 : Int32)) 4 (0 : Int32)))) := ⟨hP, hD, hS⟩
  refine lv_aload_n hx hb dX0_readAct_19 rfl (lv_at hl 0 rfl) ?_
  refine lv_iload_n hx hb dX0_readAct_20 rfl (lv_at hl 1 rfl) ?_
  refine lv_iconst (v := (1 : Int32)) hx hb dX0_readAct_21 (by decide) ?_
  refine lv_iadd hx hb dX0_readAct_22 ?_
  refine va_put (D := G) (ci := 0) (v := .int (a0 + (1 : Int32))) (ty := .int) (C := RX0) (T := TX0) (N := 6) hx hb hts nw_X0_readAct_X0 tyX0 tyX0_ok nmX0 hown hK hw.1 hw.2.1 hw.2.2 0 rfl rfl 5 (by decide) hL3 (fun _ h9 => h9) rfl (by decide +kernel) rfl rfl (Nat.le_of_ble_eq_true rfl) dX0_readAct_23 (fun H locs hP hD hS => ?_)
  have hw : cd_WS G A s.heap H locs ((pc_pad cI h (cd_fld (cd_fld (cd_fld (cd_fld P 2 r1) 3 (0 : Int32)) 4 (0 : Int32)) 5 (a0 + (1 : Int32))))) := ⟨hP, hD, hS⟩
  refine lv_aload_n hx hb dX0_readAct_26 rfl (lv_at hl 0 rfl) ?_
  refine va_get (D := G) (ci := 0) (v := .int r1) (C := RX0) (T := TX0) (N := 6) hx hb hts nw_X0_readAct_X0 hown hK hw.1 0 rfl rfl 2 (by decide) hL0 (fun _ h9 => h9) rfl dX0_readAct_27 ?_
  refine lv_bipush (v := (46 : Int32)) hx hb dX0_readAct_30 (by decide) ?_
  refine lv_icmp_ne (tgt := 38) hx hb dX0_readAct_32 (by decide) (fun c2 => ?_) (fun c2 => ?_)
  · have hf := cd_ite_f c2 hf
    refine lv_aload_n hx hb dX0_readAct_38 rfl (lv_at hl 0 rfl) ?_
    refine va_get (D := G) (ci := 0) (v := .int r1) (C := RX0) (T := TX0) (N := 6) hx hb hts nw_X0_readAct_X0 hown hK hw.1 0 rfl rfl 2 (by decide) hL0 (fun _ h9 => h9) rfl dX0_readAct_39 ?_
    refine lv_bipush (v := (119 : Int32)) hx hb dX0_readAct_42 (by decide) ?_
    refine lv_icmp_ne (tgt := 53) hx hb dX0_readAct_44 (by decide) (fun c3 => ?_) (fun c3 => ?_)
    · have hf := cd_ite_f c3 hf
      refine lv_aload_n hx hb dX0_readAct_53 rfl (lv_at hl 0 rfl) ?_
      refine lv_iload_n hx hb dX0_readAct_54 rfl (lv_at hl 1 rfl) ?_
      obtain ⟨r5, e5, hf⟩ := cd_bind_some hf
      refine cd_callVw (As := [.int a0]) (rest := []) (wr := ([] : va_W)) (wn := (pc_pad cI h r5.2)) C0 hw (c_X0_readOfCandle l G cI cZ sa sb h (cd_fld (cd_fld (cd_fld (cd_fld P 2 r1) 3 (0 : Int32)) 4 (0 : Int32)) 5 (a0 + (1 : Int32))) a0 r5 e5) [0, 1] [] [0, 1] rfl rfl rfl rfl (by decide) rfl rfl 0 0 rfl rfl rfl (cwV 1 hts gX0_readAct_X0_readOfCandle rfl rfl rfl (by decide +kernel) ⟨Nat.le_of_ble_eq_true rfl, Nat.le_of_ble_eq_true rfl⟩) rfl hl.1 (lv_room (Nat.le_of_ble_eq_true rfl)) dX0_readAct_55 (fun H locs hw => ?_)
      have z : some (r5.1, r5.2) = some o := hf
      cases z
      rw [hQ]
      exact cd_reti C0 hw dX0_readAct_58
    · have hf := cd_ite_t c3 hf
      refine lv_aload_n hx hb dX0_readAct_47 rfl (lv_at hl 0 rfl) ?_
      refine lv_iload_n hx hb dX0_readAct_48 rfl (lv_at hl 1 rfl) ?_
      obtain ⟨r4, e4, hf⟩ := cd_bind_some hf
      refine cd_callVw (As := [.int a0]) (rest := []) (wr := ([] : va_W)) (wn := (pc_pad cI h r4.2)) C0 hw (c_X0_readDraught l G cI cZ sa sb h (cd_fld (cd_fld (cd_fld (cd_fld P 2 r1) 3 (0 : Int32)) 4 (0 : Int32)) 5 (a0 + (1 : Int32))) a0 r4 e4) [0, 1] [] [0, 1] rfl rfl rfl rfl (by decide) rfl rfl 0 0 rfl rfl rfl (cwV 1 hts gX0_readAct_X0_readDraught rfl rfl rfl (by decide +kernel) ⟨Nat.le_of_ble_eq_true rfl, Nat.le_of_ble_eq_true rfl⟩) rfl hl.1 (lv_room (Nat.le_of_ble_eq_true rfl)) dX0_readAct_49 (fun H locs hw => ?_)
      have z : some (r4.1, r4.2) = some o := hf
      cases z
      rw [hQ]
      exact cd_reti C0 hw dX0_readAct_52
  · have hf := cd_ite_t c2 hf
    refine lv_bipush (v := (-6 : Int32)) hx hb dX0_readAct_35 (by decide) ?_
    have z : some ((-6 : Int32), (cd_fld (cd_fld (cd_fld (cd_fld P 2 r1) 3 (0 : Int32)) 4 (0 : Int32)) 5 (a0 + (1 : Int32)))) = some o := hf
    cases z
    rw [hQ]
    exact cd_reti C0 hw dX0_readAct_37
abbrev rm_X0_firstFault : Room := { frames := 4, cells := 0, slots := 0, locals := 87 }
theorem nw_X0_firstFault_X0 : ∀ w ∈ u_ws RX0 TX0 6, w ∈ wsX0_firstFault := by decide +kernel
set_option maxHeartbeats 4000000 in
set_option maxRecDepth 100000 in
theorem c_X0_firstFault (l : Launch) (G : va_G) (cI cZ : ClassId) (sa sb : Nat) (h : Nat → Nat) (P : Nat → Nat → Int32) (o : Int32 × (Nat → Nat → Int32)) (hf : f_X0_firstFault P = some o) : cd_Ct l G cI cZ sa sb yX0_firstFault wsX0_firstFault rm_X0_firstFault [.ref (h 0)] ((pc_pad cI h P)) ((pc_pad cI h o.2)) (some (.int o.1)) := by
  refine cd_of (cc := cX0_firstFault) (maxL := 4) (ret := (some .int)) (by decide) rfl (Nat.le_of_ble_eq_true rfl) ?_
  intro p e s m ag below meth c A ls Q C0 hl hw hQ
  have C0 : cd_CX G cI cZ sa sb p s m ag meth c cX0_firstFault 4 (some .int) wsX0_firstFault RX0 A := C0
  obtain ⟨⟨hx, hb, hml, hown, hts⟩, hr, hlocks, hA, hE⟩ := id C0
  have hK := hE.1
  have hL0 := hts (.fieldLink RX0 15 "CandleDebts$Pad" "count" "I") (by decide +kernel)
  have hL1 := hts (.fieldLink RX0 23 "CandleDebts$Pad" "next" "I") (by decide +kernel)
  have hl : lv_has ls 4 [(0, .ref (h 0))] := hl
  unfold f_X0_firstFault at hf
  refine lv_iconst (v := (0 : Int32)) hx hb dX0_firstFault_0 (by decide) ?_
  refine lv_istore_n (lv' := [(1, .int (0 : Int32)), (0, .ref (h 0))]) hx hb dX0_firstFault_1 rfl hl (by decide) rfl (fun ls hl => ?_)
  refine lv_iconst (v := (0 : Int32)) hx hb dX0_firstFault_2 (by decide) ?_
  refine lv_istore_n (lv' := [(2, .int (0 : Int32)), (1, .int (0 : Int32)), (0, .ref (h 0))]) hx hb dX0_firstFault_3 rfl hl (by decide) rfl (fun ls hl => ?_)
  obtain ⟨x1, e1, hf⟩ := cd_bind_some hf
  have K1 : ∀ (t1 : (Nat → Nat → Int32)), Sum.inr t1 = x1 → ∀ (ls : Array Slot) (H : Heap) (locs : List Loc), lv_has ls 4 [] → cd_WS G A s.heap H locs ((pc_pad cI h t1)) → W p l e rm_X0_firstFault s m ag below meth c H locs 0 0 Q (F0 m 43 ls []) := by
    intro t1 hs_1
    subst hs_1
    intro ls H locs hl hw
    refine lv_bipush (v := (-6 : Int32)) hx hb dX0_firstFault_43 (by decide) ?_
    have z : some ((-6 : Int32), t1) = some o := hf
    cases z
    rw [hQ]
    exact cd_reti C0 hw dX0_firstFault_45
  refine cd_iter_ind (body := f_X0_firstFault_b4) (K := fun r => r = x1) (P := fun (z1 : Int32 × Int32 × (Nat → Nat → Int32)) => ∀ (ls : Array Slot) (H : Heap) (locs : List Loc), lv_has ls 4 [(0, .ref (h 0)), (1, .int z1.1), (2, .int z1.2.1)] → cd_WS G A s.heap H locs ((pc_pad cI h z1.2.2)) → W p l e rm_X0_firstFault s m ag below meth c H locs 0 0 Q (F0 m 4 ls [])) ?_ cd_N ((0 : Int32), (0 : Int32), P) x1 e1 rfl _ _ _ (lv_sub hl [2, 1, 0] rfl) hw
  intro z1 o1 hb1 hk1 ls H locs hl hw
  unfold f_X0_firstFault_b4 at hb1
  refine lv_iload_n hx hb dX0_firstFault_4 rfl (lv_at hl 2 rfl) ?_
  refine lv_bipush (v := (60 : Int32)) hx hb dX0_firstFault_5 (by decide) ?_
  refine lv_icmp_ge (tgt := 43) hx hb dX0_firstFault_7 (by decide) (fun c2 => ?_) (fun c2 => ?_)
  · have hb1 := cd_ite_t c2 hb1
    have z : some (Sum.inl (Sum.inr z1.2.2)) = some o1 := hb1
    cases z
    exact K1 _ hk1 _ _ _ (lv_sub hl [] rfl) hw
  · have hb1 := cd_ite_f c2 hb1
    refine lv_iload_n hx hb dX0_firstFault_10 rfl (lv_at hl 1 rfl) ?_
    refine lv_aload_n hx hb dX0_firstFault_11 rfl (lv_at hl 0 rfl) ?_
    refine va_get (D := G) (ci := 0) (v := .int (z1.2.2 1 0)) (C := RX0) (T := TX0) (N := 6) hx hb hts nw_X0_firstFault_X0 hown hK hw.1 0 rfl rfl 1 (by decide) hL0 (fun _ h9 => h9) rfl dX0_firstFault_12 ?_
    refine lv_icmp_ge (tgt := 43) hx hb dX0_firstFault_15 (by decide) (fun c3 => ?_) (fun c3 => ?_)
    · have hb1 := cd_ite_t c3 hb1
      have z : some (Sum.inl (Sum.inr z1.2.2)) = some o1 := hb1
      cases z
      exact K1 _ hk1 _ _ _ (lv_sub hl [] rfl) hw
    · have hb1 := cd_ite_f c3 hb1
      refine lv_aload_n hx hb dX0_firstFault_18 rfl (lv_at hl 0 rfl) ?_
      refine lv_iload_n hx hb dX0_firstFault_19 rfl (lv_at hl 1 rfl) ?_
      obtain ⟨r4, e4, hb1⟩ := cd_bind_some hb1
      refine cd_callVw (As := [.int z1.1]) (rest := []) (wr := ([] : va_W)) (wn := (pc_pad cI h r4.2)) C0 hw (c_X0_readAct l G cI cZ sa sb h z1.2.2 z1.1 r4 e4) [0, 1] [] [0, 1] rfl rfl rfl rfl (by decide) rfl rfl 0 0 rfl rfl rfl (cwV 1 hts gX0_firstFault_X0_readAct rfl rfl rfl (by decide +kernel) ⟨Nat.le_of_ble_eq_true rfl, Nat.le_of_ble_eq_true rfl⟩) rfl hl.1 (lv_room (Nat.le_of_ble_eq_true rfl)) dX0_firstFault_20 (fun H locs hw => ?_)
      refine lv_istore_n (lv' := [(3, .int r4.1), (0, .ref (h 0)), (1, .int z1.1), (2, .int z1.2.1)]) hx hb dX0_firstFault_23 rfl hl (by decide) rfl (fun ls hl => ?_)
      refine lv_iload_n hx hb dX0_firstFault_24 rfl (lv_at hl 0 rfl) ?_
      refine lv_bipush (v := (-6 : Int32)) hx hb dX0_firstFault_25 (by decide) ?_
      refine lv_icmp_eq (tgt := 32) hx hb dX0_firstFault_27 (by decide) (fun c5 => ?_) (fun c5 => ?_)
      · have hb1 := cd_ite_t c5 hb1
        refine lv_aload_n hx hb dX0_firstFault_32 rfl (lv_at hl 1 rfl) ?_
        refine va_get (D := G) (ci := 0) (v := .int (r4.2 5 0)) (C := RX0) (T := TX0) (N := 6) hx hb hts nw_X0_firstFault_X0 hown hK hw.1 0 rfl rfl 5 (by decide) hL1 (fun _ h9 => h9) rfl dX0_firstFault_33 ?_
        refine lv_istore_n (lv' := [(1, .int (r4.2 5 0)), (3, .int r4.1), (0, .ref (h 0)), (2, .int z1.2.1)]) hx hb dX0_firstFault_36 rfl hl (by decide) rfl (fun ls hl => ?_)
        refine lv_iinc (v := (z1.2.1 + (1 : Int32))) (lv' := [(2, .int (z1.2.1 + (1 : Int32))), (1, .int (r4.2 5 0)), (3, .int r4.1), (0, .ref (h 0))]) hx hb dX0_firstFault_37 hl (k := 3) rfl rfl (by decide) rfl (fun ls hl => ?_)
        refine lv_goto (tgt := 4) hx hb dX0_firstFault_40 (by decide) ?_
        have z : some (Sum.inr ((r4.2 5 0), (z1.2.1 + (1 : Int32)), r4.2)) = some o1 := hb1
        cases z
        exact hk1 _ _ _ (lv_sub hl [3, 1, 0] rfl) hw
      · have hb1 := cd_ite_f c5 hb1
        refine lv_iload_n hx hb dX0_firstFault_30 rfl (lv_at hl 0 rfl) ?_
        have z : some (Sum.inl (Sum.inl (r4.1, r4.2))) = some o1 := hb1
        cases z
        have y1 : Sum.inl (r4.1, r4.2) = x1 := hk1
        subst y1
        have z : some (r4.1, r4.2) = some o := hf
        cases z
        rw [hQ]
        exact cd_reti C0 hw dX0_firstFault_31
abbrev rm_X0_write : Room := { frames := 0, cells := 0, slots := 0, locals := 0 }
theorem nw_X0_write_X0 : ∀ w ∈ u_ws RX0 TX0 6, w ∈ wsX0_write := by decide +kernel
set_option maxHeartbeats 4000000 in
set_option maxRecDepth 100000 in
theorem c_X0_write (l : Launch) (G : va_G) (cI cZ : ClassId) (sa sb : Nat) (h : Nat → Nat) (P : Nat → Nat → Int32) (a0 : Int32) (o : Int32 × (Nat → Nat → Int32)) (hf : f_X0_write a0 P = some o) : cd_Ct l G cI cZ sa sb yX0_write wsX0_write rm_X0_write [.ref (h 0), .int a0] ((pc_pad cI h P)) ((pc_pad cI h o.2)) (some (.int o.1)) := by
  refine cd_of (cc := cX0_write) (maxL := 2) (ret := (some .boolean)) (by decide) rfl (Nat.le_of_ble_eq_true rfl) ?_
  intro p e s m ag below meth c A ls Q C0 hl hw hQ
  have C0 : cd_CX G cI cZ sa sb p s m ag meth c cX0_write 2 (some .boolean) wsX0_write RX0 A := C0
  obtain ⟨⟨hx, hb, hml, hown, hts⟩, hr, hlocks, hA, hE⟩ := id C0
  have hK := hE.1
  have hL0 := hts (.fieldLink RX0 15 "CandleDebts$Pad" "count" "I") (by decide +kernel)
  have hL1 := hts (.fieldLink RX0 9 "CandleDebts$Pad" "signs" "[I") (by decide +kernel)
  have hl : lv_has ls 2 [(0, .ref (h 0)), (1, .int a0)] := hl
  unfold f_X0_write at hf
  refine lv_aload_n hx hb dX0_write_0 rfl (lv_at hl 0 rfl) ?_
  refine va_get (D := G) (ci := 0) (v := .int (P 1 0)) (C := RX0) (T := TX0) (N := 6) hx hb hts nw_X0_write_X0 hown hK hw.1 0 rfl rfl 1 (by decide) hL0 (fun _ h9 => h9) rfl dX0_write_1 ?_
  refine lv_bipush (v := (60 : Int32)) hx hb dX0_write_4 (by decide) ?_
  refine lv_icmp_lt (tgt := 11) hx hb dX0_write_6 (by decide) (fun c1 => ?_) (fun c1 => ?_)
  · have hf := cd_ite_t c1 hf
    refine lv_aload_n hx hb dX0_write_11 rfl (lv_at hl 0 rfl) ?_
    refine va_get (D := G) (ci := 0) (v := .ref (h 1)) (C := RX0) (T := TX0) (N := 6) hx hb hts nw_X0_write_X0 hown hK hw.1 0 rfl rfl 0 (by decide) hL1 (fun _ h9 => h9) rfl dX0_write_12 ?_
    refine lv_aload_n hx hb dX0_write_15 rfl (lv_at hl 0 rfl) ?_
    refine va_get (D := G) (ci := 0) (v := .int (P 1 0)) (C := RX0) (T := TX0) (N := 6) hx hb hts nw_X0_write_X0 hown hK hw.1 0 rfl rfl 1 (by decide) hL0 (fun _ h9 => h9) rfl dX0_write_16 ?_
    refine lv_iload_n hx hb dX0_write_19 rfl (lv_at hl 1 rfl) ?_
    obtain ⟨j2, e2, hf⟩ := cd_bind_some hf
    refine cd_iast (f := P 0) hx hb hK hw 1 rfl e2 dX0_write_20 (fun H locs hw => ?_)
    have hw : cd_WS G A s.heap H locs ((pc_pad cI h (cd_set P 0 j2 a0))) := (show ∀ (s9 : Nat → Nat → Int32) (y9 : Int32), cd_WS G A s.heap H locs (((pc_pad cI h s9)).set 1 (h 1, .inl (cI, 60, .inl (upd (s9 0) j2 y9)))) → cd_WS G A s.heap H locs ((pc_pad cI h (cd_set s9 0 j2 y9))) from fun _ _ hh => hh) P a0 hw
    refine lv_aload_n hx hb dX0_write_21 rfl (lv_at hl 0 rfl) ?_
    refine lv_dup hx hb dX0_write_22 rfl ?_
    refine va_get (D := G) (ci := 0) (v := .int (P 1 0)) (C := RX0) (T := TX0) (N := 6) hx hb hts nw_X0_write_X0 hown hK hw.1 0 rfl rfl 1 (by decide) hL0 (fun _ h9 => h9) rfl dX0_write_23 ?_
    refine lv_iconst (v := (1 : Int32)) hx hb dX0_write_26 (by decide) ?_
    refine lv_iadd hx hb dX0_write_27 ?_
    refine va_put (D := G) (ci := 0) (v := .int ((P 1 0) + (1 : Int32))) (ty := .int) (C := RX0) (T := TX0) (N := 6) hx hb hts nw_X0_write_X0 tyX0 tyX0_ok nmX0 hown hK hw.1 hw.2.1 hw.2.2 0 rfl rfl 1 (by decide) hL0 (fun _ h9 => h9) rfl (by decide +kernel) rfl rfl (Nat.le_of_ble_eq_true rfl) dX0_write_28 (fun H locs hP hD hS => ?_)
    have hw : cd_WS G A s.heap H locs ((pc_pad cI h (cd_fld (cd_set P 0 j2 a0) 1 ((P 1 0) + (1 : Int32))))) := ⟨hP, hD, hS⟩
    refine lv_iconst (v := (1 : Int32)) hx hb dX0_write_31 (by decide) ?_
    have z : some ((1 : Int32), (cd_fld (cd_set P 0 j2 a0) 1 ((P 1 0) + (1 : Int32)))) = some o := hf
    cases z
    rw [hQ]
    exact cd_retz C0 hw (Or.inr rfl) dX0_write_32
  · have hf := cd_ite_f c1 hf
    refine lv_iconst (v := (0 : Int32)) hx hb dX0_write_9 (by decide) ?_
    have z : some ((0 : Int32), P) = some o := hf
    cases z
    rw [hQ]
    exact cd_retz C0 hw (Or.inl rfl) dX0_write_10
abbrev rm_X3_isLit : Room := { frames := 0, cells := 0, slots := 0, locals := 0 }
theorem nw_X3_isLit_X3 : ∀ w ∈ u_ws RX3 TX3 14, w ∈ wsX3_isLit := by decide +kernel
set_option maxHeartbeats 4000000 in
set_option maxRecDepth 100000 in
theorem c_X3_isLit (l : Launch) (G : va_G) (cI cZ : ClassId) (sa sb : Nat) (h : Nat → Nat) (T : Nat → Nat → Int32) (a0 : Int32) (o : Int32) (hf : f_X3_isLit a0 T = some o) : cd_Ct l G cI cZ sa sb yX3_isLit wsX3_isLit rm_X3_isLit [.ref (h 0), .int a0] ((pc_town cI h T)) ((pc_town cI h T)) (some (.int o)) := by
  refine cd_of (cc := cX3_isLit) (maxL := 2) (ret := (some .boolean)) (by decide) rfl (Nat.le_of_ble_eq_true rfl) ?_
  intro p e s m ag below meth c A ls Q C0 hl hw hQ
  have C0 : cd_CX G cI cZ sa sb p s m ag meth c cX3_isLit 2 (some .boolean) wsX3_isLit RX3 A := C0
  obtain ⟨⟨hx, hb, hml, hown, hts⟩, hr, hlocks, hA, hE⟩ := id C0
  have hK := hE.1
  have hL0 := hts (.fieldLink RX3 59 "CandleDebts$Town" "lit" "I") (by decide +kernel)
  have hl : lv_has ls 2 [(0, .ref (h 0)), (1, .int a0)] := hl
  unfold f_X3_isLit at hf
  refine lv_aload_n hx hb dX3_isLit_0 rfl (lv_at hl 0 rfl) ?_
  refine va_get (D := G) (ci := 3) (v := .int (T 11 0)) (C := RX3) (T := TX3) (N := 14) hx hb hts nw_X3_isLit_X3 hown hK hw.1 0 rfl rfl 11 (by decide) hL0 (fun _ h9 => h9) rfl dX3_isLit_1 ?_
  refine lv_iload_n hx hb dX3_isLit_4 rfl (lv_at hl 1 rfl) ?_
  refine lv_ishr hx hb dX3_isLit_5 ?_
  refine lv_iconst (v := (1 : Int32)) hx hb dX3_isLit_6 (by decide) ?_
  refine lv_iand hx hb dX3_isLit_7 ?_
  obtain ⟨x1, e1, hf⟩ := cd_bind_some hf
  have K1 : ∀ (ls : Array Slot) (H : Heap) (locs : List Loc), lv_has ls 2 [] → cd_WS G A s.heap H locs ((pc_town cI h T)) → W p l e rm_X3_isLit s m ag below meth c H locs 0 0 Q (F0 m 16 ls [.int x1]) := by
    intro ls H locs hl hw
    obtain ⟨u2, e2, hf⟩ := cd_bind_some hf
    have z : some x1 = some o := hf
    cases z
    rw [hQ]
    exact cd_retz C0 hw (cd_zb_eq e2) dX3_isLit_16
  refine lv_if_eq (tgt := 15) hx hb dX3_isLit_8 (by decide) (fun c1 => ?_) (fun c1 => ?_)
  · have e1 := cd_ite_t c1 e1
    refine lv_iconst (v := (0 : Int32)) hx hb dX3_isLit_15 (by decide) ?_
    have z : some (0 : Int32) = some x1 := e1
    cases z
    exact K1 _ _ _ (lv_sub hl [] rfl) hw
  · have e1 := cd_ite_f c1 e1
    refine lv_iconst (v := (1 : Int32)) hx hb dX3_isLit_11 (by decide) ?_
    refine lv_goto (tgt := 16) hx hb dX3_isLit_12 (by decide) ?_
    have z : some (1 : Int32) = some x1 := e1
    cases z
    exact K1 _ _ _ (lv_sub hl [] rfl) hw
abbrev rm_X3_dueOf : Room := { frames := 0, cells := 0, slots := 0, locals := 0 }
theorem nw_X3_dueOf_X3 : ∀ w ∈ u_ws RX3 TX3 14, w ∈ wsX3_dueOf := by decide +kernel
set_option maxHeartbeats 4000000 in
set_option maxRecDepth 100000 in
theorem c_X3_dueOf (l : Launch) (G : va_G) (cI cZ : ClassId) (sa sb : Nat) (h : Nat → Nat) (T : Nat → Nat → Int32) (a0 : Int32) (o : Int32) (hf : f_X3_dueOf a0 T = some o) : cd_Ct l G cI cZ sa sb yX3_dueOf wsX3_dueOf rm_X3_dueOf [.ref (h 0), .int a0] ((pc_town cI h T)) ((pc_town cI h T)) (some (.int o)) := by
  refine cd_of (cc := cX3_dueOf) (maxL := 3) (ret := (some .int)) (by decide) rfl (Nat.le_of_ble_eq_true rfl) ?_
  intro p e s m ag below meth c A ls Q C0 hl hw hQ
  have C0 : cd_CX G cI cZ sa sb p s m ag meth c cX3_dueOf 3 (some .int) wsX3_dueOf RX3 A := C0
  obtain ⟨⟨hx, hb, hml, hown, hts⟩, hr, hlocks, hA, hE⟩ := id C0
  have hK := hE.1
  have hL0 := hts (.fieldLink RX3 33 "CandleDebts$Town" "purses" "[I") (by decide +kernel)
  have hL1 := hts (.fieldLink RX3 24 "CandleDebts$Town" "debtors" "[I") (by decide +kernel)
  have hL2 := hts (.fieldLink RX3 27 "CandleDebts$Town" "sums" "[I") (by decide +kernel)
  have hl : lv_has ls 3 [(0, .ref (h 0)), (1, .int a0)] := hl
  unfold f_X3_dueOf at hf
  refine lv_aload_n hx hb dX3_dueOf_0 rfl (lv_at hl 0 rfl) ?_
  refine va_get (D := G) (ci := 3) (v := .ref (h 8)) (C := RX3) (T := TX3) (N := 14) hx hb hts nw_X3_dueOf_X3 hown hK hw.1 0 rfl rfl 7 (by decide) hL0 (fun _ h9 => h9) rfl dX3_dueOf_1 ?_
  refine lv_aload_n hx hb dX3_dueOf_4 rfl (lv_at hl 0 rfl) ?_
  refine va_get (D := G) (ci := 3) (v := .ref (h 5)) (C := RX3) (T := TX3) (N := 14) hx hb hts nw_X3_dueOf_X3 hown hK hw.1 0 rfl rfl 4 (by decide) hL1 (fun _ h9 => h9) rfl dX3_dueOf_5 ?_
  refine lv_iload_n hx hb dX3_dueOf_8 rfl (lv_at hl 1 rfl) ?_
  obtain ⟨v1, e1, hf⟩ := cd_bind_some hf
  refine cd_iald hx hb hK hw 5 rfl e1 dX3_dueOf_9 ?_
  obtain ⟨v2, e2, hf⟩ := cd_bind_some hf
  refine cd_iald hx hb hK hw 8 rfl e2 dX3_dueOf_10 ?_
  refine lv_istore_n (lv' := [(2, .int v2), (0, .ref (h 0)), (1, .int a0)]) hx hb dX3_dueOf_11 rfl hl (by decide) rfl (fun ls hl => ?_)
  refine lv_iload_n hx hb dX3_dueOf_12 rfl (lv_at hl 0 rfl) ?_
  refine lv_aload_n hx hb dX3_dueOf_13 rfl (lv_at hl 1 rfl) ?_
  refine va_get (D := G) (ci := 3) (v := .ref (h 6)) (C := RX3) (T := TX3) (N := 14) hx hb hts nw_X3_dueOf_X3 hown hK hw.1 0 rfl rfl 5 (by decide) hL2 (fun _ h9 => h9) rfl dX3_dueOf_14 ?_
  refine lv_iload_n hx hb dX3_dueOf_17 rfl (lv_at hl 2 rfl) ?_
  obtain ⟨v3, e3, hf⟩ := cd_bind_some hf
  refine cd_iald hx hb hK hw 6 rfl e3 dX3_dueOf_18 ?_
  obtain ⟨x4, e4, hf⟩ := cd_bind_some hf
  have K4 : ∀ (ls : Array Slot) (H : Heap) (locs : List Loc), lv_has ls 3 [] → cd_WS G A s.heap H locs ((pc_town cI h T)) → W p l e rm_X3_dueOf s m ag below meth c H locs 0 0 Q (F0 m 32 ls [.int x4]) := by
    intro ls H locs hl hw
    have z : some x4 = some o := hf
    cases z
    rw [hQ]
    exact cd_reti C0 hw dX3_dueOf_32
  refine lv_icmp_ge (tgt := 26) hx hb dX3_dueOf_19 (by decide) (fun c4 => ?_) (fun c4 => ?_)
  · have e4 := cd_ite_t c4 e4
    refine lv_aload_n hx hb dX3_dueOf_26 rfl (lv_at hl 1 rfl) ?_
    refine va_get (D := G) (ci := 3) (v := .ref (h 6)) (C := RX3) (T := TX3) (N := 14) hx hb hts nw_X3_dueOf_X3 hown hK hw.1 0 rfl rfl 5 (by decide) hL2 (fun _ h9 => h9) rfl dX3_dueOf_27 ?_
    refine lv_iload_n hx hb dX3_dueOf_30 rfl (lv_at hl 2 rfl) ?_
    obtain ⟨v5, e5, e4⟩ := cd_bind_some e4
    refine cd_iald hx hb hK hw 6 rfl e5 dX3_dueOf_31 ?_
    have z : some v5 = some x4 := e4
    cases z
    exact K4 _ _ _ (lv_sub hl [] rfl) hw
  · have e4 := cd_ite_f c4 e4
    refine lv_iload_n hx hb dX3_dueOf_22 rfl (lv_at hl 0 rfl) ?_
    refine lv_goto (tgt := 32) hx hb dX3_dueOf_23 (by decide) ?_
    have z : some v2 = some x4 := e4
    cases z
    exact K4 _ _ _ (lv_sub hl [] rfl) hw
abbrev rm_X3_reasonAgainstAsking : Room := { frames := 1, cells := 0, slots := 0, locals := 22 }
theorem nw_X3_reasonAgainstAsking_X3 : ∀ w ∈ u_ws RX3 TX3 14, w ∈ wsX3_reasonAgainstAsking := by decide +kernel
set_option maxHeartbeats 4000000 in
set_option maxRecDepth 100000 in
theorem c_X3_reasonAgainstAsking (l : Launch) (G : va_G) (cI cZ : ClassId) (sa sb : Nat) (h : Nat → Nat) (T : Nat → Nat → Int32) (a0 : Int32) (o : Int32) (hf : f_X3_reasonAgainstAsking a0 T = some o) : cd_Ct l G cI cZ sa sb yX3_reasonAgainstAsking wsX3_reasonAgainstAsking rm_X3_reasonAgainstAsking [.ref (h 0), .int a0] ((pc_town cI h T)) ((pc_town cI h T)) (some (.int o)) := by
  refine cd_of (cc := cX3_reasonAgainstAsking) (maxL := 3) (ret := (some .int)) (by decide) rfl (Nat.le_of_ble_eq_true rfl) ?_
  intro p e s m ag below meth c A ls Q C0 hl hw hQ
  have C0 : cd_CX G cI cZ sa sb p s m ag meth c cX3_reasonAgainstAsking 3 (some .int) wsX3_reasonAgainstAsking RX3 A := C0
  obtain ⟨⟨hx, hb, hml, hown, hts⟩, hr, hlocks, hA, hE⟩ := id C0
  have hK := hE.1
  have hL0 := hts (.fieldLink RX3 27 "CandleDebts$Town" "sums" "[I") (by decide +kernel)
  have hL1 := hts (.fieldLink RX3 21 "CandleDebts$Town" "creditors" "[I") (by decide +kernel)
  have hL2 := hts (.fieldLink RX3 24 "CandleDebts$Town" "debtors" "[I") (by decide +kernel)
  have hL3 := hts (.fieldLink RX3 33 "CandleDebts$Town" "purses" "[I") (by decide +kernel)
  have hl : lv_has ls 3 [(0, .ref (h 0)), (1, .int a0)] := hl
  unfold f_X3_reasonAgainstAsking at hf
  refine lv_aload_n hx hb dX3_reasonAgainstAsking_0 rfl (lv_at hl 0 rfl) ?_
  refine lv_iload_n hx hb dX3_reasonAgainstAsking_1 rfl (lv_at hl 1 rfl) ?_
  obtain ⟨r1, e1, hf⟩ := cd_bind_some hf
  refine cd_callV (As := [.int a0]) (rest := []) C0 hw (c_X3_isLit l G cI cZ sa sb h T a0 r1 e1) [0, 1, 2, 3, 4, 5, 6, 7, 8, 9, 10] rfl rfl 0 3 rfl rfl rfl (cwV 1 hts gX3_reasonAgainstAsking_X3_isLit rfl rfl rfl (by decide +kernel) ⟨Nat.le_of_ble_eq_true rfl, Nat.le_of_ble_eq_true rfl⟩) rfl hl.1 (lv_room (Nat.le_of_ble_eq_true rfl)) dX3_reasonAgainstAsking_2 (fun H locs hw => ?_)
  refine lv_if_ne (tgt := 10) hx hb dX3_reasonAgainstAsking_5 (by decide) (fun c2 => ?_) (fun c2 => ?_)
  · have hf := cd_ite_f c2 hf
    refine lv_aload_n hx hb dX3_reasonAgainstAsking_10 rfl (lv_at hl 0 rfl) ?_
    refine va_get (D := G) (ci := 3) (v := .ref (h 6)) (C := RX3) (T := TX3) (N := 14) hx hb hts nw_X3_reasonAgainstAsking_X3 hown hK hw.1 0 rfl rfl 5 (by decide) hL0 (fun _ h9 => h9) rfl dX3_reasonAgainstAsking_11 ?_
    refine lv_iload_n hx hb dX3_reasonAgainstAsking_14 rfl (lv_at hl 1 rfl) ?_
    obtain ⟨v3, e3, hf⟩ := cd_bind_some hf
    refine cd_iald hx hb hK hw 6 rfl e3 dX3_reasonAgainstAsking_15 ?_
    refine lv_if_ne (tgt := 21) hx hb dX3_reasonAgainstAsking_16 (by decide) (fun c4 => ?_) (fun c4 => ?_)
    · have hf := cd_ite_f c4 hf
      refine lv_aload_n hx hb dX3_reasonAgainstAsking_21 rfl (lv_at hl 0 rfl) ?_
      refine va_get (D := G) (ci := 3) (v := .ref (h 4)) (C := RX3) (T := TX3) (N := 14) hx hb hts nw_X3_reasonAgainstAsking_X3 hown hK hw.1 0 rfl rfl 3 (by decide) hL1 (fun _ h9 => h9) rfl dX3_reasonAgainstAsking_22 ?_
      refine lv_iload_n hx hb dX3_reasonAgainstAsking_25 rfl (lv_at hl 1 rfl) ?_
      obtain ⟨v5, e5, hf⟩ := cd_bind_some hf
      refine cd_iald hx hb hK hw 4 rfl e5 dX3_reasonAgainstAsking_26 ?_
      refine lv_aload_n hx hb dX3_reasonAgainstAsking_27 rfl (lv_at hl 0 rfl) ?_
      refine va_get (D := G) (ci := 3) (v := .ref (h 5)) (C := RX3) (T := TX3) (N := 14) hx hb hts nw_X3_reasonAgainstAsking_X3 hown hK hw.1 0 rfl rfl 4 (by decide) hL2 (fun _ h9 => h9) rfl dX3_reasonAgainstAsking_28 ?_
      refine lv_iload_n hx hb dX3_reasonAgainstAsking_31 rfl (lv_at hl 1 rfl) ?_
      obtain ⟨v6, e6, hf⟩ := cd_bind_some hf
      refine cd_iald hx hb hK hw 5 rfl e6 dX3_reasonAgainstAsking_32 ?_
      obtain ⟨x7, e7, hf⟩ := cd_bind_some hf
      have K7 : ∀ (ls : Array Slot) (H : Heap) (locs : List Loc), lv_has ls 3 [(0, .ref (h 0)), (1, .int a0)] → cd_WS G A s.heap H locs ((pc_town cI h T)) → W p l e rm_X3_reasonAgainstAsking s m ag below meth c H locs 0 0 Q (F0 m 41 ls [.int x7]) := by
        intro ls H locs hl hw
        refine lv_istore_n (lv' := [(2, .int x7), (0, .ref (h 0)), (1, .int a0)]) hx hb dX3_reasonAgainstAsking_41 rfl hl (by decide) rfl (fun ls hl => ?_)
        refine lv_iload_n hx hb dX3_reasonAgainstAsking_42 rfl (lv_at hl 0 rfl) ?_
        obtain ⟨x8, e8, hf⟩ := cd_bind_some hf
        have K8 : ∀ (ls : Array Slot) (H : Heap) (locs : List Loc), lv_has ls 3 [] → cd_WS G A s.heap H locs ((pc_town cI h T)) → W p l e rm_X3_reasonAgainstAsking s m ag below meth c H locs 0 0 Q (F0 m 75 ls [.int x8]) := by
          intro ls H locs hl hw
          have z : some x8 = some o := hf
          cases z
          rw [hQ]
          exact cd_reti C0 hw dX3_reasonAgainstAsking_75
        refine lv_if_eq (tgt := 74) hx hb dX3_reasonAgainstAsking_43 (by decide) (fun c8 => ?_) (fun c8 => ?_)
        · have e8 := cd_ite_t c8 e8
          refine lv_iconst (v := (0 : Int32)) hx hb dX3_reasonAgainstAsking_74 (by decide) ?_
          have z : some (0 : Int32) = some x8 := e8
          cases z
          exact K8 _ _ _ (lv_sub hl [] rfl) hw
        · have e8 := cd_ite_f c8 e8
          refine lv_aload_n hx hb dX3_reasonAgainstAsking_46 rfl (lv_at hl 1 rfl) ?_
          refine va_get (D := G) (ci := 3) (v := .ref (h 8)) (C := RX3) (T := TX3) (N := 14) hx hb hts nw_X3_reasonAgainstAsking_X3 hown hK hw.1 0 rfl rfl 7 (by decide) hL3 (fun _ h9 => h9) rfl dX3_reasonAgainstAsking_47 ?_
          refine lv_aload_n hx hb dX3_reasonAgainstAsking_50 rfl (lv_at hl 1 rfl) ?_
          refine va_get (D := G) (ci := 3) (v := .ref (h 4)) (C := RX3) (T := TX3) (N := 14) hx hb hts nw_X3_reasonAgainstAsking_X3 hown hK hw.1 0 rfl rfl 3 (by decide) hL1 (fun _ h9 => h9) rfl dX3_reasonAgainstAsking_51 ?_
          refine lv_iload_n hx hb dX3_reasonAgainstAsking_54 rfl (lv_at hl 2 rfl) ?_
          obtain ⟨v9, e9, e8⟩ := cd_bind_some e8
          refine cd_iald hx hb hK hw 4 rfl e9 dX3_reasonAgainstAsking_55 ?_
          obtain ⟨v10, e10, e8⟩ := cd_bind_some e8
          refine cd_iald hx hb hK hw 8 rfl e10 dX3_reasonAgainstAsking_56 ?_
          refine lv_aload_n hx hb dX3_reasonAgainstAsking_57 rfl (lv_at hl 1 rfl) ?_
          refine lv_iload_n hx hb dX3_reasonAgainstAsking_58 rfl (lv_at hl 2 rfl) ?_
          obtain ⟨r11, e11, e8⟩ := cd_bind_some e8
          refine cd_callV (As := [.int a0]) (rest := [.int v10]) C0 hw (c_X3_dueOf l G cI cZ sa sb h T a0 r11 e11) [0, 1, 2, 3, 4, 5, 6, 7, 8, 9, 10] rfl rfl 0 3 rfl rfl rfl (cwV 1 hts gX3_reasonAgainstAsking_X3_dueOf rfl rfl rfl (by decide +kernel) ⟨Nat.le_of_ble_eq_true rfl, Nat.le_of_ble_eq_true rfl⟩) rfl hl.1 (lv_room (Nat.le_of_ble_eq_true rfl)) dX3_reasonAgainstAsking_59 (fun H locs hw => ?_)
          refine lv_iadd hx hb dX3_reasonAgainstAsking_62 ?_
          refine lv_sipush (v := (9999 : Int32)) hx hb dX3_reasonAgainstAsking_63 (by decide) ?_
          refine lv_icmp_le (tgt := 74) hx hb dX3_reasonAgainstAsking_66 (by decide) (fun c12 => ?_) (fun c12 => ?_)
          · have e8 := cd_ite_t c12 e8
            refine lv_iconst (v := (0 : Int32)) hx hb dX3_reasonAgainstAsking_74 (by decide) ?_
            have z : some (0 : Int32) = some x8 := e8
            cases z
            exact K8 _ _ _ (lv_sub hl [] rfl) hw
          · have e8 := cd_ite_f c12 e8
            refine lv_bipush (v := (6 : Int32)) hx hb dX3_reasonAgainstAsking_69 (by decide) ?_
            refine lv_goto (tgt := 75) hx hb dX3_reasonAgainstAsking_71 (by decide) ?_
            have z : some (6 : Int32) = some x8 := e8
            cases z
            exact K8 _ _ _ (lv_sub hl [] rfl) hw
      refine lv_icmp_eq (tgt := 40) hx hb dX3_reasonAgainstAsking_33 (by decide) (fun c7 => ?_) (fun c7 => ?_)
      · have e7 := cd_ite_t c7 e7
        refine lv_iconst (v := (0 : Int32)) hx hb dX3_reasonAgainstAsking_40 (by decide) ?_
        have z : some (0 : Int32) = some x7 := e7
        cases z
        exact K7 _ _ _ (lv_sub hl [0, 1] rfl) hw
      · have e7 := cd_ite_f c7 e7
        refine lv_iconst (v := (1 : Int32)) hx hb dX3_reasonAgainstAsking_36 (by decide) ?_
        refine lv_goto (tgt := 41) hx hb dX3_reasonAgainstAsking_37 (by decide) ?_
        have z : some (1 : Int32) = some x7 := e7
        cases z
        exact K7 _ _ _ (lv_sub hl [0, 1] rfl) hw
    · have hf := cd_ite_t c4 hf
      refine lv_iconst (v := (5 : Int32)) hx hb dX3_reasonAgainstAsking_19 (by decide) ?_
      have z : some (5 : Int32) = some o := hf
      cases z
      rw [hQ]
      exact cd_reti C0 hw dX3_reasonAgainstAsking_20
  · have hf := cd_ite_t c2 hf
    refine lv_iconst (v := (2 : Int32)) hx hb dX3_reasonAgainstAsking_8 (by decide) ?_
    have z : some (2 : Int32) = some o := hf
    cases z
    rw [hQ]
    exact cd_reti C0 hw dX3_reasonAgainstAsking_9
abbrev rm_X3_reasonAgainstLighting : Room := { frames := 1, cells := 0, slots := 0, locals := 21 }
theorem nw_X3_reasonAgainstLighting_X3 : ∀ w ∈ u_ws RX3 TX3 14, w ∈ wsX3_reasonAgainstLighting := by decide +kernel
set_option maxHeartbeats 4000000 in
set_option maxRecDepth 100000 in
theorem c_X3_reasonAgainstLighting (l : Launch) (G : va_G) (cI cZ : ClassId) (sa sb : Nat) (h : Nat → Nat) (T : Nat → Nat → Int32) (a0 : Int32) (a1 : Int32) (o : Int32) (hf : f_X3_reasonAgainstLighting a0 a1 T = some o) : cd_Ct l G cI cZ sa sb yX3_reasonAgainstLighting wsX3_reasonAgainstLighting rm_X3_reasonAgainstLighting [.ref (h 0), .int a0, .int a1] ((pc_town cI h T)) ((pc_town cI h T)) (some (.int o)) := by
  refine cd_of (cc := cX3_reasonAgainstLighting) (maxL := 3) (ret := (some .int)) (by decide) rfl (Nat.le_of_ble_eq_true rfl) ?_
  intro p e s m ag below meth c A ls Q C0 hl hw hQ
  have C0 : cd_CX G cI cZ sa sb p s m ag meth c cX3_reasonAgainstLighting 3 (some .int) wsX3_reasonAgainstLighting RX3 A := C0
  obtain ⟨⟨hx, hb, hml, hown, hts⟩, hr, hlocks, hA, hE⟩ := id C0
  have hK := hE.1
  have hL0 := hts (.fieldLink RX3 9 "CandleDebts$Town" "wax" "[I") (by decide +kernel)
  have hl : lv_has ls 3 [(0, .ref (h 0)), (1, .int a0), (2, .int a1)] := hl
  unfold f_X3_reasonAgainstLighting at hf
  refine lv_aload_n hx hb dX3_reasonAgainstLighting_0 rfl (lv_at hl 0 rfl) ?_
  refine va_get (D := G) (ci := 3) (v := .ref (h 1)) (C := RX3) (T := TX3) (N := 14) hx hb hts nw_X3_reasonAgainstLighting_X3 hown hK hw.1 0 rfl rfl 0 (by decide) hL0 (fun _ h9 => h9) rfl dX3_reasonAgainstLighting_1 ?_
  refine lv_iload_n hx hb dX3_reasonAgainstLighting_4 rfl (lv_at hl 2 rfl) ?_
  obtain ⟨v1, e1, hf⟩ := cd_bind_some hf
  refine cd_iald hx hb hK hw 1 rfl e1 dX3_reasonAgainstLighting_5 ?_
  refine lv_if_ne (tgt := 11) hx hb dX3_reasonAgainstLighting_6 (by decide) (fun c2 => ?_) (fun c2 => ?_)
  · have hf := cd_ite_f c2 hf
    refine lv_aload_n hx hb dX3_reasonAgainstLighting_11 rfl (lv_at hl 0 rfl) ?_
    refine lv_iload_n hx hb dX3_reasonAgainstLighting_12 rfl (lv_at hl 2 rfl) ?_
    obtain ⟨r3, e3, hf⟩ := cd_bind_some hf
    refine cd_callV (As := [.int a1]) (rest := []) C0 hw (c_X3_isLit l G cI cZ sa sb h T a1 r3 e3) [0, 1, 2, 3, 4, 5, 6, 7, 8, 9, 10] rfl rfl 0 3 rfl rfl rfl (cwV 1 hts gX3_reasonAgainstLighting_X3_isLit rfl rfl rfl (by decide +kernel) ⟨Nat.le_of_ble_eq_true rfl, Nat.le_of_ble_eq_true rfl⟩) rfl hl.1 (lv_room (Nat.le_of_ble_eq_true rfl)) dX3_reasonAgainstLighting_13 (fun H locs hw => ?_)
    refine lv_if_ne (tgt := 27) hx hb dX3_reasonAgainstLighting_16 (by decide) (fun c4 => ?_) (fun c4 => ?_)
    · have hf := cd_ite_f c4 hf
      refine lv_iconst (v := (2 : Int32)) hx hb dX3_reasonAgainstLighting_27 (by decide) ?_
      have z : some (2 : Int32) = some o := hf
      cases z
      rw [hQ]
      exact cd_reti C0 hw dX3_reasonAgainstLighting_28
    · have hf := cd_ite_t c4 hf
      refine lv_aload_n hx hb dX3_reasonAgainstLighting_19 rfl (lv_at hl 0 rfl) ?_
      refine lv_iload_n hx hb dX3_reasonAgainstLighting_20 rfl (lv_at hl 1 rfl) ?_
      obtain ⟨r5, e5, hf⟩ := cd_bind_some hf
      refine cd_callV (As := [.int a0]) (rest := []) C0 hw (c_X3_isLit l G cI cZ sa sb h T a0 r5 e5) [0, 1, 2, 3, 4, 5, 6, 7, 8, 9, 10] rfl rfl 0 3 rfl rfl rfl (cwV 1 hts gX3_reasonAgainstLighting_X3_isLit rfl rfl rfl (by decide +kernel) ⟨Nat.le_of_ble_eq_true rfl, Nat.le_of_ble_eq_true rfl⟩) rfl hl.1 (lv_room (Nat.le_of_ble_eq_true rfl)) dX3_reasonAgainstLighting_21 (fun H locs hw => ?_)
      refine lv_if_ne (tgt := 29) hx hb dX3_reasonAgainstLighting_24 (by decide) (fun c6 => ?_) (fun c6 => ?_)
      · have hf := cd_ite_f c6 hf
        refine lv_iload_n hx hb dX3_reasonAgainstLighting_29 rfl (lv_at hl 2 rfl) ?_
        refine lv_iload_n hx hb dX3_reasonAgainstLighting_30 rfl (lv_at hl 1 rfl) ?_
        refine lv_iconst (v := (1 : Int32)) hx hb dX3_reasonAgainstLighting_31 (by decide) ?_
        refine lv_isub hx hb dX3_reasonAgainstLighting_32 ?_
        obtain ⟨x7, e7, hf⟩ := cd_bind_some hf
        have K7 : ∀ (ls : Array Slot) (H : Heap) (locs : List Loc), lv_has ls 3 [] → cd_WS G A s.heap H locs ((pc_town cI h T)) → W p l e rm_X3_reasonAgainstLighting s m ag below meth c H locs 0 0 Q (F0 m 48 ls [.int x7]) := by
          intro ls H locs hl hw
          have z : some x7 = some o := hf
          cases z
          rw [hQ]
          exact cd_reti C0 hw dX3_reasonAgainstLighting_48
        refine lv_icmp_eq (tgt := 43) hx hb dX3_reasonAgainstLighting_33 (by decide) (fun c7 => ?_) (fun c7 => ?_)
        · have e7 := cd_ite_t c7 e7
          refine lv_iconst (v := (0 : Int32)) hx hb dX3_reasonAgainstLighting_43 (by decide) ?_
          refine lv_goto (tgt := 48) hx hb dX3_reasonAgainstLighting_44 (by decide) ?_
          have z : some (0 : Int32) = some x7 := e7
          cases z
          exact K7 _ _ _ (lv_sub hl [] rfl) hw
        · have e7 := cd_ite_f c7 e7
          refine lv_iload_n hx hb dX3_reasonAgainstLighting_36 rfl (lv_at hl 2 rfl) ?_
          refine lv_iload_n hx hb dX3_reasonAgainstLighting_37 rfl (lv_at hl 1 rfl) ?_
          refine lv_iconst (v := (1 : Int32)) hx hb dX3_reasonAgainstLighting_38 (by decide) ?_
          refine lv_iadd hx hb dX3_reasonAgainstLighting_39 ?_
          refine lv_icmp_ne (tgt := 47) hx hb dX3_reasonAgainstLighting_40 (by decide) (fun c8 => ?_) (fun c8 => ?_)
          · have e7 := cd_ite_f c8 e7
            refine lv_iconst (v := (4 : Int32)) hx hb dX3_reasonAgainstLighting_47 (by decide) ?_
            have z : some (4 : Int32) = some x7 := e7
            cases z
            exact K7 _ _ _ (lv_sub hl [] rfl) hw
          · have e7 := cd_ite_t c8 e7
            refine lv_iconst (v := (0 : Int32)) hx hb dX3_reasonAgainstLighting_43 (by decide) ?_
            refine lv_goto (tgt := 48) hx hb dX3_reasonAgainstLighting_44 (by decide) ?_
            have z : some (0 : Int32) = some x7 := e7
            cases z
            exact K7 _ _ _ (lv_sub hl [] rfl) hw
      · have hf := cd_ite_t c6 hf
        refine lv_iconst (v := (2 : Int32)) hx hb dX3_reasonAgainstLighting_27 (by decide) ?_
        have z : some (2 : Int32) = some o := hf
        cases z
        rw [hQ]
        exact cd_reti C0 hw dX3_reasonAgainstLighting_28
  · have hf := cd_ite_t c2 hf
    refine lv_iconst (v := (1 : Int32)) hx hb dX3_reasonAgainstLighting_9 (by decide) ?_
    have z : some (1 : Int32) = some o := hf
    cases z
    rw [hQ]
    exact cd_reti C0 hw dX3_reasonAgainstLighting_10
abbrev rm_X3_reasonAgainst : Room := { frames := 2, cells := 0, slots := 0, locals := 44 }
theorem nw_X3_reasonAgainst_X3 : ∀ w ∈ u_ws RX3 TX3 14, w ∈ wsX3_reasonAgainst := by decide +kernel
set_option maxHeartbeats 4000000 in
set_option maxRecDepth 100000 in
theorem c_X3_reasonAgainst (l : Launch) (G : va_G) (cI cZ : ClassId) (sa sb : Nat) (h : Nat → Nat) (T : Nat → Nat → Int32) (a0 : Int32) (a1 : Int32) (a2 : Int32) (o : Int32) (hf : f_X3_reasonAgainst a0 a1 a2 T = some o) : cd_Ct l G cI cZ sa sb yX3_reasonAgainst wsX3_reasonAgainst rm_X3_reasonAgainst [.ref (h 0), .int a0, .int a1, .int a2] ((pc_town cI h T)) ((pc_town cI h T)) (some (.int o)) := by
  refine cd_of (cc := cX3_reasonAgainst) (maxL := 4) (ret := (some .int)) (by decide) rfl (Nat.le_of_ble_eq_true rfl) ?_
  intro p e s m ag below meth c A ls Q C0 hl hw hQ
  have C0 : cd_CX G cI cZ sa sb p s m ag meth c cX3_reasonAgainst 4 (some .int) wsX3_reasonAgainst RX3 A := C0
  obtain ⟨⟨hx, hb, hml, hown, hts⟩, hr, hlocks, hA, hE⟩ := id C0
  have hK := hE.1
  have hL0 := hts (.fieldLink RX3 9 "CandleDebts$Town" "wax" "[I") (by decide +kernel)
  have hL1 := hts (.fieldLink RX3 42 "CandleDebts$Town" "matchesLeft" "I") (by decide +kernel)
  have hL2 := hts (.fieldLink RX3 15 "CandleDebts$Town" "trimmed" "[I") (by decide +kernel)
  have hL3 := hts (.fieldLink RX3 18 "CandleDebts$Town" "draughts" "[I") (by decide +kernel)
  have hL4 := hts (.fieldLink RX3 62 "CandleDebts$Town" "minute" "I") (by decide +kernel)
  have hl : lv_has ls 4 [(0, .ref (h 0)), (1, .int a0), (2, .int a1), (3, .int a2)] := hl
  unfold f_X3_reasonAgainst at hf
  refine lv_iload_n hx hb dX3_reasonAgainst_0 rfl (lv_at hl 1 rfl) ?_
  by_cases c1_0 : a0 = (33 : Int32)
  · have hf := cd_ite_t c1_0 hf
    refine lv_lookup (off := 111) (tgt := 112) hx hb dX3_reasonAgainst_1 (by decide) (by rw [c1_0]; decide) (by decide) ?_
    refine lv_aload_n hx hb dX3_reasonAgainst_112 rfl (lv_at hl 0 rfl) ?_
    refine lv_iload_n hx hb dX3_reasonAgainst_113 rfl (lv_at hl 2 rfl) ?_
    obtain ⟨r2, e2, hf⟩ := cd_bind_some hf
    refine cd_callV (As := [.int a1]) (rest := []) C0 hw (c_X3_reasonAgainstAsking l G cI cZ sa sb h T a1 r2 e2) [0, 1, 2, 3, 4, 5, 6, 7, 8, 9, 10] rfl rfl 0 3 rfl rfl rfl (cwV 1 hts gX3_reasonAgainst_X3_reasonAgainstAsking rfl rfl rfl (by decide +kernel) ⟨Nat.le_of_ble_eq_true rfl, Nat.le_of_ble_eq_true rfl⟩) rfl hl.1 (lv_room (Nat.le_of_ble_eq_true rfl)) dX3_reasonAgainst_114 (fun H locs hw => ?_)
    have z : some r2 = some o := hf
    cases z
    rw [hQ]
    exact cd_reti C0 hw dX3_reasonAgainst_117
  · have hf := cd_ite_f c1_0 hf
    by_cases c1_1 : a0 = (42 : Int32)
    · have hf := cd_ite_t c1_1 hf
      refine lv_lookup (off := 59) (tgt := 60) hx hb dX3_reasonAgainst_1 (by decide) (by rw [c1_1]; decide) (by decide) ?_
      refine lv_aload_n hx hb dX3_reasonAgainst_60 rfl (lv_at hl 0 rfl) ?_
      refine va_get (D := G) (ci := 3) (v := .ref (h 1)) (C := RX3) (T := TX3) (N := 14) hx hb hts nw_X3_reasonAgainst_X3 hown hK hw.1 0 rfl rfl 0 (by decide) hL0 (fun _ h9 => h9) rfl dX3_reasonAgainst_61 ?_
      refine lv_iload_n hx hb dX3_reasonAgainst_64 rfl (lv_at hl 2 rfl) ?_
      obtain ⟨v3, e3, hf⟩ := cd_bind_some hf
      refine cd_iald hx hb hK hw 1 rfl e3 dX3_reasonAgainst_65 ?_
      obtain ⟨x4, e4, hf⟩ := cd_bind_some hf
      have K4 : ∀ (ls : Array Slot) (H : Heap) (locs : List Loc), lv_has ls 4 [] → cd_WS G A s.heap H locs ((pc_town cI h T)) → W p l e rm_X3_reasonAgainst s m ag below meth c H locs 0 0 Q (F0 m 97 ls [.int x4]) := by
        intro ls H locs hl hw
        have z : some x4 = some o := hf
        cases z
        rw [hQ]
        exact cd_reti C0 hw dX3_reasonAgainst_97
      refine lv_if_ne (tgt := 73) hx hb dX3_reasonAgainst_66 (by decide) (fun c4 => ?_) (fun c4 => ?_)
      · have e4 := cd_ite_f c4 e4
        refine lv_aload_n hx hb dX3_reasonAgainst_73 rfl (lv_at hl 0 rfl) ?_
        refine lv_iload_n hx hb dX3_reasonAgainst_74 rfl (lv_at hl 2 rfl) ?_
        obtain ⟨r5, e5, e4⟩ := cd_bind_some e4
        refine cd_callV (As := [.int a1]) (rest := []) C0 hw (c_X3_isLit l G cI cZ sa sb h T a1 r5 e5) [0, 1, 2, 3, 4, 5, 6, 7, 8, 9, 10] rfl rfl 0 3 rfl rfl rfl (cwV 1 hts gX3_reasonAgainst_X3_isLit rfl rfl rfl (by decide +kernel) ⟨Nat.le_of_ble_eq_true rfl, Nat.le_of_ble_eq_true rfl⟩) rfl hl.1 (lv_room (Nat.le_of_ble_eq_true rfl)) dX3_reasonAgainst_75 (fun H locs hw => ?_)
        refine lv_if_eq (tgt := 85) hx hb dX3_reasonAgainst_78 (by decide) (fun c6 => ?_) (fun c6 => ?_)
        · have e4 := cd_ite_t c6 e4
          refine lv_aload_n hx hb dX3_reasonAgainst_85 rfl (lv_at hl 0 rfl) ?_
          refine va_get (D := G) (ci := 3) (v := .int (T 12 0)) (C := RX3) (T := TX3) (N := 14) hx hb hts nw_X3_reasonAgainst_X3 hown hK hw.1 0 rfl rfl 12 (by decide) hL1 (fun _ h9 => h9) rfl dX3_reasonAgainst_86 ?_
          refine lv_if_ne (tgt := 96) hx hb dX3_reasonAgainst_89 (by decide) (fun c7 => ?_) (fun c7 => ?_)
          · have e4 := cd_ite_f c7 e4
            refine lv_iconst (v := (0 : Int32)) hx hb dX3_reasonAgainst_96 (by decide) ?_
            have z : some (0 : Int32) = some x4 := e4
            cases z
            exact K4 _ _ _ (lv_sub hl [] rfl) hw
          · have e4 := cd_ite_t c7 e4
            refine lv_iconst (v := (3 : Int32)) hx hb dX3_reasonAgainst_92 (by decide) ?_
            refine lv_goto (tgt := 97) hx hb dX3_reasonAgainst_93 (by decide) ?_
            have z : some (3 : Int32) = some x4 := e4
            cases z
            exact K4 _ _ _ (lv_sub hl [] rfl) hw
        · have e4 := cd_ite_f c6 e4
          refine lv_iconst (v := (2 : Int32)) hx hb dX3_reasonAgainst_81 (by decide) ?_
          refine lv_goto (tgt := 97) hx hb dX3_reasonAgainst_82 (by decide) ?_
          have z : some (2 : Int32) = some x4 := e4
          cases z
          exact K4 _ _ _ (lv_sub hl [] rfl) hw
      · have e4 := cd_ite_t c4 e4
        refine lv_iconst (v := (1 : Int32)) hx hb dX3_reasonAgainst_69 (by decide) ?_
        refine lv_goto (tgt := 97) hx hb dX3_reasonAgainst_70 (by decide) ?_
        have z : some (1 : Int32) = some x4 := e4
        cases z
        exact K4 _ _ _ (lv_sub hl [] rfl) hw
    · have hf := cd_ite_f c1_1 hf
      by_cases c1_2 : a0 = (45 : Int32)
      · have hf := cd_ite_t c1_2 hf
        refine lv_lookup (off := 97) (tgt := 98) hx hb dX3_reasonAgainst_1 (by decide) (by rw [c1_2]; decide) (by decide) ?_
        refine lv_aload_n hx hb dX3_reasonAgainst_98 rfl (lv_at hl 0 rfl) ?_
        refine lv_iload_n hx hb dX3_reasonAgainst_99 rfl (lv_at hl 2 rfl) ?_
        obtain ⟨r8, e8, hf⟩ := cd_bind_some hf
        refine cd_callV (As := [.int a1]) (rest := []) C0 hw (c_X3_isLit l G cI cZ sa sb h T a1 r8 e8) [0, 1, 2, 3, 4, 5, 6, 7, 8, 9, 10] rfl rfl 0 3 rfl rfl rfl (cwV 1 hts gX3_reasonAgainst_X3_isLit rfl rfl rfl (by decide +kernel) ⟨Nat.le_of_ble_eq_true rfl, Nat.le_of_ble_eq_true rfl⟩) rfl hl.1 (lv_room (Nat.le_of_ble_eq_true rfl)) dX3_reasonAgainst_100 (fun H locs hw => ?_)
        obtain ⟨x9, e9, hf⟩ := cd_bind_some hf
        have K9 : ∀ (ls : Array Slot) (H : Heap) (locs : List Loc), lv_has ls 4 [] → cd_WS G A s.heap H locs ((pc_town cI h T)) → W p l e rm_X3_reasonAgainst s m ag below meth c H locs 0 0 Q (F0 m 111 ls [.int x9]) := by
          intro ls H locs hl hw
          have z : some x9 = some o := hf
          cases z
          rw [hQ]
          exact cd_reti C0 hw dX3_reasonAgainst_111
        refine lv_if_eq (tgt := 110) hx hb dX3_reasonAgainst_103 (by decide) (fun c9 => ?_) (fun c9 => ?_)
        · have e9 := cd_ite_t c9 e9
          refine lv_iconst (v := (2 : Int32)) hx hb dX3_reasonAgainst_110 (by decide) ?_
          have z : some (2 : Int32) = some x9 := e9
          cases z
          exact K9 _ _ _ (lv_sub hl [] rfl) hw
        · have e9 := cd_ite_f c9 e9
          refine lv_iconst (v := (0 : Int32)) hx hb dX3_reasonAgainst_106 (by decide) ?_
          refine lv_goto (tgt := 111) hx hb dX3_reasonAgainst_107 (by decide) ?_
          have z : some (0 : Int32) = some x9 := e9
          cases z
          exact K9 _ _ _ (lv_sub hl [] rfl) hw
      · have hf := cd_ite_f c1_2 hf
        by_cases c1_3 : a0 = (62 : Int32)
        · have hf := cd_ite_t c1_3 hf
          refine lv_lookup (off := 134) (tgt := 135) hx hb dX3_reasonAgainst_1 (by decide) (by rw [c1_3]; decide) (by decide) ?_
          refine lv_aload_n hx hb dX3_reasonAgainst_135 rfl (lv_at hl 0 rfl) ?_
          refine lv_iload_n hx hb dX3_reasonAgainst_136 rfl (lv_at hl 2 rfl) ?_
          refine lv_iload_n hx hb dX3_reasonAgainst_137 rfl (lv_at hl 3 rfl) ?_
          obtain ⟨r10, e10, hf⟩ := cd_bind_some hf
          refine cd_callV (As := [.int a1, .int a2]) (rest := []) C0 hw (c_X3_reasonAgainstLighting l G cI cZ sa sb h T a1 a2 r10 e10) [0, 1, 2, 3, 4, 5, 6, 7, 8, 9, 10] rfl rfl 0 3 rfl rfl rfl (cwV 2 hts gX3_reasonAgainst_X3_reasonAgainstLighting rfl rfl rfl (by decide +kernel) ⟨Nat.le_of_ble_eq_true rfl, Nat.le_of_ble_eq_true rfl⟩) rfl hl.1 (lv_room (Nat.le_of_ble_eq_true rfl)) dX3_reasonAgainst_138 (fun H locs hw => ?_)
          have z : some r10 = some o := hf
          cases z
          rw [hQ]
          exact cd_reti C0 hw dX3_reasonAgainst_141
        · have hf := cd_ite_f c1_3 hf
          by_cases c1_4 : a0 = (94 : Int32)
          · have hf := cd_ite_t c1_4 hf
            refine lv_lookup (off := 117) (tgt := 118) hx hb dX3_reasonAgainst_1 (by decide) (by rw [c1_4]; decide) (by decide) ?_
            refine lv_aload_n hx hb dX3_reasonAgainst_118 rfl (lv_at hl 0 rfl) ?_
            refine va_get (D := G) (ci := 3) (v := .ref (h 2)) (C := RX3) (T := TX3) (N := 14) hx hb hts nw_X3_reasonAgainst_X3 hown hK hw.1 0 rfl rfl 1 (by decide) hL2 (fun _ h9 => h9) rfl dX3_reasonAgainst_119 ?_
            refine lv_iload_n hx hb dX3_reasonAgainst_122 rfl (lv_at hl 2 rfl) ?_
            obtain ⟨v11, e11, hf⟩ := cd_bind_some hf
            refine cd_iald hx hb hK hw 2 rfl e11 dX3_reasonAgainst_123 ?_
            refine lv_bipush (v := (9 : Int32)) hx hb dX3_reasonAgainst_124 (by decide) ?_
            obtain ⟨x12, e12, hf⟩ := cd_bind_some hf
            have K12 : ∀ (ls : Array Slot) (H : Heap) (locs : List Loc), lv_has ls 4 [] → cd_WS G A s.heap H locs ((pc_town cI h T)) → W p l e rm_X3_reasonAgainst s m ag below meth c H locs 0 0 Q (F0 m 134 ls [.int x12]) := by
              intro ls H locs hl hw
              have z : some x12 = some o := hf
              cases z
              rw [hQ]
              exact cd_reti C0 hw dX3_reasonAgainst_134
            refine lv_icmp_lt (tgt := 133) hx hb dX3_reasonAgainst_126 (by decide) (fun c12 => ?_) (fun c12 => ?_)
            · have e12 := cd_ite_t c12 e12
              refine lv_iconst (v := (0 : Int32)) hx hb dX3_reasonAgainst_133 (by decide) ?_
              have z : some (0 : Int32) = some x12 := e12
              cases z
              exact K12 _ _ _ (lv_sub hl [] rfl) hw
            · have e12 := cd_ite_f c12 e12
              refine lv_iconst (v := (5 : Int32)) hx hb dX3_reasonAgainst_129 (by decide) ?_
              refine lv_goto (tgt := 134) hx hb dX3_reasonAgainst_130 (by decide) ?_
              have z : some (5 : Int32) = some x12 := e12
              cases z
              exact K12 _ _ _ (lv_sub hl [] rfl) hw
          · have hf := cd_ite_f c1_4 hf
            by_cases c1_5 : a0 = (119 : Int32)
            · have hf := cd_ite_t c1_5 hf
              refine lv_lookup (off := 141) (tgt := 142) hx hb dX3_reasonAgainst_1 (by decide) (by rw [c1_5]; decide) (by decide) ?_
              refine lv_aload_n hx hb dX3_reasonAgainst_142 rfl (lv_at hl 0 rfl) ?_
              refine va_get (D := G) (ci := 3) (v := .ref (h 3)) (C := RX3) (T := TX3) (N := 14) hx hb hts nw_X3_reasonAgainst_X3 hown hK hw.1 0 rfl rfl 2 (by decide) hL3 (fun _ h9 => h9) rfl dX3_reasonAgainst_143 ?_
              refine lv_iload_n hx hb dX3_reasonAgainst_146 rfl (lv_at hl 2 rfl) ?_
              obtain ⟨v13, e13, hf⟩ := cd_bind_some hf
              refine cd_iald hx hb hK hw 3 rfl e13 dX3_reasonAgainst_147 ?_
              refine lv_iload_n hx hb dX3_reasonAgainst_148 rfl (lv_at hl 3 rfl) ?_
              obtain ⟨x14, e14, hf⟩ := cd_bind_some hf
              have K14 : ∀ (ls : Array Slot) (H : Heap) (locs : List Loc), lv_has ls 4 [] → cd_WS G A s.heap H locs ((pc_town cI h T)) → W p l e rm_X3_reasonAgainst s m ag below meth c H locs 0 0 Q (F0 m 158 ls [.int x14]) := by
                intro ls H locs hl hw
                have z : some x14 = some o := hf
                cases z
                rw [hQ]
                exact cd_reti C0 hw dX3_reasonAgainst_158
              refine lv_icmp_ne (tgt := 157) hx hb dX3_reasonAgainst_149 (by decide) (fun c14 => ?_) (fun c14 => ?_)
              · have e14 := cd_ite_f c14 e14
                refine lv_iconst (v := (0 : Int32)) hx hb dX3_reasonAgainst_157 (by decide) ?_
                have z : some (0 : Int32) = some x14 := e14
                cases z
                exact K14 _ _ _ (lv_sub hl [] rfl) hw
              · have e14 := cd_ite_t c14 e14
                refine lv_bipush (v := (7 : Int32)) hx hb dX3_reasonAgainst_152 (by decide) ?_
                refine lv_goto (tgt := 158) hx hb dX3_reasonAgainst_154 (by decide) ?_
                have z : some (7 : Int32) = some x14 := e14
                cases z
                exact K14 _ _ _ (lv_sub hl [] rfl) hw
            · have hf := cd_ite_f c1_5 hf
              refine lv_lookup (off := 158) (tgt := 159) hx hb dX3_reasonAgainst_1 (by decide) (by have q0 : a0.toInt ≠ 33 := cd_ne c1_0; have q1 : a0.toInt ≠ 42 := cd_ne c1_1; have q2 : a0.toInt ≠ 45 := cd_ne c1_2; have q3 : a0.toInt ≠ 62 := cd_ne c1_3; have q4 : a0.toInt ≠ 94 := cd_ne c1_4; have q5 : a0.toInt ≠ 119 := cd_ne c1_5; simp [Op.lookupswitch.offset, Ne.symm q0, Ne.symm q1, Ne.symm q2, Ne.symm q3, Ne.symm q4, Ne.symm q5]) (by decide) ?_
              refine lv_aload_n hx hb dX3_reasonAgainst_159 rfl (lv_at hl 0 rfl) ?_
              refine va_get (D := G) (ci := 3) (v := .int (T 13 0)) (C := RX3) (T := TX3) (N := 14) hx hb hts nw_X3_reasonAgainst_X3 hown hK hw.1 0 rfl rfl 13 (by decide) hL4 (fun _ h9 => h9) rfl dX3_reasonAgainst_160 ?_
              refine lv_sipush (v := (999 : Int32)) hx hb dX3_reasonAgainst_163 (by decide) ?_
              obtain ⟨x15, e15, hf⟩ := cd_bind_some hf
              have K15 : ∀ (ls : Array Slot) (H : Heap) (locs : List Loc), lv_has ls 4 [] → cd_WS G A s.heap H locs ((pc_town cI h T)) → W p l e rm_X3_reasonAgainst s m ag below meth c H locs 0 0 Q (F0 m 175 ls [.int x15]) := by
                intro ls H locs hl hw
                have z : some x15 = some o := hf
                cases z
                rw [hQ]
                exact cd_reti C0 hw dX3_reasonAgainst_175
              refine lv_icmp_lt (tgt := 174) hx hb dX3_reasonAgainst_166 (by decide) (fun c15 => ?_) (fun c15 => ?_)
              · have e15 := cd_ite_t c15 e15
                refine lv_iconst (v := (0 : Int32)) hx hb dX3_reasonAgainst_174 (by decide) ?_
                have z : some (0 : Int32) = some x15 := e15
                cases z
                exact K15 _ _ _ (lv_sub hl [] rfl) hw
              · have e15 := cd_ite_f c15 e15
                refine lv_bipush (v := (8 : Int32)) hx hb dX3_reasonAgainst_169 (by decide) ?_
                refine lv_goto (tgt := 175) hx hb dX3_reasonAgainst_171 (by decide) ?_
                have z : some (8 : Int32) = some x15 := e15
                cases z
                exact K15 _ _ _ (lv_sub hl [] rfl) hw
