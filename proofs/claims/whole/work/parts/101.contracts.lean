abbrev rm_X5_bit : Room := { frames := 0, cells := 0, slots := 0, locals := 0 }
set_option maxHeartbeats 4000000 in
set_option maxRecDepth 100000 in
theorem c_X5_bit (l : Launch) (G : va_G) (cI cZ : ClassId) (sa sb : Nat) (a0 : Int32) (o : Int32) (hf : f_X5_bit a0 = some o) : cd_Ct l G cI cZ sa sb yX5_bit wsX5_bit rm_X5_bit [.int a0] (([] : va_W)) (([] : va_W)) (some (.int o)) := by
  refine cd_of (cc := cX5_bit) (maxL := 1) (ret := (some .int)) (by decide) rfl (Nat.le_of_ble_eq_true rfl) ?_
  intro p e s m ag below meth c A ls Q C0 hl hw hQ
  have C0 : cd_CX G cI cZ sa sb p s m ag meth c cX5_bit 1 (some .int) wsX5_bit RX5 A := C0
  obtain ⟨⟨hx, hb, hml, hown, hts⟩, hr, hlocks, hA, hE⟩ := id C0
  have hK := hE.1
  have hl : lv_has ls 1 [(0, .int a0)] := hl
  unfold f_X5_bit at hf
  refine lv_iconst (v := (1 : Int32)) hx hb dX5_bit_0 (by decide) ?_
  refine lv_iload_n hx hb dX5_bit_1 rfl (lv_at hl 0 rfl) ?_
  refine lv_ishl hx hb dX5_bit_2 ?_
  have z : some ((1 : Int32) <<< (a0 &&& 31)) = some o := hf
  cases z
  rw [hQ]
  exact cd_reti C0 hw dX5_bit_3
abbrev rm_X3_part : Room := { frames := 1, cells := 0, slots := 0, locals := 20 }
theorem nw_X3_part_X3 : ∀ w ∈ u_ws RX3 TX3 14, w ∈ wsX3_part := by decide +kernel
set_option maxHeartbeats 4000000 in
set_option maxRecDepth 100000 in
theorem c_X3_part (l : Launch) (G : va_G) (cI cZ : ClassId) (sa sb : Nat) (h : Nat → Nat) (T : Nat → Nat → Int32) (a0 : Int32) (o : (Nat → Nat → Int32)) (hf : f_X3_part a0 T = some o) : cd_Ct l G cI cZ sa sb yX3_part wsX3_part rm_X3_part [.ref (h 0), .int a0] ((pc_town cI h T)) ((pc_town cI h o)) none := by
  refine cd_of (cc := cX3_part) (maxL := 3) (ret := none) (by decide) rfl (Nat.le_of_ble_eq_true rfl) ?_
  intro p e s m ag below meth c A ls Q C0 hl hw hQ
  have C0 : cd_CX G cI cZ sa sb p s m ag meth c cX3_part 3 none wsX3_part RX3 A := C0
  obtain ⟨⟨hx, hb, hml, hown, hts⟩, hr, hlocks, hA, hE⟩ := id C0
  have hK := hE.1
  have hL0 := hts (.fieldLink RX3 30 "CandleDebts$Town" "groups" "[I") (by decide +kernel)
  have hL1 := hts (.initialized RX5) (by decide +kernel)
  have hL2 := hts (.static yX5_bit) (by decide +kernel)
  have hl : lv_has ls 3 [(0, .ref (h 0)), (1, .int a0)] := hl
  unfold f_X3_part at hf
  refine lv_iconst (v := (0 : Int32)) hx hb dX3_part_0 (by decide) ?_
  refine lv_istore_n (lv' := [(2, .int (0 : Int32)), (0, .ref (h 0)), (1, .int a0)]) hx hb dX3_part_1 rfl hl (by decide) rfl (fun ls hl => ?_)
  obtain ⟨x1, e1, hf⟩ := cd_bind_some hf
  have K1 : ∀ (t1 : (Nat → Nat → Int32)), t1 = x1 → ∀ (ls : Array Slot) (H : Heap) (locs : List Loc), lv_has ls 3 [(0, .ref (h 0)), (1, .int a0)] → cd_WS G A s.heap H locs ((pc_town cI h t1)) → W p l e rm_X3_part s m ag below meth c H locs 0 0 Q (F0 m 29 ls []) := by
    intro t1 hs_1
    subst hs_1
    intro ls H locs hl hw
    refine lv_aload_n hx hb dX3_part_29 rfl (lv_at hl 0 rfl) ?_
    refine va_get (D := G) (ci := 3) (v := .ref (h 7)) (C := RX3) (T := TX3) (N := 14) hx hb hts nw_X3_part_X3 hown hK hw.1 0 rfl rfl 6 (by decide) hL0 (fun _ h9 => h9) rfl dX3_part_30 ?_
    refine lv_iload_n hx hb dX3_part_33 rfl (lv_at hl 1 rfl) ?_
    refine lv_iload_n hx hb dX3_part_34 rfl (lv_at hl 1 rfl) ?_
    obtain ⟨r6, e6, hf⟩ := cd_bind_some hf
    refine cd_callSN (As := [.int a0]) (rest := [.int a0, .ref (h 7)]) C0 hw (c_X5_bit l G cI cZ sa sb a0 r6 e6) [] rfl rfl ⟨va_cnB 1 hts ggX3_part_X5_bit rfl rfl rfl (hE.2.1 (.methodLinkNest RX3 46 yX5_bit RX5) (by simp [cd_nest])) hL1 (by decide +kernel) ⟨Nat.le_of_ble_eq_true rfl, Nat.le_of_ble_eq_true rfl⟩, hL2, trivial⟩ rfl hl.1 (lv_room (Nat.le_of_ble_eq_true rfl)) dX3_part_35 (fun H locs hw => ?_)
    obtain ⟨j7, e7, hf⟩ := cd_bind_some hf
    refine cd_iast (f := t1 6) hx hb hK hw 7 rfl e7 dX3_part_38 (fun H locs hw => ?_)
    have hw : cd_WS G A s.heap H locs ((pc_town cI h (cd_set t1 6 j7 r6))) := (show ∀ (s9 : Nat → Nat → Int32) (y9 : Int32), cd_WS G A s.heap H locs (((pc_town cI h s9)).set 7 (h 7, .inl (cI, 12, .inl (upd (s9 6) j7 y9)))) → cd_WS G A s.heap H locs ((pc_town cI h (cd_set s9 6 j7 y9))) from fun _ _ hh => hh) t1 r6 hw
    have z : some (cd_set t1 6 j7 r6) = some o := hf
    cases z
    rw [hQ]
    exact cd_retv C0 hw dX3_part_39
  refine cd_iter_ind (body := (f_X3_part_b2 a0)) (K := fun r => r = x1) (P := fun (z1 : Int32 × (Nat → Nat → Int32)) => ∀ (ls : Array Slot) (H : Heap) (locs : List Loc), lv_has ls 3 [(0, .ref (h 0)), (1, .int a0), (2, .int z1.1)] → cd_WS G A s.heap H locs ((pc_town cI h z1.2)) → W p l e rm_X3_part s m ag below meth c H locs 0 0 Q (F0 m 2 ls [])) ?_ cd_N ((0 : Int32), T) x1 e1 rfl _ _ _ (lv_sub hl [1, 2, 0] rfl) hw
  intro z1 o1 hb1 hk1 ls H locs hl hw
  unfold f_X3_part_b2 at hb1
  refine lv_iload_n hx hb dX3_part_2 rfl (lv_at hl 2 rfl) ?_
  refine lv_bipush (v := (12 : Int32)) hx hb dX3_part_3 (by decide) ?_
  refine lv_icmp_ge (tgt := 29) hx hb dX3_part_5 (by decide) (fun c2 => ?_) (fun c2 => ?_)
  · have hb1 := cd_ite_t c2 hb1
    have z : some (Sum.inl z1.2) = some o1 := hb1
    cases z
    exact K1 _ hk1 _ _ _ (lv_sub hl [0, 1] rfl) hw
  · have hb1 := cd_ite_f c2 hb1
    refine lv_aload_n hx hb dX3_part_8 rfl (lv_at hl 0 rfl) ?_
    refine va_get (D := G) (ci := 3) (v := .ref (h 7)) (C := RX3) (T := TX3) (N := 14) hx hb hts nw_X3_part_X3 hown hK hw.1 0 rfl rfl 6 (by decide) hL0 (fun _ h9 => h9) rfl dX3_part_9 ?_
    refine lv_iload_n hx hb dX3_part_12 rfl (lv_at hl 2 rfl) ?_
    refine lv_dup2_11 hx hb dX3_part_13 rfl rfl ?_
    obtain ⟨v3, e3, hb1⟩ := cd_bind_some hb1
    refine cd_iald hx hb hK hw 7 rfl e3 dX3_part_14 ?_
    refine lv_iload_n hx hb dX3_part_15 rfl (lv_at hl 1 rfl) ?_
    obtain ⟨r4, e4, hb1⟩ := cd_bind_some hb1
    refine cd_callSN (As := [.int a0]) (rest := [.int v3, .int z1.1, .ref (h 7)]) C0 hw (c_X5_bit l G cI cZ sa sb a0 r4 e4) [] rfl rfl ⟨va_cnB 1 hts ggX3_part_X5_bit rfl rfl rfl (hE.2.1 (.methodLinkNest RX3 46 yX5_bit RX5) (by simp [cd_nest])) hL1 (by decide +kernel) ⟨Nat.le_of_ble_eq_true rfl, Nat.le_of_ble_eq_true rfl⟩, hL2, trivial⟩ rfl hl.1 (lv_room (Nat.le_of_ble_eq_true rfl)) dX3_part_16 (fun H locs hw => ?_)
    refine lv_iconst (v := (-1 : Int32)) hx hb dX3_part_19 (by decide) ?_
    refine lv_ixor hx hb dX3_part_20 ?_
    refine lv_iand hx hb dX3_part_21 ?_
    obtain ⟨j5, e5, hb1⟩ := cd_bind_some hb1
    refine cd_iast (f := z1.2 6) hx hb hK hw 7 rfl e5 dX3_part_22 (fun H locs hw => ?_)
    have hw : cd_WS G A s.heap H locs ((pc_town cI h (cd_set z1.2 6 j5 (v3 &&& (r4 ^^^ (-1 : Int32)))))) := (show ∀ (s9 : Nat → Nat → Int32) (y9 : Int32), cd_WS G A s.heap H locs (((pc_town cI h s9)).set 7 (h 7, .inl (cI, 12, .inl (upd (s9 6) j5 y9)))) → cd_WS G A s.heap H locs ((pc_town cI h (cd_set s9 6 j5 y9))) from fun _ _ hh => hh) z1.2 (v3 &&& (r4 ^^^ (-1 : Int32))) hw
    refine lv_iinc (v := (z1.1 + (1 : Int32))) (lv' := [(2, .int (z1.1 + (1 : Int32))), (0, .ref (h 0)), (1, .int a0)]) hx hb dX3_part_23 hl (k := 2) rfl rfl (by decide) rfl (fun ls hl => ?_)
    refine lv_goto (tgt := 2) hx hb dX3_part_26 (by decide) ?_
    have z : some (Sum.inr ((z1.1 + (1 : Int32)), (cd_set z1.2 6 j5 (v3 &&& (r4 ^^^ (-1 : Int32)))))) = some o1 := hb1
    cases z
    exact hk1 _ _ _ (lv_sub hl [1, 2, 0] rfl) hw
abbrev rm_X3_lightByMatch : Room := { frames := 2, cells := 0, slots := 0, locals := 42 }
theorem nw_X3_lightByMatch_X3 : ∀ w ∈ u_ws RX3 TX3 14, w ∈ wsX3_lightByMatch := by decide +kernel
set_option maxHeartbeats 4000000 in
set_option maxRecDepth 100000 in
theorem c_X3_lightByMatch (l : Launch) (G : va_G) (cI cZ : ClassId) (sa sb : Nat) (h : Nat → Nat) (T : Nat → Nat → Int32) (a0 : Int32) (o : (Nat → Nat → Int32)) (hf : f_X3_lightByMatch a0 T = some o) : cd_Ct l G cI cZ sa sb yX3_lightByMatch wsX3_lightByMatch rm_X3_lightByMatch [.ref (h 0), .int a0] ((pc_town cI h T)) ((pc_town cI h o)) none := by
  refine cd_of (cc := cX3_lightByMatch) (maxL := 2) (ret := none) (by decide) rfl (Nat.le_of_ble_eq_true rfl) ?_
  intro p e s m ag below meth c A ls Q C0 hl hw hQ
  have C0 : cd_CX G cI cZ sa sb p s m ag meth c cX3_lightByMatch 2 none wsX3_lightByMatch RX3 A := C0
  obtain ⟨⟨hx, hb, hml, hown, hts⟩, hr, hlocks, hA, hE⟩ := id C0
  have hK := hE.1
  have hL0 := hts (.fieldLink RX3 42 "CandleDebts$Town" "matchesLeft" "I") (by decide +kernel)
  have hL1 := hts (.fieldLink RX3 59 "CandleDebts$Town" "lit" "I") (by decide +kernel)
  have hL2 := hts (.initialized RX5) (by decide +kernel)
  have hL3 := hts (.static yX5_bit) (by decide +kernel)
  have hl : lv_has ls 2 [(0, .ref (h 0)), (1, .int a0)] := hl
  unfold f_X3_lightByMatch at hf
  refine lv_aload_n hx hb dX3_lightByMatch_0 rfl (lv_at hl 0 rfl) ?_
  refine lv_dup hx hb dX3_lightByMatch_1 rfl ?_
  refine va_get (D := G) (ci := 3) (v := .int (T 12 0)) (C := RX3) (T := TX3) (N := 14) hx hb hts nw_X3_lightByMatch_X3 hown hK hw.1 0 rfl rfl 12 (by decide) hL0 (fun _ h9 => h9) rfl dX3_lightByMatch_2 ?_
  refine lv_iconst (v := (1 : Int32)) hx hb dX3_lightByMatch_5 (by decide) ?_
  refine lv_isub hx hb dX3_lightByMatch_6 ?_
  refine va_put (D := G) (ci := 3) (v := .int ((T 12 0) - (1 : Int32))) (ty := .int) (C := RX3) (T := TX3) (N := 14) hx hb hts nw_X3_lightByMatch_X3 tyX3 tyX3_ok nmX3 hown hK hw.1 hw.2.1 hw.2.2 0 rfl rfl 12 (by decide) hL0 (fun _ h9 => h9) rfl (by decide +kernel) rfl rfl (Nat.le_of_ble_eq_true rfl) dX3_lightByMatch_7 (fun H locs hP hD hS => ?_)
  have hw : cd_WS G A s.heap H locs ((pc_town cI h (cd_fld T 12 ((T 12 0) - (1 : Int32))))) := ⟨hP, hD, hS⟩
  refine lv_aload_n hx hb dX3_lightByMatch_10 rfl (lv_at hl 0 rfl) ?_
  refine lv_dup hx hb dX3_lightByMatch_11 rfl ?_
  refine va_get (D := G) (ci := 3) (v := .int (T 11 0)) (C := RX3) (T := TX3) (N := 14) hx hb hts nw_X3_lightByMatch_X3 hown hK hw.1 0 rfl rfl 11 (by decide) hL1 (fun _ h9 => h9) rfl dX3_lightByMatch_12 ?_
  refine lv_iload_n hx hb dX3_lightByMatch_15 rfl (lv_at hl 1 rfl) ?_
  obtain ⟨r1, e1, hf⟩ := cd_bind_some hf
  refine cd_callSN (As := [.int a0]) (rest := [.int (T 11 0), .ref (h 0)]) C0 hw (c_X5_bit l G cI cZ sa sb a0 r1 e1) [] rfl rfl ⟨va_cnB 1 hts ggX3_lightByMatch_X5_bit rfl rfl rfl (hE.2.1 (.methodLinkNest RX3 46 yX5_bit RX5) (by simp [cd_nest])) hL2 (by decide +kernel) ⟨Nat.le_of_ble_eq_true rfl, Nat.le_of_ble_eq_true rfl⟩, hL3, trivial⟩ rfl hl.1 (lv_room (Nat.le_of_ble_eq_true rfl)) dX3_lightByMatch_16 (fun H locs hw => ?_)
  refine lv_ior hx hb dX3_lightByMatch_19 ?_
  refine va_put (D := G) (ci := 3) (v := .int ((T 11 0) ||| r1)) (ty := .int) (C := RX3) (T := TX3) (N := 14) hx hb hts nw_X3_lightByMatch_X3 tyX3 tyX3_ok nmX3 hown hK hw.1 hw.2.1 hw.2.2 0 rfl rfl 11 (by decide) hL1 (fun _ h9 => h9) rfl (by decide +kernel) rfl rfl (Nat.le_of_ble_eq_true rfl) dX3_lightByMatch_20 (fun H locs hP hD hS => ?_)
  have hw : cd_WS G A s.heap H locs ((pc_town cI h (cd_fld (cd_fld T 12 ((T 12 0) - (1 : Int32))) 11 ((T 11 0) ||| r1)))) := ⟨hP, hD, hS⟩
  refine lv_aload_n hx hb dX3_lightByMatch_23 rfl (lv_at hl 0 rfl) ?_
  refine lv_iload_n hx hb dX3_lightByMatch_24 rfl (lv_at hl 1 rfl) ?_
  obtain ⟨r2, e2, hf⟩ := cd_bind_some hf
  refine cd_callVw (As := [.int a0]) (rest := []) (wr := ([] : va_W)) (wn := (pc_town cI h r2)) C0 hw (c_X3_part l G cI cZ sa sb h (cd_fld (cd_fld T 12 ((T 12 0) - (1 : Int32))) 11 ((T 11 0) ||| r1)) a0 r2 e2) [0, 1, 2, 3, 4, 5, 6, 7, 8, 9, 10] [] [0, 1, 2, 3, 4, 5, 6, 7, 8, 9, 10] rfl rfl rfl rfl (by decide) rfl rfl 0 3 rfl rfl rfl (cwV 1 hts gX3_lightByMatch_X3_part rfl rfl rfl (by decide +kernel) ⟨Nat.le_of_ble_eq_true rfl, Nat.le_of_ble_eq_true rfl⟩) rfl hl.1 (lv_room (Nat.le_of_ble_eq_true rfl)) dX3_lightByMatch_25 (fun H locs hw => ?_)
  have z : some r2 = some o := hf
  cases z
  rw [hQ]
  exact cd_retv C0 hw dX3_lightByMatch_28
abbrev rm_X3_putOut : Room := { frames := 0, cells := 0, slots := 0, locals := 0 }
theorem nw_X3_putOut_X3 : ∀ w ∈ u_ws RX3 TX3 14, w ∈ wsX3_putOut := by decide +kernel
set_option maxHeartbeats 4000000 in
set_option maxRecDepth 100000 in
theorem c_X3_putOut (l : Launch) (G : va_G) (cI cZ : ClassId) (sa sb : Nat) (h : Nat → Nat) (T : Nat → Nat → Int32) (a0 : Int32) (o : (Nat → Nat → Int32)) (hf : f_X3_putOut a0 T = some o) : cd_Ct l G cI cZ sa sb yX3_putOut wsX3_putOut rm_X3_putOut [.ref (h 0), .int a0] ((pc_town cI h T)) ((pc_town cI h o)) none := by
  refine cd_of (cc := cX3_putOut) (maxL := 2) (ret := none) (by decide) rfl (Nat.le_of_ble_eq_true rfl) ?_
  intro p e s m ag below meth c A ls Q C0 hl hw hQ
  have C0 : cd_CX G cI cZ sa sb p s m ag meth c cX3_putOut 2 none wsX3_putOut RX3 A := C0
  obtain ⟨⟨hx, hb, hml, hown, hts⟩, hr, hlocks, hA, hE⟩ := id C0
  have hK := hE.1
  have hL0 := hts (.fieldLink RX3 59 "CandleDebts$Town" "lit" "I") (by decide +kernel)
  have hL1 := hts (.fieldLink RX3 30 "CandleDebts$Town" "groups" "[I") (by decide +kernel)
  have hl : lv_has ls 2 [(0, .ref (h 0)), (1, .int a0)] := hl
  unfold f_X3_putOut at hf
  refine lv_aload_n hx hb dX3_putOut_0 rfl (lv_at hl 0 rfl) ?_
  refine lv_dup hx hb dX3_putOut_1 rfl ?_
  refine va_get (D := G) (ci := 3) (v := .int (T 11 0)) (C := RX3) (T := TX3) (N := 14) hx hb hts nw_X3_putOut_X3 hown hK hw.1 0 rfl rfl 11 (by decide) hL0 (fun _ h9 => h9) rfl dX3_putOut_2 ?_
  refine lv_aload_n hx hb dX3_putOut_5 rfl (lv_at hl 0 rfl) ?_
  refine va_get (D := G) (ci := 3) (v := .ref (h 7)) (C := RX3) (T := TX3) (N := 14) hx hb hts nw_X3_putOut_X3 hown hK hw.1 0 rfl rfl 6 (by decide) hL1 (fun _ h9 => h9) rfl dX3_putOut_6 ?_
  refine lv_iload_n hx hb dX3_putOut_9 rfl (lv_at hl 1 rfl) ?_
  obtain ⟨v1, e1, hf⟩ := cd_bind_some hf
  refine cd_iald hx hb hK hw 7 rfl e1 dX3_putOut_10 ?_
  refine lv_iconst (v := (-1 : Int32)) hx hb dX3_putOut_11 (by decide) ?_
  refine lv_ixor hx hb dX3_putOut_12 ?_
  refine lv_iand hx hb dX3_putOut_13 ?_
  refine va_put (D := G) (ci := 3) (v := .int ((T 11 0) &&& (v1 ^^^ (-1 : Int32)))) (ty := .int) (C := RX3) (T := TX3) (N := 14) hx hb hts nw_X3_putOut_X3 tyX3 tyX3_ok nmX3 hown hK hw.1 hw.2.1 hw.2.2 0 rfl rfl 11 (by decide) hL0 (fun _ h9 => h9) rfl (by decide +kernel) rfl rfl (Nat.le_of_ble_eq_true rfl) dX3_putOut_14 (fun H locs hP hD hS => ?_)
  have hw : cd_WS G A s.heap H locs ((pc_town cI h (cd_fld T 11 ((T 11 0) &&& (v1 ^^^ (-1 : Int32)))))) := ⟨hP, hD, hS⟩
  have z : some (cd_fld T 11 ((T 11 0) &&& (v1 ^^^ (-1 : Int32)))) = some o := hf
  cases z
  rw [hQ]
  exact cd_retv C0 hw dX3_putOut_17
abbrev rm_X3_pay : Room := { frames := 1, cells := 0, slots := 0, locals := 22 }
theorem nw_X3_pay_X3 : ∀ w ∈ u_ws RX3 TX3 14, w ∈ wsX3_pay := by decide +kernel
set_option maxHeartbeats 4000000 in
set_option maxRecDepth 100000 in
theorem c_X3_pay (l : Launch) (G : va_G) (cI cZ : ClassId) (sa sb : Nat) (h : Nat → Nat) (T : Nat → Nat → Int32) (a0 : Int32) (o : Int32 × (Nat → Nat → Int32)) (hf : f_X3_pay a0 T = some o) : cd_Ct l G cI cZ sa sb yX3_pay wsX3_pay rm_X3_pay [.ref (h 0), .int a0] ((pc_town cI h T)) ((pc_town cI h o.2)) (some (.int o.1)) := by
  refine cd_of (cc := cX3_pay) (maxL := 3) (ret := (some .int)) (by decide) rfl (Nat.le_of_ble_eq_true rfl) ?_
  intro p e s m ag below meth c A ls Q C0 hl hw hQ
  have C0 : cd_CX G cI cZ sa sb p s m ag meth c cX3_pay 3 (some .int) wsX3_pay RX3 A := C0
  obtain ⟨⟨hx, hb, hml, hown, hts⟩, hr, hlocks, hA, hE⟩ := id C0
  have hK := hE.1
  have hL0 := hts (.fieldLink RX3 33 "CandleDebts$Town" "purses" "[I") (by decide +kernel)
  have hL1 := hts (.fieldLink RX3 24 "CandleDebts$Town" "debtors" "[I") (by decide +kernel)
  have hL2 := hts (.fieldLink RX3 21 "CandleDebts$Town" "creditors" "[I") (by decide +kernel)
  have hL3 := hts (.fieldLink RX3 27 "CandleDebts$Town" "sums" "[I") (by decide +kernel)
  have hl : lv_has ls 3 [(0, .ref (h 0)), (1, .int a0)] := hl
  unfold f_X3_pay at hf
  refine lv_aload_n hx hb dX3_pay_0 rfl (lv_at hl 0 rfl) ?_
  refine lv_iload_n hx hb dX3_pay_1 rfl (lv_at hl 1 rfl) ?_
  obtain ⟨r1, e1, hf⟩ := cd_bind_some hf
  refine cd_callV (As := [.int a0]) (rest := []) C0 hw (c_X3_dueOf l G cI cZ sa sb h T a0 r1 e1) [0, 1, 2, 3, 4, 5, 6, 7, 8, 9, 10] rfl rfl 0 3 rfl rfl rfl (cwV 1 hts gX3_pay_X3_dueOf rfl rfl rfl (by decide +kernel) ⟨Nat.le_of_ble_eq_true rfl, Nat.le_of_ble_eq_true rfl⟩) rfl hl.1 (lv_room (Nat.le_of_ble_eq_true rfl)) dX3_pay_2 (fun H locs hw => ?_)
  refine lv_istore_n (lv' := [(2, .int r1), (0, .ref (h 0)), (1, .int a0)]) hx hb dX3_pay_5 rfl hl (by decide) rfl (fun ls hl => ?_)
  refine lv_aload_n hx hb dX3_pay_6 rfl (lv_at hl 1 rfl) ?_
  refine va_get (D := G) (ci := 3) (v := .ref (h 8)) (C := RX3) (T := TX3) (N := 14) hx hb hts nw_X3_pay_X3 hown hK hw.1 0 rfl rfl 7 (by decide) hL0 (fun _ h9 => h9) rfl dX3_pay_7 ?_
  refine lv_aload_n hx hb dX3_pay_10 rfl (lv_at hl 1 rfl) ?_
  refine va_get (D := G) (ci := 3) (v := .ref (h 5)) (C := RX3) (T := TX3) (N := 14) hx hb hts nw_X3_pay_X3 hown hK hw.1 0 rfl rfl 4 (by decide) hL1 (fun _ h9 => h9) rfl dX3_pay_11 ?_
  refine lv_iload_n hx hb dX3_pay_14 rfl (lv_at hl 2 rfl) ?_
  obtain ⟨v2, e2, hf⟩ := cd_bind_some hf
  refine cd_iald hx hb hK hw 5 rfl e2 dX3_pay_15 ?_
  refine lv_dup2_11 hx hb dX3_pay_16 rfl rfl ?_
  obtain ⟨v3, e3, hf⟩ := cd_bind_some hf
  refine cd_iald hx hb hK hw 8 rfl e3 dX3_pay_17 ?_
  refine lv_iload_n hx hb dX3_pay_18 rfl (lv_at hl 0 rfl) ?_
  refine lv_isub hx hb dX3_pay_19 ?_
  obtain ⟨j4, e4, hf⟩ := cd_bind_some hf
  refine cd_iast (f := T 7) hx hb hK hw 8 rfl e4 dX3_pay_20 (fun H locs hw => ?_)
  have hw : cd_WS G A s.heap H locs ((pc_town cI h (cd_set T 7 j4 (v3 - r1)))) := (show ∀ (s9 : Nat → Nat → Int32) (y9 : Int32), cd_WS G A s.heap H locs (((pc_town cI h s9)).set 8 (h 8, .inl (cI, 6, .inl (upd (s9 7) j4 y9)))) → cd_WS G A s.heap H locs ((pc_town cI h (cd_set s9 7 j4 y9))) from fun _ _ hh => hh) T (v3 - r1) hw
  refine lv_aload_n hx hb dX3_pay_21 rfl (lv_at hl 1 rfl) ?_
  refine va_get (D := G) (ci := 3) (v := .ref (h 8)) (C := RX3) (T := TX3) (N := 14) hx hb hts nw_X3_pay_X3 hown hK hw.1 0 rfl rfl 7 (by decide) hL0 (fun _ h9 => h9) rfl dX3_pay_22 ?_
  refine lv_aload_n hx hb dX3_pay_25 rfl (lv_at hl 1 rfl) ?_
  refine va_get (D := G) (ci := 3) (v := .ref (h 4)) (C := RX3) (T := TX3) (N := 14) hx hb hts nw_X3_pay_X3 hown hK hw.1 0 rfl rfl 3 (by decide) hL2 (fun _ h9 => h9) rfl dX3_pay_26 ?_
  refine lv_iload_n hx hb dX3_pay_29 rfl (lv_at hl 2 rfl) ?_
  obtain ⟨v5, e5, hf⟩ := cd_bind_some hf
  refine cd_iald hx hb hK hw 4 rfl e5 dX3_pay_30 ?_
  refine lv_dup2_11 hx hb dX3_pay_31 rfl rfl ?_
  obtain ⟨v6, e6, hf⟩ := cd_bind_some hf
  refine cd_iald hx hb hK hw 8 rfl e6 dX3_pay_32 ?_
  refine lv_iload_n hx hb dX3_pay_33 rfl (lv_at hl 0 rfl) ?_
  refine lv_iadd hx hb dX3_pay_34 ?_
  obtain ⟨j7, e7, hf⟩ := cd_bind_some hf
  refine cd_iast (f := (cd_set T 7 j4 (v3 - r1)) 7) hx hb hK hw 8 rfl e7 dX3_pay_35 (fun H locs hw => ?_)
  have hw : cd_WS G A s.heap H locs ((pc_town cI h (cd_set (cd_set T 7 j4 (v3 - r1)) 7 j7 (v6 + r1)))) := (show ∀ (s9 : Nat → Nat → Int32) (y9 : Int32), cd_WS G A s.heap H locs (((pc_town cI h s9)).set 8 (h 8, .inl (cI, 6, .inl (upd (s9 7) j7 y9)))) → cd_WS G A s.heap H locs ((pc_town cI h (cd_set s9 7 j7 y9))) from fun _ _ hh => hh) (cd_set T 7 j4 (v3 - r1)) (v6 + r1) hw
  refine lv_aload_n hx hb dX3_pay_36 rfl (lv_at hl 1 rfl) ?_
  refine va_get (D := G) (ci := 3) (v := .ref (h 6)) (C := RX3) (T := TX3) (N := 14) hx hb hts nw_X3_pay_X3 hown hK hw.1 0 rfl rfl 5 (by decide) hL3 (fun _ h9 => h9) rfl dX3_pay_37 ?_
  refine lv_iload_n hx hb dX3_pay_40 rfl (lv_at hl 2 rfl) ?_
  refine lv_dup2_11 hx hb dX3_pay_41 rfl rfl ?_
  obtain ⟨v8, e8, hf⟩ := cd_bind_some hf
  refine cd_iald hx hb hK hw 6 rfl e8 dX3_pay_42 ?_
  refine lv_iload_n hx hb dX3_pay_43 rfl (lv_at hl 0 rfl) ?_
  refine lv_isub hx hb dX3_pay_44 ?_
  obtain ⟨j9, e9, hf⟩ := cd_bind_some hf
  refine cd_iast (f := (cd_set (cd_set T 7 j4 (v3 - r1)) 7 j7 (v6 + r1)) 5) hx hb hK hw 6 rfl e9 dX3_pay_45 (fun H locs hw => ?_)
  have hw : cd_WS G A s.heap H locs ((pc_town cI h (cd_set (cd_set (cd_set T 7 j4 (v3 - r1)) 7 j7 (v6 + r1)) 5 j9 (v8 - r1)))) := (show ∀ (s9 : Nat → Nat → Int32) (y9 : Int32), cd_WS G A s.heap H locs (((pc_town cI h s9)).set 6 (h 6, .inl (cI, 12, .inl (upd (s9 5) j9 y9)))) → cd_WS G A s.heap H locs ((pc_town cI h (cd_set s9 5 j9 y9))) from fun _ _ hh => hh) (cd_set (cd_set T 7 j4 (v3 - r1)) 7 j7 (v6 + r1)) (v8 - r1) hw
  refine lv_iload_n hx hb dX3_pay_46 rfl (lv_at hl 0 rfl) ?_
  have z : some (r1, (cd_set (cd_set (cd_set T 7 j4 (v3 - r1)) 7 j7 (v6 + r1)) 5 j9 (v8 - r1))) = some o := hf
  cases z
  rw [hQ]
  exact cd_reti C0 hw dX3_pay_47
abbrev rm_X5_holds : Room := { frames := 0, cells := 0, slots := 0, locals := 0 }
set_option maxHeartbeats 4000000 in
set_option maxRecDepth 100000 in
theorem c_X5_holds (l : Launch) (G : va_G) (cI cZ : ClassId) (sa sb : Nat) (a0 : Int32) (a1 : Int32) (o : Int32) (hf : f_X5_holds a0 a1 = some o) : cd_Ct l G cI cZ sa sb yX5_holds wsX5_holds rm_X5_holds [.int a0, .int a1] (([] : va_W)) (([] : va_W)) (some (.int o)) := by
  refine cd_of (cc := cX5_holds) (maxL := 2) (ret := (some .boolean)) (by decide) rfl (Nat.le_of_ble_eq_true rfl) ?_
  intro p e s m ag below meth c A ls Q C0 hl hw hQ
  have C0 : cd_CX G cI cZ sa sb p s m ag meth c cX5_holds 2 (some .boolean) wsX5_holds RX5 A := C0
  obtain ⟨⟨hx, hb, hml, hown, hts⟩, hr, hlocks, hA, hE⟩ := id C0
  have hK := hE.1
  have hl : lv_has ls 2 [(0, .int a0), (1, .int a1)] := hl
  unfold f_X5_holds at hf
  refine lv_iload_n hx hb dX5_holds_0 rfl (lv_at hl 0 rfl) ?_
  refine lv_iload_n hx hb dX5_holds_1 rfl (lv_at hl 1 rfl) ?_
  refine lv_ishr hx hb dX5_holds_2 ?_
  refine lv_iconst (v := (1 : Int32)) hx hb dX5_holds_3 (by decide) ?_
  refine lv_iand hx hb dX5_holds_4 ?_
  obtain ⟨x1, e1, hf⟩ := cd_bind_some hf
  have K1 : ∀ (ls : Array Slot) (H : Heap) (locs : List Loc), lv_has ls 2 [] → cd_WS G A s.heap H locs (([] : va_W)) → W p l e rm_X5_holds s m ag below meth c H locs 0 0 Q (F0 m 13 ls [.int x1]) := by
    intro ls H locs hl hw
    obtain ⟨u2, e2, hf⟩ := cd_bind_some hf
    have z : some x1 = some o := hf
    cases z
    rw [hQ]
    exact cd_retz C0 hw (cd_zb_eq e2) dX5_holds_13
  refine lv_if_eq (tgt := 12) hx hb dX5_holds_5 (by decide) (fun c1 => ?_) (fun c1 => ?_)
  · have e1 := cd_ite_t c1 e1
    refine lv_iconst (v := (0 : Int32)) hx hb dX5_holds_12 (by decide) ?_
    have z : some (0 : Int32) = some x1 := e1
    cases z
    exact K1 _ _ _ (lv_sub hl [] rfl) hw
  · have e1 := cd_ite_f c1 e1
    refine lv_iconst (v := (1 : Int32)) hx hb dX5_holds_8 (by decide) ?_
    refine lv_goto (tgt := 13) hx hb dX5_holds_9 (by decide) ?_
    have z : some (1 : Int32) = some x1 := e1
    cases z
    exact K1 _ _ _ (lv_sub hl [] rfl) hw
abbrev rm_X3_lightFrom : Room := { frames := 1, cells := 0, slots := 0, locals := 21 }
theorem nw_X3_lightFrom_X3 : ∀ w ∈ u_ws RX3 TX3 14, w ∈ wsX3_lightFrom := by decide +kernel
set_option maxHeartbeats 4000000 in
set_option maxRecDepth 100000 in
theorem c_X3_lightFrom (l : Launch) (G : va_G) (cI cZ : ClassId) (sa sb : Nat) (h : Nat → Nat) (T : Nat → Nat → Int32) (a0 : Int32) (a1 : Int32) (o : (Nat → Nat → Int32)) (hf : f_X3_lightFrom a0 a1 T = some o) : cd_Ct l G cI cZ sa sb yX3_lightFrom wsX3_lightFrom rm_X3_lightFrom [.ref (h 0), .int a0, .int a1] ((pc_town cI h T)) ((pc_town cI h o)) none := by
  refine cd_of (cc := cX3_lightFrom) (maxL := 5) (ret := none) (by decide) rfl (Nat.le_of_ble_eq_true rfl) ?_
  intro p e s m ag below meth c A ls Q C0 hl hw hQ
  have C0 : cd_CX G cI cZ sa sb p s m ag meth c cX3_lightFrom 5 none wsX3_lightFrom RX3 A := C0
  obtain ⟨⟨hx, hb, hml, hown, hts⟩, hr, hlocks, hA, hE⟩ := id C0
  have hK := hE.1
  have hL0 := hts (.fieldLink RX3 59 "CandleDebts$Town" "lit" "I") (by decide +kernel)
  have hL1 := hts (.initialized RX5) (by decide +kernel)
  have hL2 := hts (.static yX5_bit) (by decide +kernel)
  have hL3 := hts (.fieldLink RX3 30 "CandleDebts$Town" "groups" "[I") (by decide +kernel)
  have hL4 := hts (.static yX5_holds) (by decide +kernel)
  have hl : lv_has ls 5 [(0, .ref (h 0)), (1, .int a0), (2, .int a1)] := hl
  unfold f_X3_lightFrom at hf
  refine lv_aload_n hx hb dX3_lightFrom_0 rfl (lv_at hl 0 rfl) ?_
  refine lv_dup hx hb dX3_lightFrom_1 rfl ?_
  refine va_get (D := G) (ci := 3) (v := .int (T 11 0)) (C := RX3) (T := TX3) (N := 14) hx hb hts nw_X3_lightFrom_X3 hown hK hw.1 0 rfl rfl 11 (by decide) hL0 (fun _ h9 => h9) rfl dX3_lightFrom_2 ?_
  refine lv_iload_n hx hb dX3_lightFrom_5 rfl (lv_at hl 2 rfl) ?_
  obtain ⟨r1, e1, hf⟩ := cd_bind_some hf
  refine cd_callSN (As := [.int a1]) (rest := [.int (T 11 0), .ref (h 0)]) C0 hw (c_X5_bit l G cI cZ sa sb a1 r1 e1) [] rfl rfl ⟨va_cnB 1 hts ggX3_lightFrom_X5_bit rfl rfl rfl (hE.2.1 (.methodLinkNest RX3 46 yX5_bit RX5) (by simp [cd_nest])) hL1 (by decide +kernel) ⟨Nat.le_of_ble_eq_true rfl, Nat.le_of_ble_eq_true rfl⟩, hL2, trivial⟩ rfl hl.1 (lv_room (Nat.le_of_ble_eq_true rfl)) dX3_lightFrom_6 (fun H locs hw => ?_)
  refine lv_ior hx hb dX3_lightFrom_9 ?_
  refine va_put (D := G) (ci := 3) (v := .int ((T 11 0) ||| r1)) (ty := .int) (C := RX3) (T := TX3) (N := 14) hx hb hts nw_X3_lightFrom_X3 tyX3 tyX3_ok nmX3 hown hK hw.1 hw.2.1 hw.2.2 0 rfl rfl 11 (by decide) hL0 (fun _ h9 => h9) rfl (by decide +kernel) rfl rfl (Nat.le_of_ble_eq_true rfl) dX3_lightFrom_10 (fun H locs hP hD hS => ?_)
  have hw : cd_WS G A s.heap H locs ((pc_town cI h (cd_fld T 11 ((T 11 0) ||| r1)))) := ⟨hP, hD, hS⟩
  refine lv_aload_n hx hb dX3_lightFrom_13 rfl (lv_at hl 0 rfl) ?_
  refine va_get (D := G) (ci := 3) (v := .ref (h 7)) (C := RX3) (T := TX3) (N := 14) hx hb hts nw_X3_lightFrom_X3 hown hK hw.1 0 rfl rfl 6 (by decide) hL3 (fun _ h9 => h9) rfl dX3_lightFrom_14 ?_
  refine lv_iload_n hx hb dX3_lightFrom_17 rfl (lv_at hl 1 rfl) ?_
  obtain ⟨v2, e2, hf⟩ := cd_bind_some hf
  refine cd_iald hx hb hK hw 7 rfl e2 dX3_lightFrom_18 ?_
  refine lv_aload_n hx hb dX3_lightFrom_19 rfl (lv_at hl 0 rfl) ?_
  refine va_get (D := G) (ci := 3) (v := .ref (h 7)) (C := RX3) (T := TX3) (N := 14) hx hb hts nw_X3_lightFrom_X3 hown hK hw.1 0 rfl rfl 6 (by decide) hL3 (fun _ h9 => h9) rfl dX3_lightFrom_20 ?_
  refine lv_iload_n hx hb dX3_lightFrom_23 rfl (lv_at hl 2 rfl) ?_
  obtain ⟨v3, e3, hf⟩ := cd_bind_some hf
  refine cd_iald hx hb hK hw 7 rfl e3 dX3_lightFrom_24 ?_
  refine lv_ior hx hb dX3_lightFrom_25 ?_
  refine lv_istore_n (lv' := [(3, .int (v2 ||| v3)), (0, .ref (h 0)), (1, .int a0), (2, .int a1)]) hx hb dX3_lightFrom_26 rfl hl (by decide) rfl (fun ls hl => ?_)
  refine lv_iconst (v := (0 : Int32)) hx hb dX3_lightFrom_27 (by decide) ?_
  refine lv_istore (lv' := [(4, .int (0 : Int32)), (3, .int (v2 ||| v3)), (0, .ref (h 0)), (1, .int a0), (2, .int a1)]) hx hb dX3_lightFrom_28 hl (by decide) rfl (fun ls hl => ?_)
  obtain ⟨x4, e4, hf⟩ := cd_bind_some hf
  have K4 : ∀ (t4 : (Nat → Nat → Int32)), t4 = x4 → ∀ (ls : Array Slot) (H : Heap) (locs : List Loc), lv_has ls 5 [] → cd_WS G A s.heap H locs ((pc_town cI h t4)) → W p l e rm_X3_lightFrom s m ag below meth c H locs 0 0 Q (F0 m 60 ls []) := by
    intro t4 hs_4
    subst hs_4
    intro ls H locs hl hw
    have z : some t4 = some o := hf
    cases z
    rw [hQ]
    exact cd_retv C0 hw dX3_lightFrom_60
  refine cd_iter_ind (body := (f_X3_lightFrom_b30 v2 v3)) (K := fun r => r = x4) (P := fun (z4 : Int32 × (Nat → Nat → Int32)) => ∀ (ls : Array Slot) (H : Heap) (locs : List Loc), lv_has ls 5 [(0, .ref (h 0)), (3, .int (v2 ||| v3)), (4, .int z4.1)] → cd_WS G A s.heap H locs ((pc_town cI h z4.2)) → W p l e rm_X3_lightFrom s m ag below meth c H locs 0 0 Q (F0 m 30 ls [])) ?_ cd_N ((0 : Int32), (cd_fld T 11 ((T 11 0) ||| r1))) x4 e4 rfl _ _ _ (lv_sub hl [2, 1, 0] rfl) hw
  intro z4 o4 hb4 hk4 ls H locs hl hw
  unfold f_X3_lightFrom_b30 at hb4
  refine lv_iload hx hb dX3_lightFrom_30 (lv_at hl 2 rfl) ?_
  refine lv_bipush (v := (12 : Int32)) hx hb dX3_lightFrom_32 (by decide) ?_
  refine lv_icmp_ge (tgt := 60) hx hb dX3_lightFrom_34 (by decide) (fun c5 => ?_) (fun c5 => ?_)
  · have hb4 := cd_ite_t c5 hb4
    have z : some (Sum.inl z4.2) = some o4 := hb4
    cases z
    exact K4 _ hk4 _ _ _ (lv_sub hl [] rfl) hw
  · have hb4 := cd_ite_f c5 hb4
    refine lv_iload_n hx hb dX3_lightFrom_37 rfl (lv_at hl 1 rfl) ?_
    refine lv_iload hx hb dX3_lightFrom_38 (lv_at hl 2 rfl) ?_
    obtain ⟨r6, e6, hb4⟩ := cd_bind_some hb4
    refine cd_callSN (As := [.int (v2 ||| v3), .int z4.1]) (rest := []) C0 hw (c_X5_holds l G cI cZ sa sb (v2 ||| v3) z4.1 r6 e6) [] rfl rfl ⟨va_cnB 2 hts ggX3_lightFrom_X5_holds rfl rfl rfl (hE.2.1 (.methodLinkNest RX3 96 yX5_holds RX5) (by simp [cd_nest])) hL1 (by decide +kernel) ⟨Nat.le_of_ble_eq_true rfl, Nat.le_of_ble_eq_true rfl⟩, hL4, trivial⟩ rfl hl.1 (lv_room (Nat.le_of_ble_eq_true rfl)) dX3_lightFrom_40 (fun H locs hw => ?_)
    refine lv_if_eq (tgt := 54) hx hb dX3_lightFrom_43 (by decide) (fun c7 => ?_) (fun c7 => ?_)
    · have hb4 := cd_ite_t c7 hb4
      refine lv_iinc (v := (z4.1 + (1 : Int32))) (lv' := [(4, .int (z4.1 + (1 : Int32))), (0, .ref (h 0)), (3, .int (v2 ||| v3))]) hx hb dX3_lightFrom_54 hl (k := 2) rfl rfl (by decide) rfl (fun ls hl => ?_)
      refine lv_goto (tgt := 30) hx hb dX3_lightFrom_57 (by decide) ?_
      have z : some (Sum.inr ((z4.1 + (1 : Int32)), z4.2)) = some o4 := hb4
      cases z
      exact hk4 _ _ _ (lv_sub hl [1, 2, 0] rfl) hw
    · have hb4 := cd_ite_f c7 hb4
      refine lv_aload_n hx hb dX3_lightFrom_46 rfl (lv_at hl 0 rfl) ?_
      refine va_get (D := G) (ci := 3) (v := .ref (h 7)) (C := RX3) (T := TX3) (N := 14) hx hb hts nw_X3_lightFrom_X3 hown hK hw.1 0 rfl rfl 6 (by decide) hL3 (fun _ h9 => h9) rfl dX3_lightFrom_47 ?_
      refine lv_iload hx hb dX3_lightFrom_50 (lv_at hl 2 rfl) ?_
      refine lv_iload_n hx hb dX3_lightFrom_52 rfl (lv_at hl 1 rfl) ?_
      obtain ⟨j8, e8, hb4⟩ := cd_bind_some hb4
      refine cd_iast (f := z4.2 6) hx hb hK hw 7 rfl e8 dX3_lightFrom_53 (fun H locs hw => ?_)
      have hw : cd_WS G A s.heap H locs ((pc_town cI h (cd_set z4.2 6 j8 (v2 ||| v3)))) := (show ∀ (s9 : Nat → Nat → Int32) (y9 : Int32), cd_WS G A s.heap H locs (((pc_town cI h s9)).set 7 (h 7, .inl (cI, 12, .inl (upd (s9 6) j8 y9)))) → cd_WS G A s.heap H locs ((pc_town cI h (cd_set s9 6 j8 y9))) from fun _ _ hh => hh) z4.2 (v2 ||| v3) hw
      refine lv_iinc (v := (z4.1 + (1 : Int32))) (lv' := [(4, .int (z4.1 + (1 : Int32))), (0, .ref (h 0)), (3, .int (v2 ||| v3))]) hx hb dX3_lightFrom_54 hl (k := 2) rfl rfl (by decide) rfl (fun ls hl => ?_)
      refine lv_goto (tgt := 30) hx hb dX3_lightFrom_57 (by decide) ?_
      have z : some (Sum.inr ((z4.1 + (1 : Int32)), (cd_set z4.2 6 j8 (v2 ||| v3)))) = some o4 := hb4
      cases z
      exact hk4 _ _ _ (lv_sub hl [1, 2, 0] rfl) hw
abbrev rm_X3_burnTrimmed : Room := { frames := 0, cells := 0, slots := 0, locals := 0 }
theorem nw_X3_burnTrimmed_X3 : ∀ w ∈ u_ws RX3 TX3 14, w ∈ wsX3_burnTrimmed := by decide +kernel
set_option maxHeartbeats 4000000 in
set_option maxRecDepth 100000 in
theorem c_X3_burnTrimmed (l : Launch) (G : va_G) (cI cZ : ClassId) (sa sb : Nat) (h : Nat → Nat) (T : Nat → Nat → Int32) (a0 : Int32) (a1 : Int32) (o : Int32) (hf : f_X3_burnTrimmed a0 a1 T = some o) : cd_Ct l G cI cZ sa sb yX3_burnTrimmed wsX3_burnTrimmed rm_X3_burnTrimmed [.ref (h 0), .int a0, .int a1] ((pc_town cI h T)) ((pc_town cI h T)) (some (.int o)) := by
  refine cd_of (cc := cX3_burnTrimmed) (maxL := 4) (ret := (some .int)) (by decide) rfl (Nat.le_of_ble_eq_true rfl) ?_
  intro p e s m ag below meth c A ls Q C0 hl hw hQ
  have C0 : cd_CX G cI cZ sa sb p s m ag meth c cX3_burnTrimmed 4 (some .int) wsX3_burnTrimmed RX3 A := C0
  obtain ⟨⟨hx, hb, hml, hown, hts⟩, hr, hlocks, hA, hE⟩ := id C0
  have hK := hE.1
  have hL0 := hts (.fieldLink RX3 18 "CandleDebts$Town" "draughts" "[I") (by decide +kernel)
  have hl : lv_has ls 4 [(0, .ref (h 0)), (1, .int a0), (2, .int a1)] := hl
  unfold f_X3_burnTrimmed at hf
  refine lv_iconst (v := (1 : Int32)) hx hb dX3_burnTrimmed_0 (by decide) ?_
  refine lv_aload_n hx hb dX3_burnTrimmed_1 rfl (lv_at hl 0 rfl) ?_
  refine va_get (D := G) (ci := 3) (v := .ref (h 3)) (C := RX3) (T := TX3) (N := 14) hx hb hts nw_X3_burnTrimmed_X3 hown hK hw.1 0 rfl rfl 2 (by decide) hL0 (fun _ h9 => h9) rfl dX3_burnTrimmed_2 ?_
  refine lv_iload_n hx hb dX3_burnTrimmed_5 rfl (lv_at hl 1 rfl) ?_
  obtain ⟨v1, e1, hf⟩ := cd_bind_some hf
  refine cd_iald hx hb hK hw 3 rfl e1 dX3_burnTrimmed_6 ?_
  refine lv_iadd hx hb dX3_burnTrimmed_7 ?_
  refine lv_iload_n hx hb dX3_burnTrimmed_8 rfl (lv_at hl 2 rfl) ?_
  refine lv_isub hx hb dX3_burnTrimmed_9 ?_
  refine lv_istore_n (lv' := [(3, .int (((1 : Int32) + v1) - a1)), (0, .ref (h 0)), (1, .int a0), (2, .int a1)]) hx hb dX3_burnTrimmed_10 rfl hl (by decide) rfl (fun ls hl => ?_)
  refine lv_iload_n hx hb dX3_burnTrimmed_11 rfl (lv_at hl 0 rfl) ?_
  refine lv_iconst (v := (1 : Int32)) hx hb dX3_burnTrimmed_12 (by decide) ?_
  obtain ⟨x2, e2, hf⟩ := cd_bind_some hf
  have K2 : ∀ (ls : Array Slot) (H : Heap) (locs : List Loc), lv_has ls 4 [] → cd_WS G A s.heap H locs ((pc_town cI h T)) → W p l e rm_X3_burnTrimmed s m ag below meth c H locs 0 0 Q (F0 m 21 ls [.int x2]) := by
    intro ls H locs hl hw
    have z : some x2 = some o := hf
    cases z
    rw [hQ]
    exact cd_reti C0 hw dX3_burnTrimmed_21
  refine lv_icmp_ge (tgt := 20) hx hb dX3_burnTrimmed_13 (by decide) (fun c2 => ?_) (fun c2 => ?_)
  · have e2 := cd_ite_t c2 e2
    refine lv_iload_n hx hb dX3_burnTrimmed_20 rfl (lv_at hl 0 rfl) ?_
    have z : some (((1 : Int32) + v1) - a1) = some x2 := e2
    cases z
    exact K2 _ _ _ (lv_sub hl [] rfl) hw
  · have e2 := cd_ite_f c2 e2
    refine lv_iconst (v := (1 : Int32)) hx hb dX3_burnTrimmed_16 (by decide) ?_
    refine lv_goto (tgt := 21) hx hb dX3_burnTrimmed_17 (by decide) ?_
    have z : some (1 : Int32) = some x2 := e2
    cases z
    exact K2 _ _ _ (lv_sub hl [] rfl) hw
abbrev rm_X3_burnOf : Room := { frames := 1, cells := 0, slots := 0, locals := 23 }
theorem nw_X3_burnOf_X3 : ∀ w ∈ u_ws RX3 TX3 14, w ∈ wsX3_burnOf := by decide +kernel
set_option maxHeartbeats 4000000 in
set_option maxRecDepth 100000 in
theorem c_X3_burnOf (l : Launch) (G : va_G) (cI cZ : ClassId) (sa sb : Nat) (h : Nat → Nat) (T : Nat → Nat → Int32) (a0 : Int32) (o : Int32) (hf : f_X3_burnOf a0 T = some o) : cd_Ct l G cI cZ sa sb yX3_burnOf wsX3_burnOf rm_X3_burnOf [.ref (h 0), .int a0] ((pc_town cI h T)) ((pc_town cI h T)) (some (.int o)) := by
  refine cd_of (cc := cX3_burnOf) (maxL := 2) (ret := (some .int)) (by decide) rfl (Nat.le_of_ble_eq_true rfl) ?_
  intro p e s m ag below meth c A ls Q C0 hl hw hQ
  have C0 : cd_CX G cI cZ sa sb p s m ag meth c cX3_burnOf 2 (some .int) wsX3_burnOf RX3 A := C0
  obtain ⟨⟨hx, hb, hml, hown, hts⟩, hr, hlocks, hA, hE⟩ := id C0
  have hK := hE.1
  have hL0 := hts (.fieldLink RX3 15 "CandleDebts$Town" "trimmed" "[I") (by decide +kernel)
  have hl : lv_has ls 2 [(0, .ref (h 0)), (1, .int a0)] := hl
  unfold f_X3_burnOf at hf
  refine lv_aload_n hx hb dX3_burnOf_0 rfl (lv_at hl 0 rfl) ?_
  refine lv_iload_n hx hb dX3_burnOf_1 rfl (lv_at hl 1 rfl) ?_
  refine lv_aload_n hx hb dX3_burnOf_2 rfl (lv_at hl 0 rfl) ?_
  refine va_get (D := G) (ci := 3) (v := .ref (h 2)) (C := RX3) (T := TX3) (N := 14) hx hb hts nw_X3_burnOf_X3 hown hK hw.1 0 rfl rfl 1 (by decide) hL0 (fun _ h9 => h9) rfl dX3_burnOf_3 ?_
  refine lv_iload_n hx hb dX3_burnOf_6 rfl (lv_at hl 1 rfl) ?_
  obtain ⟨v1, e1, hf⟩ := cd_bind_some hf
  refine cd_iald hx hb hK hw 2 rfl e1 dX3_burnOf_7 ?_
  obtain ⟨r2, e2, hf⟩ := cd_bind_some hf
  refine cd_callV (As := [.int a0, .int v1]) (rest := []) C0 hw (c_X3_burnTrimmed l G cI cZ sa sb h T a0 v1 r2 e2) [0, 1, 2, 3, 4, 5, 6, 7, 8, 9, 10] rfl rfl 0 3 rfl rfl rfl (cwV 2 hts gX3_burnOf_X3_burnTrimmed rfl rfl rfl (by decide +kernel) ⟨Nat.le_of_ble_eq_true rfl, Nat.le_of_ble_eq_true rfl⟩) rfl hl.1 (lv_room (Nat.le_of_ble_eq_true rfl)) dX3_burnOf_8 (fun H locs hw => ?_)
  have z : some r2 = some o := hf
  cases z
  rw [hQ]
  exact cd_reti C0 hw dX3_burnOf_11
abbrev rm_X3_passMinute : Room := { frames := 2, cells := 0, slots := 0, locals := 44 }
theorem nw_X3_passMinute_X3 : ∀ w ∈ u_ws RX3 TX3 14, w ∈ wsX3_passMinute := by decide +kernel
set_option maxHeartbeats 4000000 in
set_option maxRecDepth 100000 in
theorem c_X3_passMinute (l : Launch) (G : va_G) (cI cZ : ClassId) (sa sb : Nat) (h : Nat → Nat) (T : Nat → Nat → Int32) (o : Int32 × (Nat → Nat → Int32)) (hf : f_X3_passMinute T = some o) : cd_Ct l G cI cZ sa sb yX3_passMinute wsX3_passMinute rm_X3_passMinute [.ref (h 0)] ((pc_town cI h T)) ((pc_town cI h o.2)) (some (.int o.1)) := by
  refine cd_of (cc := cX3_passMinute) (maxL := 3) (ret := (some .int)) (by decide) rfl (Nat.le_of_ble_eq_true rfl) ?_
  intro p e s m ag below meth c A ls Q C0 hl hw hQ
  have C0 : cd_CX G cI cZ sa sb p s m ag meth c cX3_passMinute 3 (some .int) wsX3_passMinute RX3 A := C0
  obtain ⟨⟨hx, hb, hml, hown, hts⟩, hr, hlocks, hA, hE⟩ := id C0
  have hK := hE.1
  have hL0 := hts (.fieldLink RX3 62 "CandleDebts$Town" "minute" "I") (by decide +kernel)
  have hL1 := hts (.fieldLink RX3 9 "CandleDebts$Town" "wax" "[I") (by decide +kernel)
  have hL2 := hts (.methodLink RX3 102 Lib.Math.max.name) (by decide +kernel)
  have hL3 := hts (.static Lib.Math.max.name) (by decide +kernel)
  have hL4 := hts (.initialized "java/lang/Math") (by decide +kernel)
  have hL5 := hts (.code Lib.Math.max.name Lib.Math.max.code 2 (some .int)) (by decide +kernel)
  have hL6 := hts (.initialized RX5) (by decide +kernel)
  have hL7 := hts (.static yX5_bit) (by decide +kernel)
  have hL8 := hts (.fieldLink RX3 27 "CandleDebts$Town" "sums" "[I") (by decide +kernel)
  have hL9 := hts (.fieldLink RX3 59 "CandleDebts$Town" "lit" "I") (by decide +kernel)
  have hl : lv_has ls 3 [(0, .ref (h 0))] := hl
  unfold f_X3_passMinute at hf
  refine lv_aload_n hx hb dX3_passMinute_0 rfl (lv_at hl 0 rfl) ?_
  refine lv_dup hx hb dX3_passMinute_1 rfl ?_
  refine va_get (D := G) (ci := 3) (v := .int (T 13 0)) (C := RX3) (T := TX3) (N := 14) hx hb hts nw_X3_passMinute_X3 hown hK hw.1 0 rfl rfl 13 (by decide) hL0 (fun _ h9 => h9) rfl dX3_passMinute_2 ?_
  refine lv_iconst (v := (1 : Int32)) hx hb dX3_passMinute_5 (by decide) ?_
  refine lv_iadd hx hb dX3_passMinute_6 ?_
  refine va_put (D := G) (ci := 3) (v := .int ((T 13 0) + (1 : Int32))) (ty := .int) (C := RX3) (T := TX3) (N := 14) hx hb hts nw_X3_passMinute_X3 tyX3 tyX3_ok nmX3 hown hK hw.1 hw.2.1 hw.2.2 0 rfl rfl 13 (by decide) hL0 (fun _ h9 => h9) rfl (by decide +kernel) rfl rfl (Nat.le_of_ble_eq_true rfl) dX3_passMinute_7 (fun H locs hP hD hS => ?_)
  have hw : cd_WS G A s.heap H locs ((pc_town cI h (cd_fld T 13 ((T 13 0) + (1 : Int32))))) := ⟨hP, hD, hS⟩
  refine lv_iconst (v := (0 : Int32)) hx hb dX3_passMinute_10 (by decide) ?_
  refine lv_istore_n (lv' := [(1, .int (0 : Int32)), (0, .ref (h 0))]) hx hb dX3_passMinute_11 rfl hl (by decide) rfl (fun ls hl => ?_)
  refine lv_iconst (v := (0 : Int32)) hx hb dX3_passMinute_12 (by decide) ?_
  refine lv_istore_n (lv' := [(2, .int (0 : Int32)), (1, .int (0 : Int32)), (0, .ref (h 0))]) hx hb dX3_passMinute_13 rfl hl (by decide) rfl (fun ls hl => ?_)
  obtain ⟨x1, e1, hf⟩ := cd_bind_some hf
  have K1 : ∀ (t1 : Int32 × (Nat → Nat → Int32)), t1 = x1 → ∀ (ls : Array Slot) (H : Heap) (locs : List Loc), lv_has ls 3 [(0, .ref (h 0)), (1, .int t1.1)] → cd_WS G A s.heap H locs ((pc_town cI h t1.2)) → W p l e rm_X3_passMinute s m ag below meth c H locs 0 0 Q (F0 m 101 ls []) := by
    intro t1 hs_1
    subst hs_1
    intro ls H locs hl hw
    refine lv_aload_n hx hb dX3_passMinute_101 rfl (lv_at hl 0 rfl) ?_
    refine lv_dup hx hb dX3_passMinute_102 rfl ?_
    refine va_get (D := G) (ci := 3) (v := .int (t1.2 11 0)) (C := RX3) (T := TX3) (N := 14) hx hb hts nw_X3_passMinute_X3 hown hK hw.1 0 rfl rfl 11 (by decide) hL9 (fun _ h9 => h9) rfl dX3_passMinute_103 ?_
    refine lv_iload_n hx hb dX3_passMinute_106 rfl (lv_at hl 1 rfl) ?_
    refine lv_iconst (v := (-1 : Int32)) hx hb dX3_passMinute_107 (by decide) ?_
    refine lv_ixor hx hb dX3_passMinute_108 ?_
    refine lv_iand hx hb dX3_passMinute_109 ?_
    refine va_put (D := G) (ci := 3) (v := .int ((t1.2 11 0) &&& (t1.1 ^^^ (-1 : Int32)))) (ty := .int) (C := RX3) (T := TX3) (N := 14) hx hb hts nw_X3_passMinute_X3 tyX3 tyX3_ok nmX3 hown hK hw.1 hw.2.1 hw.2.2 0 rfl rfl 11 (by decide) hL9 (fun _ h9 => h9) rfl (by decide +kernel) rfl rfl (Nat.le_of_ble_eq_true rfl) dX3_passMinute_110 (fun H locs hP hD hS => ?_)
    have hw : cd_WS G A s.heap H locs ((pc_town cI h (cd_fld t1.2 11 ((t1.2 11 0) &&& (t1.1 ^^^ (-1 : Int32)))))) := ⟨hP, hD, hS⟩
    refine lv_iload_n hx hb dX3_passMinute_113 rfl (lv_at hl 1 rfl) ?_
    have z : some (t1.1, (cd_fld t1.2 11 ((t1.2 11 0) &&& (t1.1 ^^^ (-1 : Int32))))) = some o := hf
    cases z
    rw [hQ]
    exact cd_reti C0 hw dX3_passMinute_114
  refine cd_iter_ind (body := f_X3_passMinute_b14) (K := fun r => r = x1) (P := fun (z1 : Int32 × Int32 × (Nat → Nat → Int32)) => ∀ (ls : Array Slot) (H : Heap) (locs : List Loc), lv_has ls 3 [(0, .ref (h 0)), (1, .int z1.1), (2, .int z1.2.1)] → cd_WS G A s.heap H locs ((pc_town cI h z1.2.2)) → W p l e rm_X3_passMinute s m ag below meth c H locs 0 0 Q (F0 m 14 ls [])) ?_ cd_N ((0 : Int32), (0 : Int32), (cd_fld T 13 ((T 13 0) + (1 : Int32)))) x1 e1 rfl _ _ _ (lv_sub hl [2, 1, 0] rfl) hw
  intro z1 o1 hb1 hk1 ls H locs hl hw
  unfold f_X3_passMinute_b14 at hb1
  refine lv_iload_n hx hb dX3_passMinute_14 rfl (lv_at hl 2 rfl) ?_
  refine lv_bipush (v := (12 : Int32)) hx hb dX3_passMinute_15 (by decide) ?_
  refine lv_icmp_ge (tgt := 101) hx hb dX3_passMinute_17 (by decide) (fun c2 => ?_) (fun c2 => ?_)
  · have hb1 := cd_ite_t c2 hb1
    have z : some (Sum.inl (z1.1, z1.2.2)) = some o1 := hb1
    cases z
    exact K1 _ hk1 _ _ _ (lv_sub hl [0, 1] rfl) hw
  · have hb1 := cd_ite_f c2 hb1
    refine lv_aload_n hx hb dX3_passMinute_20 rfl (lv_at hl 0 rfl) ?_
    refine lv_iload_n hx hb dX3_passMinute_21 rfl (lv_at hl 2 rfl) ?_
    obtain ⟨r3, e3, hb1⟩ := cd_bind_some hb1
    refine cd_callV (As := [.int z1.2.1]) (rest := []) C0 hw (c_X3_isLit l G cI cZ sa sb h z1.2.2 z1.2.1 r3 e3) [0, 1, 2, 3, 4, 5, 6, 7, 8, 9, 10] rfl rfl 0 3 rfl rfl rfl (cwV 1 hts gX3_passMinute_X3_isLit rfl rfl rfl (by decide +kernel) ⟨Nat.le_of_ble_eq_true rfl, Nat.le_of_ble_eq_true rfl⟩) rfl hl.1 (lv_room (Nat.le_of_ble_eq_true rfl)) dX3_passMinute_22 (fun H locs hw => ?_)
    refine lv_if_eq (tgt := 95) hx hb dX3_passMinute_25 (by decide) (fun c4 => ?_) (fun c4 => ?_)
    · have hb1 := cd_ite_t c4 hb1
      refine lv_iinc (v := (z1.2.1 + (1 : Int32))) (lv' := [(2, .int (z1.2.1 + (1 : Int32))), (0, .ref (h 0)), (1, .int z1.1)]) hx hb dX3_passMinute_95 hl (k := 2) rfl rfl (by decide) rfl (fun ls hl => ?_)
      refine lv_goto (tgt := 14) hx hb dX3_passMinute_98 (by decide) ?_
      have z : some (Sum.inr (z1.1, (z1.2.1 + (1 : Int32)), z1.2.2)) = some o1 := hb1
      cases z
      exact hk1 _ _ _ (lv_sub hl [1, 2, 0] rfl) hw
    · have hb1 := cd_ite_f c4 hb1
      refine lv_aload_n hx hb dX3_passMinute_28 rfl (lv_at hl 0 rfl) ?_
      refine va_get (D := G) (ci := 3) (v := .ref (h 1)) (C := RX3) (T := TX3) (N := 14) hx hb hts nw_X3_passMinute_X3 hown hK hw.1 0 rfl rfl 0 (by decide) hL1 (fun _ h9 => h9) rfl dX3_passMinute_29 ?_
      refine lv_iload_n hx hb dX3_passMinute_32 rfl (lv_at hl 2 rfl) ?_
      refine lv_iconst (v := (0 : Int32)) hx hb dX3_passMinute_33 (by decide) ?_
      refine lv_aload_n hx hb dX3_passMinute_34 rfl (lv_at hl 0 rfl) ?_
      refine va_get (D := G) (ci := 3) (v := .ref (h 1)) (C := RX3) (T := TX3) (N := 14) hx hb hts nw_X3_passMinute_X3 hown hK hw.1 0 rfl rfl 0 (by decide) hL1 (fun _ h9 => h9) rfl dX3_passMinute_35 ?_
      refine lv_iload_n hx hb dX3_passMinute_38 rfl (lv_at hl 2 rfl) ?_
      obtain ⟨v5, e5, hb1⟩ := cd_bind_some hb1
      refine cd_iald hx hb hK hw 1 rfl e5 dX3_passMinute_39 ?_
      refine lv_aload_n hx hb dX3_passMinute_40 rfl (lv_at hl 0 rfl) ?_
      refine lv_iload_n hx hb dX3_passMinute_41 rfl (lv_at hl 2 rfl) ?_
      obtain ⟨r6, e6, hb1⟩ := cd_bind_some hb1
      refine cd_callV (As := [.int z1.2.1]) (rest := [.int v5, .int (0 : Int32), .int z1.2.1, .ref (h 1)]) C0 hw (c_X3_burnOf l G cI cZ sa sb h z1.2.2 z1.2.1 r6 e6) [0, 1, 2, 3, 4, 5, 6, 7, 8, 9, 10] rfl rfl 0 3 rfl rfl rfl (cwV 1 hts gX3_passMinute_X3_burnOf rfl rfl rfl (by decide +kernel) ⟨Nat.le_of_ble_eq_true rfl, Nat.le_of_ble_eq_true rfl⟩) rfl hl.1 (lv_room (Nat.le_of_ble_eq_true rfl)) dX3_passMinute_42 (fun H locs hw => ?_)
      refine lv_isub hx hb dX3_passMinute_45 ?_
      refine cd_mmax hx hb (hml.trans hl.1.symm) hown hL2 hL3 hL4 hL5 (Nat.le_of_ble_eq_true rfl) (Nat.le_of_ble_eq_true rfl) dX3_passMinute_46 ?_
      obtain ⟨j7, e7, hb1⟩ := cd_bind_some hb1
      refine cd_iast (f := z1.2.2 0) hx hb hK hw 1 rfl e7 dX3_passMinute_49 (fun H locs hw => ?_)
      have hw : cd_WS G A s.heap H locs ((pc_town cI h (cd_set z1.2.2 0 j7 (cd_max (0 : Int32) (v5 - r6))))) := (show ∀ (s9 : Nat → Nat → Int32) (y9 : Int32), cd_WS G A s.heap H locs (((pc_town cI h s9)).set 1 (h 1, .inl (cI, 12, .inl (upd (s9 0) j7 y9)))) → cd_WS G A s.heap H locs ((pc_town cI h (cd_set s9 0 j7 y9))) from fun _ _ hh => hh) z1.2.2 (cd_max (0 : Int32) (v5 - r6)) hw
      refine lv_iload_n hx hb dX3_passMinute_50 rfl (lv_at hl 1 rfl) ?_
      refine lv_aload_n hx hb dX3_passMinute_51 rfl (lv_at hl 0 rfl) ?_
      refine va_get (D := G) (ci := 3) (v := .ref (h 1)) (C := RX3) (T := TX3) (N := 14) hx hb hts nw_X3_passMinute_X3 hown hK hw.1 0 rfl rfl 0 (by decide) hL1 (fun _ h9 => h9) rfl dX3_passMinute_52 ?_
      refine lv_iload_n hx hb dX3_passMinute_55 rfl (lv_at hl 2 rfl) ?_
      obtain ⟨v8, e8, hb1⟩ := cd_bind_some hb1
      refine cd_iald hx hb hK hw 1 rfl e8 dX3_passMinute_56 ?_
      obtain ⟨x9, e9, hb1⟩ := cd_bind_some hb1
      have K9 : ∀ (ls : Array Slot) (H : Heap) (locs : List Loc), lv_has ls 3 [(0, .ref (h 0)), (2, .int z1.2.1)] → cd_WS G A s.heap H locs ((pc_town cI h (cd_set z1.2.2 0 j7 (cd_max (0 : Int32) (v5 - r6))))) → W p l e rm_X3_passMinute s m ag below meth c H locs 0 0 Q (F0 m 68 ls [.int x9, .int z1.1]) := by
        intro ls H locs hl hw
        refine lv_ior hx hb dX3_passMinute_68 ?_
        refine lv_istore_n (lv' := [(1, .int (z1.1 ||| x9)), (0, .ref (h 0)), (2, .int z1.2.1)]) hx hb dX3_passMinute_69 rfl hl (by decide) rfl (fun ls hl => ?_)
        refine lv_aload_n hx hb dX3_passMinute_70 rfl (lv_at hl 1 rfl) ?_
        refine va_get (D := G) (ci := 3) (v := .ref (h 6)) (C := RX3) (T := TX3) (N := 14) hx hb hts nw_X3_passMinute_X3 hown hK hw.1 0 rfl rfl 5 (by decide) hL8 (fun _ h9 => h9) rfl dX3_passMinute_71 ?_
        refine lv_iload_n hx hb dX3_passMinute_74 rfl (lv_at hl 2 rfl) ?_
        refine lv_aload_n hx hb dX3_passMinute_75 rfl (lv_at hl 1 rfl) ?_
        refine va_get (D := G) (ci := 3) (v := .ref (h 1)) (C := RX3) (T := TX3) (N := 14) hx hb hts nw_X3_passMinute_X3 hown hK hw.1 0 rfl rfl 0 (by decide) hL1 (fun _ h9 => h9) rfl dX3_passMinute_76 ?_
        refine lv_iload_n hx hb dX3_passMinute_79 rfl (lv_at hl 2 rfl) ?_
        obtain ⟨v10, e10, hb1⟩ := cd_bind_some hb1
        refine cd_iald hx hb hK hw 1 rfl e10 dX3_passMinute_80 ?_
        obtain ⟨x11, e11, hb1⟩ := cd_bind_some hb1
        have K11 : ∀ (ls : Array Slot) (H : Heap) (locs : List Loc), lv_has ls 3 [(0, .ref (h 0)), (1, .int (z1.1 ||| x9)), (2, .int z1.2.1)] → cd_WS G A s.heap H locs ((pc_town cI h (cd_set z1.2.2 0 j7 (cd_max (0 : Int32) (v5 - r6))))) → W p l e rm_X3_passMinute s m ag below meth c H locs 0 0 Q (F0 m 94 ls [.int x11, .int z1.2.1, .ref (h 6)]) := by
          intro ls H locs hl hw
          obtain ⟨j12, e12, hb1⟩ := cd_bind_some hb1
          refine cd_iast (f := (cd_set z1.2.2 0 j7 (cd_max (0 : Int32) (v5 - r6))) 5) hx hb hK hw 6 rfl e12 dX3_passMinute_94 (fun H locs hw => ?_)
          have hw : cd_WS G A s.heap H locs ((pc_town cI h (cd_set (cd_set z1.2.2 0 j7 (cd_max (0 : Int32) (v5 - r6))) 5 j12 x11))) := (show ∀ (s9 : Nat → Nat → Int32) (y9 : Int32), cd_WS G A s.heap H locs (((pc_town cI h s9)).set 6 (h 6, .inl (cI, 12, .inl (upd (s9 5) j12 y9)))) → cd_WS G A s.heap H locs ((pc_town cI h (cd_set s9 5 j12 y9))) from fun _ _ hh => hh) (cd_set z1.2.2 0 j7 (cd_max (0 : Int32) (v5 - r6))) x11 hw
          refine lv_iinc (v := (z1.2.1 + (1 : Int32))) (lv' := [(2, .int (z1.2.1 + (1 : Int32))), (0, .ref (h 0)), (1, .int (z1.1 ||| x9))]) hx hb dX3_passMinute_95 hl (k := 2) rfl rfl (by decide) rfl (fun ls hl => ?_)
          refine lv_goto (tgt := 14) hx hb dX3_passMinute_98 (by decide) ?_
          have z : some (Sum.inr ((z1.1 ||| x9), (z1.2.1 + (1 : Int32)), (cd_set (cd_set z1.2.2 0 j7 (cd_max (0 : Int32) (v5 - r6))) 5 j12 x11))) = some o1 := hb1
          cases z
          exact hk1 _ _ _ (lv_sub hl [1, 2, 0] rfl) hw
        refine lv_if_ne (tgt := 88) hx hb dX3_passMinute_81 (by decide) (fun c11 => ?_) (fun c11 => ?_)
        · have e11 := cd_ite_f c11 e11
          refine lv_aload_n hx hb dX3_passMinute_88 rfl (lv_at hl 1 rfl) ?_
          refine va_get (D := G) (ci := 3) (v := .ref (h 6)) (C := RX3) (T := TX3) (N := 14) hx hb hts nw_X3_passMinute_X3 hown hK hw.1 0 rfl rfl 5 (by decide) hL8 (fun _ h9 => h9) rfl dX3_passMinute_89 ?_
          refine lv_iload_n hx hb dX3_passMinute_92 rfl (lv_at hl 2 rfl) ?_
          obtain ⟨v13, e13, e11⟩ := cd_bind_some e11
          refine cd_iald hx hb hK hw 6 rfl e13 dX3_passMinute_93 ?_
          have z : some v13 = some x11 := e11
          cases z
          exact K11 _ _ _ (lv_sub hl [1, 0, 2] rfl) hw
        · have e11 := cd_ite_t c11 e11
          refine lv_iconst (v := (0 : Int32)) hx hb dX3_passMinute_84 (by decide) ?_
          refine lv_goto (tgt := 94) hx hb dX3_passMinute_85 (by decide) ?_
          have z : some (0 : Int32) = some x11 := e11
          cases z
          exact K11 _ _ _ (lv_sub hl [1, 0, 2] rfl) hw
      refine lv_if_ne (tgt := 67) hx hb dX3_passMinute_57 (by decide) (fun c9 => ?_) (fun c9 => ?_)
      · have e9 := cd_ite_f c9 e9
        refine lv_iconst (v := (0 : Int32)) hx hb dX3_passMinute_67 (by decide) ?_
        have z : some (0 : Int32) = some x9 := e9
        cases z
        exact K9 _ _ _ (lv_sub hl [0, 2] rfl) hw
      · have e9 := cd_ite_t c9 e9
        refine lv_iload_n hx hb dX3_passMinute_60 rfl (lv_at hl 2 rfl) ?_
        obtain ⟨r14, e14, e9⟩ := cd_bind_some e9
        refine cd_callSN (As := [.int z1.2.1]) (rest := [.int z1.1]) C0 hw (c_X5_bit l G cI cZ sa sb z1.2.1 r14 e14) [] rfl rfl ⟨va_cnB 1 hts ggX3_passMinute_X5_bit rfl rfl rfl (hE.2.1 (.methodLinkNest RX3 46 yX5_bit RX5) (by simp [cd_nest])) hL6 (by decide +kernel) ⟨Nat.le_of_ble_eq_true rfl, Nat.le_of_ble_eq_true rfl⟩, hL7, trivial⟩ rfl hl.1 (lv_room (Nat.le_of_ble_eq_true rfl)) dX3_passMinute_61 (fun H locs hw => ?_)
        refine lv_goto (tgt := 68) hx hb dX3_passMinute_64 (by decide) ?_
        have z : some r14 = some x9 := e9
        cases z
        exact K9 _ _ _ (lv_sub hl [0, 2] rfl) hw
abbrev rm_X1_noteOut : Room := { frames := 1, cells := 0, slots := 0, locals := 21 }
theorem nw_X1_noteOut_X1 : ∀ w ∈ u_ws RX1 TX1 6, w ∈ wsX1_noteOut := by decide +kernel
set_option maxHeartbeats 4000000 in
set_option maxRecDepth 100000 in
theorem c_X1_noteOut (l : Launch) (G : va_G) (cI cZ : ClassId) (sa sb : Nat) (h hs : Nat → Nat) (Y : Nat → Nat → Int32) (a0 : Int32) (o : (Nat → Nat → Int32)) (hf : f_X1_noteOut a0 Y = some o) : cd_Ct l G cI cZ sa sb yX1_noteOut wsX1_noteOut rm_X1_noteOut [.ref (h 0), .int a0] ((pc_play h hs Y)) ((pc_play h hs o)) none := by
  refine cd_of (cc := cX1_noteOut) (maxL := 3) (ret := none) (by decide) rfl (Nat.le_of_ble_eq_true rfl) ?_
  intro p e s m ag below meth c A ls Q C0 hl hw hQ
  have C0 : cd_CX G cI cZ sa sb p s m ag meth c cX1_noteOut 3 none wsX1_noteOut RX1 A := C0
  obtain ⟨⟨hx, hb, hml, hown, hts⟩, hr, hlocks, hA, hE⟩ := id C0
  have hK := hE.1
  have hL0 := hts (.fieldLink RX1 32 "CandleDebts$Play" "outAct" "I") (by decide +kernel)
  have hL1 := hts (.initialized RX5) (by decide +kernel)
  have hL2 := hts (.static yX5_holds) (by decide +kernel)
  have hL3 := hts (.fieldLink RX1 22 "CandleDebts$Play" "acts" "I") (by decide +kernel)
  have hL4 := hts (.fieldLink RX1 35 "CandleDebts$Play" "outCandle" "I") (by decide +kernel)
  have hl : lv_has ls 3 [(0, .ref (h 0)), (1, .int a0)] := hl
  unfold f_X1_noteOut at hf
  refine lv_aload_n hx hb dX1_noteOut_0 rfl (lv_at hl 0 rfl) ?_
  refine va_get (D := G) (ci := 1) (v := .int (Y 4 0)) (C := RX1) (T := TX1) (N := 6) hx hb hts nw_X1_noteOut_X1 hown hK hw.1 0 rfl rfl 4 (by decide) hL0 (fun _ h9 => h9) rfl dX1_noteOut_1 ?_
  refine lv_bipush (v := (-6 : Int32)) hx hb dX1_noteOut_4 (by decide) ?_
  refine lv_icmp_eq (tgt := 10) hx hb dX1_noteOut_6 (by decide) (fun c1 => ?_) (fun c1 => ?_)
  · have hf := cd_ite_t c1 hf
    refine lv_iconst (v := (0 : Int32)) hx hb dX1_noteOut_10 (by decide) ?_
    refine lv_istore_n (lv' := [(2, .int (0 : Int32)), (0, .ref (h 0)), (1, .int a0)]) hx hb dX1_noteOut_11 rfl hl (by decide) rfl (fun ls hl => ?_)
    obtain ⟨x2, e2, hf⟩ := cd_bind_some hf
    have K2 : ∀ (t2 : Unit), Sum.inr t2 = x2 → ∀ (ls : Array Slot) (H : Heap) (locs : List Loc), lv_has ls 3 [] → cd_WS G A s.heap H locs ((pc_play h hs Y)) → W p l e rm_X1_noteOut s m ag below meth c H locs 0 0 Q (F0 m 46 ls []) := by
      intro t2 hs_2
      subst hs_2
      intro ls H locs hl hw
      have z : some Y = some o := hf
      cases z
      rw [hQ]
      exact cd_retv C0 hw dX1_noteOut_46
    refine cd_iter_ind (body := (f_X1_noteOut_b12 a0 Y)) (K := fun r => r = x2) (P := fun (z2 : Int32) => ∀ (ls : Array Slot) (H : Heap) (locs : List Loc), lv_has ls 3 [(0, .ref (h 0)), (1, .int a0), (2, .int z2)] → cd_WS G A s.heap H locs ((pc_play h hs Y)) → W p l e rm_X1_noteOut s m ag below meth c H locs 0 0 Q (F0 m 12 ls [])) ?_ cd_N (0 : Int32) x2 e2 rfl _ _ _ (lv_sub hl [1, 2, 0] rfl) hw
    intro z2 o2 hb2 hk2 ls H locs hl hw
    unfold f_X1_noteOut_b12 at hb2
    refine lv_iload_n hx hb dX1_noteOut_12 rfl (lv_at hl 2 rfl) ?_
    refine lv_bipush (v := (12 : Int32)) hx hb dX1_noteOut_13 (by decide) ?_
    refine lv_icmp_ge (tgt := 46) hx hb dX1_noteOut_15 (by decide) (fun c3 => ?_) (fun c3 => ?_)
    · have hb2 := cd_ite_t c3 hb2
      have z : some (Sum.inl (Sum.inr ())) = some o2 := hb2
      cases z
      exact K2 _ hk2 _ _ _ (lv_sub hl [] rfl) hw
    · have hb2 := cd_ite_f c3 hb2
      refine lv_iload_n hx hb dX1_noteOut_18 rfl (lv_at hl 1 rfl) ?_
      refine lv_iload_n hx hb dX1_noteOut_19 rfl (lv_at hl 2 rfl) ?_
      obtain ⟨r4, e4, hb2⟩ := cd_bind_some hb2
      refine cd_callSN (As := [.int a0, .int z2]) (rest := []) C0 hw (c_X5_holds l G cI cZ sa sb a0 z2 r4 e4) [] rfl rfl ⟨va_cnB 2 hts ggX1_noteOut_X5_holds rfl rfl rfl (hE.2.1 (.methodLinkNest RX1 106 yX5_holds RX5) (by simp [cd_nest])) hL1 (by decide +kernel) ⟨Nat.le_of_ble_eq_true rfl, Nat.le_of_ble_eq_true rfl⟩, hL2, trivial⟩ rfl hl.1 (lv_room (Nat.le_of_ble_eq_true rfl)) dX1_noteOut_20 (fun H locs hw => ?_)
      refine lv_if_eq (tgt := 40) hx hb dX1_noteOut_23 (by decide) (fun c5 => ?_) (fun c5 => ?_)
      · have hb2 := cd_ite_t c5 hb2
        refine lv_iinc (v := (z2 + (1 : Int32))) (lv' := [(2, .int (z2 + (1 : Int32))), (0, .ref (h 0)), (1, .int a0)]) hx hb dX1_noteOut_40 hl (k := 2) rfl rfl (by decide) rfl (fun ls hl => ?_)
        refine lv_goto (tgt := 12) hx hb dX1_noteOut_43 (by decide) ?_
        have z : some (Sum.inr (z2 + (1 : Int32))) = some o2 := hb2
        cases z
        exact hk2 _ _ _ (lv_sub hl [1, 2, 0] rfl) hw
      · have hb2 := cd_ite_f c5 hb2
        refine lv_aload_n hx hb dX1_noteOut_26 rfl (lv_at hl 0 rfl) ?_
        refine lv_aload_n hx hb dX1_noteOut_27 rfl (lv_at hl 0 rfl) ?_
        refine va_get (D := G) (ci := 1) (v := .int (Y 1 0)) (C := RX1) (T := TX1) (N := 6) hx hb hts nw_X1_noteOut_X1 hown hK hw.1 0 rfl rfl 1 (by decide) hL3 (fun _ h9 => h9) rfl dX1_noteOut_28 ?_
        refine va_put (D := G) (ci := 1) (v := .int (Y 1 0)) (ty := .int) (C := RX1) (T := TX1) (N := 6) hx hb hts nw_X1_noteOut_X1 tyX1 tyX1_ok nmX1 hown hK hw.1 hw.2.1 hw.2.2 0 rfl rfl 4 (by decide) hL0 (fun _ h9 => h9) rfl (by decide +kernel) rfl rfl (Nat.le_of_ble_eq_true rfl) dX1_noteOut_31 (fun H locs hP hD hS => ?_)
        have hw : cd_WS G A s.heap H locs ((pc_play h hs (cd_fld Y 4 (Y 1 0)))) := ⟨hP, hD, hS⟩
        refine lv_aload_n hx hb dX1_noteOut_34 rfl (lv_at hl 0 rfl) ?_
        refine lv_iload_n hx hb dX1_noteOut_35 rfl (lv_at hl 2 rfl) ?_
        refine va_put (D := G) (ci := 1) (v := .int z2) (ty := .int) (C := RX1) (T := TX1) (N := 6) hx hb hts nw_X1_noteOut_X1 tyX1 tyX1_ok nmX1 hown hK hw.1 hw.2.1 hw.2.2 0 rfl rfl 5 (by decide) hL4 (fun _ h9 => h9) rfl (by decide +kernel) rfl rfl (Nat.le_of_ble_eq_true rfl) dX1_noteOut_36 (fun H locs hP hD hS => ?_)
        have hw : cd_WS G A s.heap H locs ((pc_play h hs (cd_fld (cd_fld Y 4 (Y 1 0)) 5 z2))) := ⟨hP, hD, hS⟩
        have z : some (Sum.inl (Sum.inl (cd_fld (cd_fld Y 4 (Y 1 0)) 5 z2))) = some o2 := hb2
        cases z
        have y2 : Sum.inl (cd_fld (cd_fld Y 4 (Y 1 0)) 5 z2) = x2 := hk2
        subst y2
        have z : some (cd_fld (cd_fld Y 4 (Y 1 0)) 5 z2) = some o := hf
        cases z
        rw [hQ]
        exact cd_retv C0 hw dX1_noteOut_39
  · have hf := cd_ite_f c1 hf
    have z : some Y = some o := hf
    cases z
    rw [hQ]
    exact cd_retv C0 hw dX1_noteOut_9
abbrev rm_X1_attempt : Room := { frames := 3, cells := 0, slots := 0, locals := 67 }
theorem nw_X1_attempt_X1 : ∀ w ∈ u_ws RX1 TX1 6, w ∈ wsX1_attempt := by decide +kernel
theorem nw_X1_attempt_X3 : ∀ w ∈ u_ws RX3 TX3 14, w ∈ wsX1_attempt := by decide +kernel
set_option maxHeartbeats 4000000 in
set_option maxRecDepth 100000 in
theorem c_X1_attempt (l : Launch) (G : va_G) (cI cZ : ClassId) (sa sb : Nat) (h hs : Nat → Nat) (Y S : Nat → Nat → Int32) (a0 : Int32) (a1 : Int32) (a2 : Int32) (o : Int32 × (Nat → Nat → Int32) × (Nat → Nat → Int32)) (hf : f_X1_attempt a0 a1 a2 Y S = some o) : cd_Ct l G cI cZ sa sb yX1_attempt wsX1_attempt rm_X1_attempt [.ref (h 0), .int a0, .int a1, .int a2] ((pc_play h hs Y) ++ (pc_town cI hs S)) ((pc_play h hs o.2.1) ++ (pc_town cI hs o.2.2)) (some (.int o.1)) := by
  refine cd_of (cc := cX1_attempt) (maxL := 4) (ret := (some .boolean)) (by decide) rfl (Nat.le_of_ble_eq_true rfl) ?_
  intro p e s m ag below meth c A ls Q C0 hl hw hQ
  have C0 : cd_CX G cI cZ sa sb p s m ag meth c cX1_attempt 4 (some .boolean) wsX1_attempt RX1 A := C0
  obtain ⟨⟨hx, hb, hml, hown, hts⟩, hr, hlocks, hA, hE⟩ := id C0
  have hK := hE.1
  have hL0 := hts (.fieldLink RX1 12 "CandleDebts$Play" "scene" "LCandleDebts$Town;") (by decide +kernel)
  have hL1 := hts (.fieldLink RX1 26 "CandleDebts$Play" "why" "I") (by decide +kernel)
  have hL2 := hts (.fieldLink RX1 29 "CandleDebts$Play" "paid" "I") (by decide +kernel)
  have hL3 := hts (.fieldLink RX1 89 "CandleDebts$Town" "trimmed" "[I") (by decide +kernel)
  have hL4 := hts (.fieldLink RX1 96 "CandleDebts$Town" "draughts" "[I") (by decide +kernel)
  have hL5 := hts (.fieldLink RX1 22 "CandleDebts$Play" "acts" "I") (by decide +kernel)
  have hl : lv_has ls 4 [(0, .ref (h 0)), (1, .int a0), (2, .int a1), (3, .int a2)] := hl
  unfold f_X1_attempt at hf
  refine lv_aload_n hx hb dX1_attempt_0 rfl (lv_at hl 0 rfl) ?_
  refine lv_aload_n hx hb dX1_attempt_1 rfl (lv_at hl 0 rfl) ?_
  refine va_get (D := G) (ci := 1) (v := .ref (hs 0)) (C := RX1) (T := TX1) (N := 6) hx hb hts nw_X1_attempt_X1 hown hK hw.1 0 rfl rfl 0 (by decide) hL0 (fun _ h9 => h9) rfl dX1_attempt_2 ?_
  refine lv_iload_n hx hb dX1_attempt_5 rfl (lv_at hl 1 rfl) ?_
  refine lv_iload_n hx hb dX1_attempt_6 rfl (lv_at hl 2 rfl) ?_
  refine lv_iload_n hx hb dX1_attempt_7 rfl (lv_at hl 3 rfl) ?_
  obtain ⟨r1, e1, hf⟩ := cd_bind_some hf
  refine cd_callV (As := [.int a0, .int a1, .int a2]) (rest := [.ref (h 0)]) C0 hw (c_X3_reasonAgainst l G cI cZ sa sb hs S a0 a1 a2 r1 e1) [1, 2, 3, 4, 5, 6, 7, 8, 9, 10, 11] rfl rfl 0 3 rfl rfl rfl (cwV 3 hts gX1_attempt_X3_reasonAgainst rfl rfl rfl (by decide +kernel) ⟨Nat.le_of_ble_eq_true rfl, Nat.le_of_ble_eq_true rfl⟩) rfl hl.1 (lv_room (Nat.le_of_ble_eq_true rfl)) dX1_attempt_8 (fun H locs hw => ?_)
  refine va_put (D := G) (ci := 1) (v := .int r1) (ty := .int) (C := RX1) (T := TX1) (N := 6) hx hb hts nw_X1_attempt_X1 tyX1 tyX1_ok nmX1 hown hK hw.1 hw.2.1 hw.2.2 0 rfl rfl 2 (by decide) hL1 (fun _ h9 => h9) rfl (by decide +kernel) rfl rfl (Nat.le_of_ble_eq_true rfl) dX1_attempt_11 (fun H locs hP hD hS => ?_)
  have hw : cd_WS G A s.heap H locs ((pc_play h hs (cd_fld Y 2 r1)) ++ (pc_town cI hs S)) := ⟨hP, hD, hS⟩
  refine lv_aload_n hx hb dX1_attempt_14 rfl (lv_at hl 0 rfl) ?_
  refine va_get (D := G) (ci := 1) (v := .int r1) (C := RX1) (T := TX1) (N := 6) hx hb hts nw_X1_attempt_X1 hown hK hw.1 0 rfl rfl 2 (by decide) hL1 (fun _ h9 => h9) rfl dX1_attempt_15 ?_
  refine lv_if_eq (tgt := 23) hx hb dX1_attempt_18 (by decide) (fun c2 => ?_) (fun c2 => ?_)
  · have hf := cd_ite_t c2 hf
    refine lv_iload_n hx hb dX1_attempt_23 rfl (lv_at hl 1 rfl) ?_
    obtain ⟨x3, e3, hf⟩ := cd_bind_some hf
    have K3 : ∀ (ls : Array Slot) (H : Heap) (locs : List Loc), lv_has ls 4 [(0, .ref (h 0))] → cd_WS G A s.heap H locs ((pc_play h hs x3.1) ++ (pc_town cI hs x3.2)) → W p l e rm_X1_attempt s m ag below meth c H locs 0 0 Q (F0 m 178 ls []) := by
      intro ls H locs hl hw
      refine lv_aload_n hx hb dX1_attempt_178 rfl (lv_at hl 0 rfl) ?_
      refine lv_dup hx hb dX1_attempt_179 rfl ?_
      refine va_get (D := G) (ci := 1) (v := .int (x3.1 1 0)) (C := RX1) (T := TX1) (N := 6) hx hb hts nw_X1_attempt_X1 hown hK hw.1 0 rfl rfl 1 (by decide) hL5 (fun _ h9 => h9) rfl dX1_attempt_180 ?_
      refine lv_iconst (v := (1 : Int32)) hx hb dX1_attempt_183 (by decide) ?_
      refine lv_iadd hx hb dX1_attempt_184 ?_
      refine va_put (D := G) (ci := 1) (v := .int ((x3.1 1 0) + (1 : Int32))) (ty := .int) (C := RX1) (T := TX1) (N := 6) hx hb hts nw_X1_attempt_X1 tyX1 tyX1_ok nmX1 hown hK hw.1 hw.2.1 hw.2.2 0 rfl rfl 1 (by decide) hL5 (fun _ h9 => h9) rfl (by decide +kernel) rfl rfl (Nat.le_of_ble_eq_true rfl) dX1_attempt_185 (fun H locs hP hD hS => ?_)
      have hw : cd_WS G A s.heap H locs ((pc_play h hs (cd_fld x3.1 1 ((x3.1 1 0) + (1 : Int32)))) ++ (pc_town cI hs x3.2)) := ⟨hP, hD, hS⟩
      refine lv_iconst (v := (1 : Int32)) hx hb dX1_attempt_188 (by decide) ?_
      have z : some ((1 : Int32), (cd_fld x3.1 1 ((x3.1 1 0) + (1 : Int32))), x3.2) = some o := hf
      cases z
      rw [hQ]
      exact cd_retz C0 hw (Or.inr rfl) dX1_attempt_189
    by_cases c3_0 : a0 = (33 : Int32)
    · have e3 := cd_ite_t c3_0 e3
      refine lv_lookup (off := 82) (tgt := 106) hx hb dX1_attempt_24 (by decide) (by rw [c3_0]; decide) (by decide) ?_
      refine lv_aload_n hx hb dX1_attempt_106 rfl (lv_at hl 0 rfl) ?_
      refine lv_dup hx hb dX1_attempt_107 rfl ?_
      refine va_get (D := G) (ci := 1) (v := .int (Y 3 0)) (C := RX1) (T := TX1) (N := 6) hx hb hts nw_X1_attempt_X1 hown hK hw.1 0 rfl rfl 3 (by decide) hL2 (fun _ h9 => h9) rfl dX1_attempt_108 ?_
      refine lv_aload_n hx hb dX1_attempt_111 rfl (lv_at hl 0 rfl) ?_
      refine va_get (D := G) (ci := 1) (v := .ref (hs 0)) (C := RX1) (T := TX1) (N := 6) hx hb hts nw_X1_attempt_X1 hown hK hw.1 0 rfl rfl 0 (by decide) hL0 (fun _ h9 => h9) rfl dX1_attempt_112 ?_
      refine lv_iload_n hx hb dX1_attempt_115 rfl (lv_at hl 2 rfl) ?_
      obtain ⟨r4, e4, e3⟩ := cd_bind_some e3
      refine cd_callVw (As := [.int a1]) (rest := [.int (Y 3 0), .ref (h 0)]) (wr := (pc_play h hs (cd_fld Y 2 r1))) (wn := (pc_play h hs (cd_fld Y 2 r1)) ++ (pc_town cI hs r4.2)) C0 hw (c_X3_pay l G cI cZ sa sb hs S a1 r4 e4) [1, 2, 3, 4, 5, 6, 7, 8, 9, 10, 11] [0] [0, 1, 2, 3, 4, 5, 6, 7, 8, 9, 10, 11] rfl rfl rfl rfl (by decide) rfl rfl 0 3 rfl rfl rfl (cwV 1 hts gX1_attempt_X3_pay rfl rfl rfl (by decide +kernel) ⟨Nat.le_of_ble_eq_true rfl, Nat.le_of_ble_eq_true rfl⟩) rfl hl.1 (lv_room (Nat.le_of_ble_eq_true rfl)) dX1_attempt_116 (fun H locs hw => ?_)
      refine lv_iadd hx hb dX1_attempt_119 ?_
      refine va_put (D := G) (ci := 1) (v := .int ((Y 3 0) + r4.1)) (ty := .int) (C := RX1) (T := TX1) (N := 6) hx hb hts nw_X1_attempt_X1 tyX1 tyX1_ok nmX1 hown hK hw.1 hw.2.1 hw.2.2 0 rfl rfl 3 (by decide) hL2 (fun _ h9 => h9) rfl (by decide +kernel) rfl rfl (Nat.le_of_ble_eq_true rfl) dX1_attempt_120 (fun H locs hP hD hS => ?_)
      have hw : cd_WS G A s.heap H locs ((pc_play h hs (cd_fld (cd_fld Y 2 r1) 3 ((Y 3 0) + r4.1))) ++ (pc_town cI hs r4.2)) := ⟨hP, hD, hS⟩
      refine lv_goto (tgt := 178) hx hb dX1_attempt_123 (by decide) ?_
      have z : some ((cd_fld (cd_fld Y 2 r1) 3 ((Y 3 0) + r4.1)), r4.2) = some x3 := e3
      cases z
      exact K3 _ _ _ (lv_sub hl [0] rfl) hw
    · have e3 := cd_ite_f c3_0 e3
      by_cases c3_1 : a0 = (42 : Int32)
      · have e3 := cd_ite_t c3_1 e3
        refine lv_lookup (off := 60) (tgt := 84) hx hb dX1_attempt_24 (by decide) (by rw [c3_1]; decide) (by decide) ?_
        refine lv_aload_n hx hb dX1_attempt_84 rfl (lv_at hl 0 rfl) ?_
        refine va_get (D := G) (ci := 1) (v := .ref (hs 0)) (C := RX1) (T := TX1) (N := 6) hx hb hts nw_X1_attempt_X1 hown hK hw.1 0 rfl rfl 0 (by decide) hL0 (fun _ h9 => h9) rfl dX1_attempt_85 ?_
        refine lv_iload_n hx hb dX1_attempt_88 rfl (lv_at hl 2 rfl) ?_
        obtain ⟨r5, e5, e3⟩ := cd_bind_some e3
        refine cd_callVw (As := [.int a1]) (rest := []) (wr := (pc_play h hs (cd_fld Y 2 r1))) (wn := (pc_play h hs (cd_fld Y 2 r1)) ++ (pc_town cI hs r5)) C0 hw (c_X3_lightByMatch l G cI cZ sa sb hs S a1 r5 e5) [1, 2, 3, 4, 5, 6, 7, 8, 9, 10, 11] [0] [0, 1, 2, 3, 4, 5, 6, 7, 8, 9, 10, 11] rfl rfl rfl rfl (by decide) rfl rfl 0 3 rfl rfl rfl (cwV 1 hts gX1_attempt_X3_lightByMatch rfl rfl rfl (by decide +kernel) ⟨Nat.le_of_ble_eq_true rfl, Nat.le_of_ble_eq_true rfl⟩) rfl hl.1 (lv_room (Nat.le_of_ble_eq_true rfl)) dX1_attempt_89 (fun H locs hw => ?_)
        refine lv_goto (tgt := 178) hx hb dX1_attempt_92 (by decide) ?_
        have z : some ((cd_fld Y 2 r1), r5) = some x3 := e3
        cases z
        exact K3 _ _ _ (lv_sub hl [0] rfl) hw
      · have e3 := cd_ite_f c3_1 e3
        by_cases c3_2 : a0 = (45 : Int32)
        · have e3 := cd_ite_t c3_2 e3
          refine lv_lookup (off := 71) (tgt := 95) hx hb dX1_attempt_24 (by decide) (by rw [c3_2]; decide) (by decide) ?_
          refine lv_aload_n hx hb dX1_attempt_95 rfl (lv_at hl 0 rfl) ?_
          refine va_get (D := G) (ci := 1) (v := .ref (hs 0)) (C := RX1) (T := TX1) (N := 6) hx hb hts nw_X1_attempt_X1 hown hK hw.1 0 rfl rfl 0 (by decide) hL0 (fun _ h9 => h9) rfl dX1_attempt_96 ?_
          refine lv_iload_n hx hb dX1_attempt_99 rfl (lv_at hl 2 rfl) ?_
          obtain ⟨r6, e6, e3⟩ := cd_bind_some e3
          refine cd_callVw (As := [.int a1]) (rest := []) (wr := (pc_play h hs (cd_fld Y 2 r1))) (wn := (pc_play h hs (cd_fld Y 2 r1)) ++ (pc_town cI hs r6)) C0 hw (c_X3_putOut l G cI cZ sa sb hs S a1 r6 e6) [1, 2, 3, 4, 5, 6, 7, 8, 9, 10, 11] [0] [0, 1, 2, 3, 4, 5, 6, 7, 8, 9, 10, 11] rfl rfl rfl rfl (by decide) rfl rfl 0 3 rfl rfl rfl (cwV 1 hts gX1_attempt_X3_putOut rfl rfl rfl (by decide +kernel) ⟨Nat.le_of_ble_eq_true rfl, Nat.le_of_ble_eq_true rfl⟩) rfl hl.1 (lv_room (Nat.le_of_ble_eq_true rfl)) dX1_attempt_100 (fun H locs hw => ?_)
          refine lv_goto (tgt := 178) hx hb dX1_attempt_103 (by decide) ?_
          have z : some ((cd_fld Y 2 r1), r6) = some x3 := e3
          cases z
          exact K3 _ _ _ (lv_sub hl [0] rfl) hw
        · have e3 := cd_ite_f c3_2 e3
          by_cases c3_3 : a0 = (62 : Int32)
          · have e3 := cd_ite_t c3_3 e3
            refine lv_lookup (off := 118) (tgt := 142) hx hb dX1_attempt_24 (by decide) (by rw [c3_3]; decide) (by decide) ?_
            refine lv_aload_n hx hb dX1_attempt_142 rfl (lv_at hl 0 rfl) ?_
            refine va_get (D := G) (ci := 1) (v := .ref (hs 0)) (C := RX1) (T := TX1) (N := 6) hx hb hts nw_X1_attempt_X1 hown hK hw.1 0 rfl rfl 0 (by decide) hL0 (fun _ h9 => h9) rfl dX1_attempt_143 ?_
            refine lv_iload_n hx hb dX1_attempt_146 rfl (lv_at hl 2 rfl) ?_
            refine lv_iload_n hx hb dX1_attempt_147 rfl (lv_at hl 3 rfl) ?_
            obtain ⟨r7, e7, e3⟩ := cd_bind_some e3
            refine cd_callVw (As := [.int a1, .int a2]) (rest := []) (wr := (pc_play h hs (cd_fld Y 2 r1))) (wn := (pc_play h hs (cd_fld Y 2 r1)) ++ (pc_town cI hs r7)) C0 hw (c_X3_lightFrom l G cI cZ sa sb hs S a1 a2 r7 e7) [1, 2, 3, 4, 5, 6, 7, 8, 9, 10, 11] [0] [0, 1, 2, 3, 4, 5, 6, 7, 8, 9, 10, 11] rfl rfl rfl rfl (by decide) rfl rfl 0 3 rfl rfl rfl (cwV 2 hts gX1_attempt_X3_lightFrom rfl rfl rfl (by decide +kernel) ⟨Nat.le_of_ble_eq_true rfl, Nat.le_of_ble_eq_true rfl⟩) rfl hl.1 (lv_room (Nat.le_of_ble_eq_true rfl)) dX1_attempt_148 (fun H locs hw => ?_)
            refine lv_goto (tgt := 178) hx hb dX1_attempt_151 (by decide) ?_
            have z : some ((cd_fld Y 2 r1), r7) = some x3 := e3
            cases z
            exact K3 _ _ _ (lv_sub hl [0] rfl) hw
          · have e3 := cd_ite_f c3_3 e3
            by_cases c3_4 : a0 = (94 : Int32)
            · have e3 := cd_ite_t c3_4 e3
              refine lv_lookup (off := 102) (tgt := 126) hx hb dX1_attempt_24 (by decide) (by rw [c3_4]; decide) (by decide) ?_
              refine lv_aload_n hx hb dX1_attempt_126 rfl (lv_at hl 0 rfl) ?_
              refine va_get (D := G) (ci := 1) (v := .ref (hs 0)) (C := RX1) (T := TX1) (N := 6) hx hb hts nw_X1_attempt_X1 hown hK hw.1 0 rfl rfl 0 (by decide) hL0 (fun _ h9 => h9) rfl dX1_attempt_127 ?_
              refine va_get (D := G) (ci := 3) (v := .ref (hs 2)) (C := RX3) (T := TX3) (N := 14) hx hb hts nw_X1_attempt_X3 hown hK hw.1 1 rfl rfl 1 (by decide) hL3 (fun _ h9 => h9) rfl dX1_attempt_130 ?_
              refine lv_iload_n hx hb dX1_attempt_133 rfl (lv_at hl 2 rfl) ?_
              refine lv_dup2_11 hx hb dX1_attempt_134 rfl rfl ?_
              obtain ⟨v8, e8, e3⟩ := cd_bind_some e3
              refine cd_iald hx hb hK hw 3 rfl e8 dX1_attempt_135 ?_
              refine lv_iconst (v := (1 : Int32)) hx hb dX1_attempt_136 (by decide) ?_
              refine lv_iadd hx hb dX1_attempt_137 ?_
              obtain ⟨j9, e9, e3⟩ := cd_bind_some e3
              refine cd_iast (f := S 1) hx hb hK hw 3 rfl e9 dX1_attempt_138 (fun H locs hw => ?_)
              have hw : cd_WS G A s.heap H locs ((pc_play h hs (cd_fld Y 2 r1)) ++ (pc_town cI hs (cd_set S 1 j9 (v8 + (1 : Int32))))) := (show ∀ (s9 : Nat → Nat → Int32) (y9 : Int32), cd_WS G A s.heap H locs (((pc_play h hs (cd_fld Y 2 r1)) ++ (pc_town cI hs s9)).set 3 (hs 2, .inl (cI, 12, .inl (upd (s9 1) j9 y9)))) → cd_WS G A s.heap H locs ((pc_play h hs (cd_fld Y 2 r1)) ++ (pc_town cI hs (cd_set s9 1 j9 y9))) from fun _ _ hh => hh) S (v8 + (1 : Int32)) hw
              refine lv_goto (tgt := 178) hx hb dX1_attempt_139 (by decide) ?_
              have z : some ((cd_fld Y 2 r1), (cd_set S 1 j9 (v8 + (1 : Int32)))) = some x3 := e3
              cases z
              exact K3 _ _ _ (lv_sub hl [0] rfl) hw
            · have e3 := cd_ite_f c3_4 e3
              by_cases c3_5 : a0 = (119 : Int32)
              · have e3 := cd_ite_t c3_5 e3
                refine lv_lookup (off := 130) (tgt := 154) hx hb dX1_attempt_24 (by decide) (by rw [c3_5]; decide) (by decide) ?_
                refine lv_aload_n hx hb dX1_attempt_154 rfl (lv_at hl 0 rfl) ?_
                refine va_get (D := G) (ci := 1) (v := .ref (hs 0)) (C := RX1) (T := TX1) (N := 6) hx hb hts nw_X1_attempt_X1 hown hK hw.1 0 rfl rfl 0 (by decide) hL0 (fun _ h9 => h9) rfl dX1_attempt_155 ?_
                refine va_get (D := G) (ci := 3) (v := .ref (hs 3)) (C := RX3) (T := TX3) (N := 14) hx hb hts nw_X1_attempt_X3 hown hK hw.1 1 rfl rfl 2 (by decide) hL4 (fun _ h9 => h9) rfl dX1_attempt_158 ?_
                refine lv_iload_n hx hb dX1_attempt_161 rfl (lv_at hl 2 rfl) ?_
                refine lv_iload_n hx hb dX1_attempt_162 rfl (lv_at hl 3 rfl) ?_
                obtain ⟨j10, e10, e3⟩ := cd_bind_some e3
                refine cd_iast (f := S 2) hx hb hK hw 4 rfl e10 dX1_attempt_163 (fun H locs hw => ?_)
                have hw : cd_WS G A s.heap H locs ((pc_play h hs (cd_fld Y 2 r1)) ++ (pc_town cI hs (cd_set S 2 j10 a2))) := (show ∀ (s9 : Nat → Nat → Int32) (y9 : Int32), cd_WS G A s.heap H locs (((pc_play h hs (cd_fld Y 2 r1)) ++ (pc_town cI hs s9)).set 4 (hs 3, .inl (cI, 12, .inl (upd (s9 2) j10 y9)))) → cd_WS G A s.heap H locs ((pc_play h hs (cd_fld Y 2 r1)) ++ (pc_town cI hs (cd_set s9 2 j10 y9))) from fun _ _ hh => hh) S a2 hw
                refine lv_goto (tgt := 178) hx hb dX1_attempt_164 (by decide) ?_
                have z : some ((cd_fld Y 2 r1), (cd_set S 2 j10 a2)) = some x3 := e3
                cases z
                exact K3 _ _ _ (lv_sub hl [0] rfl) hw
              · have e3 := cd_ite_f c3_5 e3
                refine lv_lookup (off := 143) (tgt := 167) hx hb dX1_attempt_24 (by decide) (by have q0 : a0.toInt ≠ 33 := cd_ne c3_0; have q1 : a0.toInt ≠ 42 := cd_ne c3_1; have q2 : a0.toInt ≠ 45 := cd_ne c3_2; have q3 : a0.toInt ≠ 62 := cd_ne c3_3; have q4 : a0.toInt ≠ 94 := cd_ne c3_4; have q5 : a0.toInt ≠ 119 := cd_ne c3_5; simp [Op.lookupswitch.offset, Ne.symm q0, Ne.symm q1, Ne.symm q2, Ne.symm q3, Ne.symm q4, Ne.symm q5]) (by decide) ?_
                refine lv_aload_n hx hb dX1_attempt_167 rfl (lv_at hl 0 rfl) ?_
                refine lv_aload_n hx hb dX1_attempt_168 rfl (lv_at hl 0 rfl) ?_
                refine va_get (D := G) (ci := 1) (v := .ref (hs 0)) (C := RX1) (T := TX1) (N := 6) hx hb hts nw_X1_attempt_X1 hown hK hw.1 0 rfl rfl 0 (by decide) hL0 (fun _ h9 => h9) rfl dX1_attempt_169 ?_
                obtain ⟨r11, e11, e3⟩ := cd_bind_some e3
                refine cd_callVw (As := []) (rest := [.ref (h 0)]) (wr := (pc_play h hs (cd_fld Y 2 r1))) (wn := (pc_play h hs (cd_fld Y 2 r1)) ++ (pc_town cI hs r11.2)) C0 hw (c_X3_passMinute l G cI cZ sa sb hs S r11 e11) [1, 2, 3, 4, 5, 6, 7, 8, 9, 10, 11] [0] [0, 1, 2, 3, 4, 5, 6, 7, 8, 9, 10, 11] rfl rfl rfl rfl (by decide) rfl rfl 0 3 rfl rfl rfl (cwV 0 hts gX1_attempt_X3_passMinute rfl rfl rfl (by decide +kernel) ⟨Nat.le_of_ble_eq_true rfl, Nat.le_of_ble_eq_true rfl⟩) rfl hl.1 (lv_room (Nat.le_of_ble_eq_true rfl)) dX1_attempt_172 (fun H locs hw => ?_)
                obtain ⟨r12, e12, e3⟩ := cd_bind_some e3
                refine cd_callVw (As := [.int r11.1]) (rest := []) (wr := (pc_town cI hs r11.2)) (wn := (pc_play h hs r12) ++ (pc_town cI hs r11.2)) C0 hw (c_X1_noteOut l G cI cZ sa sb h hs (cd_fld Y 2 r1) r11.1 r12 e12) [0] [1, 2, 3, 4, 5, 6, 7, 8, 9, 10, 11] [11, 0, 1, 2, 3, 4, 5, 6, 7, 8, 9, 10] rfl rfl rfl rfl (by decide) rfl rfl 0 1 rfl rfl rfl (cwV 1 hts gX1_attempt_X1_noteOut rfl rfl rfl (by decide +kernel) ⟨Nat.le_of_ble_eq_true rfl, Nat.le_of_ble_eq_true rfl⟩) rfl hl.1 (lv_room (Nat.le_of_ble_eq_true rfl)) dX1_attempt_175 (fun H locs hw => ?_)
                have z : some (r12, r11.2) = some x3 := e3
                cases z
                exact K3 _ _ _ (lv_sub hl [0] rfl) hw
  · have hf := cd_ite_f c2 hf
    refine lv_iconst (v := (0 : Int32)) hx hb dX1_attempt_21 (by decide) ?_
    have z : some ((0 : Int32), (cd_fld Y 2 r1), S) = some o := hf
    cases z
    rw [hQ]
    exact cd_retz C0 hw (Or.inl rfl) dX1_attempt_22
abbrev rm_X3_copyFrom : Room := { frames := 1, cells := 0, slots := 0, locals := 18 }
theorem nw_X3_copyFrom_X3 : ∀ w ∈ u_ws RX3 TX3 14, w ∈ wsX3_copyFrom := by decide +kernel
set_option maxHeartbeats 4000000 in
set_option maxRecDepth 100000 in
theorem c_X3_copyFrom (l : Launch) (G : va_G) (cI cZ : ClassId) (sa sb : Nat) (h h2 : Nat → Nat) (T T2 : Nat → Nat → Int32) (o : (Nat → Nat → Int32)) (hf : f_X3_copyFrom T T2 = some o) : cd_Ct l G cI cZ sa sb yX3_copyFrom wsX3_copyFrom rm_X3_copyFrom [.ref (h 0), .ref (h2 0)] ((pc_town cI h T) ++ (pc_town cI h2 T2)) ((pc_town cI h o) ++ (pc_town cI h2 T2)) none := by
  refine cd_of (cc := cX3_copyFrom) (maxL := 2) (ret := none) (by decide) rfl (Nat.le_of_ble_eq_true rfl) ?_
  intro p e s m ag below meth c A ls Q C0 hl hw hQ
  have C0 : cd_CX G cI cZ sa sb p s m ag meth c cX3_copyFrom 2 none wsX3_copyFrom RX3 A := C0
  obtain ⟨⟨hx, hb, hml, hown, hts⟩, hr, hlocks, hA, hE⟩ := id C0
  have hK := hE.1
  have hL0 := hts (.fieldLink RX3 9 "CandleDebts$Town" "wax" "[I") (by decide +kernel)
  have hL1 := hts (.methodLink RX3 50 arraycopyName) (by decide +kernel)
  have hL2 := hts (.native arraycopyName) (by decide +kernel)
  have hL3 := hts (.static arraycopyName) (by decide +kernel)
  have hL4 := hts (.initialized "java/lang/System") (by decide +kernel)
  have hL5 := hts (.fieldLink RX3 15 "CandleDebts$Town" "trimmed" "[I") (by decide +kernel)
  have hL6 := hts (.fieldLink RX3 18 "CandleDebts$Town" "draughts" "[I") (by decide +kernel)
  have hL7 := hts (.fieldLink RX3 21 "CandleDebts$Town" "creditors" "[I") (by decide +kernel)
  have hL8 := hts (.fieldLink RX3 24 "CandleDebts$Town" "debtors" "[I") (by decide +kernel)
  have hL9 := hts (.fieldLink RX3 27 "CandleDebts$Town" "sums" "[I") (by decide +kernel)
  have hL10 := hts (.fieldLink RX3 30 "CandleDebts$Town" "groups" "[I") (by decide +kernel)
  have hL11 := hts (.fieldLink RX3 33 "CandleDebts$Town" "purses" "[I") (by decide +kernel)
  have hL12 := hts (.fieldLink RX3 36 "CandleDebts$Town" "sightCandles" "[I") (by decide +kernel)
  have hL13 := hts (.fieldLink RX3 39 "CandleDebts$Town" "sightLosses" "[I") (by decide +kernel)
  have hL14 := hts (.fieldLink RX3 56 "CandleDebts$Town" "sights" "I") (by decide +kernel)
  have hL15 := hts (.fieldLink RX3 59 "CandleDebts$Town" "lit" "I") (by decide +kernel)
  have hL16 := hts (.fieldLink RX3 42 "CandleDebts$Town" "matchesLeft" "I") (by decide +kernel)
  have hL17 := hts (.fieldLink RX3 62 "CandleDebts$Town" "minute" "I") (by decide +kernel)
  have hl : lv_has ls 2 [(0, .ref (h 0)), (1, .ref (h2 0))] := hl
  unfold f_X3_copyFrom at hf
  refine lv_aload_n hx hb dX3_copyFrom_0 rfl (lv_at hl 1 rfl) ?_
  refine va_get (D := G) (ci := 3) (v := .ref (h2 1)) (C := RX3) (T := TX3) (N := 14) hx hb hts nw_X3_copyFrom_X3 hown hK hw.1 11 rfl rfl 0 (by decide) hL0 (fun _ h9 => h9) rfl dX3_copyFrom_1 ?_
  refine lv_iconst (v := (0 : Int32)) hx hb dX3_copyFrom_4 (by decide) ?_
  refine lv_aload_n hx hb dX3_copyFrom_5 rfl (lv_at hl 0 rfl) ?_
  refine va_get (D := G) (ci := 3) (v := .ref (h 1)) (C := RX3) (T := TX3) (N := 14) hx hb hts nw_X3_copyFrom_X3 hown hK hw.1 0 rfl rfl 0 (by decide) hL0 (fun _ h9 => h9) rfl dX3_copyFrom_6 ?_
  refine lv_iconst (v := (0 : Int32)) hx hb dX3_copyFrom_9 (by decide) ?_
  refine lv_bipush (v := (12 : Int32)) hx hb dX3_copyFrom_10 (by decide) ?_
  refine cd_copy (n := (12 : Int32)) (k := 12) hx hb (hml.trans hl.1.symm) hown hL1 hL2 hL3 hL4 hK hw 12 1 rfl rfl (by decide) (by decide) (by decide) (by decide) (Nat.le_of_ble_eq_true rfl) (Nat.le_of_ble_eq_true rfl) dX3_copyFrom_12 (fun H locs hw => ?_)
  have hw : cd_WS G A s.heap H locs ((pc_town cI h (cd_cpy T 0 T2 12)) ++ (pc_town cI h2 T2)) := hw
  refine lv_aload_n hx hb dX3_copyFrom_15 rfl (lv_at hl 1 rfl) ?_
  refine va_get (D := G) (ci := 3) (v := .ref (h2 2)) (C := RX3) (T := TX3) (N := 14) hx hb hts nw_X3_copyFrom_X3 hown hK hw.1 11 rfl rfl 1 (by decide) hL5 (fun _ h9 => h9) rfl dX3_copyFrom_16 ?_
  refine lv_iconst (v := (0 : Int32)) hx hb dX3_copyFrom_19 (by decide) ?_
  refine lv_aload_n hx hb dX3_copyFrom_20 rfl (lv_at hl 0 rfl) ?_
  refine va_get (D := G) (ci := 3) (v := .ref (h 2)) (C := RX3) (T := TX3) (N := 14) hx hb hts nw_X3_copyFrom_X3 hown hK hw.1 0 rfl rfl 1 (by decide) hL5 (fun _ h9 => h9) rfl dX3_copyFrom_21 ?_
  refine lv_iconst (v := (0 : Int32)) hx hb dX3_copyFrom_24 (by decide) ?_
  refine lv_bipush (v := (12 : Int32)) hx hb dX3_copyFrom_25 (by decide) ?_
  refine cd_copy (n := (12 : Int32)) (k := 12) hx hb (hml.trans hl.1.symm) hown hL1 hL2 hL3 hL4 hK hw 13 2 rfl rfl (by decide) (by decide) (by decide) (by decide) (Nat.le_of_ble_eq_true rfl) (Nat.le_of_ble_eq_true rfl) dX3_copyFrom_27 (fun H locs hw => ?_)
  have hw : cd_WS G A s.heap H locs ((pc_town cI h (cd_cpy (cd_cpy T 0 T2 12) 1 T2 12)) ++ (pc_town cI h2 T2)) := hw
  refine lv_aload_n hx hb dX3_copyFrom_30 rfl (lv_at hl 1 rfl) ?_
  refine va_get (D := G) (ci := 3) (v := .ref (h2 3)) (C := RX3) (T := TX3) (N := 14) hx hb hts nw_X3_copyFrom_X3 hown hK hw.1 11 rfl rfl 2 (by decide) hL6 (fun _ h9 => h9) rfl dX3_copyFrom_31 ?_
  refine lv_iconst (v := (0 : Int32)) hx hb dX3_copyFrom_34 (by decide) ?_
  refine lv_aload_n hx hb dX3_copyFrom_35 rfl (lv_at hl 0 rfl) ?_
  refine va_get (D := G) (ci := 3) (v := .ref (h 3)) (C := RX3) (T := TX3) (N := 14) hx hb hts nw_X3_copyFrom_X3 hown hK hw.1 0 rfl rfl 2 (by decide) hL6 (fun _ h9 => h9) rfl dX3_copyFrom_36 ?_
  refine lv_iconst (v := (0 : Int32)) hx hb dX3_copyFrom_39 (by decide) ?_
  refine lv_bipush (v := (12 : Int32)) hx hb dX3_copyFrom_40 (by decide) ?_
  refine cd_copy (n := (12 : Int32)) (k := 12) hx hb (hml.trans hl.1.symm) hown hL1 hL2 hL3 hL4 hK hw 14 3 rfl rfl (by decide) (by decide) (by decide) (by decide) (Nat.le_of_ble_eq_true rfl) (Nat.le_of_ble_eq_true rfl) dX3_copyFrom_42 (fun H locs hw => ?_)
  have hw : cd_WS G A s.heap H locs ((pc_town cI h (cd_cpy (cd_cpy (cd_cpy T 0 T2 12) 1 T2 12) 2 T2 12)) ++ (pc_town cI h2 T2)) := hw
  refine lv_aload_n hx hb dX3_copyFrom_45 rfl (lv_at hl 1 rfl) ?_
  refine va_get (D := G) (ci := 3) (v := .ref (h2 4)) (C := RX3) (T := TX3) (N := 14) hx hb hts nw_X3_copyFrom_X3 hown hK hw.1 11 rfl rfl 3 (by decide) hL7 (fun _ h9 => h9) rfl dX3_copyFrom_46 ?_
  refine lv_iconst (v := (0 : Int32)) hx hb dX3_copyFrom_49 (by decide) ?_
  refine lv_aload_n hx hb dX3_copyFrom_50 rfl (lv_at hl 0 rfl) ?_
  refine va_get (D := G) (ci := 3) (v := .ref (h 4)) (C := RX3) (T := TX3) (N := 14) hx hb hts nw_X3_copyFrom_X3 hown hK hw.1 0 rfl rfl 3 (by decide) hL7 (fun _ h9 => h9) rfl dX3_copyFrom_51 ?_
  refine lv_iconst (v := (0 : Int32)) hx hb dX3_copyFrom_54 (by decide) ?_
  refine lv_bipush (v := (12 : Int32)) hx hb dX3_copyFrom_55 (by decide) ?_
  refine cd_copy (n := (12 : Int32)) (k := 12) hx hb (hml.trans hl.1.symm) hown hL1 hL2 hL3 hL4 hK hw 15 4 rfl rfl (by decide) (by decide) (by decide) (by decide) (Nat.le_of_ble_eq_true rfl) (Nat.le_of_ble_eq_true rfl) dX3_copyFrom_57 (fun H locs hw => ?_)
  have hw : cd_WS G A s.heap H locs ((pc_town cI h (cd_cpy (cd_cpy (cd_cpy (cd_cpy T 0 T2 12) 1 T2 12) 2 T2 12) 3 T2 12)) ++ (pc_town cI h2 T2)) := hw
  refine lv_aload_n hx hb dX3_copyFrom_60 rfl (lv_at hl 1 rfl) ?_
  refine va_get (D := G) (ci := 3) (v := .ref (h2 5)) (C := RX3) (T := TX3) (N := 14) hx hb hts nw_X3_copyFrom_X3 hown hK hw.1 11 rfl rfl 4 (by decide) hL8 (fun _ h9 => h9) rfl dX3_copyFrom_61 ?_
  refine lv_iconst (v := (0 : Int32)) hx hb dX3_copyFrom_64 (by decide) ?_
  refine lv_aload_n hx hb dX3_copyFrom_65 rfl (lv_at hl 0 rfl) ?_
  refine va_get (D := G) (ci := 3) (v := .ref (h 5)) (C := RX3) (T := TX3) (N := 14) hx hb hts nw_X3_copyFrom_X3 hown hK hw.1 0 rfl rfl 4 (by decide) hL8 (fun _ h9 => h9) rfl dX3_copyFrom_66 ?_
  refine lv_iconst (v := (0 : Int32)) hx hb dX3_copyFrom_69 (by decide) ?_
  refine lv_bipush (v := (12 : Int32)) hx hb dX3_copyFrom_70 (by decide) ?_
  refine cd_copy (n := (12 : Int32)) (k := 12) hx hb (hml.trans hl.1.symm) hown hL1 hL2 hL3 hL4 hK hw 16 5 rfl rfl (by decide) (by decide) (by decide) (by decide) (Nat.le_of_ble_eq_true rfl) (Nat.le_of_ble_eq_true rfl) dX3_copyFrom_72 (fun H locs hw => ?_)
  have hw : cd_WS G A s.heap H locs ((pc_town cI h (cd_cpy (cd_cpy (cd_cpy (cd_cpy (cd_cpy T 0 T2 12) 1 T2 12) 2 T2 12) 3 T2 12) 4 T2 12)) ++ (pc_town cI h2 T2)) := hw
  refine lv_aload_n hx hb dX3_copyFrom_75 rfl (lv_at hl 1 rfl) ?_
  refine va_get (D := G) (ci := 3) (v := .ref (h2 6)) (C := RX3) (T := TX3) (N := 14) hx hb hts nw_X3_copyFrom_X3 hown hK hw.1 11 rfl rfl 5 (by decide) hL9 (fun _ h9 => h9) rfl dX3_copyFrom_76 ?_
  refine lv_iconst (v := (0 : Int32)) hx hb dX3_copyFrom_79 (by decide) ?_
  refine lv_aload_n hx hb dX3_copyFrom_80 rfl (lv_at hl 0 rfl) ?_
  refine va_get (D := G) (ci := 3) (v := .ref (h 6)) (C := RX3) (T := TX3) (N := 14) hx hb hts nw_X3_copyFrom_X3 hown hK hw.1 0 rfl rfl 5 (by decide) hL9 (fun _ h9 => h9) rfl dX3_copyFrom_81 ?_
  refine lv_iconst (v := (0 : Int32)) hx hb dX3_copyFrom_84 (by decide) ?_
  refine lv_bipush (v := (12 : Int32)) hx hb dX3_copyFrom_85 (by decide) ?_
  refine cd_copy (n := (12 : Int32)) (k := 12) hx hb (hml.trans hl.1.symm) hown hL1 hL2 hL3 hL4 hK hw 17 6 rfl rfl (by decide) (by decide) (by decide) (by decide) (Nat.le_of_ble_eq_true rfl) (Nat.le_of_ble_eq_true rfl) dX3_copyFrom_87 (fun H locs hw => ?_)
  have hw : cd_WS G A s.heap H locs ((pc_town cI h (cd_cpy (cd_cpy (cd_cpy (cd_cpy (cd_cpy (cd_cpy T 0 T2 12) 1 T2 12) 2 T2 12) 3 T2 12) 4 T2 12) 5 T2 12)) ++ (pc_town cI h2 T2)) := hw
  refine lv_aload_n hx hb dX3_copyFrom_90 rfl (lv_at hl 1 rfl) ?_
  refine va_get (D := G) (ci := 3) (v := .ref (h2 7)) (C := RX3) (T := TX3) (N := 14) hx hb hts nw_X3_copyFrom_X3 hown hK hw.1 11 rfl rfl 6 (by decide) hL10 (fun _ h9 => h9) rfl dX3_copyFrom_91 ?_
  refine lv_iconst (v := (0 : Int32)) hx hb dX3_copyFrom_94 (by decide) ?_
  refine lv_aload_n hx hb dX3_copyFrom_95 rfl (lv_at hl 0 rfl) ?_
  refine va_get (D := G) (ci := 3) (v := .ref (h 7)) (C := RX3) (T := TX3) (N := 14) hx hb hts nw_X3_copyFrom_X3 hown hK hw.1 0 rfl rfl 6 (by decide) hL10 (fun _ h9 => h9) rfl dX3_copyFrom_96 ?_
  refine lv_iconst (v := (0 : Int32)) hx hb dX3_copyFrom_99 (by decide) ?_
  refine lv_bipush (v := (12 : Int32)) hx hb dX3_copyFrom_100 (by decide) ?_
  refine cd_copy (n := (12 : Int32)) (k := 12) hx hb (hml.trans hl.1.symm) hown hL1 hL2 hL3 hL4 hK hw 18 7 rfl rfl (by decide) (by decide) (by decide) (by decide) (Nat.le_of_ble_eq_true rfl) (Nat.le_of_ble_eq_true rfl) dX3_copyFrom_102 (fun H locs hw => ?_)
  have hw : cd_WS G A s.heap H locs ((pc_town cI h (cd_cpy (cd_cpy (cd_cpy (cd_cpy (cd_cpy (cd_cpy (cd_cpy T 0 T2 12) 1 T2 12) 2 T2 12) 3 T2 12) 4 T2 12) 5 T2 12) 6 T2 12)) ++ (pc_town cI h2 T2)) := hw
  refine lv_aload_n hx hb dX3_copyFrom_105 rfl (lv_at hl 1 rfl) ?_
  refine va_get (D := G) (ci := 3) (v := .ref (h2 8)) (C := RX3) (T := TX3) (N := 14) hx hb hts nw_X3_copyFrom_X3 hown hK hw.1 11 rfl rfl 7 (by decide) hL11 (fun _ h9 => h9) rfl dX3_copyFrom_106 ?_
  refine lv_iconst (v := (0 : Int32)) hx hb dX3_copyFrom_109 (by decide) ?_
  refine lv_aload_n hx hb dX3_copyFrom_110 rfl (lv_at hl 0 rfl) ?_
  refine va_get (D := G) (ci := 3) (v := .ref (h 8)) (C := RX3) (T := TX3) (N := 14) hx hb hts nw_X3_copyFrom_X3 hown hK hw.1 0 rfl rfl 7 (by decide) hL11 (fun _ h9 => h9) rfl dX3_copyFrom_111 ?_
  refine lv_iconst (v := (0 : Int32)) hx hb dX3_copyFrom_114 (by decide) ?_
  refine lv_bipush (v := (6 : Int32)) hx hb dX3_copyFrom_115 (by decide) ?_
  refine cd_copy (n := (6 : Int32)) (k := 6) hx hb (hml.trans hl.1.symm) hown hL1 hL2 hL3 hL4 hK hw 19 8 rfl rfl (by decide) (by decide) (by decide) (by decide) (Nat.le_of_ble_eq_true rfl) (Nat.le_of_ble_eq_true rfl) dX3_copyFrom_117 (fun H locs hw => ?_)
  have hw : cd_WS G A s.heap H locs ((pc_town cI h (cd_cpy (cd_cpy (cd_cpy (cd_cpy (cd_cpy (cd_cpy (cd_cpy (cd_cpy T 0 T2 12) 1 T2 12) 2 T2 12) 3 T2 12) 4 T2 12) 5 T2 12) 6 T2 12) 7 T2 6)) ++ (pc_town cI h2 T2)) := hw
  refine lv_aload_n hx hb dX3_copyFrom_120 rfl (lv_at hl 1 rfl) ?_
  refine va_get (D := G) (ci := 3) (v := .ref (h2 9)) (C := RX3) (T := TX3) (N := 14) hx hb hts nw_X3_copyFrom_X3 hown hK hw.1 11 rfl rfl 8 (by decide) hL12 (fun _ h9 => h9) rfl dX3_copyFrom_121 ?_
  refine lv_iconst (v := (0 : Int32)) hx hb dX3_copyFrom_124 (by decide) ?_
  refine lv_aload_n hx hb dX3_copyFrom_125 rfl (lv_at hl 0 rfl) ?_
  refine va_get (D := G) (ci := 3) (v := .ref (h 9)) (C := RX3) (T := TX3) (N := 14) hx hb hts nw_X3_copyFrom_X3 hown hK hw.1 0 rfl rfl 8 (by decide) hL12 (fun _ h9 => h9) rfl dX3_copyFrom_126 ?_
  refine lv_iconst (v := (0 : Int32)) hx hb dX3_copyFrom_129 (by decide) ?_
  refine lv_bipush (v := (8 : Int32)) hx hb dX3_copyFrom_130 (by decide) ?_
  refine cd_copy (n := (8 : Int32)) (k := 8) hx hb (hml.trans hl.1.symm) hown hL1 hL2 hL3 hL4 hK hw 20 9 rfl rfl (by decide) (by decide) (by decide) (by decide) (Nat.le_of_ble_eq_true rfl) (Nat.le_of_ble_eq_true rfl) dX3_copyFrom_132 (fun H locs hw => ?_)
  have hw : cd_WS G A s.heap H locs ((pc_town cI h (cd_cpy (cd_cpy (cd_cpy (cd_cpy (cd_cpy (cd_cpy (cd_cpy (cd_cpy (cd_cpy T 0 T2 12) 1 T2 12) 2 T2 12) 3 T2 12) 4 T2 12) 5 T2 12) 6 T2 12) 7 T2 6) 8 T2 8)) ++ (pc_town cI h2 T2)) := hw
  refine lv_aload_n hx hb dX3_copyFrom_135 rfl (lv_at hl 1 rfl) ?_
  refine va_get (D := G) (ci := 3) (v := .ref (h2 10)) (C := RX3) (T := TX3) (N := 14) hx hb hts nw_X3_copyFrom_X3 hown hK hw.1 11 rfl rfl 9 (by decide) hL13 (fun _ h9 => h9) rfl dX3_copyFrom_136 ?_
  refine lv_iconst (v := (0 : Int32)) hx hb dX3_copyFrom_139 (by decide) ?_
  refine lv_aload_n hx hb dX3_copyFrom_140 rfl (lv_at hl 0 rfl) ?_
  refine va_get (D := G) (ci := 3) (v := .ref (h 10)) (C := RX3) (T := TX3) (N := 14) hx hb hts nw_X3_copyFrom_X3 hown hK hw.1 0 rfl rfl 9 (by decide) hL13 (fun _ h9 => h9) rfl dX3_copyFrom_141 ?_
  refine lv_iconst (v := (0 : Int32)) hx hb dX3_copyFrom_144 (by decide) ?_
  refine lv_bipush (v := (8 : Int32)) hx hb dX3_copyFrom_145 (by decide) ?_
  refine cd_copy (n := (8 : Int32)) (k := 8) hx hb (hml.trans hl.1.symm) hown hL1 hL2 hL3 hL4 hK hw 21 10 rfl rfl (by decide) (by decide) (by decide) (by decide) (Nat.le_of_ble_eq_true rfl) (Nat.le_of_ble_eq_true rfl) dX3_copyFrom_147 (fun H locs hw => ?_)
  have hw : cd_WS G A s.heap H locs ((pc_town cI h (cd_cpy (cd_cpy (cd_cpy (cd_cpy (cd_cpy (cd_cpy (cd_cpy (cd_cpy (cd_cpy (cd_cpy T 0 T2 12) 1 T2 12) 2 T2 12) 3 T2 12) 4 T2 12) 5 T2 12) 6 T2 12) 7 T2 6) 8 T2 8) 9 T2 8)) ++ (pc_town cI h2 T2)) := hw
  refine lv_aload_n hx hb dX3_copyFrom_150 rfl (lv_at hl 0 rfl) ?_
  refine lv_aload_n hx hb dX3_copyFrom_151 rfl (lv_at hl 1 rfl) ?_
  refine va_get (D := G) (ci := 3) (v := .int (T2 10 0)) (C := RX3) (T := TX3) (N := 14) hx hb hts nw_X3_copyFrom_X3 hown hK hw.1 11 rfl rfl 10 (by decide) hL14 (fun _ h9 => h9) rfl dX3_copyFrom_152 ?_
  refine va_put (D := G) (ci := 3) (v := .int (T2 10 0)) (ty := .int) (C := RX3) (T := TX3) (N := 14) hx hb hts nw_X3_copyFrom_X3 tyX3 tyX3_ok nmX3 hown hK hw.1 hw.2.1 hw.2.2 0 rfl rfl 10 (by decide) hL14 (fun _ h9 => h9) rfl (by decide +kernel) rfl rfl (Nat.le_of_ble_eq_true rfl) dX3_copyFrom_155 (fun H locs hP hD hS => ?_)
  have hw : cd_WS G A s.heap H locs ((pc_town cI h (cd_fld (cd_cpy (cd_cpy (cd_cpy (cd_cpy (cd_cpy (cd_cpy (cd_cpy (cd_cpy (cd_cpy (cd_cpy T 0 T2 12) 1 T2 12) 2 T2 12) 3 T2 12) 4 T2 12) 5 T2 12) 6 T2 12) 7 T2 6) 8 T2 8) 9 T2 8) 10 (T2 10 0))) ++ (pc_town cI h2 T2)) := ⟨hP, hD, hS⟩
  refine lv_aload_n hx hb dX3_copyFrom_158 rfl (lv_at hl 0 rfl) ?_
  refine lv_aload_n hx hb dX3_copyFrom_159 rfl (lv_at hl 1 rfl) ?_
  refine va_get (D := G) (ci := 3) (v := .int (T2 11 0)) (C := RX3) (T := TX3) (N := 14) hx hb hts nw_X3_copyFrom_X3 hown hK hw.1 11 rfl rfl 11 (by decide) hL15 (fun _ h9 => h9) rfl dX3_copyFrom_160 ?_
  refine va_put (D := G) (ci := 3) (v := .int (T2 11 0)) (ty := .int) (C := RX3) (T := TX3) (N := 14) hx hb hts nw_X3_copyFrom_X3 tyX3 tyX3_ok nmX3 hown hK hw.1 hw.2.1 hw.2.2 0 rfl rfl 11 (by decide) hL15 (fun _ h9 => h9) rfl (by decide +kernel) rfl rfl (Nat.le_of_ble_eq_true rfl) dX3_copyFrom_163 (fun H locs hP hD hS => ?_)
  have hw : cd_WS G A s.heap H locs ((pc_town cI h (cd_fld (cd_fld (cd_cpy (cd_cpy (cd_cpy (cd_cpy (cd_cpy (cd_cpy (cd_cpy (cd_cpy (cd_cpy (cd_cpy T 0 T2 12) 1 T2 12) 2 T2 12) 3 T2 12) 4 T2 12) 5 T2 12) 6 T2 12) 7 T2 6) 8 T2 8) 9 T2 8) 10 (T2 10 0)) 11 (T2 11 0))) ++ (pc_town cI h2 T2)) := ⟨hP, hD, hS⟩
  refine lv_aload_n hx hb dX3_copyFrom_166 rfl (lv_at hl 0 rfl) ?_
  refine lv_aload_n hx hb dX3_copyFrom_167 rfl (lv_at hl 1 rfl) ?_
  refine va_get (D := G) (ci := 3) (v := .int (T2 12 0)) (C := RX3) (T := TX3) (N := 14) hx hb hts nw_X3_copyFrom_X3 hown hK hw.1 11 rfl rfl 12 (by decide) hL16 (fun _ h9 => h9) rfl dX3_copyFrom_168 ?_
  refine va_put (D := G) (ci := 3) (v := .int (T2 12 0)) (ty := .int) (C := RX3) (T := TX3) (N := 14) hx hb hts nw_X3_copyFrom_X3 tyX3 tyX3_ok nmX3 hown hK hw.1 hw.2.1 hw.2.2 0 rfl rfl 12 (by decide) hL16 (fun _ h9 => h9) rfl (by decide +kernel) rfl rfl (Nat.le_of_ble_eq_true rfl) dX3_copyFrom_171 (fun H locs hP hD hS => ?_)
  have hw : cd_WS G A s.heap H locs ((pc_town cI h (cd_fld (cd_fld (cd_fld (cd_cpy (cd_cpy (cd_cpy (cd_cpy (cd_cpy (cd_cpy (cd_cpy (cd_cpy (cd_cpy (cd_cpy T 0 T2 12) 1 T2 12) 2 T2 12) 3 T2 12) 4 T2 12) 5 T2 12) 6 T2 12) 7 T2 6) 8 T2 8) 9 T2 8) 10 (T2 10 0)) 11 (T2 11 0)) 12 (T2 12 0))) ++ (pc_town cI h2 T2)) := ⟨hP, hD, hS⟩
  refine lv_aload_n hx hb dX3_copyFrom_174 rfl (lv_at hl 0 rfl) ?_
  refine lv_aload_n hx hb dX3_copyFrom_175 rfl (lv_at hl 1 rfl) ?_
  refine va_get (D := G) (ci := 3) (v := .int (T2 13 0)) (C := RX3) (T := TX3) (N := 14) hx hb hts nw_X3_copyFrom_X3 hown hK hw.1 11 rfl rfl 13 (by decide) hL17 (fun _ h9 => h9) rfl dX3_copyFrom_176 ?_
  refine va_put (D := G) (ci := 3) (v := .int (T2 13 0)) (ty := .int) (C := RX3) (T := TX3) (N := 14) hx hb hts nw_X3_copyFrom_X3 tyX3 tyX3_ok nmX3 hown hK hw.1 hw.2.1 hw.2.2 0 rfl rfl 13 (by decide) hL17 (fun _ h9 => h9) rfl (by decide +kernel) rfl rfl (Nat.le_of_ble_eq_true rfl) dX3_copyFrom_179 (fun H locs hP hD hS => ?_)
  have hw : cd_WS G A s.heap H locs ((pc_town cI h (cd_fld (cd_fld (cd_fld (cd_fld (cd_cpy (cd_cpy (cd_cpy (cd_cpy (cd_cpy (cd_cpy (cd_cpy (cd_cpy (cd_cpy (cd_cpy T 0 T2 12) 1 T2 12) 2 T2 12) 3 T2 12) 4 T2 12) 5 T2 12) 6 T2 12) 7 T2 6) 8 T2 8) 9 T2 8) 10 (T2 10 0)) 11 (T2 11 0)) 12 (T2 12 0)) 13 (T2 13 0))) ++ (pc_town cI h2 T2)) := ⟨hP, hD, hS⟩
  have z : some (cd_fld (cd_fld (cd_fld (cd_fld (cd_cpy (cd_cpy (cd_cpy (cd_cpy (cd_cpy (cd_cpy (cd_cpy (cd_cpy (cd_cpy (cd_cpy T 0 T2 12) 1 T2 12) 2 T2 12) 3 T2 12) 4 T2 12) 5 T2 12) 6 T2 12) 7 T2 6) 8 T2 8) 9 T2 8) 10 (T2 10 0)) 11 (T2 11 0)) 12 (T2 12 0)) 13 (T2 13 0)) = some o := hf
  cases z
  rw [hQ]
  exact cd_retv C0 hw dX3_copyFrom_182
abbrev rm_X1_begin : Room := { frames := 2, cells := 0, slots := 0, locals := 39 }
theorem nw_X1_begin_X1 : ∀ w ∈ u_ws RX1 TX1 6, w ∈ wsX1_begin := by decide +kernel
set_option maxHeartbeats 4000000 in
set_option maxRecDepth 100000 in
theorem c_X1_begin (l : Launch) (G : va_G) (cI cZ : ClassId) (sa sb : Nat) (h hs ht : Nat → Nat) (Y S T : Nat → Nat → Int32) (o : (Nat → Nat → Int32) × (Nat → Nat → Int32)) (hf : f_X1_begin Y S T = some o) : cd_Ct l G cI cZ sa sb yX1_begin wsX1_begin rm_X1_begin [.ref (h 0), .ref (ht 0)] ((pc_play h hs Y) ++ (pc_town cI hs S) ++ (pc_town cI ht T)) ((pc_play h hs o.1) ++ (pc_town cI hs o.2) ++ (pc_town cI ht T)) none := by
  refine cd_of (cc := cX1_begin) (maxL := 2) (ret := none) (by decide) rfl (Nat.le_of_ble_eq_true rfl) ?_
  intro p e s m ag below meth c A ls Q C0 hl hw hQ
  have C0 : cd_CX G cI cZ sa sb p s m ag meth c cX1_begin 2 none wsX1_begin RX1 A := C0
  obtain ⟨⟨hx, hb, hml, hown, hts⟩, hr, hlocks, hA, hE⟩ := id C0
  have hK := hE.1
  have hL0 := hts (.fieldLink RX1 12 "CandleDebts$Play" "scene" "LCandleDebts$Town;") (by decide +kernel)
  have hL1 := hts (.fieldLink RX1 22 "CandleDebts$Play" "acts" "I") (by decide +kernel)
  have hL2 := hts (.fieldLink RX1 26 "CandleDebts$Play" "why" "I") (by decide +kernel)
  have hL3 := hts (.fieldLink RX1 29 "CandleDebts$Play" "paid" "I") (by decide +kernel)
  have hL4 := hts (.fieldLink RX1 32 "CandleDebts$Play" "outAct" "I") (by decide +kernel)
  have hL5 := hts (.fieldLink RX1 35 "CandleDebts$Play" "outCandle" "I") (by decide +kernel)
  have hl : lv_has ls 2 [(0, .ref (h 0)), (1, .ref (ht 0))] := hl
  unfold f_X1_begin at hf
  refine lv_aload_n hx hb dX1_begin_0 rfl (lv_at hl 0 rfl) ?_
  refine va_get (D := G) (ci := 1) (v := .ref (hs 0)) (C := RX1) (T := TX1) (N := 6) hx hb hts nw_X1_begin_X1 hown hK hw.1 0 rfl rfl 0 (by decide) hL0 (fun _ h9 => h9) rfl dX1_begin_1 ?_
  refine lv_aload_n hx hb dX1_begin_4 rfl (lv_at hl 1 rfl) ?_
  obtain ⟨r1, e1, hf⟩ := cd_bind_some hf
  refine cd_callVw (As := [.ref (ht 0)]) (rest := []) (wr := (pc_play h hs Y)) (wn := (pc_play h hs Y) ++ (pc_town cI hs r1) ++ (pc_town cI ht T)) C0 hw (c_X3_copyFrom l G cI cZ sa sb hs ht S T r1 e1) [1, 2, 3, 4, 5, 6, 7, 8, 9, 10, 11, 12, 13, 14, 15, 16, 17, 18, 19, 20, 21, 22] [0] [0, 1, 2, 3, 4, 5, 6, 7, 8, 9, 10, 11, 12, 13, 14, 15, 16, 17, 18, 19, 20, 21, 22] rfl rfl rfl rfl (by decide) rfl rfl 0 3 rfl rfl rfl (cwV 1 hts gX1_begin_X3_copyFrom rfl rfl rfl (by decide +kernel) ⟨Nat.le_of_ble_eq_true rfl, Nat.le_of_ble_eq_true rfl⟩) rfl hl.1 (lv_room (Nat.le_of_ble_eq_true rfl)) dX1_begin_5 (fun H locs hw => ?_)
  refine lv_aload_n hx hb dX1_begin_8 rfl (lv_at hl 0 rfl) ?_
  refine lv_iconst (v := (0 : Int32)) hx hb dX1_begin_9 (by decide) ?_
  refine va_put (D := G) (ci := 1) (v := .int (0 : Int32)) (ty := .int) (C := RX1) (T := TX1) (N := 6) hx hb hts nw_X1_begin_X1 tyX1 tyX1_ok nmX1 hown hK hw.1 hw.2.1 hw.2.2 0 rfl rfl 1 (by decide) hL1 (fun _ h9 => h9) rfl (by decide +kernel) rfl rfl (Nat.le_of_ble_eq_true rfl) dX1_begin_10 (fun H locs hP hD hS => ?_)
  have hw : cd_WS G A s.heap H locs ((pc_play h hs (cd_fld Y 1 (0 : Int32))) ++ (pc_town cI hs r1) ++ (pc_town cI ht T)) := ⟨hP, hD, hS⟩
  refine lv_aload_n hx hb dX1_begin_13 rfl (lv_at hl 0 rfl) ?_
  refine lv_iconst (v := (0 : Int32)) hx hb dX1_begin_14 (by decide) ?_
  refine va_put (D := G) (ci := 1) (v := .int (0 : Int32)) (ty := .int) (C := RX1) (T := TX1) (N := 6) hx hb hts nw_X1_begin_X1 tyX1 tyX1_ok nmX1 hown hK hw.1 hw.2.1 hw.2.2 0 rfl rfl 2 (by decide) hL2 (fun _ h9 => h9) rfl (by decide +kernel) rfl rfl (Nat.le_of_ble_eq_true rfl) dX1_begin_15 (fun H locs hP hD hS => ?_)
  have hw : cd_WS G A s.heap H locs ((pc_play h hs (cd_fld (cd_fld Y 1 (0 : Int32)) 2 (0 : Int32))) ++ (pc_town cI hs r1) ++ (pc_town cI ht T)) := ⟨hP, hD, hS⟩
  refine lv_aload_n hx hb dX1_begin_18 rfl (lv_at hl 0 rfl) ?_
  refine lv_iconst (v := (0 : Int32)) hx hb dX1_begin_19 (by decide) ?_
  refine va_put (D := G) (ci := 1) (v := .int (0 : Int32)) (ty := .int) (C := RX1) (T := TX1) (N := 6) hx hb hts nw_X1_begin_X1 tyX1 tyX1_ok nmX1 hown hK hw.1 hw.2.1 hw.2.2 0 rfl rfl 3 (by decide) hL3 (fun _ h9 => h9) rfl (by decide +kernel) rfl rfl (Nat.le_of_ble_eq_true rfl) dX1_begin_20 (fun H locs hP hD hS => ?_)
  have hw : cd_WS G A s.heap H locs ((pc_play h hs (cd_fld (cd_fld (cd_fld Y 1 (0 : Int32)) 2 (0 : Int32)) 3 (0 : Int32))) ++ (pc_town cI hs r1) ++ (pc_town cI ht T)) := ⟨hP, hD, hS⟩
  refine lv_aload_n hx hb dX1_begin_23 rfl (lv_at hl 0 rfl) ?_
  refine lv_bipush (v := (-6 : Int32)) hx hb dX1_begin_24 (by decide) ?_
  refine va_put (D := G) (ci := 1) (v := .int (-6 : Int32)) (ty := .int) (C := RX1) (T := TX1) (N := 6) hx hb hts nw_X1_begin_X1 tyX1 tyX1_ok nmX1 hown hK hw.1 hw.2.1 hw.2.2 0 rfl rfl 4 (by decide) hL4 (fun _ h9 => h9) rfl (by decide +kernel) rfl rfl (Nat.le_of_ble_eq_true rfl) dX1_begin_26 (fun H locs hP hD hS => ?_)
  have hw : cd_WS G A s.heap H locs ((pc_play h hs (cd_fld (cd_fld (cd_fld (cd_fld Y 1 (0 : Int32)) 2 (0 : Int32)) 3 (0 : Int32)) 4 (-6 : Int32))) ++ (pc_town cI hs r1) ++ (pc_town cI ht T)) := ⟨hP, hD, hS⟩
  refine lv_aload_n hx hb dX1_begin_29 rfl (lv_at hl 0 rfl) ?_
  refine lv_bipush (v := (-6 : Int32)) hx hb dX1_begin_30 (by decide) ?_
  refine va_put (D := G) (ci := 1) (v := .int (-6 : Int32)) (ty := .int) (C := RX1) (T := TX1) (N := 6) hx hb hts nw_X1_begin_X1 tyX1 tyX1_ok nmX1 hown hK hw.1 hw.2.1 hw.2.2 0 rfl rfl 5 (by decide) hL5 (fun _ h9 => h9) rfl (by decide +kernel) rfl rfl (Nat.le_of_ble_eq_true rfl) dX1_begin_32 (fun H locs hP hD hS => ?_)
  have hw : cd_WS G A s.heap H locs ((pc_play h hs (cd_fld (cd_fld (cd_fld (cd_fld (cd_fld Y 1 (0 : Int32)) 2 (0 : Int32)) 3 (0 : Int32)) 4 (-6 : Int32)) 5 (-6 : Int32))) ++ (pc_town cI hs r1) ++ (pc_town cI ht T)) := ⟨hP, hD, hS⟩
  have z : some ((cd_fld (cd_fld (cd_fld (cd_fld (cd_fld Y 1 (0 : Int32)) 2 (0 : Int32)) 3 (0 : Int32)) 4 (-6 : Int32)) 5 (-6 : Int32)), r1) = some o := hf
  cases z
  rw [hQ]
  exact cd_retv C0 hw dX1_begin_35
abbrev rm_X5_isCandle : Room := { frames := 1, cells := 0, slots := 0, locals := 22 }
set_option maxHeartbeats 4000000 in
set_option maxRecDepth 100000 in
theorem c_X5_isCandle (l : Launch) (G : va_G) (cI cZ : ClassId) (sa sb : Nat) (a0 : Int32) (o : Int32) (hf : f_X5_isCandle a0 = some o) : cd_Ct l G cI cZ sa sb yX5_isCandle wsX5_isCandle rm_X5_isCandle [.int a0] (([] : va_W)) (([] : va_W)) (some (.int o)) := by
  refine cd_of (cc := cX5_isCandle) (maxL := 1) (ret := (some .boolean)) (by decide) rfl (Nat.le_of_ble_eq_true rfl) ?_
  intro p e s m ag below meth c A ls Q C0 hl hw hQ
  have C0 : cd_CX G cI cZ sa sb p s m ag meth c cX5_isCandle 1 (some .boolean) wsX5_isCandle RX5 A := C0
  obtain ⟨⟨hx, hb, hml, hown, hts⟩, hr, hlocks, hA, hE⟩ := id C0
  have hK := hE.1
  have hl : lv_has ls 1 [(0, .int a0)] := hl
  unfold f_X5_isCandle at hf
  refine lv_iload_n hx hb dX5_isCandle_0 rfl (lv_at hl 0 rfl) ?_
  refine lv_iconst (v := (0 : Int32)) hx hb dX5_isCandle_1 (by decide) ?_
  refine lv_bipush (v := (11 : Int32)) hx hb dX5_isCandle_2 (by decide) ?_
  obtain ⟨r1, e1, hf⟩ := cd_bind_some hf
  refine cd_callS (As := [.int a0, .int (0 : Int32), .int (11 : Int32)]) (rest := []) C0 hw (c_X5_within l G cI cZ sa sb a0 (0 : Int32) (11 : Int32) r1 e1) [] rfl rfl (va_cwS 3 hts gX5_isCandle_X5_within rfl rfl rfl (by decide +kernel) ⟨Nat.le_of_ble_eq_true rfl, Nat.le_of_ble_eq_true rfl⟩) rfl hl.1 (lv_room (Nat.le_of_ble_eq_true rfl)) dX5_isCandle_4 (fun H locs hw => ?_)
  obtain ⟨u2, e2, hf⟩ := cd_bind_some hf
  have z : some r1 = some o := hf
  cases z
  rw [hQ]
  exact cd_retz C0 hw (cd_zb_eq e2) dX5_isCandle_7
abbrev rm_X1_draws : Room := { frames := 4, cells := 0, slots := 0, locals := 90 }
set_option maxHeartbeats 4000000 in
set_option maxRecDepth 100000 in
theorem c_X1_draws (l : Launch) (G : va_G) (cI cZ : ClassId) (sa sb : Nat) (h hs ht : Nat → Nat) (Y S T : Nat → Nat → Int32) (a0 : Int32) (a1 : Int32) (o : (Nat → Nat → Int32) × (Nat → Nat → Int32)) (hf : f_X1_draws a0 a1 Y S T = some o) : cd_Ct l G cI cZ sa sb yX1_draws wsX1_draws rm_X1_draws [.ref (h 0), .ref (ht 0), .int a0, .int a1] ((pc_play h hs Y) ++ (pc_town cI hs S) ++ (pc_town cI ht T)) ((pc_play h hs o.1) ++ (pc_town cI hs o.2) ++ (pc_town cI ht T)) none := by
  refine cd_of (cc := cX1_draws) (maxL := 9) (ret := none) (by decide) rfl (Nat.le_of_ble_eq_true rfl) ?_
  intro p e s m ag below meth c A ls Q C0 hl hw hQ
  have C0 : cd_CX G cI cZ sa sb p s m ag meth c cX1_draws 9 none wsX1_draws RX1 A := C0
  obtain ⟨⟨hx, hb, hml, hown, hts⟩, hr, hlocks, hA, hE⟩ := id C0
  have hK := hE.1
  have hL0 := hts (.constant RX1 66 (65537)) (by decide +kernel)
  have hL1 := hts (.initialized RX5) (by decide +kernel)
  have hL2 := hts (.static yX5_isCandle) (by decide +kernel)
  have hl : lv_has ls 9 [(0, .ref (h 0)), (1, .ref (ht 0)), (2, .int a0), (3, .int a1)] := hl
  unfold f_X1_draws at hf
  refine lv_aload_n hx hb dX1_draws_0 rfl (lv_at hl 0 rfl) ?_
  refine lv_aload_n hx hb dX1_draws_1 rfl (lv_at hl 1 rfl) ?_
  obtain ⟨r1, e1, hf⟩ := cd_bind_some hf
  refine cd_callVw (As := [.ref (ht 0)]) (rest := []) (wr := ([] : va_W)) (wn := (pc_play h hs r1.1) ++ (pc_town cI hs r1.2) ++ (pc_town cI ht T)) C0 hw (c_X1_begin l G cI cZ sa sb h hs ht Y S T r1 e1) [0, 1, 2, 3, 4, 5, 6, 7, 8, 9, 10, 11, 12, 13, 14, 15, 16, 17, 18, 19, 20, 21, 22] [] [0, 1, 2, 3, 4, 5, 6, 7, 8, 9, 10, 11, 12, 13, 14, 15, 16, 17, 18, 19, 20, 21, 22] rfl rfl rfl rfl (by decide) rfl rfl 0 1 rfl rfl rfl (cwV 1 hts gX1_draws_X1_begin rfl rfl rfl (by decide +kernel) ⟨Nat.le_of_ble_eq_true rfl, Nat.le_of_ble_eq_true rfl⟩) rfl hl.1 (lv_room (Nat.le_of_ble_eq_true rfl)) dX1_draws_2 (fun H locs hw => ?_)
  refine lv_iload_n hx hb dX1_draws_5 rfl (lv_at hl 2 rfl) ?_
  refine lv_istore (lv' := [(4, .int a0), (0, .ref (h 0)), (1, .ref (ht 0)), (2, .int a0), (3, .int a1)]) hx hb dX1_draws_6 hl (by decide) rfl (fun ls hl => ?_)
  refine lv_iconst (v := (0 : Int32)) hx hb dX1_draws_8 (by decide) ?_
  refine lv_istore (lv' := [(5, .int (0 : Int32)), (4, .int a0), (0, .ref (h 0)), (1, .ref (ht 0)), (2, .int a0), (3, .int a1)]) hx hb dX1_draws_9 hl (by decide) rfl (fun ls hl => ?_)
  obtain ⟨x2, e2, hf⟩ := cd_bind_some hf
  have K2 : ∀ (t2 : (Nat → Nat → Int32) × (Nat → Nat → Int32)), t2 = x2 → ∀ (ls : Array Slot) (H : Heap) (locs : List Loc), lv_has ls 9 [] → cd_WS G A s.heap H locs ((pc_play h hs t2.1) ++ (pc_town cI hs t2.2) ++ (pc_town cI ht T)) → W p l e rm_X1_draws s m ag below meth c H locs 0 0 Q (F0 m 107 ls []) := by
    intro t2 hs_2
    subst hs_2
    intro ls H locs hl hw
    have z : some (t2.1, t2.2) = some o := hf
    cases z
    rw [hQ]
    exact cd_retv C0 hw dX1_draws_107
  refine cd_iter_ind (body := (f_X1_draws_b11 a1)) (K := fun r => r = x2) (P := fun (z2 : Int32 × Int32 × (Nat → Nat → Int32) × (Nat → Nat → Int32)) => ∀ (ls : Array Slot) (H : Heap) (locs : List Loc), lv_has ls 9 [(0, .ref (h 0)), (3, .int a1), (4, .int z2.1), (5, .int z2.2.1)] → cd_WS G A s.heap H locs ((pc_play h hs z2.2.2.1) ++ (pc_town cI hs z2.2.2.2) ++ (pc_town cI ht T)) → W p l e rm_X1_draws s m ag below meth c H locs 0 0 Q (F0 m 11 ls [])) ?_ cd_N (a0, (0 : Int32), r1.1, r1.2) x2 e2 rfl _ _ _ (lv_sub hl [2, 5, 1, 0] rfl) hw
  intro z2 o2 hb2 hk2 ls H locs hl hw
  unfold f_X1_draws_b11 at hb2
  refine lv_iload hx hb dX1_draws_11 (lv_at hl 3 rfl) ?_
  refine lv_iload_n hx hb dX1_draws_13 rfl (lv_at hl 1 rfl) ?_
  refine lv_icmp_ge (tgt := 107) hx hb dX1_draws_14 (by decide) (fun c3 => ?_) (fun c3 => ?_)
  · have hb2 := cd_ite_t c3 hb2
    have z : some (Sum.inl (z2.2.2.1, z2.2.2.2)) = some o2 := hb2
    cases z
    exact K2 _ hk2 _ _ _ (lv_sub hl [] rfl) hw
  · have hb2 := cd_ite_f c3 hb2
    refine lv_bipush (v := (75 : Int32)) hx hb dX1_draws_17 (by decide) ?_
    refine lv_iload hx hb dX1_draws_19 (lv_at hl 2 rfl) ?_
    refine lv_imul hx hb dX1_draws_21 ?_
    refine lv_bipush (v := (74 : Int32)) hx hb dX1_draws_22 (by decide) ?_
    refine lv_iadd hx hb dX1_draws_24 ?_
    refine lv_ldc (v := (65537 : Int32)) hx hb hown hL0 dX1_draws_25 ?_
    refine lv_irem hx hb dX1_draws_27 (by decide) ?_
    refine lv_istore (lv' := [(4, .int ((((75 : Int32) * z2.1) + (74 : Int32)) - (((75 : Int32) * z2.1) + (74 : Int32)) / (65537 : Int32) * (65537 : Int32))), (0, .ref (h 0)), (3, .int a1), (5, .int z2.2.1)]) hx hb dX1_draws_28 hl (by decide) rfl (fun ls hl => ?_)
    refine va_getsN (v := .ref sb) hx hb hE.2.2.2.2.1 hw.2.2 hown (va_Nw.use rfl (hE.2.1 (.fieldLinkNest RX1 67 "CandleDebts" "DRAWN_KINDS" "[I" RX5) (by simp [cd_nest]))) (fun _ h9 => h9) dX1_draws_30 ?_
    refine lv_iload hx hb dX1_draws_33 (lv_at hl 0 rfl) ?_
    refine lv_bipush (v := (8 : Int32)) hx hb dX1_draws_35 (by decide) ?_
    refine lv_irem hx hb dX1_draws_37 (by decide) ?_
    obtain ⟨v4, e4, hb2⟩ := cd_bind_some hb2
    refine cd_siald hx hb hw hE.2.2.2.2.2 e4 dX1_draws_38 ?_
    refine lv_istore (lv' := [(6, .int v4), (4, .int ((((75 : Int32) * z2.1) + (74 : Int32)) - (((75 : Int32) * z2.1) + (74 : Int32)) / (65537 : Int32) * (65537 : Int32))), (0, .ref (h 0)), (3, .int a1), (5, .int z2.2.1)]) hx hb dX1_draws_39 hl (by decide) rfl (fun ls hl => ?_)
    refine lv_iload hx hb dX1_draws_41 (lv_at hl 1 rfl) ?_
    refine lv_bipush (v := (8 : Int32)) hx hb dX1_draws_43 (by decide) ?_
    refine lv_idiv hx hb dX1_draws_45 (by decide) ?_
    refine lv_bipush (v := (12 : Int32)) hx hb dX1_draws_46 (by decide) ?_
    refine lv_irem hx hb dX1_draws_48 (by decide) ?_
    refine lv_istore (lv' := [(7, .int ((((((75 : Int32) * z2.1) + (74 : Int32)) - (((75 : Int32) * z2.1) + (74 : Int32)) / (65537 : Int32) * (65537 : Int32)) / (8 : Int32)) - (((((75 : Int32) * z2.1) + (74 : Int32)) - (((75 : Int32) * z2.1) + (74 : Int32)) / (65537 : Int32) * (65537 : Int32)) / (8 : Int32)) / (12 : Int32) * (12 : Int32))), (6, .int v4), (4, .int ((((75 : Int32) * z2.1) + (74 : Int32)) - (((75 : Int32) * z2.1) + (74 : Int32)) / (65537 : Int32) * (65537 : Int32))), (0, .ref (h 0)), (3, .int a1), (5, .int z2.2.1)]) hx hb dX1_draws_49 hl (by decide) rfl (fun ls hl => ?_)
    refine lv_iload hx hb dX1_draws_51 (lv_at hl 1 rfl) ?_
    refine lv_bipush (v := (62 : Int32)) hx hb dX1_draws_53 (by decide) ?_
    obtain ⟨x5, e5, hb2⟩ := cd_bind_some hb2
    have K5 : ∀ (ls : Array Slot) (H : Heap) (locs : List Loc), lv_has ls 9 [(0, .ref (h 0)), (3, .int a1), (4, .int ((((75 : Int32) * z2.1) + (74 : Int32)) - (((75 : Int32) * z2.1) + (74 : Int32)) / (65537 : Int32) * (65537 : Int32))), (5, .int z2.2.1), (6, .int v4), (7, .int ((((((75 : Int32) * z2.1) + (74 : Int32)) - (((75 : Int32) * z2.1) + (74 : Int32)) / (65537 : Int32) * (65537 : Int32)) / (8 : Int32)) - (((((75 : Int32) * z2.1) + (74 : Int32)) - (((75 : Int32) * z2.1) + (74 : Int32)) / (65537 : Int32) * (65537 : Int32)) / (8 : Int32)) / (12 : Int32) * (12 : Int32)))] → cd_WS G A s.heap H locs ((pc_play h hs z2.2.2.1) ++ (pc_town cI hs z2.2.2.2) ++ (pc_town cI ht T)) → W p l e rm_X1_draws s m ag below meth c H locs 0 0 Q (F0 m 73 ls [.int x5]) := by
      intro ls H locs hl hw
      refine lv_istore (lv' := [(8, .int x5), (0, .ref (h 0)), (3, .int a1), (4, .int ((((75 : Int32) * z2.1) + (74 : Int32)) - (((75 : Int32) * z2.1) + (74 : Int32)) / (65537 : Int32) * (65537 : Int32))), (5, .int z2.2.1), (6, .int v4), (7, .int ((((((75 : Int32) * z2.1) + (74 : Int32)) - (((75 : Int32) * z2.1) + (74 : Int32)) / (65537 : Int32) * (65537 : Int32)) / (8 : Int32)) - (((((75 : Int32) * z2.1) + (74 : Int32)) - (((75 : Int32) * z2.1) + (74 : Int32)) / (65537 : Int32) * (65537 : Int32)) / (8 : Int32)) / (12 : Int32) * (12 : Int32)))]) hx hb dX1_draws_73 hl (by decide) rfl (fun ls hl => ?_)
      refine lv_iload hx hb dX1_draws_75 (lv_at hl 5 rfl) ?_
      refine lv_bipush (v := (62 : Int32)) hx hb dX1_draws_77 (by decide) ?_
      refine lv_icmp_ne (tgt := 90) hx hb dX1_draws_79 (by decide) (fun c6 => ?_) (fun c6 => ?_)
      · have hb2 := cd_ite_f c6 hb2
        refine lv_aload_n hx hb dX1_draws_90 rfl (lv_at hl 1 rfl) ?_
        refine lv_iload hx hb dX1_draws_91 (lv_at hl 5 rfl) ?_
        refine lv_iload hx hb dX1_draws_93 (lv_at hl 6 rfl) ?_
        refine lv_iload hx hb dX1_draws_95 (lv_at hl 0 rfl) ?_
        obtain ⟨r10, e10, hb2⟩ := cd_bind_some hb2
        refine cd_callVw (As := [.int v4, .int ((((((75 : Int32) * z2.1) + (74 : Int32)) - (((75 : Int32) * z2.1) + (74 : Int32)) / (65537 : Int32) * (65537 : Int32)) / (8 : Int32)) - (((((75 : Int32) * z2.1) + (74 : Int32)) - (((75 : Int32) * z2.1) + (74 : Int32)) / (65537 : Int32) * (65537 : Int32)) / (8 : Int32)) / (12 : Int32) * (12 : Int32)), .int x5]) (rest := []) (wr := (pc_town cI ht T)) (wn := (pc_play h hs r10.2.1) ++ (pc_town cI hs r10.2.2) ++ (pc_town cI ht T)) C0 hw (c_X1_attempt l G cI cZ sa sb h hs z2.2.2.1 z2.2.2.2 v4 ((((((75 : Int32) * z2.1) + (74 : Int32)) - (((75 : Int32) * z2.1) + (74 : Int32)) / (65537 : Int32) * (65537 : Int32)) / (8 : Int32)) - (((((75 : Int32) * z2.1) + (74 : Int32)) - (((75 : Int32) * z2.1) + (74 : Int32)) / (65537 : Int32) * (65537 : Int32)) / (8 : Int32)) / (12 : Int32) * (12 : Int32)) x5 r10 e10) [0, 1, 2, 3, 4, 5, 6, 7, 8, 9, 10, 11] [12, 13, 14, 15, 16, 17, 18, 19, 20, 21, 22] [11, 12, 13, 14, 15, 16, 17, 18, 19, 20, 21, 22, 0, 1, 2, 3, 4, 5, 6, 7, 8, 9, 10] rfl rfl rfl rfl (by decide) rfl rfl 0 1 rfl rfl rfl (cwV 3 hts gX1_draws_X1_attempt rfl rfl rfl (by decide +kernel) ⟨Nat.le_of_ble_eq_true rfl, Nat.le_of_ble_eq_true rfl⟩) rfl hl.1 (lv_room (Nat.le_of_ble_eq_true rfl)) dX1_draws_97 (fun H locs hw => ?_)
        refine lv_pop hx hb dX1_draws_100 rfl ?_
        refine lv_iinc (v := (z2.2.1 + (1 : Int32))) (lv' := [(5, .int (z2.2.1 + (1 : Int32))), (8, .int x5), (0, .ref (h 0)), (3, .int a1), (4, .int ((((75 : Int32) * z2.1) + (74 : Int32)) - (((75 : Int32) * z2.1) + (74 : Int32)) / (65537 : Int32) * (65537 : Int32))), (6, .int v4), (7, .int ((((((75 : Int32) * z2.1) + (74 : Int32)) - (((75 : Int32) * z2.1) + (74 : Int32)) / (65537 : Int32) * (65537 : Int32)) / (8 : Int32)) - (((((75 : Int32) * z2.1) + (74 : Int32)) - (((75 : Int32) * z2.1) + (74 : Int32)) / (65537 : Int32) * (65537 : Int32)) / (8 : Int32)) / (12 : Int32) * (12 : Int32)))]) hx hb dX1_draws_101 hl (k := 4) rfl rfl (by decide) rfl (fun ls hl => ?_)
        refine lv_goto (tgt := 11) hx hb dX1_draws_104 (by decide) ?_
        have z : some (Sum.inr (((((75 : Int32) * z2.1) + (74 : Int32)) - (((75 : Int32) * z2.1) + (74 : Int32)) / (65537 : Int32) * (65537 : Int32)), (z2.2.1 + (1 : Int32)), r10.2.1, r10.2.2)) = some o2 := hb2
        cases z
        exact hk2 _ _ _ (lv_sub hl [2, 3, 4, 0] rfl) hw
      · have hb2 := cd_ite_t c6 hb2
        refine lv_iload hx hb dX1_draws_82 (lv_at hl 0 rfl) ?_
        obtain ⟨r7, e7, hb2⟩ := cd_bind_some hb2
        refine cd_callSN (As := [.int x5]) (rest := []) C0 hw (c_X5_isCandle l G cI cZ sa sb x5 r7 e7) [] rfl rfl ⟨va_cnB 1 hts ggX1_draws_X5_isCandle rfl rfl rfl (hE.2.1 (.methodLinkNest RX1 71 yX5_isCandle RX5) (by simp [cd_nest])) hL1 (by decide +kernel) ⟨Nat.le_of_ble_eq_true rfl, Nat.le_of_ble_eq_true rfl⟩, hL2, trivial⟩ rfl hl.1 (lv_room (Nat.le_of_ble_eq_true rfl)) dX1_draws_84 (fun H locs hw => ?_)
        refine lv_if_eq (tgt := 101) hx hb dX1_draws_87 (by decide) (fun c8 => ?_) (fun c8 => ?_)
        · have hb2 := cd_ite_t c8 hb2
          refine lv_iinc (v := (z2.2.1 + (1 : Int32))) (lv' := [(5, .int (z2.2.1 + (1 : Int32))), (8, .int x5), (0, .ref (h 0)), (3, .int a1), (4, .int ((((75 : Int32) * z2.1) + (74 : Int32)) - (((75 : Int32) * z2.1) + (74 : Int32)) / (65537 : Int32) * (65537 : Int32))), (6, .int v4), (7, .int ((((((75 : Int32) * z2.1) + (74 : Int32)) - (((75 : Int32) * z2.1) + (74 : Int32)) / (65537 : Int32) * (65537 : Int32)) / (8 : Int32)) - (((((75 : Int32) * z2.1) + (74 : Int32)) - (((75 : Int32) * z2.1) + (74 : Int32)) / (65537 : Int32) * (65537 : Int32)) / (8 : Int32)) / (12 : Int32) * (12 : Int32)))]) hx hb dX1_draws_101 hl (k := 4) rfl rfl (by decide) rfl (fun ls hl => ?_)
          refine lv_goto (tgt := 11) hx hb dX1_draws_104 (by decide) ?_
          have z : some (Sum.inr (((((75 : Int32) * z2.1) + (74 : Int32)) - (((75 : Int32) * z2.1) + (74 : Int32)) / (65537 : Int32) * (65537 : Int32)), (z2.2.1 + (1 : Int32)), z2.2.2.1, z2.2.2.2)) = some o2 := hb2
          cases z
          exact hk2 _ _ _ (lv_sub hl [2, 3, 4, 0] rfl) hw
        · have hb2 := cd_ite_f c8 hb2
          refine lv_aload_n hx hb dX1_draws_90 rfl (lv_at hl 1 rfl) ?_
          refine lv_iload hx hb dX1_draws_91 (lv_at hl 5 rfl) ?_
          refine lv_iload hx hb dX1_draws_93 (lv_at hl 6 rfl) ?_
          refine lv_iload hx hb dX1_draws_95 (lv_at hl 0 rfl) ?_
          obtain ⟨r9, e9, hb2⟩ := cd_bind_some hb2
          refine cd_callVw (As := [.int v4, .int ((((((75 : Int32) * z2.1) + (74 : Int32)) - (((75 : Int32) * z2.1) + (74 : Int32)) / (65537 : Int32) * (65537 : Int32)) / (8 : Int32)) - (((((75 : Int32) * z2.1) + (74 : Int32)) - (((75 : Int32) * z2.1) + (74 : Int32)) / (65537 : Int32) * (65537 : Int32)) / (8 : Int32)) / (12 : Int32) * (12 : Int32)), .int x5]) (rest := []) (wr := (pc_town cI ht T)) (wn := (pc_play h hs r9.2.1) ++ (pc_town cI hs r9.2.2) ++ (pc_town cI ht T)) C0 hw (c_X1_attempt l G cI cZ sa sb h hs z2.2.2.1 z2.2.2.2 v4 ((((((75 : Int32) * z2.1) + (74 : Int32)) - (((75 : Int32) * z2.1) + (74 : Int32)) / (65537 : Int32) * (65537 : Int32)) / (8 : Int32)) - (((((75 : Int32) * z2.1) + (74 : Int32)) - (((75 : Int32) * z2.1) + (74 : Int32)) / (65537 : Int32) * (65537 : Int32)) / (8 : Int32)) / (12 : Int32) * (12 : Int32)) x5 r9 e9) [0, 1, 2, 3, 4, 5, 6, 7, 8, 9, 10, 11] [12, 13, 14, 15, 16, 17, 18, 19, 20, 21, 22] [11, 12, 13, 14, 15, 16, 17, 18, 19, 20, 21, 22, 0, 1, 2, 3, 4, 5, 6, 7, 8, 9, 10] rfl rfl rfl rfl (by decide) rfl rfl 0 1 rfl rfl rfl (cwV 3 hts gX1_draws_X1_attempt rfl rfl rfl (by decide +kernel) ⟨Nat.le_of_ble_eq_true rfl, Nat.le_of_ble_eq_true rfl⟩) rfl hl.1 (lv_room (Nat.le_of_ble_eq_true rfl)) dX1_draws_97 (fun H locs hw => ?_)
          refine lv_pop hx hb dX1_draws_100 rfl ?_
          refine lv_iinc (v := (z2.2.1 + (1 : Int32))) (lv' := [(5, .int (z2.2.1 + (1 : Int32))), (8, .int x5), (0, .ref (h 0)), (3, .int a1), (4, .int ((((75 : Int32) * z2.1) + (74 : Int32)) - (((75 : Int32) * z2.1) + (74 : Int32)) / (65537 : Int32) * (65537 : Int32))), (6, .int v4), (7, .int ((((((75 : Int32) * z2.1) + (74 : Int32)) - (((75 : Int32) * z2.1) + (74 : Int32)) / (65537 : Int32) * (65537 : Int32)) / (8 : Int32)) - (((((75 : Int32) * z2.1) + (74 : Int32)) - (((75 : Int32) * z2.1) + (74 : Int32)) / (65537 : Int32) * (65537 : Int32)) / (8 : Int32)) / (12 : Int32) * (12 : Int32)))]) hx hb dX1_draws_101 hl (k := 4) rfl rfl (by decide) rfl (fun ls hl => ?_)
          refine lv_goto (tgt := 11) hx hb dX1_draws_104 (by decide) ?_
          have z : some (Sum.inr (((((75 : Int32) * z2.1) + (74 : Int32)) - (((75 : Int32) * z2.1) + (74 : Int32)) / (65537 : Int32) * (65537 : Int32)), (z2.2.1 + (1 : Int32)), r9.2.1, r9.2.2)) = some o2 := hb2
          cases z
          exact hk2 _ _ _ (lv_sub hl [2, 3, 4, 0] rfl) hw
    refine lv_icmp_ne (tgt := 65) hx hb dX1_draws_55 (by decide) (fun c5 => ?_) (fun c5 => ?_)
    · have e5 := cd_ite_f c5 e5
      refine lv_iload hx hb dX1_draws_65 (lv_at hl 2 rfl) ?_
      refine lv_bipush (v := (96 : Int32)) hx hb dX1_draws_67 (by decide) ?_
      refine lv_idiv hx hb dX1_draws_69 (by decide) ?_
      refine lv_bipush (v := (10 : Int32)) hx hb dX1_draws_70 (by decide) ?_
      refine lv_irem hx hb dX1_draws_72 (by decide) ?_
      have z : some ((((((75 : Int32) * z2.1) + (74 : Int32)) - (((75 : Int32) * z2.1) + (74 : Int32)) / (65537 : Int32) * (65537 : Int32)) / (96 : Int32)) - (((((75 : Int32) * z2.1) + (74 : Int32)) - (((75 : Int32) * z2.1) + (74 : Int32)) / (65537 : Int32) * (65537 : Int32)) / (96 : Int32)) / (10 : Int32) * (10 : Int32)) = some x5 := e5
      cases z
      exact K5 _ _ _ (lv_sub hl [3, 4, 2, 5, 1, 0] rfl) hw
    · have e5 := cd_ite_t c5 e5
      refine lv_iload hx hb dX1_draws_58 (lv_at hl 0 rfl) ?_
      refine lv_iconst (v := (1 : Int32)) hx hb dX1_draws_60 (by decide) ?_
      refine lv_iadd hx hb dX1_draws_61 ?_
      refine lv_goto (tgt := 73) hx hb dX1_draws_62 (by decide) ?_
      have z : some (((((((75 : Int32) * z2.1) + (74 : Int32)) - (((75 : Int32) * z2.1) + (74 : Int32)) / (65537 : Int32) * (65537 : Int32)) / (8 : Int32)) - (((((75 : Int32) * z2.1) + (74 : Int32)) - (((75 : Int32) * z2.1) + (74 : Int32)) / (65537 : Int32) * (65537 : Int32)) / (8 : Int32)) / (12 : Int32) * (12 : Int32)) + (1 : Int32)) = some x5 := e5
      cases z
      exact K5 _ _ _ (lv_sub hl [3, 4, 2, 5, 1, 0] rfl) hw
abbrev rm_X1_night : Room := { frames := 4, cells := 0, slots := 0, locals := 90 }
theorem nw_X1_night_X0 : ∀ w ∈ u_ws RX0 TX0 6, w ∈ wsX1_night := by decide +kernel
set_option maxHeartbeats 4000000 in
set_option maxRecDepth 100000 in
theorem c_X1_night (l : Launch) (G : va_G) (cI cZ : ClassId) (sa sb : Nat) (h hs ht hp : Nat → Nat) (Y S T P : Nat → Nat → Int32) (o : Int32 × (Nat → Nat → Int32) × (Nat → Nat → Int32) × (Nat → Nat → Int32)) (hf : f_X1_night Y S T P = some o) : cd_Ct l G cI cZ sa sb yX1_night wsX1_night rm_X1_night [.ref (h 0), .ref (ht 0), .ref (hp 0)] ((pc_play h hs Y) ++ (pc_town cI hs S) ++ (pc_town cI ht T) ++ (pc_pad cI hp P)) ((pc_play h hs o.2.1) ++ (pc_town cI hs o.2.2.1) ++ (pc_town cI ht T) ++ (pc_pad cI hp o.2.2.2)) (some (.int o.1)) := by
  refine cd_of (cc := cX1_night) (maxL := 5) (ret := (some .boolean)) (by decide) rfl (Nat.le_of_ble_eq_true rfl) ?_
  intro p e s m ag below meth c A ls Q C0 hl hw hQ
  have C0 : cd_CX G cI cZ sa sb p s m ag meth c cX1_night 5 (some .boolean) wsX1_night RX1 A := C0
  obtain ⟨⟨hx, hb, hml, hown, hts⟩, hr, hlocks, hA, hE⟩ := id C0
  have hK := hE.1
  have hL0 := hts (.fieldLink RX1 41 "CandleDebts$Pad" "count" "I") (by decide +kernel)
  have hL1 := hts (.fieldLink RX1 50 "CandleDebts$Pad" "kind" "I") (by decide +kernel)
  have hL2 := hts (.fieldLink RX1 53 "CandleDebts$Pad" "first" "I") (by decide +kernel)
  have hL3 := hts (.fieldLink RX1 56 "CandleDebts$Pad" "second" "I") (by decide +kernel)
  have hL4 := hts (.fieldLink RX1 63 "CandleDebts$Pad" "next" "I") (by decide +kernel)
  have hl : lv_has ls 5 [(0, .ref (h 0)), (1, .ref (ht 0)), (2, .ref (hp 0))] := hl
  unfold f_X1_night at hf
  refine lv_aload_n hx hb dX1_night_0 rfl (lv_at hl 0 rfl) ?_
  refine lv_aload_n hx hb dX1_night_1 rfl (lv_at hl 1 rfl) ?_
  obtain ⟨r1, e1, hf⟩ := cd_bind_some hf
  refine cd_callVw (As := [.ref (ht 0)]) (rest := []) (wr := (pc_pad cI hp P)) (wn := (pc_play h hs r1.1) ++ (pc_town cI hs r1.2) ++ (pc_town cI ht T) ++ (pc_pad cI hp P)) C0 hw (c_X1_begin l G cI cZ sa sb h hs ht Y S T r1 e1) [0, 1, 2, 3, 4, 5, 6, 7, 8, 9, 10, 11, 12, 13, 14, 15, 16, 17, 18, 19, 20, 21, 22] [23, 24] [2, 3, 4, 5, 6, 7, 8, 9, 10, 11, 12, 13, 14, 15, 16, 17, 18, 19, 20, 21, 22, 23, 24, 0, 1] rfl rfl rfl rfl (by decide) rfl rfl 0 1 rfl rfl rfl (cwV 1 hts gX1_night_X1_begin rfl rfl rfl (by decide +kernel) ⟨Nat.le_of_ble_eq_true rfl, Nat.le_of_ble_eq_true rfl⟩) rfl hl.1 (lv_room (Nat.le_of_ble_eq_true rfl)) dX1_night_2 (fun H locs hw => ?_)
  refine lv_iconst (v := (0 : Int32)) hx hb dX1_night_5 (by decide) ?_
  refine lv_istore_n (lv' := [(3, .int (0 : Int32)), (0, .ref (h 0)), (1, .ref (ht 0)), (2, .ref (hp 0))]) hx hb dX1_night_6 rfl hl (by decide) rfl (fun ls hl => ?_)
  refine lv_iconst (v := (0 : Int32)) hx hb dX1_night_7 (by decide) ?_
  refine lv_istore (lv' := [(4, .int (0 : Int32)), (3, .int (0 : Int32)), (0, .ref (h 0)), (1, .ref (ht 0)), (2, .ref (hp 0))]) hx hb dX1_night_8 hl (by decide) rfl (fun ls hl => ?_)
  obtain ⟨x2, e2, hf⟩ := cd_bind_some hf
  have K2 : ∀ (t2 : (Nat → Nat → Int32) × (Nat → Nat → Int32) × (Nat → Nat → Int32)), Sum.inr t2 = x2 → ∀ (ls : Array Slot) (H : Heap) (locs : List Loc), lv_has ls 5 [] → cd_WS G A s.heap H locs ((pc_play h hs t2.1) ++ (pc_town cI hs t2.2.1) ++ (pc_town cI ht T) ++ (pc_pad cI hp t2.2.2)) → W p l e rm_X1_night s m ag below meth c H locs 0 0 Q (F0 m 67 ls []) := by
    intro t2 hs_2
    subst hs_2
    intro ls H locs hl hw
    refine lv_iconst (v := (1 : Int32)) hx hb dX1_night_67 (by decide) ?_
    have z : some ((1 : Int32), t2.1, t2.2.1, t2.2.2) = some o := hf
    cases z
    rw [hQ]
    exact cd_retz C0 hw (Or.inr rfl) dX1_night_68
  refine cd_iter_ind (body := f_X1_night_b10) (K := fun r => r = x2) (P := fun (z2 : Int32 × Int32 × (Nat → Nat → Int32) × (Nat → Nat → Int32) × (Nat → Nat → Int32)) => ∀ (ls : Array Slot) (H : Heap) (locs : List Loc), lv_has ls 5 [(0, .ref (h 0)), (2, .ref (hp 0)), (3, .int z2.1), (4, .int z2.2.1)] → cd_WS G A s.heap H locs ((pc_play h hs z2.2.2.1) ++ (pc_town cI hs z2.2.2.2.1) ++ (pc_town cI ht T) ++ (pc_pad cI hp z2.2.2.2.2)) → W p l e rm_X1_night s m ag below meth c H locs 0 0 Q (F0 m 10 ls [])) ?_ cd_N ((0 : Int32), (0 : Int32), r1.1, r1.2, P) x2 e2 rfl _ _ _ (lv_sub hl [2, 4, 1, 0] rfl) hw
  intro z2 o2 hb2 hk2 ls H locs hl hw
  unfold f_X1_night_b10 at hb2
  refine lv_iload hx hb dX1_night_10 (lv_at hl 3 rfl) ?_
  refine lv_bipush (v := (60 : Int32)) hx hb dX1_night_12 (by decide) ?_
  refine lv_icmp_ge (tgt := 67) hx hb dX1_night_14 (by decide) (fun c3 => ?_) (fun c3 => ?_)
  · have hb2 := cd_ite_t c3 hb2
    have z : some (Sum.inl (Sum.inr (z2.2.2.1, z2.2.2.2.1, z2.2.2.2.2))) = some o2 := hb2
    cases z
    exact K2 _ hk2 _ _ _ (lv_sub hl [] rfl) hw
  · have hb2 := cd_ite_f c3 hb2
    refine lv_iload_n hx hb dX1_night_17 rfl (lv_at hl 2 rfl) ?_
    refine lv_aload_n hx hb dX1_night_18 rfl (lv_at hl 1 rfl) ?_
    refine va_get (D := G) (ci := 0) (v := .int (z2.2.2.2.2 1 0)) (C := RX0) (T := TX0) (N := 6) hx hb hts nw_X1_night_X0 hown hK hw.1 23 rfl rfl 1 (by decide) hL0 (fun _ h9 => h9) rfl dX1_night_19 ?_
    refine lv_icmp_ge (tgt := 67) hx hb dX1_night_22 (by decide) (fun c4 => ?_) (fun c4 => ?_)
    · have hb2 := cd_ite_t c4 hb2
      have z : some (Sum.inl (Sum.inr (z2.2.2.1, z2.2.2.2.1, z2.2.2.2.2))) = some o2 := hb2
      cases z
      exact K2 _ hk2 _ _ _ (lv_sub hl [] rfl) hw
    · have hb2 := cd_ite_f c4 hb2
      refine lv_aload_n hx hb dX1_night_25 rfl (lv_at hl 1 rfl) ?_
      refine lv_iload_n hx hb dX1_night_26 rfl (lv_at hl 2 rfl) ?_
      obtain ⟨r5, e5, hb2⟩ := cd_bind_some hb2
      refine cd_callVw (As := [.int z2.1]) (rest := []) (wr := (pc_play h hs z2.2.2.1) ++ (pc_town cI hs z2.2.2.2.1) ++ (pc_town cI ht T)) (wn := (pc_play h hs z2.2.2.1) ++ (pc_town cI hs z2.2.2.2.1) ++ (pc_town cI ht T) ++ (pc_pad cI hp r5.2)) C0 hw (c_X0_readAct l G cI cZ sa sb hp z2.2.2.2.2 z2.1 r5 e5) [23, 24] [0, 1, 2, 3, 4, 5, 6, 7, 8, 9, 10, 11, 12, 13, 14, 15, 16, 17, 18, 19, 20, 21, 22] [0, 1, 2, 3, 4, 5, 6, 7, 8, 9, 10, 11, 12, 13, 14, 15, 16, 17, 18, 19, 20, 21, 22, 23, 24] rfl rfl rfl rfl (by decide) rfl rfl 0 0 rfl rfl rfl (cwV 1 hts gX1_night_X0_readAct rfl rfl rfl (by decide +kernel) ⟨Nat.le_of_ble_eq_true rfl, Nat.le_of_ble_eq_true rfl⟩) rfl hl.1 (lv_room (Nat.le_of_ble_eq_true rfl)) dX1_night_27 (fun H locs hw => ?_)
      refine lv_bipush (v := (-6 : Int32)) hx hb dX1_night_30 (by decide) ?_
      refine lv_icmp_ne (tgt := 54) hx hb dX1_night_32 (by decide) (fun c6 => ?_) (fun c6 => ?_)
      · have hb2 := cd_ite_f c6 hb2
        refine lv_iconst (v := (0 : Int32)) hx hb dX1_night_54 (by decide) ?_
        have z : some (Sum.inl (Sum.inl ((0 : Int32), z2.2.2.1, z2.2.2.2.1, r5.2))) = some o2 := hb2
        cases z
        have y2 : Sum.inl ((0 : Int32), z2.2.2.1, z2.2.2.2.1, r5.2) = x2 := hk2
        subst y2
        have z : some ((0 : Int32), z2.2.2.1, z2.2.2.2.1, r5.2) = some o := hf
        cases z
        rw [hQ]
        exact cd_retz C0 hw (Or.inl rfl) dX1_night_55
      · have hb2 := cd_ite_t c6 hb2
        refine lv_aload_n hx hb dX1_night_35 rfl (lv_at hl 0 rfl) ?_
        refine lv_aload_n hx hb dX1_night_36 rfl (lv_at hl 1 rfl) ?_
        refine va_get (D := G) (ci := 0) (v := .int (r5.2 2 0)) (C := RX0) (T := TX0) (N := 6) hx hb hts nw_X1_night_X0 hown hK hw.1 23 rfl rfl 2 (by decide) hL1 (fun _ h9 => h9) rfl dX1_night_37 ?_
        refine lv_aload_n hx hb dX1_night_40 rfl (lv_at hl 1 rfl) ?_
        refine va_get (D := G) (ci := 0) (v := .int (r5.2 3 0)) (C := RX0) (T := TX0) (N := 6) hx hb hts nw_X1_night_X0 hown hK hw.1 23 rfl rfl 3 (by decide) hL2 (fun _ h9 => h9) rfl dX1_night_41 ?_
        refine lv_aload_n hx hb dX1_night_44 rfl (lv_at hl 1 rfl) ?_
        refine va_get (D := G) (ci := 0) (v := .int (r5.2 4 0)) (C := RX0) (T := TX0) (N := 6) hx hb hts nw_X1_night_X0 hown hK hw.1 23 rfl rfl 4 (by decide) hL3 (fun _ h9 => h9) rfl dX1_night_45 ?_
        obtain ⟨r7, e7, hb2⟩ := cd_bind_some hb2
        refine cd_callVw (As := [.int (r5.2 2 0), .int (r5.2 3 0), .int (r5.2 4 0)]) (rest := []) (wr := (pc_town cI ht T) ++ (pc_pad cI hp r5.2)) (wn := (pc_play h hs r7.2.1) ++ (pc_town cI hs r7.2.2) ++ (pc_town cI ht T) ++ (pc_pad cI hp r5.2)) C0 hw (c_X1_attempt l G cI cZ sa sb h hs z2.2.2.1 z2.2.2.2.1 (r5.2 2 0) (r5.2 3 0) (r5.2 4 0) r7 e7) [0, 1, 2, 3, 4, 5, 6, 7, 8, 9, 10, 11] [12, 13, 14, 15, 16, 17, 18, 19, 20, 21, 22, 23, 24] [13, 14, 15, 16, 17, 18, 19, 20, 21, 22, 23, 24, 0, 1, 2, 3, 4, 5, 6, 7, 8, 9, 10, 11, 12] rfl rfl rfl rfl (by decide) rfl rfl 0 1 rfl rfl rfl (cwV 3 hts gX1_night_X1_attempt rfl rfl rfl (by decide +kernel) ⟨Nat.le_of_ble_eq_true rfl, Nat.le_of_ble_eq_true rfl⟩) rfl hl.1 (lv_room (Nat.le_of_ble_eq_true rfl)) dX1_night_48 (fun H locs hw => ?_)
        refine lv_if_ne (tgt := 56) hx hb dX1_night_51 (by decide) (fun c8 => ?_) (fun c8 => ?_)
        · have hb2 := cd_ite_f c8 hb2
          refine lv_aload_n hx hb dX1_night_56 rfl (lv_at hl 1 rfl) ?_
          refine va_get (D := G) (ci := 0) (v := .int (r5.2 5 0)) (C := RX0) (T := TX0) (N := 6) hx hb hts nw_X1_night_X0 hown hK hw.1 23 rfl rfl 5 (by decide) hL4 (fun _ h9 => h9) rfl dX1_night_57 ?_
          refine lv_istore_n (lv' := [(3, .int (r5.2 5 0)), (0, .ref (h 0)), (2, .ref (hp 0)), (4, .int z2.2.1)]) hx hb dX1_night_60 rfl hl (by decide) rfl (fun ls hl => ?_)
          refine lv_iinc (v := (z2.2.1 + (1 : Int32))) (lv' := [(4, .int (z2.2.1 + (1 : Int32))), (3, .int (r5.2 5 0)), (0, .ref (h 0)), (2, .ref (hp 0))]) hx hb dX1_night_61 hl (k := 3) rfl rfl (by decide) rfl (fun ls hl => ?_)
          refine lv_goto (tgt := 10) hx hb dX1_night_64 (by decide) ?_
          have z : some (Sum.inr ((r5.2 5 0), (z2.2.1 + (1 : Int32)), r7.2.1, r7.2.2, r5.2)) = some o2 := hb2
          cases z
          exact hk2 _ _ _ (lv_sub hl [2, 3, 1, 0] rfl) hw
        · have hb2 := cd_ite_t c8 hb2
          refine lv_iconst (v := (0 : Int32)) hx hb dX1_night_54 (by decide) ?_
          have z : some (Sum.inl (Sum.inl ((0 : Int32), r7.2.1, r7.2.2, r5.2))) = some o2 := hb2
          cases z
          have y2 : Sum.inl ((0 : Int32), r7.2.1, r7.2.2, r5.2) = x2 := hk2
          subst y2
          have z : some ((0 : Int32), r7.2.1, r7.2.2, r5.2) = some o := hf
          cases z
          rw [hQ]
          exact cd_retz C0 hw (Or.inl rfl) dX1_night_55
