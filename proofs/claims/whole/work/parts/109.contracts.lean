abbrev rm_X6_isAsked : Room := { frames := 1, cells := 0, slots := 0, locals := 21 }
theorem nw_X6_isAsked_X6 : ∀ w ∈ u_ws RX6 TX6 22, w ∈ wsX6_isAsked := by decide +kernel
set_option maxHeartbeats 4000000 in
set_option maxRecDepth 100000 in
theorem c_X6_isAsked (l : Launch) (G : va_G) (cI cZ : ClassId) (sa sb : Nat) (h : Nat → Nat) (M : Nat → Nat → Int32) (a0 : Int32) (o : Int32) (hf : f_X6_isAsked a0 M = some o) : cd_Ct l G cI cZ sa sb yX6_isAsked wsX6_isAsked rm_X6_isAsked [.ref (h 0), .int a0] ((pc_mod cI cZ h M)) ((pc_mod cI cZ h M)) (some (.int o)) := by
  refine cd_of (cc := cX6_isAsked) (maxL := 2) (ret := (some .boolean)) (by decide) rfl (Nat.le_of_ble_eq_true rfl) ?_
  intro p e s m ag below meth c A ls Q C0 hl hw hQ
  have C0 : cd_CX G cI cZ sa sb p s m ag meth c cX6_isAsked 2 (some .boolean) wsX6_isAsked RX6 A := C0
  obtain ⟨⟨hx, hb, hml, hown, hts⟩, hr, hlocks, hA, hE⟩ := id C0
  have hK := hE.1
  have hL0 := hts (.fieldLink RX6 7 "CandleDebtsModel" "book" "[I") (by decide +kernel)
  have hl : lv_has ls 2 [(0, .ref (h 0)), (1, .int a0)] := hl
  unfold f_X6_isAsked at hf
  refine lv_aload_n hx hb dX6_isAsked_0 rfl (lv_at hl 0 rfl) ?_
  refine va_get (D := G) (ci := 6) (v := .ref (h 1)) (C := RX6) (T := TX6) (N := 22) hx hb hts nw_X6_isAsked_X6 hown hK hw.1 0 rfl rfl 0 (by decide) hL0 (fun _ h9 => h9) rfl dX6_isAsked_1 ?_
  refine lv_bipush (v := (66 : Int32)) hx hb dX6_isAsked_4 (by decide) ?_
  obtain ⟨v1, e1, hf⟩ := cd_bind_some hf
  refine cd_iald hx hb hK hw 1 rfl e1 dX6_isAsked_6 ?_
  refine lv_iload_n hx hb dX6_isAsked_7 rfl (lv_at hl 1 rfl) ?_
  obtain ⟨r2, e2, hf⟩ := cd_bind_some hf
  refine cd_callS (As := [.int v1, .int a0]) (rest := []) C0 hw (c_X6_isIn l G cI cZ sa sb v1 a0 r2 e2) [] rfl rfl (va_cwS 2 hts gX6_isAsked_X6_isIn rfl rfl rfl (by decide +kernel) ⟨Nat.le_of_ble_eq_true rfl, Nat.le_of_ble_eq_true rfl⟩) rfl hl.1 (lv_room (Nat.le_of_ble_eq_true rfl)) dX6_isAsked_8 (fun H locs hw => ?_)
  obtain ⟨x3, e3, hf⟩ := cd_bind_some hf
  have K3 : ∀ (ls : Array Slot) (H : Heap) (locs : List Loc), lv_has ls 2 [] → cd_WS G A s.heap H locs ((pc_mod cI cZ h M)) → W p l e rm_X6_isAsked s m ag below meth c H locs 0 0 Q (F0 m 31 ls [.int x3]) := by
    intro ls H locs hl hw
    obtain ⟨u4, e4, hf⟩ := cd_bind_some hf
    have z : some x3 = some o := hf
    cases z
    rw [hQ]
    exact cd_retz C0 hw (cd_zb_eq e4) dX6_isAsked_31
  refine lv_if_eq (tgt := 30) hx hb dX6_isAsked_11 (by decide) (fun c3 => ?_) (fun c3 => ?_)
  · have e3 := cd_ite_t c3 e3
    refine lv_iconst (v := (0 : Int32)) hx hb dX6_isAsked_30 (by decide) ?_
    have z : some (0 : Int32) = some x3 := e3
    cases z
    exact K3 _ _ _ (lv_sub hl [] rfl) hw
  · have e3 := cd_ite_f c3 e3
    refine lv_aload_n hx hb dX6_isAsked_14 rfl (lv_at hl 0 rfl) ?_
    refine va_get (D := G) (ci := 6) (v := .ref (h 1)) (C := RX6) (T := TX6) (N := 22) hx hb hts nw_X6_isAsked_X6 hown hK hw.1 0 rfl rfl 0 (by decide) hL0 (fun _ h9 => h9) rfl dX6_isAsked_15 ?_
    refine lv_bipush (v := (12 : Int32)) hx hb dX6_isAsked_18 (by decide) ?_
    refine lv_iload_n hx hb dX6_isAsked_20 rfl (lv_at hl 1 rfl) ?_
    refine lv_iadd hx hb dX6_isAsked_21 ?_
    obtain ⟨v5, e5, e3⟩ := cd_bind_some e3
    refine cd_iald hx hb hK hw 1 rfl e5 dX6_isAsked_22 ?_
    refine lv_if_le (tgt := 30) hx hb dX6_isAsked_23 (by decide) (fun c6 => ?_) (fun c6 => ?_)
    · have e3 := cd_ite_t c6 e3
      refine lv_iconst (v := (0 : Int32)) hx hb dX6_isAsked_30 (by decide) ?_
      have z : some (0 : Int32) = some x3 := e3
      cases z
      exact K3 _ _ _ (lv_sub hl [] rfl) hw
    · have e3 := cd_ite_f c6 e3
      refine lv_iconst (v := (1 : Int32)) hx hb dX6_isAsked_26 (by decide) ?_
      refine lv_goto (tgt := 31) hx hb dX6_isAsked_27 (by decide) ?_
      have z : some (1 : Int32) = some x3 := e3
      cases z
      exact K3 _ _ _ (lv_sub hl [] rfl) hw
abbrev rm_X6_comes : Room := { frames := 2, cells := 0, slots := 0, locals := 44 }
set_option maxHeartbeats 4000000 in
set_option maxRecDepth 100000 in
theorem c_X6_comes (l : Launch) (G : va_G) (cI cZ : ClassId) (sa sb : Nat) (h : Nat → Nat) (M : Nat → Nat → Int32) (a0 : Int32) (a1 : Int32) (o : Int32 × (Nat → Nat → Int32)) (hf : f_X6_comes a0 a1 M = some o) : cd_Ct l G cI cZ sa sb yX6_comes wsX6_comes rm_X6_comes [.ref (h 0), .int a0, .int a1] ((pc_mod cI cZ h M)) ((pc_mod cI cZ h o.2)) (some (.int o.1)) := by
  refine cd_of (cc := cX6_comes) (maxL := 3) (ret := (some .int)) (by decide) rfl (Nat.le_of_ble_eq_true rfl) ?_
  intro p e s m ag below meth c A ls Q C0 hl hw hQ
  have C0 : cd_CX G cI cZ sa sb p s m ag meth c cX6_comes 3 (some .int) wsX6_comes RX6 A := C0
  obtain ⟨⟨hx, hb, hml, hown, hts⟩, hr, hlocks, hA, hE⟩ := id C0
  have hK := hE.1
  have hL0 := hts (.constant RX6 150 (1000000)) (by decide +kernel)
  have hl : lv_has ls 3 [(0, .ref (h 0)), (1, .int a0), (2, .int a1)] := hl
  unfold f_X6_comes at hf
  refine lv_aload_n hx hb dX6_comes_0 rfl (lv_at hl 0 rfl) ?_
  refine lv_iload_n hx hb dX6_comes_1 rfl (lv_at hl 1 rfl) ?_
  obtain ⟨r1, e1, hf⟩ := cd_bind_some hf
  refine cd_callV (As := [.int a0]) (rest := []) C0 hw (c_X6_isAsked l G cI cZ sa sb h M a0 r1 e1) [0, 1, 2, 3, 4, 5, 6, 7, 8, 9, 10, 11, 12, 13, 14] rfl rfl 0 6 rfl rfl rfl (cwV 1 hts gX6_comes_X6_isAsked rfl rfl rfl (by decide +kernel) ⟨Nat.le_of_ble_eq_true rfl, Nat.le_of_ble_eq_true rfl⟩) rfl hl.1 (lv_room (Nat.le_of_ble_eq_true rfl)) dX6_comes_2 (fun H locs hw => ?_)
  obtain ⟨x2, e2, hf⟩ := cd_bind_some hf
  have K2 : ∀ (ls : Array Slot) (H : Heap) (locs : List Loc), lv_has ls 3 [] → cd_WS G A s.heap H locs ((pc_mod cI cZ h x2.2)) → W p l e rm_X6_comes s m ag below meth c H locs 0 0 Q (F0 m 23 ls [.int x2.1]) := by
    intro ls H locs hl hw
    have z : some (x2.1, x2.2) = some o := hf
    cases z
    rw [hQ]
    exact cd_reti C0 hw dX6_comes_23
  refine lv_if_eq (tgt := 22) hx hb dX6_comes_5 (by decide) (fun c2 => ?_) (fun c2 => ?_)
  · have e2 := cd_ite_t c2 e2
    refine lv_iload_n hx hb dX6_comes_22 rfl (lv_at hl 2 rfl) ?_
    have z : some (a1, M) = some x2 := e2
    cases z
    exact K2 _ _ _ (lv_sub hl [] rfl) hw
  · have e2 := cd_ite_f c2 e2
    refine lv_iload_n hx hb dX6_comes_8 rfl (lv_at hl 2 rfl) ?_
    refine lv_aload_n hx hb dX6_comes_9 rfl (lv_at hl 0 rfl) ?_
    refine lv_iload_n hx hb dX6_comes_10 rfl (lv_at hl 1 rfl) ?_
    obtain ⟨r3, e3, e2⟩ := cd_bind_some e2
    refine cd_callVw (As := [.int a0]) (rest := [.int a1]) (wr := ([] : va_W)) (wn := (pc_mod cI cZ h r3.2)) C0 hw (c_X6_lastsOf l G cI cZ sa sb h M a0 r3 e3) [0, 1, 2, 3, 4, 5, 6, 7, 8, 9, 10, 11, 12, 13, 14] [] [0, 1, 2, 3, 4, 5, 6, 7, 8, 9, 10, 11, 12, 13, 14] rfl rfl rfl rfl (by decide) rfl rfl 0 6 rfl rfl rfl (cwV 1 hts gX6_comes_X6_lastsOf rfl rfl rfl (by decide +kernel) ⟨Nat.le_of_ble_eq_true rfl, Nat.le_of_ble_eq_true rfl⟩) rfl hl.1 (lv_room (Nat.le_of_ble_eq_true rfl)) dX6_comes_11 (fun H locs hw => ?_)
    refine lv_icmp_lt (tgt := 22) hx hb dX6_comes_14 (by decide) (fun c4 => ?_) (fun c4 => ?_)
    · have e2 := cd_ite_t c4 e2
      refine lv_iload_n hx hb dX6_comes_22 rfl (lv_at hl 2 rfl) ?_
      have z : some (a1, r3.2) = some x2 := e2
      cases z
      exact K2 _ _ _ (lv_sub hl [] rfl) hw
    · have e2 := cd_ite_f c4 e2
      refine lv_ldc (v := (1000000 : Int32)) hx hb hown hL0 dX6_comes_17 ?_
      refine lv_goto (tgt := 23) hx hb dX6_comes_19 (by decide) ?_
      have z : some ((1000000 : Int32), r3.2) = some x2 := e2
      cases z
      exact K2 _ _ _ (lv_sub hl [] rfl) hw
abbrev rm_X6_done : Room := { frames := 6, cells := 0, slots := 0, locals := 132 }
theorem nw_X6_done_X6 : ∀ w ∈ u_ws RX6 TX6 22, w ∈ wsX6_done := by decide +kernel
set_option maxHeartbeats 4000000 in
set_option maxRecDepth 100000 in
theorem c_X6_done (l : Launch) (G : va_G) (cI cZ : ClassId) (sa sb : Nat) (h : Nat → Nat) (M : Nat → Nat → Int32) (o : Int32 × (Nat → Nat → Int32)) (hf : f_X6_done M = some o) : cd_Ct l G cI cZ sa sb yX6_done wsX6_done rm_X6_done [.ref (h 0)] ((pc_mod cI cZ h M)) ((pc_mod cI cZ h o.2)) (some (.int o.1)) := by
  refine cd_of (cc := cX6_done) (maxL := 2) (ret := (some .int)) (by decide) rfl (Nat.le_of_ble_eq_true rfl) ?_
  intro p e s m ag below meth c A ls Q C0 hl hw hQ
  have C0 : cd_CX G cI cZ sa sb p s m ag meth c cX6_done 2 (some .int) wsX6_done RX6 A := C0
  obtain ⟨⟨hx, hb, hml, hown, hts⟩, hr, hlocks, hA, hE⟩ := id C0
  have hK := hE.1
  have hL0 := hts (.fieldLink RX6 7 "CandleDebtsModel" "book" "[I") (by decide +kernel)
  have hL1 := hts (.fieldLink RX6 13 "CandleDebtsModel" "now" "[I") (by decide +kernel)
  have hL2 := hts (.fieldLink RX6 71 "CandleDebtsModel" "signs" "I") (by decide +kernel)
  have hL3 := hts (.fieldLink RX6 121 "CandleDebtsModel" "acts" "I") (by decide +kernel)
  have hl : lv_has ls 2 [(0, .ref (h 0))] := hl
  unfold f_X6_done at hf
  refine lv_aload_n hx hb dX6_done_0 rfl (lv_at hl 0 rfl) ?_
  obtain ⟨r1, e1, hf⟩ := cd_bind_some hf
  refine cd_callVw (As := []) (rest := []) (wr := ([] : va_W)) (wn := (pc_mod cI cZ h r1.2)) C0 hw (c_X6_barOfNights l G cI cZ sa sb h M r1 e1) [0, 1, 2, 3, 4, 5, 6, 7, 8, 9, 10, 11, 12, 13, 14] [] [0, 1, 2, 3, 4, 5, 6, 7, 8, 9, 10, 11, 12, 13, 14] rfl rfl rfl rfl (by decide) rfl rfl 0 6 rfl rfl rfl (cwV 0 hts gX6_done_X6_barOfNights rfl rfl rfl (by decide +kernel) ⟨Nat.le_of_ble_eq_true rfl, Nat.le_of_ble_eq_true rfl⟩) rfl hl.1 (lv_room (Nat.le_of_ble_eq_true rfl)) dX6_done_1 (fun H locs hw => ?_)
  refine lv_if_ge (tgt := 10) hx hb dX6_done_4 (by decide) (fun c2 => ?_) (fun c2 => ?_)
  · have hf := cd_ite_t c2 hf
    refine lv_iconst (v := (0 : Int32)) hx hb dX6_done_10 (by decide) ?_
    refine lv_istore_n (lv' := [(1, .int (0 : Int32)), (0, .ref (h 0))]) hx hb dX6_done_11 rfl hl (by decide) rfl (fun ls hl => ?_)
    obtain ⟨x3, e3, hf⟩ := cd_bind_some hf
    have K3 : ∀ (t3 : (Nat → Nat → Int32)), t3 = x3 → ∀ (ls : Array Slot) (H : Heap) (locs : List Loc), lv_has ls 2 [(0, .ref (h 0))] → cd_WS G A s.heap H locs ((pc_mod cI cZ h t3)) → W p l e rm_X6_done s m ag below meth c H locs 0 0 Q (F0 m 36 ls []) := by
      intro t3 hs_3
      subst hs_3
      intro ls H locs hl hw
      refine lv_aload_n hx hb dX6_done_36 rfl (lv_at hl 0 rfl) ?_
      refine lv_iconst (v := (0 : Int32)) hx hb dX6_done_37 (by decide) ?_
      refine va_put (D := G) (ci := 6) (v := .int (0 : Int32)) (ty := .int) (C := RX6) (T := TX6) (N := 22) hx hb hts nw_X6_done_X6 tyX6 tyX6_ok nmX6 hown hK hw.1 hw.2.1 hw.2.2 0 rfl rfl 6 (by decide) hL2 (fun _ h9 => h9) rfl (by decide +kernel) rfl rfl (Nat.le_of_ble_eq_true rfl) dX6_done_38 (fun H locs hP hD hS => ?_)
      have hw : cd_WS G A s.heap H locs ((pc_mod cI cZ h (cd_fld t3 6 (0 : Int32)))) := ⟨hP, hD, hS⟩
      refine lv_aload_n hx hb dX6_done_41 rfl (lv_at hl 0 rfl) ?_
      refine va_get (D := G) (ci := 6) (v := .int (t3 13 0)) (C := RX6) (T := TX6) (N := 22) hx hb hts nw_X6_done_X6 hown hK hw.1 0 rfl rfl 13 (by decide) hL3 (fun _ h9 => h9) rfl dX6_done_42 ?_
      have z : some ((t3 13 0), (cd_fld t3 6 (0 : Int32))) = some o := hf
      cases z
      rw [hQ]
      exact cd_reti C0 hw dX6_done_45
    refine cd_iter_ind (body := f_X6_done_b12) (K := fun r => r = x3) (P := fun (z3 : Int32 × (Nat → Nat → Int32)) => ∀ (ls : Array Slot) (H : Heap) (locs : List Loc), lv_has ls 2 [(0, .ref (h 0)), (1, .int z3.1)] → cd_WS G A s.heap H locs ((pc_mod cI cZ h z3.2)) → W p l e rm_X6_done s m ag below meth c H locs 0 0 Q (F0 m 12 ls [])) ?_ cd_N ((0 : Int32), r1.2) x3 e3 rfl _ _ _ (lv_sub hl [1, 0] rfl) hw
    intro z3 o3 hb3 hk3 ls H locs hl hw
    unfold f_X6_done_b12 at hb3
    refine lv_iload_n hx hb dX6_done_12 rfl (lv_at hl 1 rfl) ?_
    refine lv_bipush (v := (69 : Int32)) hx hb dX6_done_13 (by decide) ?_
    refine lv_icmp_ge (tgt := 36) hx hb dX6_done_15 (by decide) (fun c4 => ?_) (fun c4 => ?_)
    · have hb3 := cd_ite_t c4 hb3
      have z : some (Sum.inl z3.2) = some o3 := hb3
      cases z
      exact K3 _ hk3 _ _ _ (lv_sub hl [0] rfl) hw
    · have hb3 := cd_ite_f c4 hb3
      refine lv_aload_n hx hb dX6_done_18 rfl (lv_at hl 0 rfl) ?_
      refine va_get (D := G) (ci := 6) (v := .ref (h 1)) (C := RX6) (T := TX6) (N := 22) hx hb hts nw_X6_done_X6 hown hK hw.1 0 rfl rfl 0 (by decide) hL0 (fun _ h9 => h9) rfl dX6_done_19 ?_
      refine lv_iload_n hx hb dX6_done_22 rfl (lv_at hl 1 rfl) ?_
      refine lv_aload_n hx hb dX6_done_23 rfl (lv_at hl 0 rfl) ?_
      refine va_get (D := G) (ci := 6) (v := .ref (h 2)) (C := RX6) (T := TX6) (N := 22) hx hb hts nw_X6_done_X6 hown hK hw.1 0 rfl rfl 1 (by decide) hL1 (fun _ h9 => h9) rfl dX6_done_24 ?_
      refine lv_iload_n hx hb dX6_done_27 rfl (lv_at hl 1 rfl) ?_
      obtain ⟨v5, e5, hb3⟩ := cd_bind_some hb3
      refine cd_iald hx hb hK hw 2 rfl e5 dX6_done_28 ?_
      obtain ⟨j6, e6, hb3⟩ := cd_bind_some hb3
      refine cd_iast (f := z3.2 0) hx hb hK hw 1 rfl e6 dX6_done_29 (fun H locs hw => ?_)
      have hw : cd_WS G A s.heap H locs ((pc_mod cI cZ h (cd_set z3.2 0 j6 v5))) := (show ∀ (s9 : Nat → Nat → Int32) (y9 : Int32), cd_WS G A s.heap H locs (((pc_mod cI cZ h s9)).set 1 (h 1, .inl (cI, 69, .inl (upd (s9 0) j6 y9)))) → cd_WS G A s.heap H locs ((pc_mod cI cZ h (cd_set s9 0 j6 y9))) from fun _ _ hh => hh) z3.2 v5 hw
      refine lv_iinc (v := (z3.1 + (1 : Int32))) (lv' := [(1, .int (z3.1 + (1 : Int32))), (0, .ref (h 0))]) hx hb dX6_done_30 hl (k := 1) rfl rfl (by decide) rfl (fun ls hl => ?_)
      refine lv_goto (tgt := 12) hx hb dX6_done_33 (by decide) ?_
      have z : some (Sum.inr ((z3.1 + (1 : Int32)), (cd_set z3.2 0 j6 v5))) = some o3 := hb3
      cases z
      exact hk3 _ _ _ (lv_sub hl [1, 0] rfl) hw
  · have hf := cd_ite_f c2 hf
    refine lv_bipush (v := (-5 : Int32)) hx hb dX6_done_7 (by decide) ?_
    have z : some ((-5 : Int32), r1.2) = some o := hf
    cases z
    rw [hQ]
    exact cd_reti C0 hw dX6_done_9
abbrev rm_X6_draught : Room := { frames := 2, cells := 0, slots := 0, locals := 42 }
theorem nw_X6_draught_X6 : ∀ w ∈ u_ws RX6 TX6 22, w ∈ wsX6_draught := by decide +kernel
set_option maxHeartbeats 4000000 in
set_option maxRecDepth 100000 in
theorem c_X6_draught (l : Launch) (G : va_G) (cI cZ : ClassId) (sa sb : Nat) (h : Nat → Nat) (M : Nat → Nat → Int32) (a0 : Int32) (a1 : Int32) (o : Int32 × (Nat → Nat → Int32)) (hf : f_X6_draught a0 a1 M = some o) : cd_Ct l G cI cZ sa sb yX6_draught wsX6_draught rm_X6_draught [.ref (h 0), .int a0, .int a1] ((pc_mod cI cZ h M)) ((pc_mod cI cZ h o.2)) (some (.int o.1)) := by
  refine cd_of (cc := cX6_draught) (maxL := 4) (ret := (some .int)) (by decide) rfl (Nat.le_of_ble_eq_true rfl) ?_
  intro p e s m ag below meth c A ls Q C0 hl hw hQ
  have C0 : cd_CX G cI cZ sa sb p s m ag meth c cX6_draught 4 (some .int) wsX6_draught RX6 A := C0
  obtain ⟨⟨hx, hb, hml, hown, hts⟩, hr, hlocks, hA, hE⟩ := id C0
  have hK := hE.1
  have hL0 := hts (.fieldLink RX6 7 "CandleDebtsModel" "book" "[I") (by decide +kernel)
  have hl : lv_has ls 4 [(0, .ref (h 0)), (1, .int a0), (2, .int a1)] := hl
  unfold f_X6_draught at hf
  refine lv_iload_n hx hb dX6_draught_0 rfl (lv_at hl 1 rfl) ?_
  obtain ⟨r1, e1, hf⟩ := cd_bind_some hf
  refine cd_callS (As := [.int a0]) (rest := []) C0 hw (c_X6_isCandle l G cI cZ sa sb a0 r1 e1) [] rfl rfl (va_cwS 1 hts gX6_draught_X6_isCandle rfl rfl rfl (by decide +kernel) ⟨Nat.le_of_ble_eq_true rfl, Nat.le_of_ble_eq_true rfl⟩) rfl hl.1 (lv_room (Nat.le_of_ble_eq_true rfl)) dX6_draught_1 (fun H locs hw => ?_)
  refine lv_if_ne (tgt := 9) hx hb dX6_draught_4 (by decide) (fun c2 => ?_) (fun c2 => ?_)
  · have hf := cd_ite_f c2 hf
    refine lv_iload_n hx hb dX6_draught_9 rfl (lv_at hl 2 rfl) ?_
    refine lv_iconst (v := (0 : Int32)) hx hb dX6_draught_10 (by decide) ?_
    refine lv_bipush (v := (9 : Int32)) hx hb dX6_draught_11 (by decide) ?_
    obtain ⟨r3, e3, hf⟩ := cd_bind_some hf
    refine cd_callS (As := [.int a1, .int (0 : Int32), .int (9 : Int32)]) (rest := []) C0 hw (c_X6_in l G cI cZ sa sb a1 (0 : Int32) (9 : Int32) r3 e3) [] rfl rfl (va_cwS 3 hts gX6_draught_X6_in rfl rfl rfl (by decide +kernel) ⟨Nat.le_of_ble_eq_true rfl, Nat.le_of_ble_eq_true rfl⟩) rfl hl.1 (lv_room (Nat.le_of_ble_eq_true rfl)) dX6_draught_13 (fun H locs hw => ?_)
    refine lv_if_ne (tgt := 22) hx hb dX6_draught_16 (by decide) (fun c4 => ?_) (fun c4 => ?_)
    · have hf := cd_ite_f c4 hf
      refine lv_aload_n hx hb dX6_draught_22 rfl (lv_at hl 0 rfl) ?_
      refine va_get (D := G) (ci := 6) (v := .ref (h 1)) (C := RX6) (T := TX6) (N := 22) hx hb hts nw_X6_draught_X6 hown hK hw.1 0 rfl rfl 0 (by decide) hL0 (fun _ h9 => h9) rfl dX6_draught_23 ?_
      refine lv_bipush (v := (36 : Int32)) hx hb dX6_draught_26 (by decide) ?_
      refine lv_iload_n hx hb dX6_draught_28 rfl (lv_at hl 1 rfl) ?_
      refine lv_iadd hx hb dX6_draught_29 ?_
      obtain ⟨v5, e5, hf⟩ := cd_bind_some hf
      refine cd_iald hx hb hK hw 1 rfl e5 dX6_draught_30 ?_
      refine lv_istore_n (lv' := [(3, .int v5), (0, .ref (h 0)), (1, .int a0), (2, .int a1)]) hx hb dX6_draught_31 rfl hl (by decide) rfl (fun ls hl => ?_)
      refine lv_aload_n hx hb dX6_draught_32 rfl (lv_at hl 1 rfl) ?_
      refine va_get (D := G) (ci := 6) (v := .ref (h 1)) (C := RX6) (T := TX6) (N := 22) hx hb hts nw_X6_draught_X6 hown hK hw.1 0 rfl rfl 0 (by decide) hL0 (fun _ h9 => h9) rfl dX6_draught_33 ?_
      refine lv_bipush (v := (36 : Int32)) hx hb dX6_draught_36 (by decide) ?_
      refine lv_iload_n hx hb dX6_draught_38 rfl (lv_at hl 2 rfl) ?_
      refine lv_iadd hx hb dX6_draught_39 ?_
      refine lv_iload_n hx hb dX6_draught_40 rfl (lv_at hl 3 rfl) ?_
      obtain ⟨j6, e6, hf⟩ := cd_bind_some hf
      refine cd_iast (f := M 0) hx hb hK hw 1 rfl e6 dX6_draught_41 (fun H locs hw => ?_)
      have hw : cd_WS G A s.heap H locs ((pc_mod cI cZ h (cd_set M 0 j6 a1))) := (show ∀ (s9 : Nat → Nat → Int32) (y9 : Int32), cd_WS G A s.heap H locs (((pc_mod cI cZ h s9)).set 1 (h 1, .inl (cI, 69, .inl (upd (s9 0) j6 y9)))) → cd_WS G A s.heap H locs ((pc_mod cI cZ h (cd_set s9 0 j6 y9))) from fun _ _ hh => hh) M a1 hw
      refine lv_iload_n hx hb dX6_draught_42 rfl (lv_at hl 0 rfl) ?_
      have z : some (v5, (cd_set M 0 j6 a1)) = some o := hf
      cases z
      rw [hQ]
      exact cd_reti C0 hw dX6_draught_43
    · have hf := cd_ite_t c4 hf
      refine lv_bipush (v := (-2 : Int32)) hx hb dX6_draught_19 (by decide) ?_
      have z : some ((-2 : Int32), M) = some o := hf
      cases z
      rw [hQ]
      exact cd_reti C0 hw dX6_draught_21
  · have hf := cd_ite_t c2 hf
    refine lv_iconst (v := (-1 : Int32)) hx hb dX6_draught_7 (by decide) ?_
    have z : some ((-1 : Int32), M) = some o := hf
    cases z
    rw [hQ]
    exact cd_reti C0 hw dX6_draught_8
abbrev rm_X6_fault : Room := { frames := 3, cells := 0, slots := 0, locals := 67 }
set_option maxHeartbeats 4000000 in
set_option maxRecDepth 100000 in
theorem c_X6_fault (l : Launch) (G : va_G) (cI cZ : ClassId) (sa sb : Nat) (h : Nat → Nat) (M : Nat → Nat → Int32) (o : Int32) (hf : f_X6_fault M = some o) : cd_Ct l G cI cZ sa sb yX6_fault wsX6_fault rm_X6_fault [.ref (h 0)] ((pc_mod cI cZ h M)) ((pc_mod cI cZ h M)) (some (.int o)) := by
  refine cd_of (cc := cX6_fault) (maxL := 1) (ret := (some .int)) (by decide) rfl (Nat.le_of_ble_eq_true rfl) ?_
  intro p e s m ag below meth c A ls Q C0 hl hw hQ
  have C0 : cd_CX G cI cZ sa sb p s m ag meth c cX6_fault 1 (some .int) wsX6_fault RX6 A := C0
  obtain ⟨⟨hx, hb, hml, hown, hts⟩, hr, hlocks, hA, hE⟩ := id C0
  have hK := hE.1
  have hl : lv_has ls 1 [(0, .ref (h 0))] := hl
  unfold f_X6_fault at hf
  refine lv_aload_n hx hb dX6_fault_0 rfl (lv_at hl 0 rfl) ?_
  obtain ⟨r1, e1, hf⟩ := cd_bind_some hf
  refine cd_callV (As := []) (rest := []) C0 hw (c_X6_faultOf l G cI cZ sa sb h M r1 e1) [0, 1, 2, 3, 4, 5, 6, 7, 8, 9, 10, 11, 12, 13, 14] rfl rfl 0 6 rfl rfl rfl (cwV 0 hts gX6_fault_X6_faultOf rfl rfl rfl (by decide +kernel) ⟨Nat.le_of_ble_eq_true rfl, Nat.le_of_ble_eq_true rfl⟩) rfl hl.1 (lv_room (Nat.le_of_ble_eq_true rfl)) dX6_fault_1 (fun H locs hw => ?_)
  have z : some r1 = some o := hf
  cases z
  rw [hQ]
  exact cd_reti C0 hw dX6_fault_4
abbrev rm_X6_forget : Room := { frames := 0, cells := 0, slots := 0, locals := 0 }
theorem nw_X6_forget_X6 : ∀ w ∈ u_ws RX6 TX6 22, w ∈ wsX6_forget := by decide +kernel
set_option maxHeartbeats 4000000 in
set_option maxRecDepth 100000 in
theorem c_X6_forget (l : Launch) (G : va_G) (cI cZ : ClassId) (sa sb : Nat) (h : Nat → Nat) (M : Nat → Nat → Int32) (o : Int32 × (Nat → Nat → Int32)) (hf : f_X6_forget M = some o) : cd_Ct l G cI cZ sa sb yX6_forget wsX6_forget rm_X6_forget [.ref (h 0)] ((pc_mod cI cZ h M)) ((pc_mod cI cZ h o.2)) (some (.int o.1)) := by
  refine cd_of (cc := cX6_forget) (maxL := 2) (ret := (some .int)) (by decide) rfl (Nat.le_of_ble_eq_true rfl) ?_
  intro p e s m ag below meth c A ls Q C0 hl hw hQ
  have C0 : cd_CX G cI cZ sa sb p s m ag meth c cX6_forget 2 (some .int) wsX6_forget RX6 A := C0
  obtain ⟨⟨hx, hb, hml, hown, hts⟩, hr, hlocks, hA, hE⟩ := id C0
  have hK := hE.1
  have hL0 := hts (.fieldLink RX6 167 "CandleDebtsModel" "sights" "I") (by decide +kernel)
  have hl : lv_has ls 2 [(0, .ref (h 0))] := hl
  unfold f_X6_forget at hf
  refine lv_aload_n hx hb dX6_forget_0 rfl (lv_at hl 0 rfl) ?_
  refine va_get (D := G) (ci := 6) (v := .int (M 4 0)) (C := RX6) (T := TX6) (N := 22) hx hb hts nw_X6_forget_X6 hown hK hw.1 0 rfl rfl 4 (by decide) hL0 (fun _ h9 => h9) rfl dX6_forget_1 ?_
  refine lv_istore_n (lv' := [(1, .int (M 4 0)), (0, .ref (h 0))]) hx hb dX6_forget_4 rfl hl (by decide) rfl (fun ls hl => ?_)
  refine lv_aload_n hx hb dX6_forget_5 rfl (lv_at hl 1 rfl) ?_
  refine lv_iconst (v := (0 : Int32)) hx hb dX6_forget_6 (by decide) ?_
  refine va_put (D := G) (ci := 6) (v := .int (0 : Int32)) (ty := .int) (C := RX6) (T := TX6) (N := 22) hx hb hts nw_X6_forget_X6 tyX6 tyX6_ok nmX6 hown hK hw.1 hw.2.1 hw.2.2 0 rfl rfl 4 (by decide) hL0 (fun _ h9 => h9) rfl (by decide +kernel) rfl rfl (Nat.le_of_ble_eq_true rfl) dX6_forget_7 (fun H locs hP hD hS => ?_)
  have hw : cd_WS G A s.heap H locs ((pc_mod cI cZ h (cd_fld M 4 (0 : Int32)))) := ⟨hP, hD, hS⟩
  refine lv_iload_n hx hb dX6_forget_10 rfl (lv_at hl 0 rfl) ?_
  have z : some ((M 4 0), (cd_fld M 4 (0 : Int32))) = some o := hf
  cases z
  rw [hQ]
  exact cd_reti C0 hw dX6_forget_11
abbrev rm_X6_has : Room := { frames := 6, cells := 0, slots := 0, locals := 132 }
theorem nw_X6_has_X6 : ∀ w ∈ u_ws RX6 TX6 22, w ∈ wsX6_has := by decide +kernel
set_option maxHeartbeats 4000000 in
set_option maxRecDepth 100000 in
theorem c_X6_has (l : Launch) (G : va_G) (cI cZ : ClassId) (sa sb : Nat) (h : Nat → Nat) (M : Nat → Nat → Int32) (a0 : Int32) (o : Int32 × (Nat → Nat → Int32)) (hf : f_X6_has a0 M = some o) : cd_Ct l G cI cZ sa sb yX6_has wsX6_has rm_X6_has [.ref (h 0), .int a0] ((pc_mod cI cZ h M)) ((pc_mod cI cZ h o.2)) (some (.int o.1)) := by
  refine cd_of (cc := cX6_has) (maxL := 2) (ret := (some .int)) (by decide) rfl (Nat.le_of_ble_eq_true rfl) ?_
  intro p e s m ag below meth c A ls Q C0 hl hw hQ
  have C0 : cd_CX G cI cZ sa sb p s m ag meth c cX6_has 2 (some .int) wsX6_has RX6 A := C0
  obtain ⟨⟨hx, hb, hml, hown, hts⟩, hr, hlocks, hA, hE⟩ := id C0
  have hK := hE.1
  have hL0 := hts (.fieldLink RX6 13 "CandleDebtsModel" "now" "[I") (by decide +kernel)
  have hl : lv_has ls 2 [(0, .ref (h 0)), (1, .int a0)] := hl
  unfold f_X6_has at hf
  refine lv_iload_n hx hb dX6_has_0 rfl (lv_at hl 1 rfl) ?_
  obtain ⟨r1, e1, hf⟩ := cd_bind_some hf
  refine cd_callS (As := [.int a0]) (rest := []) C0 hw (c_X6_isOne l G cI cZ sa sb a0 r1 e1) [] rfl rfl (va_cwS 1 hts gX6_has_X6_isOne rfl rfl rfl (by decide +kernel) ⟨Nat.le_of_ble_eq_true rfl, Nat.le_of_ble_eq_true rfl⟩) rfl hl.1 (lv_room (Nat.le_of_ble_eq_true rfl)) dX6_has_1 (fun H locs hw => ?_)
  refine lv_if_ne (tgt := 9) hx hb dX6_has_4 (by decide) (fun c2 => ?_) (fun c2 => ?_)
  · have hf := cd_ite_f c2 hf
    refine lv_aload_n hx hb dX6_has_9 rfl (lv_at hl 0 rfl) ?_
    obtain ⟨r3, e3, hf⟩ := cd_bind_some hf
    refine cd_callVw (As := []) (rest := []) (wr := ([] : va_W)) (wn := (pc_mod cI cZ h r3.2)) C0 hw (c_X6_barOfNights l G cI cZ sa sb h M r3 e3) [0, 1, 2, 3, 4, 5, 6, 7, 8, 9, 10, 11, 12, 13, 14] [] [0, 1, 2, 3, 4, 5, 6, 7, 8, 9, 10, 11, 12, 13, 14] rfl rfl rfl rfl (by decide) rfl rfl 0 6 rfl rfl rfl (cwV 0 hts gX6_has_X6_barOfNights rfl rfl rfl (by decide +kernel) ⟨Nat.le_of_ble_eq_true rfl, Nat.le_of_ble_eq_true rfl⟩) rfl hl.1 (lv_room (Nat.le_of_ble_eq_true rfl)) dX6_has_10 (fun H locs hw => ?_)
    obtain ⟨x4, e4, hf⟩ := cd_bind_some hf
    have K4 : ∀ (ls : Array Slot) (H : Heap) (locs : List Loc), lv_has ls 2 [] → cd_WS G A s.heap H locs ((pc_mod cI cZ h r3.2)) → W p l e rm_X6_has s m ag below meth c H locs 0 0 Q (F0 m 30 ls [.int x4]) := by
      intro ls H locs hl hw
      have z : some (x4, r3.2) = some o := hf
      cases z
      rw [hQ]
      exact cd_reti C0 hw dX6_has_30
    refine lv_if_ge (tgt := 21) hx hb dX6_has_13 (by decide) (fun c4 => ?_) (fun c4 => ?_)
    · have e4 := cd_ite_t c4 e4
      refine lv_aload_n hx hb dX6_has_21 rfl (lv_at hl 0 rfl) ?_
      refine va_get (D := G) (ci := 6) (v := .ref (h 2)) (C := RX6) (T := TX6) (N := 22) hx hb hts nw_X6_has_X6 hown hK hw.1 0 rfl rfl 1 (by decide) hL0 (fun _ h9 => h9) rfl dX6_has_22 ?_
      refine lv_bipush (v := (60 : Int32)) hx hb dX6_has_25 (by decide) ?_
      refine lv_iload_n hx hb dX6_has_27 rfl (lv_at hl 1 rfl) ?_
      refine lv_iadd hx hb dX6_has_28 ?_
      obtain ⟨v5, e5, e4⟩ := cd_bind_some e4
      refine cd_iald hx hb hK hw 2 rfl e5 dX6_has_29 ?_
      have z : some v5 = some x4 := e4
      cases z
      exact K4 _ _ _ (lv_sub hl [] rfl) hw
    · have e4 := cd_ite_f c4 e4
      refine lv_bipush (v := (-5 : Int32)) hx hb dX6_has_16 (by decide) ?_
      refine lv_goto (tgt := 30) hx hb dX6_has_18 (by decide) ?_
      have z : some (-5 : Int32) = some x4 := e4
      cases z
      exact K4 _ _ _ (lv_sub hl [] rfl) hw
  · have hf := cd_ite_t c2 hf
    refine lv_iconst (v := (-1 : Int32)) hx hb dX6_has_7 (by decide) ?_
    have z : some ((-1 : Int32), M) = some o := hf
    cases z
    rw [hQ]
    exact cd_reti C0 hw dX6_has_8
abbrev rm_X6_image : Room := { frames := 1, cells := 0, slots := 0, locals := 22 }
theorem nw_X6_image_X6 : ∀ w ∈ u_ws RX6 TX6 22, w ∈ wsX6_image := by decide +kernel
set_option maxHeartbeats 4000000 in
set_option maxRecDepth 100000 in
theorem c_X6_image (l : Launch) (G : va_G) (cI cZ : ClassId) (sa sb : Nat) (h : Nat → Nat) (M : Nat → Nat → Int32) (a0 : Int32) (o : Int32 × (Nat → Nat → Int32)) (hf : f_X6_image a0 M = some o) : cd_Ct l G cI cZ sa sb yX6_image wsX6_image rm_X6_image [.ref (h 0), .int a0] ((pc_mod cI cZ h M)) ((pc_mod cI cZ h o.2)) (some (.int o.1)) := by
  refine cd_of (cc := cX6_image) (maxL := 4) (ret := (some .int)) (by decide) rfl (Nat.le_of_ble_eq_true rfl) ?_
  intro p e s m ag below meth c A ls Q C0 hl hw hQ
  have C0 : cd_CX G cI cZ sa sb p s m ag meth c cX6_image 4 (some .int) wsX6_image RX6 A := C0
  obtain ⟨⟨hx, hb, hml, hown, hts⟩, hr, hlocks, hA, hE⟩ := id C0
  have hK := hE.1
  have hL0 := hts (.fieldLink RX6 47 "CandleDebtsModel" "image" "[I") (by decide +kernel)
  have hL1 := hts (.fieldLink RX6 7 "CandleDebtsModel" "book" "[I") (by decide +kernel)
  have hL2 := hts (.fieldLink RX6 16 "CandleDebtsModel" "creditor" "[I") (by decide +kernel)
  have hL3 := hts (.fieldLink RX6 19 "CandleDebtsModel" "debtor" "[I") (by decide +kernel)
  have hL4 := hts (.fieldLink RX6 22 "CandleDebtsModel" "sight" "[I") (by decide +kernel)
  have hL5 := hts (.fieldLink RX6 167 "CandleDebtsModel" "sights" "I") (by decide +kernel)
  have hL6 := hts (.fieldLink RX6 50 "CandleDebtsModel" "isKept" "[Z") (by decide +kernel)
  have hl : lv_has ls 4 [(0, .ref (h 0)), (1, .int a0)] := hl
  unfold f_X6_image at hf
  refine lv_iload_n hx hb dX6_image_0 rfl (lv_at hl 1 rfl) ?_
  refine lv_iconst (v := (0 : Int32)) hx hb dX6_image_1 (by decide) ?_
  refine lv_iconst (v := (1 : Int32)) hx hb dX6_image_2 (by decide) ?_
  obtain ⟨r1, e1, hf⟩ := cd_bind_some hf
  refine cd_callS (As := [.int a0, .int (0 : Int32), .int (1 : Int32)]) (rest := []) C0 hw (c_X6_in l G cI cZ sa sb a0 (0 : Int32) (1 : Int32) r1 e1) [] rfl rfl (va_cwS 3 hts gX6_image_X6_in rfl rfl rfl (by decide +kernel) ⟨Nat.le_of_ble_eq_true rfl, Nat.le_of_ble_eq_true rfl⟩) rfl hl.1 (lv_room (Nat.le_of_ble_eq_true rfl)) dX6_image_3 (fun H locs hw => ?_)
  refine lv_if_ne (tgt := 12) hx hb dX6_image_6 (by decide) (fun c2 => ?_) (fun c2 => ?_)
  · have hf := cd_ite_f c2 hf
    refine lv_bipush (v := (120 : Int32)) hx hb dX6_image_12 (by decide) ?_
    refine lv_iload_n hx hb dX6_image_14 rfl (lv_at hl 1 rfl) ?_
    refine lv_imul hx hb dX6_image_15 ?_
    refine lv_istore_n (lv' := [(2, .int ((120 : Int32) * a0)), (0, .ref (h 0)), (1, .int a0)]) hx hb dX6_image_16 rfl hl (by decide) rfl (fun ls hl => ?_)
    refine lv_iconst (v := (0 : Int32)) hx hb dX6_image_17 (by decide) ?_
    refine lv_istore_n (lv' := [(3, .int (0 : Int32)), (2, .int ((120 : Int32) * a0)), (0, .ref (h 0)), (1, .int a0)]) hx hb dX6_image_18 rfl hl (by decide) rfl (fun ls hl => ?_)
    obtain ⟨x3, e3, hf⟩ := cd_bind_some hf
    have K3 : ∀ (t3 : (Nat → Nat → Int32)), t3 = x3 → ∀ (ls : Array Slot) (H : Heap) (locs : List Loc), lv_has ls 4 [(0, .ref (h 0)), (1, .int a0), (2, .int ((120 : Int32) * a0))] → cd_WS G A s.heap H locs ((pc_mod cI cZ h t3)) → W p l e rm_X6_image s m ag below meth c H locs 0 0 Q (F0 m 45 ls []) := by
      intro t3 hs_3
      subst hs_3
      intro ls H locs hl hw
      refine lv_iconst (v := (0 : Int32)) hx hb dX6_image_45 (by decide) ?_
      refine lv_istore_n (lv' := [(3, .int (0 : Int32)), (0, .ref (h 0)), (1, .int a0), (2, .int ((120 : Int32) * a0))]) hx hb dX6_image_46 rfl hl (by decide) rfl (fun ls hl => ?_)
      obtain ⟨x7, e7, hf⟩ := cd_bind_some hf
      have K7 : ∀ (t7 : (Nat → Nat → Int32)), t7 = x7 → ∀ (ls : Array Slot) (H : Heap) (locs : List Loc), lv_has ls 4 [(0, .ref (h 0)), (1, .int a0), (2, .int ((120 : Int32) * a0))] → cd_WS G A s.heap H locs ((pc_mod cI cZ h t7)) → W p l e rm_X6_image s m ag below meth c H locs 0 0 Q (F0 m 93 ls []) := by
        intro t7 hs_7
        subst hs_7
        intro ls H locs hl hw
        refine lv_iconst (v := (0 : Int32)) hx hb dX6_image_93 (by decide) ?_
        refine lv_istore_n (lv' := [(3, .int (0 : Int32)), (0, .ref (h 0)), (1, .int a0), (2, .int ((120 : Int32) * a0))]) hx hb dX6_image_94 rfl hl (by decide) rfl (fun ls hl => ?_)
        obtain ⟨x13, e13, hf⟩ := cd_bind_some hf
        have K13 : ∀ (t13 : (Nat → Nat → Int32)), t13 = x13 → ∀ (ls : Array Slot) (H : Heap) (locs : List Loc), lv_has ls 4 [(0, .ref (h 0)), (1, .int a0), (2, .int ((120 : Int32) * a0))] → cd_WS G A s.heap H locs ((pc_mod cI cZ h t13)) → W p l e rm_X6_image s m ag below meth c H locs 0 0 Q (F0 m 124 ls []) := by
          intro t13 hs_13
          subst hs_13
          intro ls H locs hl hw
          refine lv_aload_n hx hb dX6_image_124 rfl (lv_at hl 0 rfl) ?_
          refine va_get (D := G) (ci := 6) (v := .ref (h 13)) (C := RX6) (T := TX6) (N := 22) hx hb hts nw_X6_image_X6 hown hK hw.1 0 rfl rfl 20 (by decide) hL0 (fun _ h9 => h9) rfl dX6_image_125 ?_
          refine lv_iload_n hx hb dX6_image_128 rfl (lv_at hl 2 rfl) ?_
          refine lv_bipush (v := (110 : Int32)) hx hb dX6_image_129 (by decide) ?_
          refine lv_iadd hx hb dX6_image_131 ?_
          refine lv_aload_n hx hb dX6_image_132 rfl (lv_at hl 0 rfl) ?_
          refine va_get (D := G) (ci := 6) (v := .int (t13 4 0)) (C := RX6) (T := TX6) (N := 22) hx hb hts nw_X6_image_X6 hown hK hw.1 0 rfl rfl 4 (by decide) hL5 (fun _ h9 => h9) rfl dX6_image_133 ?_
          obtain ⟨j17, e17, hf⟩ := cd_bind_some hf
          refine cd_iast (f := t13 20) hx hb hK hw 13 rfl e17 dX6_image_136 (fun H locs hw => ?_)
          have hw : cd_WS G A s.heap H locs ((pc_mod cI cZ h (cd_set t13 20 j17 (t13 4 0)))) := (show ∀ (s9 : Nat → Nat → Int32) (y9 : Int32), cd_WS G A s.heap H locs (((pc_mod cI cZ h s9)).set 13 (h 13, .inl (cI, 240, .inl (upd (s9 20) j17 y9)))) → cd_WS G A s.heap H locs ((pc_mod cI cZ h (cd_set s9 20 j17 y9))) from fun _ _ hh => hh) t13 (t13 4 0) hw
          refine lv_aload_n hx hb dX6_image_137 rfl (lv_at hl 0 rfl) ?_
          refine va_get (D := G) (ci := 6) (v := .ref (h 14)) (C := RX6) (T := TX6) (N := 22) hx hb hts nw_X6_image_X6 hown hK hw.1 0 rfl rfl 21 (by decide) hL6 (fun _ h9 => h9) rfl dX6_image_138 ?_
          refine lv_iload_n hx hb dX6_image_141 rfl (lv_at hl 1 rfl) ?_
          refine lv_iconst (v := (1 : Int32)) hx hb dX6_image_142 (by decide) ?_
          obtain ⟨j18, e18, hf⟩ := cd_bind_some hf
          refine cd_zast (f := (cd_set t13 20 j17 (t13 4 0)) 21) hx hb hK hw 14 rfl e18 rfl dX6_image_143 (fun H locs hw => ?_)
          have hw : cd_WS G A s.heap H locs ((pc_mod cI cZ h (cd_set (cd_set t13 20 j17 (t13 4 0)) 21 j18 (1 : Int32)))) := (show ∀ (s9 : Nat → Nat → Int32) (y9 : Int32), cd_WS G A s.heap H locs (((pc_mod cI cZ h s9)).set 14 (h 14, .inl (cZ, 2, .inl (upd (s9 21) j18 y9)))) → cd_WS G A s.heap H locs ((pc_mod cI cZ h (cd_set s9 21 j18 y9))) from fun _ _ hh => hh) (cd_set t13 20 j17 (t13 4 0)) (1 : Int32) hw
          refine lv_iconst (v := (1 : Int32)) hx hb dX6_image_144 (by decide) ?_
          have z : some ((1 : Int32), (cd_set (cd_set t13 20 j17 (t13 4 0)) 21 j18 (1 : Int32))) = some o := hf
          cases z
          rw [hQ]
          exact cd_reti C0 hw dX6_image_145
        refine cd_iter_ind (body := (f_X6_image_b95 a0)) (K := fun r => r = x13) (P := fun (z13 : Int32 × (Nat → Nat → Int32)) => ∀ (ls : Array Slot) (H : Heap) (locs : List Loc), lv_has ls 4 [(0, .ref (h 0)), (1, .int a0), (2, .int ((120 : Int32) * a0)), (3, .int z13.1)] → cd_WS G A s.heap H locs ((pc_mod cI cZ h z13.2)) → W p l e rm_X6_image s m ag below meth c H locs 0 0 Q (F0 m 95 ls [])) ?_ cd_N ((0 : Int32), t7) x13 e13 rfl _ _ _ (lv_sub hl [1, 2, 3, 0] rfl) hw
        intro z13 o13 hb13 hk13 ls H locs hl hw
        unfold f_X6_image_b95 at hb13
        refine lv_iload_n hx hb dX6_image_95 rfl (lv_at hl 3 rfl) ?_
        refine lv_bipush (v := (16 : Int32)) hx hb dX6_image_96 (by decide) ?_
        refine lv_icmp_ge (tgt := 124) hx hb dX6_image_98 (by decide) (fun c14 => ?_) (fun c14 => ?_)
        · have hb13 := cd_ite_t c14 hb13
          have z : some (Sum.inl z13.2) = some o13 := hb13
          cases z
          exact K13 _ hk13 _ _ _ (lv_sub hl [0, 1, 2] rfl) hw
        · have hb13 := cd_ite_f c14 hb13
          refine lv_aload_n hx hb dX6_image_101 rfl (lv_at hl 0 rfl) ?_
          refine va_get (D := G) (ci := 6) (v := .ref (h 13)) (C := RX6) (T := TX6) (N := 22) hx hb hts nw_X6_image_X6 hown hK hw.1 0 rfl rfl 20 (by decide) hL0 (fun _ h9 => h9) rfl dX6_image_102 ?_
          refine lv_iload_n hx hb dX6_image_105 rfl (lv_at hl 2 rfl) ?_
          refine lv_bipush (v := (93 : Int32)) hx hb dX6_image_106 (by decide) ?_
          refine lv_iadd hx hb dX6_image_108 ?_
          refine lv_iload_n hx hb dX6_image_109 rfl (lv_at hl 3 rfl) ?_
          refine lv_iadd hx hb dX6_image_110 ?_
          refine lv_aload_n hx hb dX6_image_111 rfl (lv_at hl 0 rfl) ?_
          refine va_get (D := G) (ci := 6) (v := .ref (h 5)) (C := RX6) (T := TX6) (N := 22) hx hb hts nw_X6_image_X6 hown hK hw.1 0 rfl rfl 5 (by decide) hL4 (fun _ h9 => h9) rfl dX6_image_112 ?_
          refine lv_iload_n hx hb dX6_image_115 rfl (lv_at hl 3 rfl) ?_
          obtain ⟨v15, e15, hb13⟩ := cd_bind_some hb13
          refine cd_iald hx hb hK hw 5 rfl e15 dX6_image_116 ?_
          obtain ⟨j16, e16, hb13⟩ := cd_bind_some hb13
          refine cd_iast (f := z13.2 20) hx hb hK hw 13 rfl e16 dX6_image_117 (fun H locs hw => ?_)
          have hw : cd_WS G A s.heap H locs ((pc_mod cI cZ h (cd_set z13.2 20 j16 v15))) := (show ∀ (s9 : Nat → Nat → Int32) (y9 : Int32), cd_WS G A s.heap H locs (((pc_mod cI cZ h s9)).set 13 (h 13, .inl (cI, 240, .inl (upd (s9 20) j16 y9)))) → cd_WS G A s.heap H locs ((pc_mod cI cZ h (cd_set s9 20 j16 y9))) from fun _ _ hh => hh) z13.2 v15 hw
          refine lv_iinc (v := (z13.1 + (1 : Int32))) (lv' := [(3, .int (z13.1 + (1 : Int32))), (0, .ref (h 0)), (1, .int a0), (2, .int ((120 : Int32) * a0))]) hx hb dX6_image_118 hl (k := 3) rfl rfl (by decide) rfl (fun ls hl => ?_)
          refine lv_goto (tgt := 95) hx hb dX6_image_121 (by decide) ?_
          have z : some (Sum.inr ((z13.1 + (1 : Int32)), (cd_set z13.2 20 j16 v15))) = some o13 := hb13
          cases z
          exact hk13 _ _ _ (lv_sub hl [1, 2, 3, 0] rfl) hw
      refine cd_iter_ind (body := (f_X6_image_b47 a0)) (K := fun r => r = x7) (P := fun (z7 : Int32 × (Nat → Nat → Int32)) => ∀ (ls : Array Slot) (H : Heap) (locs : List Loc), lv_has ls 4 [(0, .ref (h 0)), (1, .int a0), (2, .int ((120 : Int32) * a0)), (3, .int z7.1)] → cd_WS G A s.heap H locs ((pc_mod cI cZ h z7.2)) → W p l e rm_X6_image s m ag below meth c H locs 0 0 Q (F0 m 47 ls [])) ?_ cd_N ((0 : Int32), t3) x7 e7 rfl _ _ _ (lv_sub hl [1, 2, 3, 0] rfl) hw
      intro z7 o7 hb7 hk7 ls H locs hl hw
      unfold f_X6_image_b47 at hb7
      refine lv_iload_n hx hb dX6_image_47 rfl (lv_at hl 3 rfl) ?_
      refine lv_bipush (v := (12 : Int32)) hx hb dX6_image_48 (by decide) ?_
      refine lv_icmp_ge (tgt := 93) hx hb dX6_image_50 (by decide) (fun c8 => ?_) (fun c8 => ?_)
      · have hb7 := cd_ite_t c8 hb7
        have z : some (Sum.inl z7.2) = some o7 := hb7
        cases z
        exact K7 _ hk7 _ _ _ (lv_sub hl [0, 1, 2] rfl) hw
      · have hb7 := cd_ite_f c8 hb7
        refine lv_aload_n hx hb dX6_image_53 rfl (lv_at hl 0 rfl) ?_
        refine va_get (D := G) (ci := 6) (v := .ref (h 13)) (C := RX6) (T := TX6) (N := 22) hx hb hts nw_X6_image_X6 hown hK hw.1 0 rfl rfl 20 (by decide) hL0 (fun _ h9 => h9) rfl dX6_image_54 ?_
        refine lv_iload_n hx hb dX6_image_57 rfl (lv_at hl 2 rfl) ?_
        refine lv_bipush (v := (69 : Int32)) hx hb dX6_image_58 (by decide) ?_
        refine lv_iadd hx hb dX6_image_60 ?_
        refine lv_iload_n hx hb dX6_image_61 rfl (lv_at hl 3 rfl) ?_
        refine lv_iadd hx hb dX6_image_62 ?_
        refine lv_aload_n hx hb dX6_image_63 rfl (lv_at hl 0 rfl) ?_
        refine va_get (D := G) (ci := 6) (v := .ref (h 3)) (C := RX6) (T := TX6) (N := 22) hx hb hts nw_X6_image_X6 hown hK hw.1 0 rfl rfl 2 (by decide) hL2 (fun _ h9 => h9) rfl dX6_image_64 ?_
        refine lv_iload_n hx hb dX6_image_67 rfl (lv_at hl 3 rfl) ?_
        obtain ⟨v9, e9, hb7⟩ := cd_bind_some hb7
        refine cd_iald hx hb hK hw 3 rfl e9 dX6_image_68 ?_
        obtain ⟨j10, e10, hb7⟩ := cd_bind_some hb7
        refine cd_iast (f := z7.2 20) hx hb hK hw 13 rfl e10 dX6_image_69 (fun H locs hw => ?_)
        have hw : cd_WS G A s.heap H locs ((pc_mod cI cZ h (cd_set z7.2 20 j10 v9))) := (show ∀ (s9 : Nat → Nat → Int32) (y9 : Int32), cd_WS G A s.heap H locs (((pc_mod cI cZ h s9)).set 13 (h 13, .inl (cI, 240, .inl (upd (s9 20) j10 y9)))) → cd_WS G A s.heap H locs ((pc_mod cI cZ h (cd_set s9 20 j10 y9))) from fun _ _ hh => hh) z7.2 v9 hw
        refine lv_aload_n hx hb dX6_image_70 rfl (lv_at hl 0 rfl) ?_
        refine va_get (D := G) (ci := 6) (v := .ref (h 13)) (C := RX6) (T := TX6) (N := 22) hx hb hts nw_X6_image_X6 hown hK hw.1 0 rfl rfl 20 (by decide) hL0 (fun _ h9 => h9) rfl dX6_image_71 ?_
        refine lv_iload_n hx hb dX6_image_74 rfl (lv_at hl 2 rfl) ?_
        refine lv_bipush (v := (81 : Int32)) hx hb dX6_image_75 (by decide) ?_
        refine lv_iadd hx hb dX6_image_77 ?_
        refine lv_iload_n hx hb dX6_image_78 rfl (lv_at hl 3 rfl) ?_
        refine lv_iadd hx hb dX6_image_79 ?_
        refine lv_aload_n hx hb dX6_image_80 rfl (lv_at hl 0 rfl) ?_
        refine va_get (D := G) (ci := 6) (v := .ref (h 4)) (C := RX6) (T := TX6) (N := 22) hx hb hts nw_X6_image_X6 hown hK hw.1 0 rfl rfl 3 (by decide) hL3 (fun _ h9 => h9) rfl dX6_image_81 ?_
        refine lv_iload_n hx hb dX6_image_84 rfl (lv_at hl 3 rfl) ?_
        obtain ⟨v11, e11, hb7⟩ := cd_bind_some hb7
        refine cd_iald hx hb hK hw 4 rfl e11 dX6_image_85 ?_
        obtain ⟨j12, e12, hb7⟩ := cd_bind_some hb7
        refine cd_iast (f := (cd_set z7.2 20 j10 v9) 20) hx hb hK hw 13 rfl e12 dX6_image_86 (fun H locs hw => ?_)
        have hw : cd_WS G A s.heap H locs ((pc_mod cI cZ h (cd_set (cd_set z7.2 20 j10 v9) 20 j12 v11))) := (show ∀ (s9 : Nat → Nat → Int32) (y9 : Int32), cd_WS G A s.heap H locs (((pc_mod cI cZ h s9)).set 13 (h 13, .inl (cI, 240, .inl (upd (s9 20) j12 y9)))) → cd_WS G A s.heap H locs ((pc_mod cI cZ h (cd_set s9 20 j12 y9))) from fun _ _ hh => hh) (cd_set z7.2 20 j10 v9) v11 hw
        refine lv_iinc (v := (z7.1 + (1 : Int32))) (lv' := [(3, .int (z7.1 + (1 : Int32))), (0, .ref (h 0)), (1, .int a0), (2, .int ((120 : Int32) * a0))]) hx hb dX6_image_87 hl (k := 3) rfl rfl (by decide) rfl (fun ls hl => ?_)
        refine lv_goto (tgt := 47) hx hb dX6_image_90 (by decide) ?_
        have z : some (Sum.inr ((z7.1 + (1 : Int32)), (cd_set (cd_set z7.2 20 j10 v9) 20 j12 v11))) = some o7 := hb7
        cases z
        exact hk7 _ _ _ (lv_sub hl [1, 2, 3, 0] rfl) hw
    refine cd_iter_ind (body := (f_X6_image_b19 a0)) (K := fun r => r = x3) (P := fun (z3 : Int32 × (Nat → Nat → Int32)) => ∀ (ls : Array Slot) (H : Heap) (locs : List Loc), lv_has ls 4 [(0, .ref (h 0)), (1, .int a0), (2, .int ((120 : Int32) * a0)), (3, .int z3.1)] → cd_WS G A s.heap H locs ((pc_mod cI cZ h z3.2)) → W p l e rm_X6_image s m ag below meth c H locs 0 0 Q (F0 m 19 ls [])) ?_ cd_N ((0 : Int32), M) x3 e3 rfl _ _ _ (lv_sub hl [2, 3, 1, 0] rfl) hw
    intro z3 o3 hb3 hk3 ls H locs hl hw
    unfold f_X6_image_b19 at hb3
    refine lv_iload_n hx hb dX6_image_19 rfl (lv_at hl 3 rfl) ?_
    refine lv_bipush (v := (69 : Int32)) hx hb dX6_image_20 (by decide) ?_
    refine lv_icmp_ge (tgt := 45) hx hb dX6_image_22 (by decide) (fun c4 => ?_) (fun c4 => ?_)
    · have hb3 := cd_ite_t c4 hb3
      have z : some (Sum.inl z3.2) = some o3 := hb3
      cases z
      exact K3 _ hk3 _ _ _ (lv_sub hl [0, 1, 2] rfl) hw
    · have hb3 := cd_ite_f c4 hb3
      refine lv_aload_n hx hb dX6_image_25 rfl (lv_at hl 0 rfl) ?_
      refine va_get (D := G) (ci := 6) (v := .ref (h 13)) (C := RX6) (T := TX6) (N := 22) hx hb hts nw_X6_image_X6 hown hK hw.1 0 rfl rfl 20 (by decide) hL0 (fun _ h9 => h9) rfl dX6_image_26 ?_
      refine lv_iload_n hx hb dX6_image_29 rfl (lv_at hl 2 rfl) ?_
      refine lv_iload_n hx hb dX6_image_30 rfl (lv_at hl 3 rfl) ?_
      refine lv_iadd hx hb dX6_image_31 ?_
      refine lv_aload_n hx hb dX6_image_32 rfl (lv_at hl 0 rfl) ?_
      refine va_get (D := G) (ci := 6) (v := .ref (h 1)) (C := RX6) (T := TX6) (N := 22) hx hb hts nw_X6_image_X6 hown hK hw.1 0 rfl rfl 0 (by decide) hL1 (fun _ h9 => h9) rfl dX6_image_33 ?_
      refine lv_iload_n hx hb dX6_image_36 rfl (lv_at hl 3 rfl) ?_
      obtain ⟨v5, e5, hb3⟩ := cd_bind_some hb3
      refine cd_iald hx hb hK hw 1 rfl e5 dX6_image_37 ?_
      obtain ⟨j6, e6, hb3⟩ := cd_bind_some hb3
      refine cd_iast (f := z3.2 20) hx hb hK hw 13 rfl e6 dX6_image_38 (fun H locs hw => ?_)
      have hw : cd_WS G A s.heap H locs ((pc_mod cI cZ h (cd_set z3.2 20 j6 v5))) := (show ∀ (s9 : Nat → Nat → Int32) (y9 : Int32), cd_WS G A s.heap H locs (((pc_mod cI cZ h s9)).set 13 (h 13, .inl (cI, 240, .inl (upd (s9 20) j6 y9)))) → cd_WS G A s.heap H locs ((pc_mod cI cZ h (cd_set s9 20 j6 y9))) from fun _ _ hh => hh) z3.2 v5 hw
      refine lv_iinc (v := (z3.1 + (1 : Int32))) (lv' := [(3, .int (z3.1 + (1 : Int32))), (0, .ref (h 0)), (1, .int a0), (2, .int ((120 : Int32) * a0))]) hx hb dX6_image_39 hl (k := 3) rfl rfl (by decide) rfl (fun ls hl => ?_)
      refine lv_goto (tgt := 19) hx hb dX6_image_42 (by decide) ?_
      have z : some (Sum.inr ((z3.1 + (1 : Int32)), (cd_set z3.2 20 j6 v5))) = some o3 := hb3
      cases z
      exact hk3 _ _ _ (lv_sub hl [1, 2, 3, 0] rfl) hw
  · have hf := cd_ite_t c2 hf
    refine lv_bipush (v := (-2 : Int32)) hx hb dX6_image_9 (by decide) ?_
    have z : some ((-2 : Int32), M) = some o := hf
    cases z
    rw [hQ]
    exact cd_reti C0 hw dX6_image_11
abbrev rm_X6_lostBy : Room := { frames := 1, cells := 0, slots := 0, locals := 22 }
theorem nw_X6_lostBy_X6 : ∀ w ∈ u_ws RX6 TX6 22, w ∈ wsX6_lostBy := by decide +kernel
set_option maxHeartbeats 4000000 in
set_option maxRecDepth 100000 in
theorem c_X6_lostBy (l : Launch) (G : va_G) (cI cZ : ClassId) (sa sb : Nat) (h : Nat → Nat) (M : Nat → Nat → Int32) (a0 : Int32) (a1 : Int32) (o : Int32) (hf : f_X6_lostBy a0 a1 M = some o) : cd_Ct l G cI cZ sa sb yX6_lostBy wsX6_lostBy rm_X6_lostBy [.ref (h 0), .int a0, .int a1] ((pc_mod cI cZ h M)) ((pc_mod cI cZ h M)) (some (.int o)) := by
  refine cd_of (cc := cX6_lostBy) (maxL := 6) (ret := (some .int)) (by decide) rfl (Nat.le_of_ble_eq_true rfl) ?_
  intro p e s m ag below meth c A ls Q C0 hl hw hQ
  have C0 : cd_CX G cI cZ sa sb p s m ag meth c cX6_lostBy 6 (some .int) wsX6_lostBy RX6 A := C0
  obtain ⟨⟨hx, hb, hml, hown, hts⟩, hr, hlocks, hA, hE⟩ := id C0
  have hK := hE.1
  have hL0 := hts (.fieldLink RX6 34 "CandleDebtsModel" "burns" "[I") (by decide +kernel)
  have hL1 := hts (.fieldLink RX6 7 "CandleDebtsModel" "book" "[I") (by decide +kernel)
  have hl : lv_has ls 6 [(0, .ref (h 0)), (1, .int a0), (2, .int a1)] := hl
  unfold f_X6_lostBy at hf
  refine lv_iload_n hx hb dX6_lostBy_0 rfl (lv_at hl 1 rfl) ?_
  refine lv_bipush (v := (10 : Int32)) hx hb dX6_lostBy_1 (by decide) ?_
  refine lv_irem hx hb dX6_lostBy_3 (by decide) ?_
  refine lv_istore_n (lv' := [(3, .int (a0 - a0 / (10 : Int32) * (10 : Int32))), (0, .ref (h 0)), (1, .int a0), (2, .int a1)]) hx hb dX6_lostBy_4 rfl hl (by decide) rfl (fun ls hl => ?_)
  refine lv_iload_n hx hb dX6_lostBy_5 rfl (lv_at hl 3 rfl) ?_
  refine lv_iload_n hx hb dX6_lostBy_6 rfl (lv_at hl 2 rfl) ?_
  refine lv_sipush (v := (1000 : Int32)) hx hb dX6_lostBy_7 (by decide) ?_
  refine lv_idiv hx hb dX6_lostBy_10 (by decide) ?_
  refine lv_isub hx hb dX6_lostBy_11 ?_
  refine lv_iload_n hx hb dX6_lostBy_12 rfl (lv_at hl 0 rfl) ?_
  refine lv_ineg hx hb dX6_lostBy_13 ?_
  refine lv_iload_n hx hb dX6_lostBy_14 rfl (lv_at hl 0 rfl) ?_
  obtain ⟨r1, e1, hf⟩ := cd_bind_some hf
  refine cd_callS (As := [.int (a1 - (a0 / (1000 : Int32))), .int (-(a0 - a0 / (10 : Int32) * (10 : Int32))), .int (a0 - a0 / (10 : Int32) * (10 : Int32))]) (rest := []) C0 hw (c_X6_in l G cI cZ sa sb (a1 - (a0 / (1000 : Int32))) (-(a0 - a0 / (10 : Int32) * (10 : Int32))) (a0 - a0 / (10 : Int32) * (10 : Int32)) r1 e1) [] rfl rfl (va_cwS 3 hts gX6_lostBy_X6_in rfl rfl rfl (by decide +kernel) ⟨Nat.le_of_ble_eq_true rfl, Nat.le_of_ble_eq_true rfl⟩) rfl hl.1 (lv_room (Nat.le_of_ble_eq_true rfl)) dX6_lostBy_15 (fun H locs hw => ?_)
  obtain ⟨x2, e2, hf⟩ := cd_bind_some hf
  have K2 : ∀ (ls : Array Slot) (H : Heap) (locs : List Loc), lv_has ls 6 [(0, .ref (h 0)), (2, .int a1)] → cd_WS G A s.heap H locs ((pc_mod cI cZ h M)) → W p l e rm_X6_lostBy s m ag below meth c H locs 0 0 Q (F0 m 33 ls [.int x2]) := by
    intro ls H locs hl hw
    refine lv_istore (lv' := [(4, .int x2), (0, .ref (h 0)), (2, .int a1)]) hx hb dX6_lostBy_33 hl (by decide) rfl (fun ls hl => ?_)
    refine lv_aload_n hx hb dX6_lostBy_35 rfl (lv_at hl 1 rfl) ?_
    refine va_get (D := G) (ci := 6) (v := .ref (h 9)) (C := RX6) (T := TX6) (N := 22) hx hb hts nw_X6_lostBy_X6 hown hK hw.1 0 rfl rfl 16 (by decide) hL0 (fun _ h9 => h9) rfl dX6_lostBy_36 ?_
    refine lv_iload_n hx hb dX6_lostBy_39 rfl (lv_at hl 2 rfl) ?_
    obtain ⟨v3, e3, hf⟩ := cd_bind_some hf
    refine cd_iald hx hb hK hw 9 rfl e3 dX6_lostBy_40 ?_
    refine lv_iload hx hb dX6_lostBy_41 (lv_at hl 0 rfl) ?_
    refine lv_imul hx hb dX6_lostBy_43 ?_
    refine lv_istore (lv' := [(5, .int (v3 * x2)), (4, .int x2), (0, .ref (h 0)), (2, .int a1)]) hx hb dX6_lostBy_44 hl (by decide) rfl (fun ls hl => ?_)
    refine lv_iload hx hb dX6_lostBy_46 (lv_at hl 0 rfl) ?_
    refine lv_aload_n hx hb dX6_lostBy_48 rfl (lv_at hl 2 rfl) ?_
    refine va_get (D := G) (ci := 6) (v := .ref (h 1)) (C := RX6) (T := TX6) (N := 22) hx hb hts nw_X6_lostBy_X6 hown hK hw.1 0 rfl rfl 0 (by decide) hL1 (fun _ h9 => h9) rfl dX6_lostBy_49 ?_
    refine lv_iload_n hx hb dX6_lostBy_52 rfl (lv_at hl 3 rfl) ?_
    obtain ⟨v4, e4, hf⟩ := cd_bind_some hf
    refine cd_iald hx hb hK hw 1 rfl e4 dX6_lostBy_53 ?_
    obtain ⟨x5, e5, hf⟩ := cd_bind_some hf
    have K5 : ∀ (ls : Array Slot) (H : Heap) (locs : List Loc), lv_has ls 6 [] → cd_WS G A s.heap H locs ((pc_mod cI cZ h M)) → W p l e rm_X6_lostBy s m ag below meth c H locs 0 0 Q (F0 m 68 ls [.int x5]) := by
      intro ls H locs hl hw
      have z : some x5 = some o := hf
      cases z
      rw [hQ]
      exact cd_reti C0 hw dX6_lostBy_68
    refine lv_icmp_ge (tgt := 62) hx hb dX6_lostBy_54 (by decide) (fun c5 => ?_) (fun c5 => ?_)
    · have e5 := cd_ite_t c5 e5
      refine lv_aload_n hx hb dX6_lostBy_62 rfl (lv_at hl 2 rfl) ?_
      refine va_get (D := G) (ci := 6) (v := .ref (h 1)) (C := RX6) (T := TX6) (N := 22) hx hb hts nw_X6_lostBy_X6 hown hK hw.1 0 rfl rfl 0 (by decide) hL1 (fun _ h9 => h9) rfl dX6_lostBy_63 ?_
      refine lv_iload_n hx hb dX6_lostBy_66 rfl (lv_at hl 3 rfl) ?_
      obtain ⟨v6, e6, e5⟩ := cd_bind_some e5
      refine cd_iald hx hb hK hw 1 rfl e6 dX6_lostBy_67 ?_
      have z : some v6 = some x5 := e5
      cases z
      exact K5 _ _ _ (lv_sub hl [] rfl) hw
    · have e5 := cd_ite_f c5 e5
      refine lv_iload hx hb dX6_lostBy_57 (lv_at hl 0 rfl) ?_
      refine lv_goto (tgt := 68) hx hb dX6_lostBy_59 (by decide) ?_
      have z : some (v3 * x2) = some x5 := e5
      cases z
      exact K5 _ _ _ (lv_sub hl [] rfl) hw
  refine lv_if_eq (tgt := 31) hx hb dX6_lostBy_18 (by decide) (fun c2 => ?_) (fun c2 => ?_)
  · have e2 := cd_ite_t c2 e2
    refine lv_bipush (v := (60 : Int32)) hx hb dX6_lostBy_31 (by decide) ?_
    have z : some (60 : Int32) = some x2 := e2
    cases z
    exact K2 _ _ _ (lv_sub hl [1, 3] rfl) hw
  · have e2 := cd_ite_f c2 e2
    refine lv_iload_n hx hb dX6_lostBy_21 rfl (lv_at hl 2 rfl) ?_
    refine lv_bipush (v := (10 : Int32)) hx hb dX6_lostBy_22 (by decide) ?_
    refine lv_idiv hx hb dX6_lostBy_24 (by decide) ?_
    refine lv_bipush (v := (100 : Int32)) hx hb dX6_lostBy_25 (by decide) ?_
    refine lv_irem hx hb dX6_lostBy_27 (by decide) ?_
    refine lv_goto (tgt := 33) hx hb dX6_lostBy_28 (by decide) ?_
    have z : some ((a0 / (10 : Int32)) - (a0 / (10 : Int32)) / (100 : Int32) * (100 : Int32)) = some x2 := e2
    cases z
    exact K2 _ _ _ (lv_sub hl [1, 3] rfl) hw
abbrev rm_X6_isSneeze : Room := { frames := 2, cells := 0, slots := 0, locals := 47 }
theorem nw_X6_isSneeze_X6 : ∀ w ∈ u_ws RX6 TX6 22, w ∈ wsX6_isSneeze := by decide +kernel
set_option maxHeartbeats 4000000 in
set_option maxRecDepth 100000 in
theorem c_X6_isSneeze (l : Launch) (G : va_G) (cI cZ : ClassId) (sa sb : Nat) (h : Nat → Nat) (M : Nat → Nat → Int32) (a0 : Int32) (o : Int32) (hf : f_X6_isSneeze a0 M = some o) : cd_Ct l G cI cZ sa sb yX6_isSneeze wsX6_isSneeze rm_X6_isSneeze [.ref (h 0), .int a0] ((pc_mod cI cZ h M)) ((pc_mod cI cZ h M)) (some (.int o)) := by
  refine cd_of (cc := cX6_isSneeze) (maxL := 4) (ret := (some .boolean)) (by decide) rfl (Nat.le_of_ble_eq_true rfl) ?_
  intro p e s m ag below meth c A ls Q C0 hl hw hQ
  have C0 : cd_CX G cI cZ sa sb p s m ag meth c cX6_isSneeze 4 (some .boolean) wsX6_isSneeze RX6 A := C0
  obtain ⟨⟨hx, hb, hml, hown, hts⟩, hr, hlocks, hA, hE⟩ := id C0
  have hK := hE.1
  have hL0 := hts (.fieldLink RX6 167 "CandleDebtsModel" "sights" "I") (by decide +kernel)
  have hL1 := hts (.fieldLink RX6 22 "CandleDebtsModel" "sight" "[I") (by decide +kernel)
  have hl : lv_has ls 4 [(0, .ref (h 0)), (1, .int a0)] := hl
  unfold f_X6_isSneeze at hf
  refine lv_iload_n hx hb dX6_isSneeze_0 rfl (lv_at hl 1 rfl) ?_
  refine lv_sipush (v := (1000 : Int32)) hx hb dX6_isSneeze_1 (by decide) ?_
  refine lv_idiv hx hb dX6_isSneeze_4 (by decide) ?_
  refine lv_iconst (v := (0 : Int32)) hx hb dX6_isSneeze_5 (by decide) ?_
  refine lv_bipush (v := (11 : Int32)) hx hb dX6_isSneeze_6 (by decide) ?_
  obtain ⟨r1, e1, hf⟩ := cd_bind_some hf
  refine cd_callS (As := [.int (a0 / (1000 : Int32)), .int (0 : Int32), .int (11 : Int32)]) (rest := []) C0 hw (c_X6_in l G cI cZ sa sb (a0 / (1000 : Int32)) (0 : Int32) (11 : Int32) r1 e1) [] rfl rfl (va_cwS 3 hts gX6_isSneeze_X6_in rfl rfl rfl (by decide +kernel) ⟨Nat.le_of_ble_eq_true rfl, Nat.le_of_ble_eq_true rfl⟩) rfl hl.1 (lv_room (Nat.le_of_ble_eq_true rfl)) dX6_isSneeze_8 (fun H locs hw => ?_)
  obtain ⟨x2, e2, hf⟩ := cd_bind_some hf
  have K2 : ∀ (ls : Array Slot) (H : Heap) (locs : List Loc), lv_has ls 4 [(0, .ref (h 0)), (1, .int a0)] → cd_WS G A s.heap H locs ((pc_mod cI cZ h M)) → W p l e rm_X6_isSneeze s m ag below meth c H locs 0 0 Q (F0 m 47 ls [.int x2]) := by
    intro ls H locs hl hw
    refine lv_istore_n (lv' := [(2, .int x2), (0, .ref (h 0)), (1, .int a0)]) hx hb dX6_isSneeze_47 rfl hl (by decide) rfl (fun ls hl => ?_)
    refine lv_iconst (v := (0 : Int32)) hx hb dX6_isSneeze_48 (by decide) ?_
    refine lv_istore_n (lv' := [(3, .int (0 : Int32)), (2, .int x2), (0, .ref (h 0)), (1, .int a0)]) hx hb dX6_isSneeze_49 rfl hl (by decide) rfl (fun ls hl => ?_)
    obtain ⟨x3, e3, hf⟩ := cd_bind_some hf
    have K3 : ∀ (t3 : Int32), t3 = x3 → ∀ (ls : Array Slot) (H : Heap) (locs : List Loc), lv_has ls 4 [(2, .int t3)] → cd_WS G A s.heap H locs ((pc_mod cI cZ h M)) → W p l e rm_X6_isSneeze s m ag below meth c H locs 0 0 Q (F0 m 100 ls []) := by
      intro t3 hs_3
      subst hs_3
      intro ls H locs hl hw
      refine lv_iload_n hx hb dX6_isSneeze_100 rfl (lv_at hl 0 rfl) ?_
      obtain ⟨u10, e10, hf⟩ := cd_bind_some hf
      have z : some t3 = some o := hf
      cases z
      rw [hQ]
      exact cd_retz C0 hw (cd_zb_eq e10) dX6_isSneeze_101
    refine cd_iter_ind (body := (f_X6_isSneeze_b50 a0 M)) (K := fun r => r = x3) (P := fun (z3 : Int32 × Int32) => ∀ (ls : Array Slot) (H : Heap) (locs : List Loc), lv_has ls 4 [(0, .ref (h 0)), (1, .int a0), (2, .int z3.1), (3, .int z3.2)] → cd_WS G A s.heap H locs ((pc_mod cI cZ h M)) → W p l e rm_X6_isSneeze s m ag below meth c H locs 0 0 Q (F0 m 50 ls [])) ?_ cd_N (x2, (0 : Int32)) x3 e3 rfl _ _ _ (lv_sub hl [2, 3, 1, 0] rfl) hw
    intro z3 o3 hb3 hk3 ls H locs hl hw
    unfold f_X6_isSneeze_b50 at hb3
    refine lv_iload_n hx hb dX6_isSneeze_50 rfl (lv_at hl 3 rfl) ?_
    refine lv_aload_n hx hb dX6_isSneeze_51 rfl (lv_at hl 0 rfl) ?_
    refine va_get (D := G) (ci := 6) (v := .int (M 4 0)) (C := RX6) (T := TX6) (N := 22) hx hb hts nw_X6_isSneeze_X6 hown hK hw.1 0 rfl rfl 4 (by decide) hL0 (fun _ h9 => h9) rfl dX6_isSneeze_52 ?_
    refine lv_icmp_ge (tgt := 100) hx hb dX6_isSneeze_55 (by decide) (fun c4 => ?_) (fun c4 => ?_)
    · have hb3 := cd_ite_t c4 hb3
      have z : some (Sum.inl z3.1) = some o3 := hb3
      cases z
      exact K3 _ hk3 _ _ _ (lv_sub hl [2] rfl) hw
    · have hb3 := cd_ite_f c4 hb3
      refine lv_iload_n hx hb dX6_isSneeze_58 rfl (lv_at hl 2 rfl) ?_
      refine lv_if_eq (tgt := 100) hx hb dX6_isSneeze_59 (by decide) (fun c5 => ?_) (fun c5 => ?_)
      · have hb3 := cd_ite_t c5 hb3
        have z : some (Sum.inl z3.1) = some o3 := hb3
        cases z
        exact K3 _ hk3 _ _ _ (lv_sub hl [2] rfl) hw
      · have hb3 := cd_ite_f c5 hb3
        refine lv_aload_n hx hb dX6_isSneeze_62 rfl (lv_at hl 0 rfl) ?_
        refine lv_iload_n hx hb dX6_isSneeze_63 rfl (lv_at hl 1 rfl) ?_
        refine lv_aload_n hx hb dX6_isSneeze_64 rfl (lv_at hl 0 rfl) ?_
        refine va_get (D := G) (ci := 6) (v := .ref (h 5)) (C := RX6) (T := TX6) (N := 22) hx hb hts nw_X6_isSneeze_X6 hown hK hw.1 0 rfl rfl 5 (by decide) hL1 (fun _ h9 => h9) rfl dX6_isSneeze_65 ?_
        refine lv_iconst (v := (2 : Int32)) hx hb dX6_isSneeze_68 (by decide) ?_
        refine lv_iload_n hx hb dX6_isSneeze_69 rfl (lv_at hl 3 rfl) ?_
        refine lv_imul hx hb dX6_isSneeze_70 ?_
        obtain ⟨v6, e6, hb3⟩ := cd_bind_some hb3
        refine cd_iald hx hb hK hw 5 rfl e6 dX6_isSneeze_71 ?_
        obtain ⟨r7, e7, hb3⟩ := cd_bind_some hb3
        refine cd_callV (As := [.int a0, .int v6]) (rest := []) C0 hw (c_X6_lostBy l G cI cZ sa sb h M a0 v6 r7 e7) [0, 1, 2, 3, 4, 5, 6, 7, 8, 9, 10, 11, 12, 13, 14] rfl rfl 0 6 rfl rfl rfl (cwV 2 hts gX6_isSneeze_X6_lostBy rfl rfl rfl (by decide +kernel) ⟨Nat.le_of_ble_eq_true rfl, Nat.le_of_ble_eq_true rfl⟩) rfl hl.1 (lv_room (Nat.le_of_ble_eq_true rfl)) dX6_isSneeze_72 (fun H locs hw => ?_)
        refine lv_aload_n hx hb dX6_isSneeze_75 rfl (lv_at hl 0 rfl) ?_
        refine va_get (D := G) (ci := 6) (v := .ref (h 5)) (C := RX6) (T := TX6) (N := 22) hx hb hts nw_X6_isSneeze_X6 hown hK hw.1 0 rfl rfl 5 (by decide) hL1 (fun _ h9 => h9) rfl dX6_isSneeze_76 ?_
        refine lv_iconst (v := (2 : Int32)) hx hb dX6_isSneeze_79 (by decide) ?_
        refine lv_iload_n hx hb dX6_isSneeze_80 rfl (lv_at hl 3 rfl) ?_
        refine lv_imul hx hb dX6_isSneeze_81 ?_
        refine lv_iconst (v := (1 : Int32)) hx hb dX6_isSneeze_82 (by decide) ?_
        refine lv_iadd hx hb dX6_isSneeze_83 ?_
        obtain ⟨v8, e8, hb3⟩ := cd_bind_some hb3
        refine cd_iald hx hb hK hw 5 rfl e8 dX6_isSneeze_84 ?_
        refine lv_icmp_ne (tgt := 92) hx hb dX6_isSneeze_85 (by decide) (fun c9 => ?_) (fun c9 => ?_)
        · have hb3 := cd_ite_f c9 hb3
          refine lv_iconst (v := (0 : Int32)) hx hb dX6_isSneeze_92 (by decide) ?_
          refine lv_istore_n (lv' := [(2, .int (0 : Int32)), (0, .ref (h 0)), (1, .int a0), (3, .int z3.2)]) hx hb dX6_isSneeze_93 rfl hl (by decide) rfl (fun ls hl => ?_)
          refine lv_iinc (v := (z3.2 + (1 : Int32))) (lv' := [(3, .int (z3.2 + (1 : Int32))), (2, .int (0 : Int32)), (0, .ref (h 0)), (1, .int a0)]) hx hb dX6_isSneeze_94 hl (k := 3) rfl rfl (by decide) rfl (fun ls hl => ?_)
          refine lv_goto (tgt := 50) hx hb dX6_isSneeze_97 (by decide) ?_
          have z : some (Sum.inr ((0 : Int32), (z3.2 + (1 : Int32)))) = some o3 := hb3
          cases z
          exact hk3 _ _ _ (lv_sub hl [2, 3, 1, 0] rfl) hw
        · have hb3 := cd_ite_t c9 hb3
          refine lv_iconst (v := (1 : Int32)) hx hb dX6_isSneeze_88 (by decide) ?_
          refine lv_goto (tgt := 93) hx hb dX6_isSneeze_89 (by decide) ?_
          refine lv_istore_n (lv' := [(2, .int (1 : Int32)), (0, .ref (h 0)), (1, .int a0), (3, .int z3.2)]) hx hb dX6_isSneeze_93 rfl hl (by decide) rfl (fun ls hl => ?_)
          refine lv_iinc (v := (z3.2 + (1 : Int32))) (lv' := [(3, .int (z3.2 + (1 : Int32))), (2, .int (1 : Int32)), (0, .ref (h 0)), (1, .int a0)]) hx hb dX6_isSneeze_94 hl (k := 3) rfl rfl (by decide) rfl (fun ls hl => ?_)
          refine lv_goto (tgt := 50) hx hb dX6_isSneeze_97 (by decide) ?_
          have z : some (Sum.inr ((1 : Int32), (z3.2 + (1 : Int32)))) = some o3 := hb3
          cases z
          exact hk3 _ _ _ (lv_sub hl [2, 3, 1, 0] rfl) hw
  refine lv_if_eq (tgt := 46) hx hb dX6_isSneeze_11 (by decide) (fun c2 => ?_) (fun c2 => ?_)
  · have e2 := cd_ite_t c2 e2
    refine lv_iconst (v := (0 : Int32)) hx hb dX6_isSneeze_46 (by decide) ?_
    have z : some (0 : Int32) = some x2 := e2
    cases z
    exact K2 _ _ _ (lv_sub hl [0, 1] rfl) hw
  · have e2 := cd_ite_f c2 e2
    refine lv_iload_n hx hb dX6_isSneeze_14 rfl (lv_at hl 1 rfl) ?_
    refine lv_bipush (v := (10 : Int32)) hx hb dX6_isSneeze_15 (by decide) ?_
    refine lv_idiv hx hb dX6_isSneeze_17 (by decide) ?_
    refine lv_bipush (v := (100 : Int32)) hx hb dX6_isSneeze_18 (by decide) ?_
    refine lv_irem hx hb dX6_isSneeze_20 (by decide) ?_
    refine lv_iconst (v := (0 : Int32)) hx hb dX6_isSneeze_21 (by decide) ?_
    refine lv_bipush (v := (60 : Int32)) hx hb dX6_isSneeze_22 (by decide) ?_
    obtain ⟨r11, e11, e2⟩ := cd_bind_some e2
    refine cd_callS (As := [.int ((a0 / (10 : Int32)) - (a0 / (10 : Int32)) / (100 : Int32) * (100 : Int32)), .int (0 : Int32), .int (60 : Int32)]) (rest := []) C0 hw (c_X6_in l G cI cZ sa sb ((a0 / (10 : Int32)) - (a0 / (10 : Int32)) / (100 : Int32) * (100 : Int32)) (0 : Int32) (60 : Int32) r11 e11) [] rfl rfl (va_cwS 3 hts gX6_isSneeze_X6_in rfl rfl rfl (by decide +kernel) ⟨Nat.le_of_ble_eq_true rfl, Nat.le_of_ble_eq_true rfl⟩) rfl hl.1 (lv_room (Nat.le_of_ble_eq_true rfl)) dX6_isSneeze_24 (fun H locs hw => ?_)
    refine lv_if_eq (tgt := 46) hx hb dX6_isSneeze_27 (by decide) (fun c12 => ?_) (fun c12 => ?_)
    · have e2 := cd_ite_t c12 e2
      refine lv_iconst (v := (0 : Int32)) hx hb dX6_isSneeze_46 (by decide) ?_
      have z : some (0 : Int32) = some x2 := e2
      cases z
      exact K2 _ _ _ (lv_sub hl [0, 1] rfl) hw
    · have e2 := cd_ite_f c12 e2
      refine lv_iload_n hx hb dX6_isSneeze_30 rfl (lv_at hl 1 rfl) ?_
      refine lv_bipush (v := (10 : Int32)) hx hb dX6_isSneeze_31 (by decide) ?_
      refine lv_irem hx hb dX6_isSneeze_33 (by decide) ?_
      refine lv_iconst (v := (0 : Int32)) hx hb dX6_isSneeze_34 (by decide) ?_
      refine lv_iconst (v := (3 : Int32)) hx hb dX6_isSneeze_35 (by decide) ?_
      obtain ⟨r13, e13, e2⟩ := cd_bind_some e2
      refine cd_callS (As := [.int (a0 - a0 / (10 : Int32) * (10 : Int32)), .int (0 : Int32), .int (3 : Int32)]) (rest := []) C0 hw (c_X6_in l G cI cZ sa sb (a0 - a0 / (10 : Int32) * (10 : Int32)) (0 : Int32) (3 : Int32) r13 e13) [] rfl rfl (va_cwS 3 hts gX6_isSneeze_X6_in rfl rfl rfl (by decide +kernel) ⟨Nat.le_of_ble_eq_true rfl, Nat.le_of_ble_eq_true rfl⟩) rfl hl.1 (lv_room (Nat.le_of_ble_eq_true rfl)) dX6_isSneeze_36 (fun H locs hw => ?_)
      refine lv_if_eq (tgt := 46) hx hb dX6_isSneeze_39 (by decide) (fun c14 => ?_) (fun c14 => ?_)
      · have e2 := cd_ite_t c14 e2
        refine lv_iconst (v := (0 : Int32)) hx hb dX6_isSneeze_46 (by decide) ?_
        have z : some (0 : Int32) = some x2 := e2
        cases z
        exact K2 _ _ _ (lv_sub hl [0, 1] rfl) hw
      · have e2 := cd_ite_f c14 e2
        refine lv_iconst (v := (1 : Int32)) hx hb dX6_isSneeze_42 (by decide) ?_
        refine lv_goto (tgt := 47) hx hb dX6_isSneeze_43 (by decide) ?_
        have z : some (1 : Int32) = some x2 := e2
        cases z
        exact K2 _ _ _ (lv_sub hl [0, 1] rfl) hw
abbrev rm_X6_joined : Room := { frames := 2, cells := 0, slots := 0, locals := 42 }
theorem nw_X6_joined_X6 : ∀ w ∈ u_ws RX6 TX6 22, w ∈ wsX6_joined := by decide +kernel
set_option maxHeartbeats 4000000 in
set_option maxRecDepth 100000 in
theorem c_X6_joined (l : Launch) (G : va_G) (cI cZ : ClassId) (sa sb : Nat) (h : Nat → Nat) (M : Nat → Nat → Int32) (a0 : Int32) (o : Int32) (hf : f_X6_joined a0 M = some o) : cd_Ct l G cI cZ sa sb yX6_joined wsX6_joined rm_X6_joined [.ref (h 0), .int a0] ((pc_mod cI cZ h M)) ((pc_mod cI cZ h M)) (some (.int o)) := by
  refine cd_of (cc := cX6_joined) (maxL := 2) (ret := (some .int)) (by decide) rfl (Nat.le_of_ble_eq_true rfl) ?_
  intro p e s m ag below meth c A ls Q C0 hl hw hQ
  have C0 : cd_CX G cI cZ sa sb p s m ag meth c cX6_joined 2 (some .int) wsX6_joined RX6 A := C0
  obtain ⟨⟨hx, hb, hml, hown, hts⟩, hr, hlocks, hA, hE⟩ := id C0
  have hK := hE.1
  have hL0 := hts (.fieldLink RX6 7 "CandleDebtsModel" "book" "[I") (by decide +kernel)
  have hl : lv_has ls 2 [(0, .ref (h 0)), (1, .int a0)] := hl
  unfold f_X6_joined at hf
  refine lv_iload_n hx hb dX6_joined_0 rfl (lv_at hl 1 rfl) ?_
  obtain ⟨r1, e1, hf⟩ := cd_bind_some hf
  refine cd_callS (As := [.int a0]) (rest := []) C0 hw (c_X6_isCandle l G cI cZ sa sb a0 r1 e1) [] rfl rfl (va_cwS 1 hts gX6_joined_X6_isCandle rfl rfl rfl (by decide +kernel) ⟨Nat.le_of_ble_eq_true rfl, Nat.le_of_ble_eq_true rfl⟩) rfl hl.1 (lv_room (Nat.le_of_ble_eq_true rfl)) dX6_joined_1 (fun H locs hw => ?_)
  obtain ⟨x2, e2, hf⟩ := cd_bind_some hf
  have K2 : ∀ (ls : Array Slot) (H : Heap) (locs : List Loc), lv_has ls 2 [] → cd_WS G A s.heap H locs ((pc_mod cI cZ h M)) → W p l e rm_X6_joined s m ag below meth c H locs 0 0 Q (F0 m 26 ls [.int x2]) := by
    intro ls H locs hl hw
    have z : some x2 = some o := hf
    cases z
    rw [hQ]
    exact cd_reti C0 hw dX6_joined_26
  refine lv_if_eq (tgt := 25) hx hb dX6_joined_4 (by decide) (fun c2 => ?_) (fun c2 => ?_)
  · have e2 := cd_ite_t c2 e2
    refine lv_iconst (v := (-1 : Int32)) hx hb dX6_joined_25 (by decide) ?_
    have z : some (-1 : Int32) = some x2 := e2
    cases z
    exact K2 _ _ _ (lv_sub hl [] rfl) hw
  · have e2 := cd_ite_f c2 e2
    refine lv_aload_n hx hb dX6_joined_7 rfl (lv_at hl 0 rfl) ?_
    refine va_get (D := G) (ci := 6) (v := .ref (h 1)) (C := RX6) (T := TX6) (N := 22) hx hb hts nw_X6_joined_X6 hown hK hw.1 0 rfl rfl 0 (by decide) hL0 (fun _ h9 => h9) rfl dX6_joined_8 ?_
    refine lv_bipush (v := (48 : Int32)) hx hb dX6_joined_11 (by decide) ?_
    refine lv_iload_n hx hb dX6_joined_13 rfl (lv_at hl 1 rfl) ?_
    refine lv_iadd hx hb dX6_joined_14 ?_
    obtain ⟨v3, e3, e2⟩ := cd_bind_some e2
    refine cd_iald hx hb hK hw 1 rfl e3 dX6_joined_15 ?_
    refine lv_iconst (v := (1 : Int32)) hx hb dX6_joined_16 (by decide) ?_
    refine lv_iload_n hx hb dX6_joined_17 rfl (lv_at hl 1 rfl) ?_
    refine lv_ishl hx hb dX6_joined_18 ?_
    refine lv_iconst (v := (-1 : Int32)) hx hb dX6_joined_19 (by decide) ?_
    refine lv_ixor hx hb dX6_joined_20 ?_
    refine lv_iand hx hb dX6_joined_21 ?_
    refine lv_goto (tgt := 26) hx hb dX6_joined_22 (by decide) ?_
    have z : some (v3 &&& (((1 : Int32) <<< (a0 &&& 31)) ^^^ (-1 : Int32))) = some x2 := e2
    cases z
    exact K2 _ _ _ (lv_sub hl [] rfl) hw
abbrev rm_X6_jubilee : Room := { frames := 1, cells := 0, slots := 0, locals := 22 }
theorem nw_X6_jubilee_X6 : ∀ w ∈ u_ws RX6 TX6 22, w ∈ wsX6_jubilee := by decide +kernel
set_option maxHeartbeats 4000000 in
set_option maxRecDepth 100000 in
theorem c_X6_jubilee (l : Launch) (G : va_G) (cI cZ : ClassId) (sa sb : Nat) (h : Nat → Nat) (M : Nat → Nat → Int32) (a0 : Int32) (o : Int32) (hf : f_X6_jubilee a0 M = some o) : cd_Ct l G cI cZ sa sb yX6_jubilee wsX6_jubilee rm_X6_jubilee [.ref (h 0), .int a0] ((pc_mod cI cZ h M)) ((pc_mod cI cZ h M)) (some (.int o)) := by
  refine cd_of (cc := cX6_jubilee) (maxL := 6) (ret := (some .int)) (by decide) rfl (Nat.le_of_ble_eq_true rfl) ?_
  intro p e s m ag below meth c A ls Q C0 hl hw hQ
  have C0 : cd_CX G cI cZ sa sb p s m ag meth c cX6_jubilee 6 (some .int) wsX6_jubilee RX6 A := C0
  obtain ⟨⟨hx, hb, hml, hown, hts⟩, hr, hlocks, hA, hE⟩ := id C0
  have hK := hE.1
  have hL0 := hts (.fieldLink RX6 7 "CandleDebtsModel" "book" "[I") (by decide +kernel)
  have hl : lv_has ls 6 [(0, .ref (h 0)), (1, .int a0)] := hl
  unfold f_X6_jubilee at hf
  refine lv_iload_n hx hb dX6_jubilee_0 rfl (lv_at hl 1 rfl) ?_
  refine lv_iconst (v := (0 : Int32)) hx hb dX6_jubilee_1 (by decide) ?_
  refine lv_sipush (v := (4095 : Int32)) hx hb dX6_jubilee_2 (by decide) ?_
  obtain ⟨r1, e1, hf⟩ := cd_bind_some hf
  refine cd_callS (As := [.int a0, .int (0 : Int32), .int (4095 : Int32)]) (rest := []) C0 hw (c_X6_in l G cI cZ sa sb a0 (0 : Int32) (4095 : Int32) r1 e1) [] rfl rfl (va_cwS 3 hts gX6_jubilee_X6_in rfl rfl rfl (by decide +kernel) ⟨Nat.le_of_ble_eq_true rfl, Nat.le_of_ble_eq_true rfl⟩) rfl hl.1 (lv_room (Nat.le_of_ble_eq_true rfl)) dX6_jubilee_5 (fun H locs hw => ?_)
  refine lv_if_ne (tgt := 14) hx hb dX6_jubilee_8 (by decide) (fun c2 => ?_) (fun c2 => ?_)
  · have hf := cd_ite_f c2 hf
    refine lv_iconst (v := (0 : Int32)) hx hb dX6_jubilee_14 (by decide) ?_
    refine lv_istore_n (lv' := [(2, .int (0 : Int32)), (0, .ref (h 0)), (1, .int a0)]) hx hb dX6_jubilee_15 rfl hl (by decide) rfl (fun ls hl => ?_)
    refine lv_iconst (v := (0 : Int32)) hx hb dX6_jubilee_16 (by decide) ?_
    refine lv_istore_n (lv' := [(3, .int (0 : Int32)), (2, .int (0 : Int32)), (0, .ref (h 0)), (1, .int a0)]) hx hb dX6_jubilee_17 rfl hl (by decide) rfl (fun ls hl => ?_)
    refine lv_iconst (v := (0 : Int32)) hx hb dX6_jubilee_18 (by decide) ?_
    refine lv_istore (lv' := [(4, .int (0 : Int32)), (3, .int (0 : Int32)), (2, .int (0 : Int32)), (0, .ref (h 0)), (1, .int a0)]) hx hb dX6_jubilee_19 hl (by decide) rfl (fun ls hl => ?_)
    refine lv_iconst (v := (0 : Int32)) hx hb dX6_jubilee_21 (by decide) ?_
    refine lv_istore (lv' := [(5, .int (0 : Int32)), (4, .int (0 : Int32)), (3, .int (0 : Int32)), (2, .int (0 : Int32)), (0, .ref (h 0)), (1, .int a0)]) hx hb dX6_jubilee_22 hl (by decide) rfl (fun ls hl => ?_)
    obtain ⟨x3, e3, hf⟩ := cd_bind_some hf
    have K3 : ∀ (t3 : Int32), Sum.inr t3 = x3 → ∀ (ls : Array Slot) (H : Heap) (locs : List Loc), lv_has ls 6 [(2, .int t3)] → cd_WS G A s.heap H locs ((pc_mod cI cZ h M)) → W p l e rm_X6_jubilee s m ag below meth c H locs 0 0 Q (F0 m 144 ls []) := by
      intro t3 hs_3
      subst hs_3
      intro ls H locs hl hw
      refine lv_iload_n hx hb dX6_jubilee_144 rfl (lv_at hl 0 rfl) ?_
      have z : some t3 = some o := hf
      cases z
      rw [hQ]
      exact cd_reti C0 hw dX6_jubilee_145
    refine cd_iter_ind (body := (f_X6_jubilee_b24 a0 M)) (K := fun r => r = x3) (P := fun (z3 : Int32 × Int32 × Int32 × Int32) => ∀ (ls : Array Slot) (H : Heap) (locs : List Loc), lv_has ls 6 [(0, .ref (h 0)), (1, .int a0), (2, .int z3.1), (3, .int z3.2.1), (4, .int z3.2.2.1), (5, .int z3.2.2.2)] → cd_WS G A s.heap H locs ((pc_mod cI cZ h M)) → W p l e rm_X6_jubilee s m ag below meth c H locs 0 0 Q (F0 m 24 ls [])) ?_ cd_N ((0 : Int32), (0 : Int32), (0 : Int32), (0 : Int32)) x3 e3 rfl _ _ _ (lv_sub hl [4, 5, 3, 2, 1, 0] rfl) hw
    intro z3 o3 hb3 hk3 ls H locs hl hw
    unfold f_X6_jubilee_b24 at hb3
    refine lv_iload hx hb dX6_jubilee_24 (lv_at hl 5 rfl) ?_
    refine lv_bipush (v := (13 : Int32)) hx hb dX6_jubilee_26 (by decide) ?_
    refine lv_icmp_ge (tgt := 144) hx hb dX6_jubilee_28 (by decide) (fun c4 => ?_) (fun c4 => ?_)
    · have hb3 := cd_ite_t c4 hb3
      have z : some (Sum.inl (Sum.inr z3.1)) = some o3 := hb3
      cases z
      exact K3 _ hk3 _ _ _ (lv_sub hl [2] rfl) hw
    · have hb3 := cd_ite_f c4 hb3
      refine lv_iload hx hb dX6_jubilee_31 (lv_at hl 5 rfl) ?_
      refine lv_bipush (v := (12 : Int32)) hx hb dX6_jubilee_33 (by decide) ?_
      refine lv_icmp_ge (tgt := 97) hx hb dX6_jubilee_35 (by decide) (fun c5 => ?_) (fun c5 => ?_)
      · have hb3 := cd_ite_t c5 hb3
        refine lv_iload hx hb dX6_jubilee_97 (lv_at hl 5 rfl) ?_
        refine lv_bipush (v := (12 : Int32)) hx hb dX6_jubilee_99 (by decide) ?_
        refine lv_icmp_ge (tgt := 116) hx hb dX6_jubilee_101 (by decide) (fun c6 => ?_) (fun c6 => ?_)
        · have hb3 := cd_ite_t c6 hb3
          refine lv_iload_n hx hb dX6_jubilee_116 rfl (lv_at hl 2 rfl) ?_
          refine lv_iload_n hx hb dX6_jubilee_117 rfl (lv_at hl 3 rfl) ?_
          obtain ⟨x7, e7, hb3⟩ := cd_bind_some hb3
          have K7 : ∀ (ls : Array Slot) (H : Heap) (locs : List Loc), lv_has ls 6 [(0, .ref (h 0)), (1, .int a0), (5, .int z3.2.2.2)] → cd_WS G A s.heap H locs ((pc_mod cI cZ h M)) → W p l e rm_X6_jubilee s m ag below meth c H locs 0 0 Q (F0 m 131 ls [.int x7, .int z3.1]) := by
            intro ls H locs hl hw
            refine lv_iadd hx hb dX6_jubilee_131 ?_
            refine lv_istore_n (lv' := [(2, .int (z3.1 + x7)), (0, .ref (h 0)), (1, .int a0), (5, .int z3.2.2.2)]) hx hb dX6_jubilee_132 rfl hl (by decide) rfl (fun ls hl => ?_)
            refine lv_iconst (v := (0 : Int32)) hx hb dX6_jubilee_133 (by decide) ?_
            refine lv_istore_n (lv' := [(3, .int (0 : Int32)), (2, .int (z3.1 + x7)), (0, .ref (h 0)), (1, .int a0), (5, .int z3.2.2.2)]) hx hb dX6_jubilee_134 rfl hl (by decide) rfl (fun ls hl => ?_)
            refine lv_iconst (v := (0 : Int32)) hx hb dX6_jubilee_135 (by decide) ?_
            refine lv_istore (lv' := [(4, .int (0 : Int32)), (3, .int (0 : Int32)), (2, .int (z3.1 + x7)), (0, .ref (h 0)), (1, .int a0), (5, .int z3.2.2.2)]) hx hb dX6_jubilee_136 hl (by decide) rfl (fun ls hl => ?_)
            refine lv_iinc (v := (z3.2.2.2 + (1 : Int32))) (lv' := [(5, .int (z3.2.2.2 + (1 : Int32))), (4, .int (0 : Int32)), (3, .int (0 : Int32)), (2, .int (z3.1 + x7)), (0, .ref (h 0)), (1, .int a0)]) hx hb dX6_jubilee_138 hl (k := 5) rfl rfl (by decide) rfl (fun ls hl => ?_)
            refine lv_goto (tgt := 24) hx hb dX6_jubilee_141 (by decide) ?_
            have z : some (Sum.inr ((z3.1 + x7), (0 : Int32), (0 : Int32), (z3.2.2.2 + (1 : Int32)))) = some o3 := hb3
            cases z
            exact hk3 _ _ _ (lv_sub hl [4, 5, 3, 2, 1, 0] rfl) hw
          refine lv_if_eq (tgt := 130) hx hb dX6_jubilee_118 (by decide) (fun c7 => ?_) (fun c7 => ?_)
          · have e7 := cd_ite_t c7 e7
            refine lv_iconst (v := (0 : Int32)) hx hb dX6_jubilee_130 (by decide) ?_
            have z : some (0 : Int32) = some x7 := e7
            cases z
            exact K7 _ _ _ (lv_sub hl [0, 1, 5] rfl) hw
          · have e7 := cd_ite_f c7 e7
            refine lv_iload hx hb dX6_jubilee_121 (lv_at hl 4 rfl) ?_
            refine lv_if_ne (tgt := 130) hx hb dX6_jubilee_123 (by decide) (fun c8 => ?_) (fun c8 => ?_)
            · have e7 := cd_ite_f c8 e7
              refine lv_iconst (v := (0 : Int32)) hx hb dX6_jubilee_130 (by decide) ?_
              have z : some (0 : Int32) = some x7 := e7
              cases z
              exact K7 _ _ _ (lv_sub hl [0, 1, 5] rfl) hw
            · have e7 := cd_ite_t c8 e7
              refine lv_iconst (v := (1 : Int32)) hx hb dX6_jubilee_126 (by decide) ?_
              refine lv_goto (tgt := 131) hx hb dX6_jubilee_127 (by decide) ?_
              have z : some (1 : Int32) = some x7 := e7
              cases z
              exact K7 _ _ _ (lv_sub hl [0, 1, 5] rfl) hw
        · have hb3 := cd_ite_f c6 hb3
          refine lv_iload_n hx hb dX6_jubilee_104 rfl (lv_at hl 1 rfl) ?_
          refine lv_iload hx hb dX6_jubilee_105 (lv_at hl 5 rfl) ?_
          obtain ⟨r9, e9, hb3⟩ := cd_bind_some hb3
          refine cd_callS (As := [.int a0, .int z3.2.2.2]) (rest := []) C0 hw (c_X6_isIn l G cI cZ sa sb a0 z3.2.2.2 r9 e9) [] rfl rfl (va_cwS 2 hts gX6_jubilee_X6_isIn rfl rfl rfl (by decide +kernel) ⟨Nat.le_of_ble_eq_true rfl, Nat.le_of_ble_eq_true rfl⟩) rfl hl.1 (lv_room (Nat.le_of_ble_eq_true rfl)) dX6_jubilee_107 (fun H locs hw => ?_)
          refine lv_if_eq (tgt := 116) hx hb dX6_jubilee_110 (by decide) (fun c10 => ?_) (fun c10 => ?_)
          · have hb3 := cd_ite_t c10 hb3
            refine lv_iload_n hx hb dX6_jubilee_116 rfl (lv_at hl 2 rfl) ?_
            refine lv_iload_n hx hb dX6_jubilee_117 rfl (lv_at hl 3 rfl) ?_
            obtain ⟨x11, e11, hb3⟩ := cd_bind_some hb3
            have K11 : ∀ (ls : Array Slot) (H : Heap) (locs : List Loc), lv_has ls 6 [(0, .ref (h 0)), (1, .int a0), (5, .int z3.2.2.2)] → cd_WS G A s.heap H locs ((pc_mod cI cZ h M)) → W p l e rm_X6_jubilee s m ag below meth c H locs 0 0 Q (F0 m 131 ls [.int x11, .int z3.1]) := by
              intro ls H locs hl hw
              refine lv_iadd hx hb dX6_jubilee_131 ?_
              refine lv_istore_n (lv' := [(2, .int (z3.1 + x11)), (0, .ref (h 0)), (1, .int a0), (5, .int z3.2.2.2)]) hx hb dX6_jubilee_132 rfl hl (by decide) rfl (fun ls hl => ?_)
              refine lv_iconst (v := (0 : Int32)) hx hb dX6_jubilee_133 (by decide) ?_
              refine lv_istore_n (lv' := [(3, .int (0 : Int32)), (2, .int (z3.1 + x11)), (0, .ref (h 0)), (1, .int a0), (5, .int z3.2.2.2)]) hx hb dX6_jubilee_134 rfl hl (by decide) rfl (fun ls hl => ?_)
              refine lv_iconst (v := (0 : Int32)) hx hb dX6_jubilee_135 (by decide) ?_
              refine lv_istore (lv' := [(4, .int (0 : Int32)), (3, .int (0 : Int32)), (2, .int (z3.1 + x11)), (0, .ref (h 0)), (1, .int a0), (5, .int z3.2.2.2)]) hx hb dX6_jubilee_136 hl (by decide) rfl (fun ls hl => ?_)
              refine lv_iinc (v := (z3.2.2.2 + (1 : Int32))) (lv' := [(5, .int (z3.2.2.2 + (1 : Int32))), (4, .int (0 : Int32)), (3, .int (0 : Int32)), (2, .int (z3.1 + x11)), (0, .ref (h 0)), (1, .int a0)]) hx hb dX6_jubilee_138 hl (k := 5) rfl rfl (by decide) rfl (fun ls hl => ?_)
              refine lv_goto (tgt := 24) hx hb dX6_jubilee_141 (by decide) ?_
              have z : some (Sum.inr ((z3.1 + x11), (0 : Int32), (0 : Int32), (z3.2.2.2 + (1 : Int32)))) = some o3 := hb3
              cases z
              exact hk3 _ _ _ (lv_sub hl [4, 5, 3, 2, 1, 0] rfl) hw
            refine lv_if_eq (tgt := 130) hx hb dX6_jubilee_118 (by decide) (fun c11 => ?_) (fun c11 => ?_)
            · have e11 := cd_ite_t c11 e11
              refine lv_iconst (v := (0 : Int32)) hx hb dX6_jubilee_130 (by decide) ?_
              have z : some (0 : Int32) = some x11 := e11
              cases z
              exact K11 _ _ _ (lv_sub hl [0, 1, 5] rfl) hw
            · have e11 := cd_ite_f c11 e11
              refine lv_iload hx hb dX6_jubilee_121 (lv_at hl 4 rfl) ?_
              refine lv_if_ne (tgt := 130) hx hb dX6_jubilee_123 (by decide) (fun c12 => ?_) (fun c12 => ?_)
              · have e11 := cd_ite_f c12 e11
                refine lv_iconst (v := (0 : Int32)) hx hb dX6_jubilee_130 (by decide) ?_
                have z : some (0 : Int32) = some x11 := e11
                cases z
                exact K11 _ _ _ (lv_sub hl [0, 1, 5] rfl) hw
              · have e11 := cd_ite_t c12 e11
                refine lv_iconst (v := (1 : Int32)) hx hb dX6_jubilee_126 (by decide) ?_
                refine lv_goto (tgt := 131) hx hb dX6_jubilee_127 (by decide) ?_
                have z : some (1 : Int32) = some x11 := e11
                cases z
                exact K11 _ _ _ (lv_sub hl [0, 1, 5] rfl) hw
          · have hb3 := cd_ite_f c10 hb3
            refine lv_bipush (v := (-6 : Int32)) hx hb dX6_jubilee_113 (by decide) ?_
            have z : some (Sum.inl (Sum.inl (-6 : Int32))) = some o3 := hb3
            cases z
            have y3 : Sum.inl (-6 : Int32) = x3 := hk3
            subst y3
            have z : some (-6 : Int32) = some o := hf
            cases z
            rw [hQ]
            exact cd_reti C0 hw dX6_jubilee_115
      · have hb3 := cd_ite_f c5 hb3
        refine lv_aload_n hx hb dX6_jubilee_38 rfl (lv_at hl 0 rfl) ?_
        refine va_get (D := G) (ci := 6) (v := .ref (h 1)) (C := RX6) (T := TX6) (N := 22) hx hb hts nw_X6_jubilee_X6 hown hK hw.1 0 rfl rfl 0 (by decide) hL0 (fun _ h9 => h9) rfl dX6_jubilee_39 ?_
        refine lv_iload hx hb dX6_jubilee_42 (lv_at hl 5 rfl) ?_
        obtain ⟨v13, e13, hb3⟩ := cd_bind_some hb3
        refine cd_iald hx hb hK hw 1 rfl e13 dX6_jubilee_44 ?_
        refine lv_if_le (tgt := 97) hx hb dX6_jubilee_45 (by decide) (fun c14 => ?_) (fun c14 => ?_)
        · have hb3 := cd_ite_t c14 hb3
          refine lv_iload hx hb dX6_jubilee_97 (lv_at hl 5 rfl) ?_
          refine lv_bipush (v := (12 : Int32)) hx hb dX6_jubilee_99 (by decide) ?_
          refine lv_icmp_ge (tgt := 116) hx hb dX6_jubilee_101 (by decide) (fun c15 => ?_) (fun c15 => ?_)
          · have hb3 := cd_ite_t c15 hb3
            refine lv_iload_n hx hb dX6_jubilee_116 rfl (lv_at hl 2 rfl) ?_
            refine lv_iload_n hx hb dX6_jubilee_117 rfl (lv_at hl 3 rfl) ?_
            obtain ⟨x16, e16, hb3⟩ := cd_bind_some hb3
            have K16 : ∀ (ls : Array Slot) (H : Heap) (locs : List Loc), lv_has ls 6 [(0, .ref (h 0)), (1, .int a0), (5, .int z3.2.2.2)] → cd_WS G A s.heap H locs ((pc_mod cI cZ h M)) → W p l e rm_X6_jubilee s m ag below meth c H locs 0 0 Q (F0 m 131 ls [.int x16, .int z3.1]) := by
              intro ls H locs hl hw
              refine lv_iadd hx hb dX6_jubilee_131 ?_
              refine lv_istore_n (lv' := [(2, .int (z3.1 + x16)), (0, .ref (h 0)), (1, .int a0), (5, .int z3.2.2.2)]) hx hb dX6_jubilee_132 rfl hl (by decide) rfl (fun ls hl => ?_)
              refine lv_iconst (v := (0 : Int32)) hx hb dX6_jubilee_133 (by decide) ?_
              refine lv_istore_n (lv' := [(3, .int (0 : Int32)), (2, .int (z3.1 + x16)), (0, .ref (h 0)), (1, .int a0), (5, .int z3.2.2.2)]) hx hb dX6_jubilee_134 rfl hl (by decide) rfl (fun ls hl => ?_)
              refine lv_iconst (v := (0 : Int32)) hx hb dX6_jubilee_135 (by decide) ?_
              refine lv_istore (lv' := [(4, .int (0 : Int32)), (3, .int (0 : Int32)), (2, .int (z3.1 + x16)), (0, .ref (h 0)), (1, .int a0), (5, .int z3.2.2.2)]) hx hb dX6_jubilee_136 hl (by decide) rfl (fun ls hl => ?_)
              refine lv_iinc (v := (z3.2.2.2 + (1 : Int32))) (lv' := [(5, .int (z3.2.2.2 + (1 : Int32))), (4, .int (0 : Int32)), (3, .int (0 : Int32)), (2, .int (z3.1 + x16)), (0, .ref (h 0)), (1, .int a0)]) hx hb dX6_jubilee_138 hl (k := 5) rfl rfl (by decide) rfl (fun ls hl => ?_)
              refine lv_goto (tgt := 24) hx hb dX6_jubilee_141 (by decide) ?_
              have z : some (Sum.inr ((z3.1 + x16), (0 : Int32), (0 : Int32), (z3.2.2.2 + (1 : Int32)))) = some o3 := hb3
              cases z
              exact hk3 _ _ _ (lv_sub hl [4, 5, 3, 2, 1, 0] rfl) hw
            refine lv_if_eq (tgt := 130) hx hb dX6_jubilee_118 (by decide) (fun c16 => ?_) (fun c16 => ?_)
            · have e16 := cd_ite_t c16 e16
              refine lv_iconst (v := (0 : Int32)) hx hb dX6_jubilee_130 (by decide) ?_
              have z : some (0 : Int32) = some x16 := e16
              cases z
              exact K16 _ _ _ (lv_sub hl [0, 1, 5] rfl) hw
            · have e16 := cd_ite_f c16 e16
              refine lv_iload hx hb dX6_jubilee_121 (lv_at hl 4 rfl) ?_
              refine lv_if_ne (tgt := 130) hx hb dX6_jubilee_123 (by decide) (fun c17 => ?_) (fun c17 => ?_)
              · have e16 := cd_ite_f c17 e16
                refine lv_iconst (v := (0 : Int32)) hx hb dX6_jubilee_130 (by decide) ?_
                have z : some (0 : Int32) = some x16 := e16
                cases z
                exact K16 _ _ _ (lv_sub hl [0, 1, 5] rfl) hw
              · have e16 := cd_ite_t c17 e16
                refine lv_iconst (v := (1 : Int32)) hx hb dX6_jubilee_126 (by decide) ?_
                refine lv_goto (tgt := 131) hx hb dX6_jubilee_127 (by decide) ?_
                have z : some (1 : Int32) = some x16 := e16
                cases z
                exact K16 _ _ _ (lv_sub hl [0, 1, 5] rfl) hw
          · have hb3 := cd_ite_f c15 hb3
            refine lv_iload_n hx hb dX6_jubilee_104 rfl (lv_at hl 1 rfl) ?_
            refine lv_iload hx hb dX6_jubilee_105 (lv_at hl 5 rfl) ?_
            obtain ⟨r18, e18, hb3⟩ := cd_bind_some hb3
            refine cd_callS (As := [.int a0, .int z3.2.2.2]) (rest := []) C0 hw (c_X6_isIn l G cI cZ sa sb a0 z3.2.2.2 r18 e18) [] rfl rfl (va_cwS 2 hts gX6_jubilee_X6_isIn rfl rfl rfl (by decide +kernel) ⟨Nat.le_of_ble_eq_true rfl, Nat.le_of_ble_eq_true rfl⟩) rfl hl.1 (lv_room (Nat.le_of_ble_eq_true rfl)) dX6_jubilee_107 (fun H locs hw => ?_)
            refine lv_if_eq (tgt := 116) hx hb dX6_jubilee_110 (by decide) (fun c19 => ?_) (fun c19 => ?_)
            · have hb3 := cd_ite_t c19 hb3
              refine lv_iload_n hx hb dX6_jubilee_116 rfl (lv_at hl 2 rfl) ?_
              refine lv_iload_n hx hb dX6_jubilee_117 rfl (lv_at hl 3 rfl) ?_
              obtain ⟨x20, e20, hb3⟩ := cd_bind_some hb3
              have K20 : ∀ (ls : Array Slot) (H : Heap) (locs : List Loc), lv_has ls 6 [(0, .ref (h 0)), (1, .int a0), (5, .int z3.2.2.2)] → cd_WS G A s.heap H locs ((pc_mod cI cZ h M)) → W p l e rm_X6_jubilee s m ag below meth c H locs 0 0 Q (F0 m 131 ls [.int x20, .int z3.1]) := by
                intro ls H locs hl hw
                refine lv_iadd hx hb dX6_jubilee_131 ?_
                refine lv_istore_n (lv' := [(2, .int (z3.1 + x20)), (0, .ref (h 0)), (1, .int a0), (5, .int z3.2.2.2)]) hx hb dX6_jubilee_132 rfl hl (by decide) rfl (fun ls hl => ?_)
                refine lv_iconst (v := (0 : Int32)) hx hb dX6_jubilee_133 (by decide) ?_
                refine lv_istore_n (lv' := [(3, .int (0 : Int32)), (2, .int (z3.1 + x20)), (0, .ref (h 0)), (1, .int a0), (5, .int z3.2.2.2)]) hx hb dX6_jubilee_134 rfl hl (by decide) rfl (fun ls hl => ?_)
                refine lv_iconst (v := (0 : Int32)) hx hb dX6_jubilee_135 (by decide) ?_
                refine lv_istore (lv' := [(4, .int (0 : Int32)), (3, .int (0 : Int32)), (2, .int (z3.1 + x20)), (0, .ref (h 0)), (1, .int a0), (5, .int z3.2.2.2)]) hx hb dX6_jubilee_136 hl (by decide) rfl (fun ls hl => ?_)
                refine lv_iinc (v := (z3.2.2.2 + (1 : Int32))) (lv' := [(5, .int (z3.2.2.2 + (1 : Int32))), (4, .int (0 : Int32)), (3, .int (0 : Int32)), (2, .int (z3.1 + x20)), (0, .ref (h 0)), (1, .int a0)]) hx hb dX6_jubilee_138 hl (k := 5) rfl rfl (by decide) rfl (fun ls hl => ?_)
                refine lv_goto (tgt := 24) hx hb dX6_jubilee_141 (by decide) ?_
                have z : some (Sum.inr ((z3.1 + x20), (0 : Int32), (0 : Int32), (z3.2.2.2 + (1 : Int32)))) = some o3 := hb3
                cases z
                exact hk3 _ _ _ (lv_sub hl [4, 5, 3, 2, 1, 0] rfl) hw
              refine lv_if_eq (tgt := 130) hx hb dX6_jubilee_118 (by decide) (fun c20 => ?_) (fun c20 => ?_)
              · have e20 := cd_ite_t c20 e20
                refine lv_iconst (v := (0 : Int32)) hx hb dX6_jubilee_130 (by decide) ?_
                have z : some (0 : Int32) = some x20 := e20
                cases z
                exact K20 _ _ _ (lv_sub hl [0, 1, 5] rfl) hw
              · have e20 := cd_ite_f c20 e20
                refine lv_iload hx hb dX6_jubilee_121 (lv_at hl 4 rfl) ?_
                refine lv_if_ne (tgt := 130) hx hb dX6_jubilee_123 (by decide) (fun c21 => ?_) (fun c21 => ?_)
                · have e20 := cd_ite_f c21 e20
                  refine lv_iconst (v := (0 : Int32)) hx hb dX6_jubilee_130 (by decide) ?_
                  have z : some (0 : Int32) = some x20 := e20
                  cases z
                  exact K20 _ _ _ (lv_sub hl [0, 1, 5] rfl) hw
                · have e20 := cd_ite_t c21 e20
                  refine lv_iconst (v := (1 : Int32)) hx hb dX6_jubilee_126 (by decide) ?_
                  refine lv_goto (tgt := 131) hx hb dX6_jubilee_127 (by decide) ?_
                  have z : some (1 : Int32) = some x20 := e20
                  cases z
                  exact K20 _ _ _ (lv_sub hl [0, 1, 5] rfl) hw
            · have hb3 := cd_ite_f c19 hb3
              refine lv_bipush (v := (-6 : Int32)) hx hb dX6_jubilee_113 (by decide) ?_
              have z : some (Sum.inl (Sum.inl (-6 : Int32))) = some o3 := hb3
              cases z
              have y3 : Sum.inl (-6 : Int32) = x3 := hk3
              subst y3
              have z : some (-6 : Int32) = some o := hf
              cases z
              rw [hQ]
              exact cd_reti C0 hw dX6_jubilee_115
        · have hb3 := cd_ite_f c14 hb3
          refine lv_iload_n hx hb dX6_jubilee_48 rfl (lv_at hl 3 rfl) ?_
          obtain ⟨x22, e22, hb3⟩ := cd_bind_some hb3
          have K22 : ∀ (ls : Array Slot) (H : Heap) (locs : List Loc), lv_has ls 6 [(0, .ref (h 0)), (1, .int a0), (2, .int z3.1), (4, .int z3.2.2.1), (5, .int z3.2.2.2)] → cd_WS G A s.heap H locs ((pc_mod cI cZ h M)) → W p l e rm_X6_jubilee s m ag below meth c H locs 0 0 Q (F0 m 66 ls [.int x22]) := by
            intro ls H locs hl hw
            refine lv_istore_n (lv' := [(3, .int x22), (0, .ref (h 0)), (1, .int a0), (2, .int z3.1), (4, .int z3.2.2.1), (5, .int z3.2.2.2)]) hx hb dX6_jubilee_66 rfl hl (by decide) rfl (fun ls hl => ?_)
            refine lv_iload hx hb dX6_jubilee_67 (lv_at hl 4 rfl) ?_
            refine lv_if_ne (tgt := 87) hx hb dX6_jubilee_69 (by decide) (fun c23 => ?_) (fun c23 => ?_)
            · have hb3 := cd_ite_f c23 hb3
              refine lv_iconst (v := (1 : Int32)) hx hb dX6_jubilee_87 (by decide) ?_
              refine lv_goto (tgt := 92) hx hb dX6_jubilee_88 (by decide) ?_
              refine lv_istore (lv' := [(4, .int (1 : Int32)), (3, .int x22), (0, .ref (h 0)), (1, .int a0), (2, .int z3.1), (5, .int z3.2.2.2)]) hx hb dX6_jubilee_92 hl (by decide) rfl (fun ls hl => ?_)
              refine lv_goto (tgt := 138) hx hb dX6_jubilee_94 (by decide) ?_
              refine lv_iinc (v := (z3.2.2.2 + (1 : Int32))) (lv' := [(5, .int (z3.2.2.2 + (1 : Int32))), (4, .int (1 : Int32)), (3, .int x22), (0, .ref (h 0)), (1, .int a0), (2, .int z3.1)]) hx hb dX6_jubilee_138 hl (k := 5) rfl rfl (by decide) rfl (fun ls hl => ?_)
              refine lv_goto (tgt := 24) hx hb dX6_jubilee_141 (by decide) ?_
              have z : some (Sum.inr (z3.1, x22, (1 : Int32), (z3.2.2.2 + (1 : Int32)))) = some o3 := hb3
              cases z
              exact hk3 _ _ _ (lv_sub hl [3, 4, 5, 2, 1, 0] rfl) hw
            · have hb3 := cd_ite_t c23 hb3
              refine lv_aload_n hx hb dX6_jubilee_72 rfl (lv_at hl 1 rfl) ?_
              refine va_get (D := G) (ci := 6) (v := .ref (h 1)) (C := RX6) (T := TX6) (N := 22) hx hb hts nw_X6_jubilee_X6 hown hK hw.1 0 rfl rfl 0 (by decide) hL0 (fun _ h9 => h9) rfl dX6_jubilee_73 ?_
              refine lv_bipush (v := (66 : Int32)) hx hb dX6_jubilee_76 (by decide) ?_
              obtain ⟨v24, e24, hb3⟩ := cd_bind_some hb3
              refine cd_iald hx hb hK hw 1 rfl e24 dX6_jubilee_78 ?_
              refine lv_iload hx hb dX6_jubilee_79 (lv_at hl 5 rfl) ?_
              obtain ⟨r25, e25, hb3⟩ := cd_bind_some hb3
              refine cd_callS (As := [.int v24, .int z3.2.2.2]) (rest := []) C0 hw (c_X6_isIn l G cI cZ sa sb v24 z3.2.2.2 r25 e25) [] rfl rfl (va_cwS 2 hts gX6_jubilee_X6_isIn rfl rfl rfl (by decide +kernel) ⟨Nat.le_of_ble_eq_true rfl, Nat.le_of_ble_eq_true rfl⟩) rfl hl.1 (lv_room (Nat.le_of_ble_eq_true rfl)) dX6_jubilee_81 (fun H locs hw => ?_)
              refine lv_if_eq (tgt := 91) hx hb dX6_jubilee_84 (by decide) (fun c26 => ?_) (fun c26 => ?_)
              · have hb3 := cd_ite_t c26 hb3
                refine lv_iconst (v := (0 : Int32)) hx hb dX6_jubilee_91 (by decide) ?_
                refine lv_istore (lv' := [(4, .int (0 : Int32)), (3, .int x22), (0, .ref (h 0)), (1, .int a0), (2, .int z3.1), (5, .int z3.2.2.2)]) hx hb dX6_jubilee_92 hl (by decide) rfl (fun ls hl => ?_)
                refine lv_goto (tgt := 138) hx hb dX6_jubilee_94 (by decide) ?_
                refine lv_iinc (v := (z3.2.2.2 + (1 : Int32))) (lv' := [(5, .int (z3.2.2.2 + (1 : Int32))), (4, .int (0 : Int32)), (3, .int x22), (0, .ref (h 0)), (1, .int a0), (2, .int z3.1)]) hx hb dX6_jubilee_138 hl (k := 5) rfl rfl (by decide) rfl (fun ls hl => ?_)
                refine lv_goto (tgt := 24) hx hb dX6_jubilee_141 (by decide) ?_
                have z : some (Sum.inr (z3.1, x22, (0 : Int32), (z3.2.2.2 + (1 : Int32)))) = some o3 := hb3
                cases z
                exact hk3 _ _ _ (lv_sub hl [3, 4, 5, 2, 1, 0] rfl) hw
              · have hb3 := cd_ite_f c26 hb3
                refine lv_iconst (v := (1 : Int32)) hx hb dX6_jubilee_87 (by decide) ?_
                refine lv_goto (tgt := 92) hx hb dX6_jubilee_88 (by decide) ?_
                refine lv_istore (lv' := [(4, .int (1 : Int32)), (3, .int x22), (0, .ref (h 0)), (1, .int a0), (2, .int z3.1), (5, .int z3.2.2.2)]) hx hb dX6_jubilee_92 hl (by decide) rfl (fun ls hl => ?_)
                refine lv_goto (tgt := 138) hx hb dX6_jubilee_94 (by decide) ?_
                refine lv_iinc (v := (z3.2.2.2 + (1 : Int32))) (lv' := [(5, .int (z3.2.2.2 + (1 : Int32))), (4, .int (1 : Int32)), (3, .int x22), (0, .ref (h 0)), (1, .int a0), (2, .int z3.1)]) hx hb dX6_jubilee_138 hl (k := 5) rfl rfl (by decide) rfl (fun ls hl => ?_)
                refine lv_goto (tgt := 24) hx hb dX6_jubilee_141 (by decide) ?_
                have z : some (Sum.inr (z3.1, x22, (1 : Int32), (z3.2.2.2 + (1 : Int32)))) = some o3 := hb3
                cases z
                exact hk3 _ _ _ (lv_sub hl [3, 4, 5, 2, 1, 0] rfl) hw
          refine lv_if_ne (tgt := 61) hx hb dX6_jubilee_49 (by decide) (fun c22 => ?_) (fun c22 => ?_)
          · have e22 := cd_ite_f c22 e22
            refine lv_iconst (v := (1 : Int32)) hx hb dX6_jubilee_61 (by decide) ?_
            refine lv_goto (tgt := 66) hx hb dX6_jubilee_62 (by decide) ?_
            have z : some (1 : Int32) = some x22 := e22
            cases z
            exact K22 _ _ _ (lv_sub hl [0, 1, 2, 4, 5] rfl) hw
          · have e22 := cd_ite_t c22 e22
            refine lv_iload_n hx hb dX6_jubilee_52 rfl (lv_at hl 1 rfl) ?_
            refine lv_iload hx hb dX6_jubilee_53 (lv_at hl 5 rfl) ?_
            obtain ⟨r27, e27, e22⟩ := cd_bind_some e22
            refine cd_callS (As := [.int a0, .int z3.2.2.2]) (rest := []) C0 hw (c_X6_isIn l G cI cZ sa sb a0 z3.2.2.2 r27 e27) [] rfl rfl (va_cwS 2 hts gX6_jubilee_X6_isIn rfl rfl rfl (by decide +kernel) ⟨Nat.le_of_ble_eq_true rfl, Nat.le_of_ble_eq_true rfl⟩) rfl hl.1 (lv_room (Nat.le_of_ble_eq_true rfl)) dX6_jubilee_55 (fun H locs hw => ?_)
            refine lv_if_eq (tgt := 65) hx hb dX6_jubilee_58 (by decide) (fun c28 => ?_) (fun c28 => ?_)
            · have e22 := cd_ite_t c28 e22
              refine lv_iconst (v := (0 : Int32)) hx hb dX6_jubilee_65 (by decide) ?_
              have z : some (0 : Int32) = some x22 := e22
              cases z
              exact K22 _ _ _ (lv_sub hl [0, 1, 2, 4, 5] rfl) hw
            · have e22 := cd_ite_f c28 e22
              refine lv_iconst (v := (1 : Int32)) hx hb dX6_jubilee_61 (by decide) ?_
              refine lv_goto (tgt := 66) hx hb dX6_jubilee_62 (by decide) ?_
              have z : some (1 : Int32) = some x22 := e22
              cases z
              exact K22 _ _ _ (lv_sub hl [0, 1, 2, 4, 5] rfl) hw
  · have hf := cd_ite_t c2 hf
    refine lv_bipush (v := (-2 : Int32)) hx hb dX6_jubilee_11 (by decide) ?_
    have z : some (-2 : Int32) = some o := hf
    cases z
    rw [hQ]
    exact cd_reti C0 hw dX6_jubilee_13
