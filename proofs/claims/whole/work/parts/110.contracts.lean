abbrev rm_X6_judge : Room := { frames := 5, cells := 0, slots := 0, locals := 112 }
theorem nw_X6_judge_X6 : ∀ w ∈ u_ws RX6 TX6 22, w ∈ wsX6_judge := by decide +kernel
set_option maxHeartbeats 4000000 in
set_option maxRecDepth 100000 in
theorem c_X6_judge (l : Launch) (G : va_G) (cI cZ : ClassId) (sa sb : Nat) (h : Nat → Nat) (M : Nat → Nat → Int32) (a0 : Int32) (o : Int32 × (Nat → Nat → Int32)) (hf : f_X6_judge a0 M = some o) : cd_Ct l G cI cZ sa sb yX6_judge wsX6_judge rm_X6_judge [.ref (h 0), .int a0] ((pc_mod cI cZ h M)) ((pc_mod cI cZ h o.2)) (some (.int o.1)) := by
  refine cd_of (cc := cX6_judge) (maxL := 3) (ret := (some .int)) (by decide) rfl (Nat.le_of_ble_eq_true rfl) ?_
  intro p e s m ag below meth c A ls Q C0 hl hw hQ
  have C0 : cd_CX G cI cZ sa sb p s m ag meth c cX6_judge 3 (some .int) wsX6_judge RX6 A := C0
  obtain ⟨⟨hx, hb, hml, hown, hts⟩, hr, hlocks, hA, hE⟩ := id C0
  have hK := hE.1
  have hL0 := hts (.fieldLink RX6 127 "CandleDebtsModel" "reason" "I") (by decide +kernel)
  have hl : lv_has ls 3 [(0, .ref (h 0)), (1, .int a0)] := hl
  unfold f_X6_judge at hf
  refine lv_iload_n hx hb dX6_judge_0 rfl (lv_at hl 1 rfl) ?_
  refine lv_iconst (v := (0 : Int32)) hx hb dX6_judge_1 (by decide) ?_
  refine lv_iconst (v := (1 : Int32)) hx hb dX6_judge_2 (by decide) ?_
  obtain ⟨r1, e1, hf⟩ := cd_bind_some hf
  refine cd_callS (As := [.int a0, .int (0 : Int32), .int (1 : Int32)]) (rest := []) C0 hw (c_X6_in l G cI cZ sa sb a0 (0 : Int32) (1 : Int32) r1 e1) [] rfl rfl (va_cwS 3 hts gX6_judge_X6_in rfl rfl rfl (by decide +kernel) ⟨Nat.le_of_ble_eq_true rfl, Nat.le_of_ble_eq_true rfl⟩) rfl hl.1 (lv_room (Nat.le_of_ble_eq_true rfl)) dX6_judge_3 (fun H locs hw => ?_)
  refine lv_if_ne (tgt := 12) hx hb dX6_judge_6 (by decide) (fun c2 => ?_) (fun c2 => ?_)
  · have hf := cd_ite_f c2 hf
    refine lv_aload_n hx hb dX6_judge_12 rfl (lv_at hl 0 rfl) ?_
    obtain ⟨r3, e3, hf⟩ := cd_bind_some hf
    refine cd_callV (As := []) (rest := []) C0 hw (c_X6_faultOf l G cI cZ sa sb h M r3 e3) [0, 1, 2, 3, 4, 5, 6, 7, 8, 9, 10, 11, 12, 13, 14] rfl rfl 0 6 rfl rfl rfl (cwV 0 hts gX6_judge_X6_faultOf rfl rfl rfl (by decide +kernel) ⟨Nat.le_of_ble_eq_true rfl, Nat.le_of_ble_eq_true rfl⟩) rfl hl.1 (lv_room (Nat.le_of_ble_eq_true rfl)) dX6_judge_13 (fun H locs hw => ?_)
    refine lv_if_lt (tgt := 22) hx hb dX6_judge_16 (by decide) (fun c4 => ?_) (fun c4 => ?_)
    · have hf := cd_ite_t c4 hf
      refine lv_aload_n hx hb dX6_judge_22 rfl (lv_at hl 0 rfl) ?_
      obtain ⟨r5, e5, hf⟩ := cd_bind_some hf
      refine cd_callVw (As := []) (rest := []) (wr := ([] : va_W)) (wn := (pc_mod cI cZ h r5.2)) C0 hw (c_X6_goNights l G cI cZ sa sb h M r5 e5) [0, 1, 2, 3, 4, 5, 6, 7, 8, 9, 10, 11, 12, 13, 14] [] [0, 1, 2, 3, 4, 5, 6, 7, 8, 9, 10, 11, 12, 13, 14] rfl rfl rfl rfl (by decide) rfl rfl 0 6 rfl rfl rfl (cwV 0 hts gX6_judge_X6_goNights rfl rfl rfl (by decide +kernel) ⟨Nat.le_of_ble_eq_true rfl, Nat.le_of_ble_eq_true rfl⟩) rfl hl.1 (lv_room (Nat.le_of_ble_eq_true rfl)) dX6_judge_23 (fun H locs hw => ?_)
      refine lv_istore_n (lv' := [(2, .int r5.1), (0, .ref (h 0)), (1, .int a0)]) hx hb dX6_judge_26 rfl hl (by decide) rfl (fun ls hl => ?_)
      refine lv_iload_n hx hb dX6_judge_27 rfl (lv_at hl 0 rfl) ?_
      obtain ⟨x6, e6, hf⟩ := cd_bind_some hf
      have K6 : ∀ (ls : Array Slot) (H : Heap) (locs : List Loc), lv_has ls 3 [] → cd_WS G A s.heap H locs ((pc_mod cI cZ h r5.2)) → W p l e rm_X6_judge s m ag below meth c H locs 0 0 Q (F0 m 43 ls [.int x6]) := by
        intro ls H locs hl hw
        have z : some (x6, r5.2) = some o := hf
        cases z
        rw [hQ]
        exact cd_reti C0 hw dX6_judge_43
      refine lv_if_lt (tgt := 35) hx hb dX6_judge_28 (by decide) (fun c6 => ?_) (fun c6 => ?_)
      · have e6 := cd_ite_t c6 e6
        refine lv_iload_n hx hb dX6_judge_35 rfl (lv_at hl 0 rfl) ?_
        refine lv_goto (tgt := 43) hx hb dX6_judge_36 (by decide) ?_
        have z : some r5.1 = some x6 := e6
        cases z
        exact K6 _ _ _ (lv_sub hl [] rfl) hw
      · have e6 := cd_ite_f c6 e6
        refine lv_iload_n hx hb dX6_judge_31 rfl (lv_at hl 2 rfl) ?_
        refine lv_if_ne (tgt := 39) hx hb dX6_judge_32 (by decide) (fun c7 => ?_) (fun c7 => ?_)
        · have e6 := cd_ite_f c7 e6
          refine lv_aload_n hx hb dX6_judge_39 rfl (lv_at hl 1 rfl) ?_
          refine va_get (D := G) (ci := 6) (v := .int (r5.2 12 0)) (C := RX6) (T := TX6) (N := 22) hx hb hts nw_X6_judge_X6 hown hK hw.1 0 rfl rfl 12 (by decide) hL0 (fun _ h9 => h9) rfl dX6_judge_40 ?_
          have z : some (r5.2 12 0) = some x6 := e6
          cases z
          exact K6 _ _ _ (lv_sub hl [] rfl) hw
        · have e6 := cd_ite_t c7 e6
          refine lv_iload_n hx hb dX6_judge_35 rfl (lv_at hl 0 rfl) ?_
          refine lv_goto (tgt := 43) hx hb dX6_judge_36 (by decide) ?_
          have z : some r5.1 = some x6 := e6
          cases z
          exact K6 _ _ _ (lv_sub hl [] rfl) hw
    · have hf := cd_ite_f c4 hf
      refine lv_bipush (v := (-5 : Int32)) hx hb dX6_judge_19 (by decide) ?_
      have z : some ((-5 : Int32), M) = some o := hf
      cases z
      rw [hQ]
      exact cd_reti C0 hw dX6_judge_21
  · have hf := cd_ite_t c2 hf
    refine lv_bipush (v := (-2 : Int32)) hx hb dX6_judge_9 (by decide) ?_
    have z : some ((-2 : Int32), M) = some o := hf
    cases z
    rw [hQ]
    exact cd_reti C0 hw dX6_judge_11
abbrev rm_X6_lasts : Room := { frames := 2, cells := 0, slots := 0, locals := 44 }
set_option maxHeartbeats 4000000 in
set_option maxRecDepth 100000 in
theorem c_X6_lasts (l : Launch) (G : va_G) (cI cZ : ClassId) (sa sb : Nat) (h : Nat → Nat) (M : Nat → Nat → Int32) (a0 : Int32) (o : Int32 × (Nat → Nat → Int32)) (hf : f_X6_lasts a0 M = some o) : cd_Ct l G cI cZ sa sb yX6_lasts wsX6_lasts rm_X6_lasts [.ref (h 0), .int a0] ((pc_mod cI cZ h M)) ((pc_mod cI cZ h o.2)) (some (.int o.1)) := by
  refine cd_of (cc := cX6_lasts) (maxL := 2) (ret := (some .int)) (by decide) rfl (Nat.le_of_ble_eq_true rfl) ?_
  intro p e s m ag below meth c A ls Q C0 hl hw hQ
  have C0 : cd_CX G cI cZ sa sb p s m ag meth c cX6_lasts 2 (some .int) wsX6_lasts RX6 A := C0
  obtain ⟨⟨hx, hb, hml, hown, hts⟩, hr, hlocks, hA, hE⟩ := id C0
  have hK := hE.1
  have hl : lv_has ls 2 [(0, .ref (h 0)), (1, .int a0)] := hl
  unfold f_X6_lasts at hf
  refine lv_iload_n hx hb dX6_lasts_0 rfl (lv_at hl 1 rfl) ?_
  obtain ⟨r1, e1, hf⟩ := cd_bind_some hf
  refine cd_callS (As := [.int a0]) (rest := []) C0 hw (c_X6_isCandle l G cI cZ sa sb a0 r1 e1) [] rfl rfl (va_cwS 1 hts gX6_lasts_X6_isCandle rfl rfl rfl (by decide +kernel) ⟨Nat.le_of_ble_eq_true rfl, Nat.le_of_ble_eq_true rfl⟩) rfl hl.1 (lv_room (Nat.le_of_ble_eq_true rfl)) dX6_lasts_1 (fun H locs hw => ?_)
  obtain ⟨x2, e2, hf⟩ := cd_bind_some hf
  have K2 : ∀ (ls : Array Slot) (H : Heap) (locs : List Loc), lv_has ls 2 [] → cd_WS G A s.heap H locs ((pc_mod cI cZ h x2.2)) → W p l e rm_X6_lasts s m ag below meth c H locs 0 0 Q (F0 m 16 ls [.int x2.1]) := by
    intro ls H locs hl hw
    have z : some (x2.1, x2.2) = some o := hf
    cases z
    rw [hQ]
    exact cd_reti C0 hw dX6_lasts_16
  refine lv_if_eq (tgt := 15) hx hb dX6_lasts_4 (by decide) (fun c2 => ?_) (fun c2 => ?_)
  · have e2 := cd_ite_t c2 e2
    refine lv_iconst (v := (-1 : Int32)) hx hb dX6_lasts_15 (by decide) ?_
    have z : some ((-1 : Int32), M) = some x2 := e2
    cases z
    exact K2 _ _ _ (lv_sub hl [] rfl) hw
  · have e2 := cd_ite_f c2 e2
    refine lv_aload_n hx hb dX6_lasts_7 rfl (lv_at hl 0 rfl) ?_
    refine lv_iload_n hx hb dX6_lasts_8 rfl (lv_at hl 1 rfl) ?_
    obtain ⟨r3, e3, e2⟩ := cd_bind_some e2
    refine cd_callVw (As := [.int a0]) (rest := []) (wr := ([] : va_W)) (wn := (pc_mod cI cZ h r3.2)) C0 hw (c_X6_lastsOf l G cI cZ sa sb h M a0 r3 e3) [0, 1, 2, 3, 4, 5, 6, 7, 8, 9, 10, 11, 12, 13, 14] [] [0, 1, 2, 3, 4, 5, 6, 7, 8, 9, 10, 11, 12, 13, 14] rfl rfl rfl rfl (by decide) rfl rfl 0 6 rfl rfl rfl (cwV 1 hts gX6_lasts_X6_lastsOf rfl rfl rfl (by decide +kernel) ⟨Nat.le_of_ble_eq_true rfl, Nat.le_of_ble_eq_true rfl⟩) rfl hl.1 (lv_room (Nat.le_of_ble_eq_true rfl)) dX6_lasts_9 (fun H locs hw => ?_)
    refine lv_goto (tgt := 16) hx hb dX6_lasts_12 (by decide) ?_
    have z : some (r3.1, r3.2) = some x2 := e2
    cases z
    exact K2 _ _ _ (lv_sub hl [] rfl) hw
abbrev rm_X6_layBurns : Room := { frames := 1, cells := 0, slots := 0, locals := 22 }
theorem nw_X6_layBurns_X6 : ∀ w ∈ u_ws RX6 TX6 22, w ∈ wsX6_layBurns := by decide +kernel
set_option maxHeartbeats 4000000 in
set_option maxRecDepth 100000 in
theorem c_X6_layBurns (l : Launch) (G : va_G) (cI cZ : ClassId) (sa sb : Nat) (h : Nat → Nat) (M : Nat → Nat → Int32) (o : (Nat → Nat → Int32)) (hf : f_X6_layBurns M = some o) : cd_Ct l G cI cZ sa sb yX6_layBurns wsX6_layBurns rm_X6_layBurns [.ref (h 0)] ((pc_mod cI cZ h M)) ((pc_mod cI cZ h o)) none := by
  refine cd_of (cc := cX6_layBurns) (maxL := 2) (ret := none) (by decide) rfl (Nat.le_of_ble_eq_true rfl) ?_
  intro p e s m ag below meth c A ls Q C0 hl hw hQ
  have C0 : cd_CX G cI cZ sa sb p s m ag meth c cX6_layBurns 2 none wsX6_layBurns RX6 A := C0
  obtain ⟨⟨hx, hb, hml, hown, hts⟩, hr, hlocks, hA, hE⟩ := id C0
  have hK := hE.1
  have hL0 := hts (.fieldLink RX6 34 "CandleDebtsModel" "burns" "[I") (by decide +kernel)
  have hl : lv_has ls 2 [(0, .ref (h 0))] := hl
  unfold f_X6_layBurns at hf
  refine lv_aload_n hx hb dX6_layBurns_0 rfl (lv_at hl 0 rfl) ?_
  obtain ⟨r1, e1, hf⟩ := cd_bind_some hf
  refine cd_callVw (As := []) (rest := []) (wr := ([] : va_W)) (wn := (pc_mod cI cZ h r1)) C0 hw (c_X6_asNow l G cI cZ sa sb h M r1 e1) [0, 1, 2, 3, 4, 5, 6, 7, 8, 9, 10, 11, 12, 13, 14] [] [0, 1, 2, 3, 4, 5, 6, 7, 8, 9, 10, 11, 12, 13, 14] rfl rfl rfl rfl (by decide) rfl rfl 0 6 rfl rfl rfl (cwV 0 hts gX6_layBurns_X6_asNow rfl rfl rfl (by decide +kernel) ⟨Nat.le_of_ble_eq_true rfl, Nat.le_of_ble_eq_true rfl⟩) rfl hl.1 (lv_room (Nat.le_of_ble_eq_true rfl)) dX6_layBurns_1 (fun H locs hw => ?_)
  refine lv_iconst (v := (0 : Int32)) hx hb dX6_layBurns_4 (by decide) ?_
  refine lv_istore_n (lv' := [(1, .int (0 : Int32)), (0, .ref (h 0))]) hx hb dX6_layBurns_5 rfl hl (by decide) rfl (fun ls hl => ?_)
  obtain ⟨x2, e2, hf⟩ := cd_bind_some hf
  have K2 : ∀ (t2 : (Nat → Nat → Int32)), t2 = x2 → ∀ (ls : Array Slot) (H : Heap) (locs : List Loc), lv_has ls 2 [] → cd_WS G A s.heap H locs ((pc_mod cI cZ h t2)) → W p l e rm_X6_layBurns s m ag below meth c H locs 0 0 Q (F0 m 29 ls []) := by
    intro t2 hs_2
    subst hs_2
    intro ls H locs hl hw
    have z : some t2 = some o := hf
    cases z
    rw [hQ]
    exact cd_retv C0 hw dX6_layBurns_29
  refine cd_iter_ind (body := f_X6_layBurns_b6) (K := fun r => r = x2) (P := fun (z2 : Int32 × (Nat → Nat → Int32)) => ∀ (ls : Array Slot) (H : Heap) (locs : List Loc), lv_has ls 2 [(0, .ref (h 0)), (1, .int z2.1)] → cd_WS G A s.heap H locs ((pc_mod cI cZ h z2.2)) → W p l e rm_X6_layBurns s m ag below meth c H locs 0 0 Q (F0 m 6 ls [])) ?_ cd_N ((0 : Int32), r1) x2 e2 rfl _ _ _ (lv_sub hl [1, 0] rfl) hw
  intro z2 o2 hb2 hk2 ls H locs hl hw
  unfold f_X6_layBurns_b6 at hb2
  refine lv_iload_n hx hb dX6_layBurns_6 rfl (lv_at hl 1 rfl) ?_
  refine lv_bipush (v := (12 : Int32)) hx hb dX6_layBurns_7 (by decide) ?_
  refine lv_icmp_ge (tgt := 29) hx hb dX6_layBurns_9 (by decide) (fun c3 => ?_) (fun c3 => ?_)
  · have hb2 := cd_ite_t c3 hb2
    have z : some (Sum.inl z2.2) = some o2 := hb2
    cases z
    exact K2 _ hk2 _ _ _ (lv_sub hl [] rfl) hw
  · have hb2 := cd_ite_f c3 hb2
    refine lv_aload_n hx hb dX6_layBurns_12 rfl (lv_at hl 0 rfl) ?_
    refine va_get (D := G) (ci := 6) (v := .ref (h 9)) (C := RX6) (T := TX6) (N := 22) hx hb hts nw_X6_layBurns_X6 hown hK hw.1 0 rfl rfl 16 (by decide) hL0 (fun _ h9 => h9) rfl dX6_layBurns_13 ?_
    refine lv_iload_n hx hb dX6_layBurns_16 rfl (lv_at hl 1 rfl) ?_
    refine lv_aload_n hx hb dX6_layBurns_17 rfl (lv_at hl 0 rfl) ?_
    refine lv_iload_n hx hb dX6_layBurns_18 rfl (lv_at hl 1 rfl) ?_
    obtain ⟨r4, e4, hb2⟩ := cd_bind_some hb2
    refine cd_callV (As := [.int z2.1]) (rest := [.int z2.1, .ref (h 9)]) C0 hw (c_X6_burnOf l G cI cZ sa sb h z2.2 z2.1 r4 e4) [0, 1, 2, 3, 4, 5, 6, 7, 8, 9, 10, 11, 12, 13, 14] rfl rfl 0 6 rfl rfl rfl (cwV 1 hts gX6_layBurns_X6_burnOf rfl rfl rfl (by decide +kernel) ⟨Nat.le_of_ble_eq_true rfl, Nat.le_of_ble_eq_true rfl⟩) rfl hl.1 (lv_room (Nat.le_of_ble_eq_true rfl)) dX6_layBurns_19 (fun H locs hw => ?_)
    obtain ⟨j5, e5, hb2⟩ := cd_bind_some hb2
    refine cd_iast (f := z2.2 16) hx hb hK hw 9 rfl e5 dX6_layBurns_22 (fun H locs hw => ?_)
    have hw : cd_WS G A s.heap H locs ((pc_mod cI cZ h (cd_set z2.2 16 j5 r4))) := (show ∀ (s9 : Nat → Nat → Int32) (y9 : Int32), cd_WS G A s.heap H locs (((pc_mod cI cZ h s9)).set 9 (h 9, .inl (cI, 12, .inl (upd (s9 16) j5 y9)))) → cd_WS G A s.heap H locs ((pc_mod cI cZ h (cd_set s9 16 j5 y9))) from fun _ _ hh => hh) z2.2 r4 hw
    refine lv_iinc (v := (z2.1 + (1 : Int32))) (lv' := [(1, .int (z2.1 + (1 : Int32))), (0, .ref (h 0))]) hx hb dX6_layBurns_23 hl (k := 1) rfl rfl (by decide) rfl (fun ls hl => ?_)
    refine lv_goto (tgt := 6) hx hb dX6_layBurns_26 (by decide) ?_
    have z : some (Sum.inr ((z2.1 + (1 : Int32)), (cd_set z2.2 16 j5 r4))) = some o2 := hb2
    cases z
    exact hk2 _ _ _ (lv_sub hl [1, 0] rfl) hw
abbrev rm_X6_layRows : Room := { frames := 0, cells := 0, slots := 0, locals := 0 }
theorem nw_X6_layRows_X6 : ∀ w ∈ u_ws RX6 TX6 22, w ∈ wsX6_layRows := by decide +kernel
set_option maxHeartbeats 4000000 in
set_option maxRecDepth 100000 in
theorem c_X6_layRows (l : Launch) (G : va_G) (cI cZ : ClassId) (sa sb : Nat) (h : Nat → Nat) (M : Nat → Nat → Int32) (o : (Nat → Nat → Int32)) (hf : f_X6_layRows M = some o) : cd_Ct l G cI cZ sa sb yX6_layRows wsX6_layRows rm_X6_layRows [.ref (h 0)] ((pc_mod cI cZ h M)) ((pc_mod cI cZ h o)) none := by
  refine cd_of (cc := cX6_layRows) (maxL := 5) (ret := none) (by decide) rfl (Nat.le_of_ble_eq_true rfl) ?_
  intro p e s m ag below meth c A ls Q C0 hl hw hQ
  have C0 : cd_CX G cI cZ sa sb p s m ag meth c cX6_layRows 5 none wsX6_layRows RX6 A := C0
  obtain ⟨⟨hx, hb, hml, hown, hts⟩, hr, hlocks, hA, hE⟩ := id C0
  have hK := hE.1
  have hL0 := hts (.fieldLink RX6 40 "CandleDebtsModel" "row" "[I") (by decide +kernel)
  have hL1 := hts (.fieldLink RX6 43 "CandleDebtsModel" "isMet" "[Z") (by decide +kernel)
  have hl : lv_has ls 5 [(0, .ref (h 0))] := hl
  unfold f_X6_layRows at hf
  refine lv_aload_n hx hb dX6_layRows_0 rfl (lv_at hl 0 rfl) ?_
  refine va_get (D := G) (ci := 6) (v := .ref (h 11)) (C := RX6) (T := TX6) (N := 22) hx hb hts nw_X6_layRows_X6 hown hK hw.1 0 rfl rfl 18 (by decide) hL0 (fun _ h9 => h9) rfl dX6_layRows_1 ?_
  refine lv_iconst (v := (0 : Int32)) hx hb dX6_layRows_4 (by decide) ?_
  refine lv_iconst (v := (0 : Int32)) hx hb dX6_layRows_5 (by decide) ?_
  obtain ⟨j1, e1, hf⟩ := cd_bind_some hf
  refine cd_iast (f := M 18) hx hb hK hw 11 rfl e1 dX6_layRows_6 (fun H locs hw => ?_)
  have hw : cd_WS G A s.heap H locs ((pc_mod cI cZ h (cd_set M 18 j1 (0 : Int32)))) := (show ∀ (s9 : Nat → Nat → Int32) (y9 : Int32), cd_WS G A s.heap H locs (((pc_mod cI cZ h s9)).set 11 (h 11, .inl (cI, 13, .inl (upd (s9 18) j1 y9)))) → cd_WS G A s.heap H locs ((pc_mod cI cZ h (cd_set s9 18 j1 y9))) from fun _ _ hh => hh) M (0 : Int32) hw
  refine lv_iconst (v := (1 : Int32)) hx hb dX6_layRows_7 (by decide) ?_
  refine lv_istore_n (lv' := [(1, .int (1 : Int32)), (0, .ref (h 0))]) hx hb dX6_layRows_8 rfl hl (by decide) rfl (fun ls hl => ?_)
  obtain ⟨x2, e2, hf⟩ := cd_bind_some hf
  have K2 : ∀ (t2 : (Nat → Nat → Int32)), t2 = x2 → ∀ (ls : Array Slot) (H : Heap) (locs : List Loc), lv_has ls 5 [] → cd_WS G A s.heap H locs ((pc_mod cI cZ h t2)) → W p l e rm_X6_layRows s m ag below meth c H locs 0 0 Q (F0 m 131 ls []) := by
    intro t2 hs_2
    subst hs_2
    intro ls H locs hl hw
    have z : some t2 = some o := hf
    cases z
    rw [hQ]
    exact cd_retv C0 hw dX6_layRows_131
  refine cd_iter_ind (body := f_X6_layRows_b9) (K := fun r => r = x2) (P := fun (z2 : Int32 × (Nat → Nat → Int32)) => ∀ (ls : Array Slot) (H : Heap) (locs : List Loc), lv_has ls 5 [(0, .ref (h 0)), (1, .int z2.1)] → cd_WS G A s.heap H locs ((pc_mod cI cZ h z2.2)) → W p l e rm_X6_layRows s m ag below meth c H locs 0 0 Q (F0 m 9 ls [])) ?_ cd_N ((1 : Int32), (cd_set M 18 j1 (0 : Int32))) x2 e2 rfl _ _ _ (lv_sub hl [1, 0] rfl) hw
  intro z2 o2 hb2 hk2 ls H locs hl hw
  unfold f_X6_layRows_b9 at hb2
  refine lv_iload_n hx hb dX6_layRows_9 rfl (lv_at hl 1 rfl) ?_
  refine lv_bipush (v := (13 : Int32)) hx hb dX6_layRows_10 (by decide) ?_
  refine lv_icmp_ge (tgt := 131) hx hb dX6_layRows_12 (by decide) (fun c3 => ?_) (fun c3 => ?_)
  · have hb2 := cd_ite_t c3 hb2
    have z : some (Sum.inl z2.2) = some o2 := hb2
    cases z
    exact K2 _ hk2 _ _ _ (lv_sub hl [] rfl) hw
  · have hb2 := cd_ite_f c3 hb2
    refine lv_iconst (v := (0 : Int32)) hx hb dX6_layRows_15 (by decide) ?_
    refine lv_istore_n (lv' := [(2, .int (0 : Int32)), (0, .ref (h 0)), (1, .int z2.1)]) hx hb dX6_layRows_16 rfl hl (by decide) rfl (fun ls hl => ?_)
    obtain ⟨x4, e4, hb2⟩ := cd_bind_some hb2
    have K4 : ∀ (t4 : (Nat → Nat → Int32)), t4 = x4 → ∀ (ls : Array Slot) (H : Heap) (locs : List Loc), lv_has ls 5 [(0, .ref (h 0)), (1, .int z2.1)] → cd_WS G A s.heap H locs ((pc_mod cI cZ h t4)) → W p l e rm_X6_layRows s m ag below meth c H locs 0 0 Q (F0 m 36 ls []) := by
      intro t4 hs_4
      subst hs_4
      intro ls H locs hl hw
      refine lv_iconst (v := (0 : Int32)) hx hb dX6_layRows_36 (by decide) ?_
      refine lv_istore_n (lv' := [(2, .int (0 : Int32)), (0, .ref (h 0)), (1, .int z2.1)]) hx hb dX6_layRows_37 rfl hl (by decide) rfl (fun ls hl => ?_)
      obtain ⟨x7, e7, hb2⟩ := cd_bind_some hb2
      have K7 : ∀ (t7 : (Nat → Nat → Int32)), t7 = x7 → ∀ (ls : Array Slot) (H : Heap) (locs : List Loc), lv_has ls 5 [(0, .ref (h 0)), (1, .int z2.1)] → cd_WS G A s.heap H locs ((pc_mod cI cZ h t7)) → W p l e rm_X6_layRows s m ag below meth c H locs 0 0 Q (F0 m 101 ls []) := by
        intro t7 hs_7
        subst hs_7
        intro ls H locs hl hw
        refine lv_iconst (v := (0 : Int32)) hx hb dX6_layRows_101 (by decide) ?_
        refine lv_istore_n (lv' := [(2, .int (0 : Int32)), (0, .ref (h 0)), (1, .int z2.1)]) hx hb dX6_layRows_102 rfl hl (by decide) rfl (fun ls hl => ?_)
        obtain ⟨x14, e14, hb2⟩ := cd_bind_some hb2
        have K14 : ∀ (t14 : Int32), t14 = x14 → ∀ (ls : Array Slot) (H : Heap) (locs : List Loc), lv_has ls 5 [(0, .ref (h 0)), (1, .int z2.1), (2, .int t14)] → cd_WS G A s.heap H locs ((pc_mod cI cZ h t7)) → W p l e rm_X6_layRows s m ag below meth c H locs 0 0 Q (F0 m 118 ls []) := by
          intro t14 hs_14
          subst hs_14
          intro ls H locs hl hw
          refine lv_aload_n hx hb dX6_layRows_118 rfl (lv_at hl 0 rfl) ?_
          refine va_get (D := G) (ci := 6) (v := .ref (h 11)) (C := RX6) (T := TX6) (N := 22) hx hb hts nw_X6_layRows_X6 hown hK hw.1 0 rfl rfl 18 (by decide) hL0 (fun _ h9 => h9) rfl dX6_layRows_119 ?_
          refine lv_iload_n hx hb dX6_layRows_122 rfl (lv_at hl 1 rfl) ?_
          refine lv_iload_n hx hb dX6_layRows_123 rfl (lv_at hl 2 rfl) ?_
          obtain ⟨j17, e17, hb2⟩ := cd_bind_some hb2
          refine cd_iast (f := t7 18) hx hb hK hw 11 rfl e17 dX6_layRows_124 (fun H locs hw => ?_)
          have hw : cd_WS G A s.heap H locs ((pc_mod cI cZ h (cd_set t7 18 j17 t14))) := (show ∀ (s9 : Nat → Nat → Int32) (y9 : Int32), cd_WS G A s.heap H locs (((pc_mod cI cZ h s9)).set 11 (h 11, .inl (cI, 13, .inl (upd (s9 18) j17 y9)))) → cd_WS G A s.heap H locs ((pc_mod cI cZ h (cd_set s9 18 j17 y9))) from fun _ _ hh => hh) t7 t14 hw
          refine lv_iinc (v := (z2.1 + (1 : Int32))) (lv' := [(1, .int (z2.1 + (1 : Int32))), (0, .ref (h 0)), (2, .int t14)]) hx hb dX6_layRows_125 hl (k := 1) rfl rfl (by decide) rfl (fun ls hl => ?_)
          refine lv_goto (tgt := 9) hx hb dX6_layRows_128 (by decide) ?_
          have z : some (Sum.inr ((z2.1 + (1 : Int32)), (cd_set t7 18 j17 t14))) = some o2 := hb2
          cases z
          exact hk2 _ _ _ (lv_sub hl [1, 0] rfl) hw
        refine cd_iter_ind (body := (f_X6_layRows_b103 t7)) (K := fun r => r = x14) (P := fun (z14 : Int32) => ∀ (ls : Array Slot) (H : Heap) (locs : List Loc), lv_has ls 5 [(0, .ref (h 0)), (1, .int z2.1), (2, .int z14)] → cd_WS G A s.heap H locs ((pc_mod cI cZ h t7)) → W p l e rm_X6_layRows s m ag below meth c H locs 0 0 Q (F0 m 103 ls [])) ?_ cd_N (0 : Int32) x14 e14 rfl _ _ _ (lv_sub hl [1, 2, 0] rfl) hw
        intro z14 o14 hb14 hk14 ls H locs hl hw
        unfold f_X6_layRows_b103 at hb14
        refine lv_aload_n hx hb dX6_layRows_103 rfl (lv_at hl 0 rfl) ?_
        refine va_get (D := G) (ci := 6) (v := .ref (h 12)) (C := RX6) (T := TX6) (N := 22) hx hb hts nw_X6_layRows_X6 hown hK hw.1 0 rfl rfl 19 (by decide) hL1 (fun _ h9 => h9) rfl dX6_layRows_104 ?_
        refine lv_iload_n hx hb dX6_layRows_107 rfl (lv_at hl 2 rfl) ?_
        obtain ⟨v15, e15, hb14⟩ := cd_bind_some hb14
        refine cd_zald hx hb hK hw 12 rfl e15 dX6_layRows_108 ?_
        refine lv_if_eq (tgt := 118) hx hb dX6_layRows_109 (by decide) (fun c16 => ?_) (fun c16 => ?_)
        · have hb14 := cd_ite_t c16 hb14
          have z : some (Sum.inl z14) = some o14 := hb14
          cases z
          exact K14 _ hk14 _ _ _ (lv_sub hl [0, 1, 2] rfl) hw
        · have hb14 := cd_ite_f c16 hb14
          refine lv_iinc (v := (z14 + (1 : Int32))) (lv' := [(2, .int (z14 + (1 : Int32))), (0, .ref (h 0)), (1, .int z2.1)]) hx hb dX6_layRows_112 hl (k := 2) rfl rfl (by decide) rfl (fun ls hl => ?_)
          refine lv_goto (tgt := 103) hx hb dX6_layRows_115 (by decide) ?_
          have z : some (Sum.inr (z14 + (1 : Int32))) = some o14 := hb14
          cases z
          exact hk14 _ _ _ (lv_sub hl [1, 2, 0] rfl) hw
      refine cd_iter_ind (body := (f_X6_layRows_b38 z2)) (K := fun r => r = x7) (P := fun (z7 : Int32 × (Nat → Nat → Int32)) => ∀ (ls : Array Slot) (H : Heap) (locs : List Loc), lv_has ls 5 [(0, .ref (h 0)), (1, .int z2.1), (2, .int z7.1)] → cd_WS G A s.heap H locs ((pc_mod cI cZ h z7.2)) → W p l e rm_X6_layRows s m ag below meth c H locs 0 0 Q (F0 m 38 ls [])) ?_ cd_N ((0 : Int32), t4) x7 e7 rfl _ _ _ (lv_sub hl [1, 2, 0] rfl) hw
      intro z7 o7 hb7 hk7 ls H locs hl hw
      unfold f_X6_layRows_b38 at hb7
      refine lv_iload_n hx hb dX6_layRows_38 rfl (lv_at hl 2 rfl) ?_
      refine lv_iload_n hx hb dX6_layRows_39 rfl (lv_at hl 1 rfl) ?_
      refine lv_icmp_ge (tgt := 101) hx hb dX6_layRows_40 (by decide) (fun c8 => ?_) (fun c8 => ?_)
      · have hb7 := cd_ite_t c8 hb7
        have z : some (Sum.inl z7.2) = some o7 := hb7
        cases z
        exact K7 _ hk7 _ _ _ (lv_sub hl [0, 1] rfl) hw
      · have hb7 := cd_ite_f c8 hb7
        refine lv_iload_n hx hb dX6_layRows_43 rfl (lv_at hl 2 rfl) ?_
        refine lv_iconst (v := (1 : Int32)) hx hb dX6_layRows_44 (by decide) ?_
        obtain ⟨x9, e9, hb7⟩ := cd_bind_some hb7
        have K9 : ∀ (ls : Array Slot) (H : Heap) (locs : List Loc), lv_has ls 5 [(0, .ref (h 0)), (1, .int z2.1), (2, .int z7.1)] → cd_WS G A s.heap H locs ((pc_mod cI cZ h z7.2)) → W p l e rm_X6_layRows s m ag below meth c H locs 0 0 Q (F0 m 55 ls [.int x9]) := by
          intro ls H locs hl hw
          refine lv_istore_n (lv' := [(3, .int x9), (0, .ref (h 0)), (1, .int z2.1), (2, .int z7.1)]) hx hb dX6_layRows_55 rfl hl (by decide) rfl (fun ls hl => ?_)
          refine lv_iload_n hx hb dX6_layRows_56 rfl (lv_at hl 2 rfl) ?_
          refine lv_iload_n hx hb dX6_layRows_57 rfl (lv_at hl 3 rfl) ?_
          refine lv_isub hx hb dX6_layRows_58 ?_
          refine lv_iconst (v := (2 : Int32)) hx hb dX6_layRows_59 (by decide) ?_
          refine lv_isub hx hb dX6_layRows_60 ?_
          obtain ⟨x10, e10, hb7⟩ := cd_bind_some hb7
          have K10 : ∀ (ls : Array Slot) (H : Heap) (locs : List Loc), lv_has ls 5 [(0, .ref (h 0)), (1, .int z2.1), (2, .int z7.1), (3, .int x9)] → cd_WS G A s.heap H locs ((pc_mod cI cZ h z7.2)) → W p l e rm_X6_layRows s m ag below meth c H locs 0 0 Q (F0 m 73 ls [.int x10]) := by
            intro ls H locs hl hw
            refine lv_istore (lv' := [(4, .int x10), (0, .ref (h 0)), (1, .int z2.1), (2, .int z7.1), (3, .int x9)]) hx hb dX6_layRows_73 hl (by decide) rfl (fun ls hl => ?_)
            refine lv_aload_n hx hb dX6_layRows_75 rfl (lv_at hl 1 rfl) ?_
            refine va_get (D := G) (ci := 6) (v := .ref (h 12)) (C := RX6) (T := TX6) (N := 22) hx hb hts nw_X6_layRows_X6 hown hK hw.1 0 rfl rfl 19 (by decide) hL1 (fun _ h9 => h9) rfl dX6_layRows_76 ?_
            refine lv_aload_n hx hb dX6_layRows_79 rfl (lv_at hl 1 rfl) ?_
            refine va_get (D := G) (ci := 6) (v := .ref (h 11)) (C := RX6) (T := TX6) (N := 22) hx hb hts nw_X6_layRows_X6 hown hK hw.1 0 rfl rfl 18 (by decide) hL0 (fun _ h9 => h9) rfl dX6_layRows_80 ?_
            refine lv_iload_n hx hb dX6_layRows_83 rfl (lv_at hl 4 rfl) ?_
            obtain ⟨v11, e11, hb7⟩ := cd_bind_some hb7
            refine cd_iald hx hb hK hw 11 rfl e11 dX6_layRows_84 ?_
            refine lv_aload_n hx hb dX6_layRows_85 rfl (lv_at hl 1 rfl) ?_
            refine va_get (D := G) (ci := 6) (v := .ref (h 11)) (C := RX6) (T := TX6) (N := 22) hx hb hts nw_X6_layRows_X6 hown hK hw.1 0 rfl rfl 18 (by decide) hL0 (fun _ h9 => h9) rfl dX6_layRows_86 ?_
            refine lv_iload hx hb dX6_layRows_89 (lv_at hl 0 rfl) ?_
            obtain ⟨v12, e12, hb7⟩ := cd_bind_some hb7
            refine cd_iald hx hb hK hw 11 rfl e12 dX6_layRows_91 ?_
            refine lv_ixor hx hb dX6_layRows_92 ?_
            refine lv_iconst (v := (1 : Int32)) hx hb dX6_layRows_93 (by decide) ?_
            obtain ⟨j13, e13, hb7⟩ := cd_bind_some hb7
            refine cd_zast (f := z7.2 19) hx hb hK hw 12 rfl e13 rfl dX6_layRows_94 (fun H locs hw => ?_)
            have hw : cd_WS G A s.heap H locs ((pc_mod cI cZ h (cd_set z7.2 19 j13 (1 : Int32)))) := (show ∀ (s9 : Nat → Nat → Int32) (y9 : Int32), cd_WS G A s.heap H locs (((pc_mod cI cZ h s9)).set 12 (h 12, .inl (cZ, 32, .inl (upd (s9 19) j13 y9)))) → cd_WS G A s.heap H locs ((pc_mod cI cZ h (cd_set s9 19 j13 y9))) from fun _ _ hh => hh) z7.2 (1 : Int32) hw
            refine lv_iinc (v := (z7.1 + (1 : Int32))) (lv' := [(2, .int (z7.1 + (1 : Int32))), (4, .int x10), (0, .ref (h 0)), (1, .int z2.1), (3, .int x9)]) hx hb dX6_layRows_95 hl (k := 3) rfl rfl (by decide) rfl (fun ls hl => ?_)
            refine lv_goto (tgt := 38) hx hb dX6_layRows_98 (by decide) ?_
            have z : some (Sum.inr ((z7.1 + (1 : Int32)), (cd_set z7.2 19 j13 (1 : Int32)))) = some o7 := hb7
            cases z
            exact hk7 _ _ _ (lv_sub hl [2, 3, 0] rfl) hw
          refine lv_if_le (tgt := 72) hx hb dX6_layRows_61 (by decide) (fun c10 => ?_) (fun c10 => ?_)
          · have e10 := cd_ite_t c10 e10
            refine lv_iconst (v := (0 : Int32)) hx hb dX6_layRows_72 (by decide) ?_
            have z : some (0 : Int32) = some x10 := e10
            cases z
            exact K10 _ _ _ (lv_sub hl [1, 2, 3, 0] rfl) hw
          · have e10 := cd_ite_f c10 e10
            refine lv_iload_n hx hb dX6_layRows_64 rfl (lv_at hl 2 rfl) ?_
            refine lv_iload_n hx hb dX6_layRows_65 rfl (lv_at hl 3 rfl) ?_
            refine lv_isub hx hb dX6_layRows_66 ?_
            refine lv_iconst (v := (2 : Int32)) hx hb dX6_layRows_67 (by decide) ?_
            refine lv_isub hx hb dX6_layRows_68 ?_
            refine lv_goto (tgt := 73) hx hb dX6_layRows_69 (by decide) ?_
            have z : some ((z2.1 - z7.1) - (2 : Int32)) = some x10 := e10
            cases z
            exact K10 _ _ _ (lv_sub hl [1, 2, 3, 0] rfl) hw
        refine lv_icmp_le (tgt := 54) hx hb dX6_layRows_45 (by decide) (fun c9 => ?_) (fun c9 => ?_)
        · have e9 := cd_ite_t c9 e9
          refine lv_iconst (v := (0 : Int32)) hx hb dX6_layRows_54 (by decide) ?_
          have z : some (0 : Int32) = some x9 := e9
          cases z
          exact K9 _ _ _ (lv_sub hl [0, 1, 2] rfl) hw
        · have e9 := cd_ite_f c9 e9
          refine lv_iload_n hx hb dX6_layRows_48 rfl (lv_at hl 2 rfl) ?_
          refine lv_iconst (v := (1 : Int32)) hx hb dX6_layRows_49 (by decide) ?_
          refine lv_isub hx hb dX6_layRows_50 ?_
          refine lv_goto (tgt := 55) hx hb dX6_layRows_51 (by decide) ?_
          have z : some (z7.1 - (1 : Int32)) = some x9 := e9
          cases z
          exact K9 _ _ _ (lv_sub hl [0, 1, 2] rfl) hw
    refine cd_iter_ind (body := f_X6_layRows_b17) (K := fun r => r = x4) (P := fun (z4 : Int32 × (Nat → Nat → Int32)) => ∀ (ls : Array Slot) (H : Heap) (locs : List Loc), lv_has ls 5 [(0, .ref (h 0)), (1, .int z2.1), (2, .int z4.1)] → cd_WS G A s.heap H locs ((pc_mod cI cZ h z4.2)) → W p l e rm_X6_layRows s m ag below meth c H locs 0 0 Q (F0 m 17 ls [])) ?_ cd_N ((0 : Int32), z2.2) x4 e4 rfl _ _ _ (lv_sub hl [1, 2, 0] rfl) hw
    intro z4 o4 hb4 hk4 ls H locs hl hw
    unfold f_X6_layRows_b17 at hb4
    refine lv_iload_n hx hb dX6_layRows_17 rfl (lv_at hl 2 rfl) ?_
    refine lv_bipush (v := (32 : Int32)) hx hb dX6_layRows_18 (by decide) ?_
    refine lv_icmp_ge (tgt := 36) hx hb dX6_layRows_20 (by decide) (fun c5 => ?_) (fun c5 => ?_)
    · have hb4 := cd_ite_t c5 hb4
      have z : some (Sum.inl z4.2) = some o4 := hb4
      cases z
      exact K4 _ hk4 _ _ _ (lv_sub hl [0, 1] rfl) hw
    · have hb4 := cd_ite_f c5 hb4
      refine lv_aload_n hx hb dX6_layRows_23 rfl (lv_at hl 0 rfl) ?_
      refine va_get (D := G) (ci := 6) (v := .ref (h 12)) (C := RX6) (T := TX6) (N := 22) hx hb hts nw_X6_layRows_X6 hown hK hw.1 0 rfl rfl 19 (by decide) hL1 (fun _ h9 => h9) rfl dX6_layRows_24 ?_
      refine lv_iload_n hx hb dX6_layRows_27 rfl (lv_at hl 2 rfl) ?_
      refine lv_iconst (v := (0 : Int32)) hx hb dX6_layRows_28 (by decide) ?_
      obtain ⟨j6, e6, hb4⟩ := cd_bind_some hb4
      refine cd_zast (f := z4.2 19) hx hb hK hw 12 rfl e6 rfl dX6_layRows_29 (fun H locs hw => ?_)
      have hw : cd_WS G A s.heap H locs ((pc_mod cI cZ h (cd_set z4.2 19 j6 (0 : Int32)))) := (show ∀ (s9 : Nat → Nat → Int32) (y9 : Int32), cd_WS G A s.heap H locs (((pc_mod cI cZ h s9)).set 12 (h 12, .inl (cZ, 32, .inl (upd (s9 19) j6 y9)))) → cd_WS G A s.heap H locs ((pc_mod cI cZ h (cd_set s9 19 j6 y9))) from fun _ _ hh => hh) z4.2 (0 : Int32) hw
      refine lv_iinc (v := (z4.1 + (1 : Int32))) (lv' := [(2, .int (z4.1 + (1 : Int32))), (0, .ref (h 0)), (1, .int z2.1)]) hx hb dX6_layRows_30 hl (k := 2) rfl rfl (by decide) rfl (fun ls hl => ?_)
      refine lv_goto (tgt := 17) hx hb dX6_layRows_33 (by decide) ?_
      have z : some (Sum.inr ((z4.1 + (1 : Int32)), (cd_set z4.2 19 j6 (0 : Int32)))) = some o4 := hb4
      cases z
      exact hk4 _ _ _ (lv_sub hl [1, 2, 0] rfl) hw
abbrev rm_X6_look : Room := { frames := 3, cells := 0, slots := 0, locals := 70 }
theorem nw_X6_look_X6 : ∀ w ∈ u_ws RX6 TX6 22, w ∈ wsX6_look := by decide +kernel
set_option maxHeartbeats 4000000 in
set_option maxRecDepth 100000 in
theorem c_X6_look (l : Launch) (G : va_G) (cI cZ : ClassId) (sa sb : Nat) (h : Nat → Nat) (M : Nat → Nat → Int32) (a0 : Int32) (o : Int32 × (Nat → Nat → Int32)) (hf : f_X6_look a0 M = some o) : cd_Ct l G cI cZ sa sb yX6_look wsX6_look rm_X6_look [.ref (h 0), .int a0] ((pc_mod cI cZ h M)) ((pc_mod cI cZ h o.2)) (some (.int o.1)) := by
  refine cd_of (cc := cX6_look) (maxL := 8) (ret := (some .int)) (by decide) rfl (Nat.le_of_ble_eq_true rfl) ?_
  intro p e s m ag below meth c A ls Q C0 hl hw hQ
  have C0 : cd_CX G cI cZ sa sb p s m ag meth c cX6_look 8 (some .int) wsX6_look RX6 A := C0
  obtain ⟨⟨hx, hb, hml, hown, hts⟩, hr, hlocks, hA, hE⟩ := id C0
  have hK := hE.1
  have hL0 := hts (.constant RX6 150 (1000000)) (by decide +kernel)
  have hL1 := hts (.fieldLink RX6 37 "CandleDebtsModel" "counts" "[I") (by decide +kernel)
  have hl : lv_has ls 8 [(0, .ref (h 0)), (1, .int a0)] := hl
  unfold f_X6_look at hf
  refine lv_iload_n hx hb dX6_look_0 rfl (lv_at hl 1 rfl) ?_
  refine lv_iconst (v := (0 : Int32)) hx hb dX6_look_1 (by decide) ?_
  refine lv_iconst (v := (1 : Int32)) hx hb dX6_look_2 (by decide) ?_
  obtain ⟨r1, e1, hf⟩ := cd_bind_some hf
  refine cd_callS (As := [.int a0, .int (0 : Int32), .int (1 : Int32)]) (rest := []) C0 hw (c_X6_in l G cI cZ sa sb a0 (0 : Int32) (1 : Int32) r1 e1) [] rfl rfl (va_cwS 3 hts gX6_look_X6_in rfl rfl rfl (by decide +kernel) ⟨Nat.le_of_ble_eq_true rfl, Nat.le_of_ble_eq_true rfl⟩) rfl hl.1 (lv_room (Nat.le_of_ble_eq_true rfl)) dX6_look_3 (fun H locs hw => ?_)
  refine lv_if_ne (tgt := 12) hx hb dX6_look_6 (by decide) (fun c2 => ?_) (fun c2 => ?_)
  · have hf := cd_ite_f c2 hf
    refine lv_aload_n hx hb dX6_look_12 rfl (lv_at hl 0 rfl) ?_
    obtain ⟨r3, e3, hf⟩ := cd_bind_some hf
    refine cd_callVw (As := []) (rest := []) (wr := ([] : va_W)) (wn := (pc_mod cI cZ h r3)) C0 hw (c_X6_layBurns l G cI cZ sa sb h M r3 e3) [0, 1, 2, 3, 4, 5, 6, 7, 8, 9, 10, 11, 12, 13, 14] [] [0, 1, 2, 3, 4, 5, 6, 7, 8, 9, 10, 11, 12, 13, 14] rfl rfl rfl rfl (by decide) rfl rfl 0 6 rfl rfl rfl (cwV 0 hts gX6_look_X6_layBurns rfl rfl rfl (by decide +kernel) ⟨Nat.le_of_ble_eq_true rfl, Nat.le_of_ble_eq_true rfl⟩) rfl hl.1 (lv_room (Nat.le_of_ble_eq_true rfl)) dX6_look_13 (fun H locs hw => ?_)
    refine lv_bipush (v := (-6 : Int32)) hx hb dX6_look_16 (by decide) ?_
    refine lv_istore_n (lv' := [(2, .int (-6 : Int32)), (0, .ref (h 0)), (1, .int a0)]) hx hb dX6_look_18 rfl hl (by decide) rfl (fun ls hl => ?_)
    refine lv_ldc (v := (1000000 : Int32)) hx hb hown hL0 dX6_look_19 ?_
    refine lv_istore_n (lv' := [(3, .int (1000000 : Int32)), (2, .int (-6 : Int32)), (0, .ref (h 0)), (1, .int a0)]) hx hb dX6_look_21 rfl hl (by decide) rfl (fun ls hl => ?_)
    refine lv_iconst (v := (0 : Int32)) hx hb dX6_look_22 (by decide) ?_
    refine lv_istore (lv' := [(4, .int (0 : Int32)), (3, .int (1000000 : Int32)), (2, .int (-6 : Int32)), (0, .ref (h 0)), (1, .int a0)]) hx hb dX6_look_23 hl (by decide) rfl (fun ls hl => ?_)
    obtain ⟨x4, e4, hf⟩ := cd_bind_some hf
    have K4 : ∀ (t4 : Int32 × Int32 × (Nat → Nat → Int32)), t4 = x4 → ∀ (ls : Array Slot) (H : Heap) (locs : List Loc), lv_has ls 8 [(1, .int a0), (2, .int t4.1), (3, .int t4.2.1)] → cd_WS G A s.heap H locs ((pc_mod cI cZ h t4.2.2)) → W p l e rm_X6_look s m ag below meth c H locs 0 0 Q (F0 m 181 ls []) := by
      intro t4 hs_4
      subst hs_4
      intro ls H locs hl hw
      refine lv_iload_n hx hb dX6_look_181 rfl (lv_at hl 1 rfl) ?_
      obtain ⟨x23, e23, hf⟩ := cd_bind_some hf
      have K23 : ∀ (ls : Array Slot) (H : Heap) (locs : List Loc), lv_has ls 8 [] → cd_WS G A s.heap H locs ((pc_mod cI cZ h t4.2.2)) → W p l e rm_X6_look s m ag below meth c H locs 0 0 Q (F0 m 194 ls [.int x23]) := by
        intro ls H locs hl hw
        have z : some (x23, t4.2.2) = some o := hf
        cases z
        rw [hQ]
        exact cd_reti C0 hw dX6_look_194
      refine lv_if_lt (tgt := 189) hx hb dX6_look_182 (by decide) (fun c23 => ?_) (fun c23 => ?_)
      · have e23 := cd_ite_t c23 e23
        refine lv_iload_n hx hb dX6_look_189 rfl (lv_at hl 1 rfl) ?_
        refine lv_goto (tgt := 194) hx hb dX6_look_190 (by decide) ?_
        have z : some t4.1 = some x23 := e23
        cases z
        exact K23 _ _ _ (lv_sub hl [] rfl) hw
      · have e23 := cd_ite_f c23 e23
        refine lv_iload_n hx hb dX6_look_185 rfl (lv_at hl 0 rfl) ?_
        refine lv_if_ne (tgt := 193) hx hb dX6_look_186 (by decide) (fun c24 => ?_) (fun c24 => ?_)
        · have e23 := cd_ite_f c24 e23
          refine lv_iload_n hx hb dX6_look_193 rfl (lv_at hl 2 rfl) ?_
          have z : some t4.2.1 = some x23 := e23
          cases z
          exact K23 _ _ _ (lv_sub hl [] rfl) hw
        · have e23 := cd_ite_t c24 e23
          refine lv_iload_n hx hb dX6_look_189 rfl (lv_at hl 1 rfl) ?_
          refine lv_goto (tgt := 194) hx hb dX6_look_190 (by decide) ?_
          have z : some t4.1 = some x23 := e23
          cases z
          exact K23 _ _ _ (lv_sub hl [] rfl) hw
    refine cd_iter_ind (body := f_X6_look_b25) (K := fun r => r = x4) (P := fun (z4 : Int32 × Int32 × Int32 × (Nat → Nat → Int32)) => ∀ (ls : Array Slot) (H : Heap) (locs : List Loc), lv_has ls 8 [(0, .ref (h 0)), (1, .int a0), (2, .int z4.1), (3, .int z4.2.1), (4, .int z4.2.2.1)] → cd_WS G A s.heap H locs ((pc_mod cI cZ h z4.2.2.2)) → W p l e rm_X6_look s m ag below meth c H locs 0 0 Q (F0 m 25 ls [])) ?_ cd_N ((-6 : Int32), (1000000 : Int32), (0 : Int32), r3) x4 e4 rfl _ _ _ (lv_sub hl [3, 4, 2, 1, 0] rfl) hw
    intro z4 o4 hb4 hk4 ls H locs hl hw
    unfold f_X6_look_b25 at hb4
    refine lv_iload hx hb dX6_look_25 (lv_at hl 4 rfl) ?_
    refine lv_bipush (v := (12 : Int32)) hx hb dX6_look_27 (by decide) ?_
    refine lv_icmp_ge (tgt := 181) hx hb dX6_look_29 (by decide) (fun c5 => ?_) (fun c5 => ?_)
    · have hb4 := cd_ite_t c5 hb4
      have z : some (Sum.inl (z4.1, z4.2.1, z4.2.2.2)) = some o4 := hb4
      cases z
      exact K4 _ hk4 _ _ _ (lv_sub hl [1, 2, 3] rfl) hw
    · have hb4 := cd_ite_f c5 hb4
      refine lv_iconst (v := (0 : Int32)) hx hb dX6_look_32 (by decide) ?_
      refine lv_istore (lv' := [(5, .int (0 : Int32)), (0, .ref (h 0)), (1, .int a0), (2, .int z4.1), (3, .int z4.2.1), (4, .int z4.2.2.1)]) hx hb dX6_look_33 hl (by decide) rfl (fun ls hl => ?_)
      refine lv_iconst (v := (0 : Int32)) hx hb dX6_look_35 (by decide) ?_
      refine lv_istore (lv' := [(6, .int (0 : Int32)), (5, .int (0 : Int32)), (0, .ref (h 0)), (1, .int a0), (2, .int z4.1), (3, .int z4.2.1), (4, .int z4.2.2.1)]) hx hb dX6_look_36 hl (by decide) rfl (fun ls hl => ?_)
      obtain ⟨x6, e6, hb4⟩ := cd_bind_some hb4
      have K6 : ∀ (t6 : (Nat → Nat → Int32)), t6 = x6 → ∀ (ls : Array Slot) (H : Heap) (locs : List Loc), lv_has ls 8 [(0, .ref (h 0)), (1, .int a0), (2, .int z4.1), (3, .int z4.2.1), (4, .int z4.2.2.1), (5, .int (0 : Int32))] → cd_WS G A s.heap H locs ((pc_mod cI cZ h t6)) → W p l e rm_X6_look s m ag below meth c H locs 0 0 Q (F0 m 60 ls []) := by
        intro t6 hs_6
        subst hs_6
        intro ls H locs hl hw
        refine lv_iconst (v := (0 : Int32)) hx hb dX6_look_60 (by decide) ?_
        refine lv_istore (lv' := [(6, .int (0 : Int32)), (0, .ref (h 0)), (1, .int a0), (2, .int z4.1), (3, .int z4.2.1), (4, .int z4.2.2.1), (5, .int (0 : Int32))]) hx hb dX6_look_61 hl (by decide) rfl (fun ls hl => ?_)
        obtain ⟨x9, e9, hb4⟩ := cd_bind_some hb4
        have K9 : ∀ (t9 : Int32 × (Nat → Nat → Int32)), t9 = x9 → ∀ (ls : Array Slot) (H : Heap) (locs : List Loc), lv_has ls 8 [(0, .ref (h 0)), (1, .int a0), (2, .int z4.1), (3, .int z4.2.1), (4, .int z4.2.2.1), (5, .int t9.1)] → cd_WS G A s.heap H locs ((pc_mod cI cZ h t9.2)) → W p l e rm_X6_look s m ag below meth c H locs 0 0 Q (F0 m 133 ls []) := by
          intro t9 hs_9
          subst hs_9
          intro ls H locs hl hw
          refine lv_iload hx hb dX6_look_133 (lv_at hl 5 rfl) ?_
          obtain ⟨x19, e19, hb4⟩ := cd_bind_some hb4
          have K19 : ∀ (ls : Array Slot) (H : Heap) (locs : List Loc), lv_has ls 8 [(0, .ref (h 0)), (1, .int a0), (2, .int z4.1), (3, .int z4.2.1), (4, .int z4.2.2.1), (5, .int t9.1)] → cd_WS G A s.heap H locs ((pc_mod cI cZ h t9.2)) → W p l e rm_X6_look s m ag below meth c H locs 0 0 Q (F0 m 149 ls [.int x19]) := by
            intro ls H locs hl hw
            refine lv_istore (lv' := [(6, .int x19), (0, .ref (h 0)), (1, .int a0), (2, .int z4.1), (3, .int z4.2.1), (4, .int z4.2.2.1), (5, .int t9.1)]) hx hb dX6_look_149 hl (by decide) rfl (fun ls hl => ?_)
            refine lv_iload hx hb dX6_look_151 (lv_at hl 0 rfl) ?_
            obtain ⟨x20, e20, hb4⟩ := cd_bind_some hb4
            have K20 : ∀ (ls : Array Slot) (H : Heap) (locs : List Loc), lv_has ls 8 [(0, .ref (h 0)), (1, .int a0), (3, .int z4.2.1), (4, .int z4.2.2.1), (5, .int t9.1), (6, .int x19)] → cd_WS G A s.heap H locs ((pc_mod cI cZ h t9.2)) → W p l e rm_X6_look s m ag below meth c H locs 0 0 Q (F0 m 162 ls [.int x20]) := by
              intro ls H locs hl hw
              refine lv_istore_n (lv' := [(2, .int x20), (0, .ref (h 0)), (1, .int a0), (3, .int z4.2.1), (4, .int z4.2.2.1), (5, .int t9.1), (6, .int x19)]) hx hb dX6_look_162 rfl hl (by decide) rfl (fun ls hl => ?_)
              refine lv_iload hx hb dX6_look_163 (lv_at hl 6 rfl) ?_
              refine lv_if_eq (tgt := 173) hx hb dX6_look_165 (by decide) (fun c21 => ?_) (fun c21 => ?_)
              · have hb4 := cd_ite_t c21 hb4
                refine lv_iload_n hx hb dX6_look_173 rfl (lv_at hl 3 rfl) ?_
                refine lv_istore_n (lv' := [(3, .int z4.2.1), (2, .int x20), (0, .ref (h 0)), (1, .int a0), (4, .int z4.2.2.1), (5, .int t9.1), (6, .int x19)]) hx hb dX6_look_174 rfl hl (by decide) rfl (fun ls hl => ?_)
                refine lv_iinc (v := (z4.2.2.1 + (1 : Int32))) (lv' := [(4, .int (z4.2.2.1 + (1 : Int32))), (3, .int z4.2.1), (2, .int x20), (0, .ref (h 0)), (1, .int a0), (5, .int t9.1), (6, .int x19)]) hx hb dX6_look_175 hl (k := 4) rfl rfl (by decide) rfl (fun ls hl => ?_)
                refine lv_goto (tgt := 25) hx hb dX6_look_178 (by decide) ?_
                have z : some (Sum.inr (x20, z4.2.1, (z4.2.2.1 + (1 : Int32)), t9.2)) = some o4 := hb4
                cases z
                exact hk4 _ _ _ (lv_sub hl [3, 4, 2, 1, 0] rfl) hw
              · have hb4 := cd_ite_f c21 hb4
                refine lv_iload hx hb dX6_look_168 (lv_at hl 5 rfl) ?_
                refine lv_goto (tgt := 174) hx hb dX6_look_170 (by decide) ?_
                refine lv_istore_n (lv' := [(3, .int t9.1), (2, .int x20), (0, .ref (h 0)), (1, .int a0), (4, .int z4.2.2.1), (5, .int t9.1), (6, .int x19)]) hx hb dX6_look_174 rfl hl (by decide) rfl (fun ls hl => ?_)
                refine lv_iinc (v := (z4.2.2.1 + (1 : Int32))) (lv' := [(4, .int (z4.2.2.1 + (1 : Int32))), (3, .int t9.1), (2, .int x20), (0, .ref (h 0)), (1, .int a0), (5, .int t9.1), (6, .int x19)]) hx hb dX6_look_175 hl (k := 4) rfl rfl (by decide) rfl (fun ls hl => ?_)
                refine lv_goto (tgt := 25) hx hb dX6_look_178 (by decide) ?_
                have z : some (Sum.inr (x20, t9.1, (z4.2.2.1 + (1 : Int32)), t9.2)) = some o4 := hb4
                cases z
                exact hk4 _ _ _ (lv_sub hl [3, 4, 2, 1, 0] rfl) hw
            refine lv_if_eq (tgt := 161) hx hb dX6_look_153 (by decide) (fun c20 => ?_) (fun c20 => ?_)
            · have e20 := cd_ite_t c20 e20
              refine lv_iload_n hx hb dX6_look_161 rfl (lv_at hl 3 rfl) ?_
              have z : some z4.1 = some x20 := e20
              cases z
              exact K20 _ _ _ (lv_sub hl [1, 2, 4, 5, 6, 0] rfl) hw
            · have e20 := cd_ite_f c20 e20
              refine lv_iload hx hb dX6_look_156 (lv_at hl 5 rfl) ?_
              refine lv_goto (tgt := 162) hx hb dX6_look_158 (by decide) ?_
              have z : some z4.2.2.1 = some x20 := e20
              cases z
              exact K20 _ _ _ (lv_sub hl [1, 2, 4, 5, 6, 0] rfl) hw
          refine lv_if_le (tgt := 148) hx hb dX6_look_135 (by decide) (fun c19 => ?_) (fun c19 => ?_)
          · have e19 := cd_ite_t c19 e19
            refine lv_iconst (v := (0 : Int32)) hx hb dX6_look_148 (by decide) ?_
            have z : some (0 : Int32) = some x19 := e19
            cases z
            exact K19 _ _ _ (lv_sub hl [0, 1, 2, 3, 4, 5] rfl) hw
          · have e19 := cd_ite_f c19 e19
            refine lv_iload hx hb dX6_look_138 (lv_at hl 5 rfl) ?_
            refine lv_iload_n hx hb dX6_look_140 rfl (lv_at hl 3 rfl) ?_
            refine lv_icmp_ge (tgt := 148) hx hb dX6_look_141 (by decide) (fun c22 => ?_) (fun c22 => ?_)
            · have e19 := cd_ite_t c22 e19
              refine lv_iconst (v := (0 : Int32)) hx hb dX6_look_148 (by decide) ?_
              have z : some (0 : Int32) = some x19 := e19
              cases z
              exact K19 _ _ _ (lv_sub hl [0, 1, 2, 3, 4, 5] rfl) hw
            · have e19 := cd_ite_f c22 e19
              refine lv_iconst (v := (1 : Int32)) hx hb dX6_look_144 (by decide) ?_
              refine lv_goto (tgt := 149) hx hb dX6_look_145 (by decide) ?_
              have z : some (1 : Int32) = some x19 := e19
              cases z
              exact K19 _ _ _ (lv_sub hl [0, 1, 2, 3, 4, 5] rfl) hw
        refine cd_iter_ind (body := (f_X6_look_b63 z4)) (K := fun r => r = x9) (P := fun (z9 : Int32 × Int32 × (Nat → Nat → Int32)) => ∀ (ls : Array Slot) (H : Heap) (locs : List Loc), lv_has ls 8 [(0, .ref (h 0)), (1, .int a0), (2, .int z4.1), (3, .int z4.2.1), (4, .int z4.2.2.1), (5, .int z9.1), (6, .int z9.2.1)] → cd_WS G A s.heap H locs ((pc_mod cI cZ h z9.2.2)) → W p l e rm_X6_look s m ag below meth c H locs 0 0 Q (F0 m 63 ls [])) ?_ cd_N ((0 : Int32), (0 : Int32), t6) x9 e9 rfl _ _ _ (lv_sub hl [1, 2, 3, 4, 5, 6, 0] rfl) hw
        intro z9 o9 hb9 hk9 ls H locs hl hw
        unfold f_X6_look_b63 at hb9
        refine lv_iload hx hb dX6_look_63 (lv_at hl 6 rfl) ?_
        refine lv_sipush (v := (12000 : Int32)) hx hb dX6_look_65 (by decide) ?_
        refine lv_icmp_ge (tgt := 133) hx hb dX6_look_68 (by decide) (fun c10 => ?_) (fun c10 => ?_)
        · have hb9 := cd_ite_t c10 hb9
          have z : some (Sum.inl (z9.1, z9.2.2)) = some o9 := hb9
          cases z
          exact K9 _ hk9 _ _ _ (lv_sub hl [0, 1, 2, 3, 4, 5] rfl) hw
        · have hb9 := cd_ite_f c10 hb9
          refine lv_aload_n hx hb dX6_look_71 rfl (lv_at hl 0 rfl) ?_
          refine lv_iload hx hb dX6_look_72 (lv_at hl 6 rfl) ?_
          obtain ⟨r11, e11, hb9⟩ := cd_bind_some hb9
          refine cd_callV (As := [.int z9.2.1]) (rest := []) C0 hw (c_X6_isSneeze l G cI cZ sa sb h z9.2.2 z9.2.1 r11 e11) [0, 1, 2, 3, 4, 5, 6, 7, 8, 9, 10, 11, 12, 13, 14] rfl rfl 0 6 rfl rfl rfl (cwV 1 hts gX6_look_X6_isSneeze rfl rfl rfl (by decide +kernel) ⟨Nat.le_of_ble_eq_true rfl, Nat.le_of_ble_eq_true rfl⟩) rfl hl.1 (lv_room (Nat.le_of_ble_eq_true rfl)) dX6_look_74 (fun H locs hw => ?_)
          refine lv_if_eq (tgt := 127) hx hb dX6_look_77 (by decide) (fun c12 => ?_) (fun c12 => ?_)
          · have hb9 := cd_ite_t c12 hb9
            refine lv_iinc (v := (z9.2.1 + (1 : Int32))) (lv' := [(6, .int (z9.2.1 + (1 : Int32))), (0, .ref (h 0)), (1, .int a0), (2, .int z4.1), (3, .int z4.2.1), (4, .int z4.2.2.1), (5, .int z9.1)]) hx hb dX6_look_127 hl (k := 6) rfl rfl (by decide) rfl (fun ls hl => ?_)
            refine lv_goto (tgt := 63) hx hb dX6_look_130 (by decide) ?_
            have z : some (Sum.inr (z9.1, (z9.2.1 + (1 : Int32)), z9.2.2)) = some o9 := hb9
            cases z
            exact hk9 _ _ _ (lv_sub hl [1, 2, 3, 4, 5, 6, 0] rfl) hw
          · have hb9 := cd_ite_f c12 hb9
            refine lv_aload_n hx hb dX6_look_80 rfl (lv_at hl 0 rfl) ?_
            refine lv_iload hx hb dX6_look_81 (lv_at hl 6 rfl) ?_
            refine lv_iload hx hb dX6_look_83 (lv_at hl 4 rfl) ?_
            obtain ⟨r13, e13, hb9⟩ := cd_bind_some hb9
            refine cd_callV (As := [.int z9.2.1, .int z4.2.2.1]) (rest := []) C0 hw (c_X6_lostBy l G cI cZ sa sb h z9.2.2 z9.2.1 z4.2.2.1 r13 e13) [0, 1, 2, 3, 4, 5, 6, 7, 8, 9, 10, 11, 12, 13, 14] rfl rfl 0 6 rfl rfl rfl (cwV 2 hts gX6_look_X6_lostBy rfl rfl rfl (by decide +kernel) ⟨Nat.le_of_ble_eq_true rfl, Nat.le_of_ble_eq_true rfl⟩) rfl hl.1 (lv_room (Nat.le_of_ble_eq_true rfl)) dX6_look_85 (fun H locs hw => ?_)
            refine lv_istore (lv' := [(7, .int r13), (0, .ref (h 0)), (1, .int a0), (2, .int z4.1), (3, .int z4.2.1), (4, .int z4.2.2.1), (5, .int z9.1), (6, .int z9.2.1)]) hx hb dX6_look_88 hl (by decide) rfl (fun ls hl => ?_)
            refine lv_aload_n hx hb dX6_look_90 rfl (lv_at hl 1 rfl) ?_
            refine va_get (D := G) (ci := 6) (v := .ref (h 10)) (C := RX6) (T := TX6) (N := 22) hx hb hts nw_X6_look_X6 hown hK hw.1 0 rfl rfl 17 (by decide) hL1 (fun _ h9 => h9) rfl dX6_look_91 ?_
            refine lv_iload hx hb dX6_look_94 (lv_at hl 0 rfl) ?_
            refine lv_dup2_11 hx hb dX6_look_96 rfl rfl ?_
            obtain ⟨v14, e14, hb9⟩ := cd_bind_some hb9
            refine cd_iald hx hb hK hw 10 rfl e14 dX6_look_97 ?_
            refine lv_iconst (v := (1 : Int32)) hx hb dX6_look_98 (by decide) ?_
            refine lv_iadd hx hb dX6_look_99 ?_
            obtain ⟨j15, e15, hb9⟩ := cd_bind_some hb9
            refine cd_iast (f := z9.2.2 17) hx hb hK hw 10 rfl e15 dX6_look_100 (fun H locs hw => ?_)
            have hw : cd_WS G A s.heap H locs ((pc_mod cI cZ h (cd_set z9.2.2 17 j15 (v14 + (1 : Int32))))) := (show ∀ (s9 : Nat → Nat → Int32) (y9 : Int32), cd_WS G A s.heap H locs (((pc_mod cI cZ h s9)).set 10 (h 10, .inl (cI, 1000, .inl (upd (s9 17) j15 y9)))) → cd_WS G A s.heap H locs ((pc_mod cI cZ h (cd_set s9 17 j15 y9))) from fun _ _ hh => hh) z9.2.2 (v14 + (1 : Int32)) hw
            refine lv_aload_n hx hb dX6_look_101 rfl (lv_at hl 1 rfl) ?_
            refine va_get (D := G) (ci := 6) (v := .ref (h 10)) (C := RX6) (T := TX6) (N := 22) hx hb hts nw_X6_look_X6 hown hK hw.1 0 rfl rfl 17 (by decide) hL1 (fun _ h9 => h9) rfl dX6_look_102 ?_
            refine lv_iload hx hb dX6_look_105 (lv_at hl 0 rfl) ?_
            obtain ⟨v16, e16, hb9⟩ := cd_bind_some hb9
            refine cd_iald hx hb hK hw 10 rfl e16 dX6_look_107 ?_
            refine lv_iload hx hb dX6_look_108 (lv_at hl 6 rfl) ?_
            refine lv_icmp_le (tgt := 123) hx hb dX6_look_110 (by decide) (fun c17 => ?_) (fun c17 => ?_)
            · have hb9 := cd_ite_t c17 hb9
              refine lv_iload hx hb dX6_look_123 (lv_at hl 6 rfl) ?_
              refine lv_istore (lv' := [(5, .int z9.1), (7, .int r13), (0, .ref (h 0)), (1, .int a0), (2, .int z4.1), (3, .int z4.2.1), (4, .int z4.2.2.1), (6, .int z9.2.1)]) hx hb dX6_look_125 hl (by decide) rfl (fun ls hl => ?_)
              refine lv_iinc (v := (z9.2.1 + (1 : Int32))) (lv' := [(6, .int (z9.2.1 + (1 : Int32))), (5, .int z9.1), (7, .int r13), (0, .ref (h 0)), (1, .int a0), (2, .int z4.1), (3, .int z4.2.1), (4, .int z4.2.2.1)]) hx hb dX6_look_127 hl (k := 7) rfl rfl (by decide) rfl (fun ls hl => ?_)
              refine lv_goto (tgt := 63) hx hb dX6_look_130 (by decide) ?_
              have z : some (Sum.inr (z9.1, (z9.2.1 + (1 : Int32)), (cd_set z9.2.2 17 j15 (v14 + (1 : Int32))))) = some o9 := hb9
              cases z
              exact hk9 _ _ _ (lv_sub hl [3, 4, 5, 6, 7, 1, 0] rfl) hw
            · have hb9 := cd_ite_f c17 hb9
              refine lv_aload_n hx hb dX6_look_113 rfl (lv_at hl 1 rfl) ?_
              refine va_get (D := G) (ci := 6) (v := .ref (h 10)) (C := RX6) (T := TX6) (N := 22) hx hb hts nw_X6_look_X6 hown hK hw.1 0 rfl rfl 17 (by decide) hL1 (fun _ h9 => h9) rfl dX6_look_114 ?_
              refine lv_iload hx hb dX6_look_117 (lv_at hl 0 rfl) ?_
              obtain ⟨v18, e18, hb9⟩ := cd_bind_some hb9
              refine cd_iald hx hb hK hw 10 rfl e18 dX6_look_119 ?_
              refine lv_goto (tgt := 125) hx hb dX6_look_120 (by decide) ?_
              refine lv_istore (lv' := [(5, .int v18), (7, .int r13), (0, .ref (h 0)), (1, .int a0), (2, .int z4.1), (3, .int z4.2.1), (4, .int z4.2.2.1), (6, .int z9.2.1)]) hx hb dX6_look_125 hl (by decide) rfl (fun ls hl => ?_)
              refine lv_iinc (v := (z9.2.1 + (1 : Int32))) (lv' := [(6, .int (z9.2.1 + (1 : Int32))), (5, .int v18), (7, .int r13), (0, .ref (h 0)), (1, .int a0), (2, .int z4.1), (3, .int z4.2.1), (4, .int z4.2.2.1)]) hx hb dX6_look_127 hl (k := 7) rfl rfl (by decide) rfl (fun ls hl => ?_)
              refine lv_goto (tgt := 63) hx hb dX6_look_130 (by decide) ?_
              have z : some (Sum.inr (v18, (z9.2.1 + (1 : Int32)), (cd_set z9.2.2 17 j15 (v14 + (1 : Int32))))) = some o9 := hb9
              cases z
              exact hk9 _ _ _ (lv_sub hl [3, 4, 5, 6, 7, 1, 0] rfl) hw
      refine cd_iter_ind (body := f_X6_look_b38) (K := fun r => r = x6) (P := fun (z6 : Int32 × (Nat → Nat → Int32)) => ∀ (ls : Array Slot) (H : Heap) (locs : List Loc), lv_has ls 8 [(0, .ref (h 0)), (1, .int a0), (2, .int z4.1), (3, .int z4.2.1), (4, .int z4.2.2.1), (5, .int (0 : Int32)), (6, .int z6.1)] → cd_WS G A s.heap H locs ((pc_mod cI cZ h z6.2)) → W p l e rm_X6_look s m ag below meth c H locs 0 0 Q (F0 m 38 ls [])) ?_ cd_N ((0 : Int32), z4.2.2.2) x6 e6 rfl _ _ _ (lv_sub hl [2, 3, 4, 5, 6, 1, 0] rfl) hw
      intro z6 o6 hb6 hk6 ls H locs hl hw
      unfold f_X6_look_b38 at hb6
      refine lv_iload hx hb dX6_look_38 (lv_at hl 6 rfl) ?_
      refine lv_sipush (v := (1000 : Int32)) hx hb dX6_look_40 (by decide) ?_
      refine lv_icmp_ge (tgt := 60) hx hb dX6_look_43 (by decide) (fun c7 => ?_) (fun c7 => ?_)
      · have hb6 := cd_ite_t c7 hb6
        have z : some (Sum.inl z6.2) = some o6 := hb6
        cases z
        exact K6 _ hk6 _ _ _ (lv_sub hl [0, 1, 2, 3, 4, 5] rfl) hw
      · have hb6 := cd_ite_f c7 hb6
        refine lv_aload_n hx hb dX6_look_46 rfl (lv_at hl 0 rfl) ?_
        refine va_get (D := G) (ci := 6) (v := .ref (h 10)) (C := RX6) (T := TX6) (N := 22) hx hb hts nw_X6_look_X6 hown hK hw.1 0 rfl rfl 17 (by decide) hL1 (fun _ h9 => h9) rfl dX6_look_47 ?_
        refine lv_iload hx hb dX6_look_50 (lv_at hl 6 rfl) ?_
        refine lv_iconst (v := (0 : Int32)) hx hb dX6_look_52 (by decide) ?_
        obtain ⟨j8, e8, hb6⟩ := cd_bind_some hb6
        refine cd_iast (f := z6.2 17) hx hb hK hw 10 rfl e8 dX6_look_53 (fun H locs hw => ?_)
        have hw : cd_WS G A s.heap H locs ((pc_mod cI cZ h (cd_set z6.2 17 j8 (0 : Int32)))) := (show ∀ (s9 : Nat → Nat → Int32) (y9 : Int32), cd_WS G A s.heap H locs (((pc_mod cI cZ h s9)).set 10 (h 10, .inl (cI, 1000, .inl (upd (s9 17) j8 y9)))) → cd_WS G A s.heap H locs ((pc_mod cI cZ h (cd_set s9 17 j8 y9))) from fun _ _ hh => hh) z6.2 (0 : Int32) hw
        refine lv_iinc (v := (z6.1 + (1 : Int32))) (lv' := [(6, .int (z6.1 + (1 : Int32))), (0, .ref (h 0)), (1, .int a0), (2, .int z4.1), (3, .int z4.2.1), (4, .int z4.2.2.1), (5, .int (0 : Int32))]) hx hb dX6_look_54 hl (k := 6) rfl rfl (by decide) rfl (fun ls hl => ?_)
        refine lv_goto (tgt := 38) hx hb dX6_look_57 (by decide) ?_
        have z : some (Sum.inr ((z6.1 + (1 : Int32)), (cd_set z6.2 17 j8 (0 : Int32)))) = some o6 := hb6
        cases z
        exact hk6 _ _ _ (lv_sub hl [1, 2, 3, 4, 5, 6, 0] rfl) hw
  · have hf := cd_ite_t c2 hf
    refine lv_bipush (v := (-2 : Int32)) hx hb dX6_look_9 (by decide) ?_
    have z : some ((-2 : Int32), M) = some o := hf
    cases z
    rw [hQ]
    exact cd_reti C0 hw dX6_look_11
abbrev rm_X6_lowest : Room := { frames := 0, cells := 0, slots := 0, locals := 0 }
set_option maxHeartbeats 4000000 in
set_option maxRecDepth 100000 in
theorem c_X6_lowest (l : Launch) (G : va_G) (cI cZ : ClassId) (sa sb : Nat) (a0 : Int64) (a1 : Int64) (a2 : Int32) (o : Int64) (hf : f_X6_lowest a0 a1 a2 = some o) : cd_Ct l G cI cZ sa sb yX6_lowest wsX6_lowest rm_X6_lowest [.long a0, .long a1, .int a2] (([] : va_W)) (([] : va_W)) (some (.long o)) := by
  refine cd_of (cc := cX6_lowest) (maxL := 11) (ret := (some .long)) (by decide) rfl (Nat.le_of_ble_eq_true rfl) ?_
  intro p e s m ag below meth c A ls Q C0 hl hw hQ
  have C0 : cd_CX G cI cZ sa sb p s m ag meth c cX6_lowest 11 (some .long) wsX6_lowest RX6 A := C0
  obtain ⟨⟨hx, hb, hml, hown, hts⟩, hr, hlocks, hA, hE⟩ := id C0
  have hK := hE.1
  have hl : lv_has ls 11 [(0, .long a0), (2, .long a1), (4, .int a2)] := hl
  unfold f_X6_lowest at hf
  refine lv_lload_n hx hb dX6_lowest_0 rfl (lv_at hl 0 rfl) ?_
  refine lv_lstore (lv' := [(5, .long a0), (0, .long a0), (2, .long a1), (4, .int a2)]) hx hb dX6_lowest_1 hl (by decide) rfl (fun ls hl => ?_)
  refine lv_lload_n hx hb dX6_lowest_3 rfl (lv_at hl 2 rfl) ?_
  refine lv_lstore (lv' := [(7, .long a1), (5, .long a0), (0, .long a0), (2, .long a1), (4, .int a2)]) hx hb dX6_lowest_4 hl (by decide) rfl (fun ls hl => ?_)
  obtain ⟨x1, e1, hf⟩ := cd_bind_some hf
  have K1 : ∀ (t1 : Int64), t1 = x1 → ∀ (ls : Array Slot) (H : Heap) (locs : List Loc), lv_has ls 11 [(0, .long a0), (2, .long a1), (4, .int a2), (5, .long t1)] → cd_WS G A s.heap H locs (([] : va_W)) → W p l e rm_X6_lowest s m ag below meth c H locs 0 0 Q (F0 m 31 ls []) := by
    intro t1 hs_1
    subst hs_1
    intro ls H locs hl hw
    refine lv_iload hx hb dX6_lowest_31 (lv_at hl 2 rfl) ?_
    obtain ⟨x4, e4, hf⟩ := cd_bind_some hf
    have K4 : ∀ (ls : Array Slot) (H : Heap) (locs : List Loc), lv_has ls 11 [] → cd_WS G A s.heap H locs (([] : va_W)) → W p l e rm_X6_lowest s m ag below meth c H locs 0 0 Q (F0 m 47 ls [.long x4]) := by
      intro ls H locs hl hw
      have z : some x4 = some o := hf
      cases z
      rw [hQ]
      exact cd_retl C0 hw dX6_lowest_47
    refine lv_if_ne (tgt := 43) hx hb dX6_lowest_33 (by decide) (fun c4 => ?_) (fun c4 => ?_)
    · have e4 := cd_ite_f c4 e4
      refine lv_lload_n hx hb dX6_lowest_43 rfl (lv_at hl 1 rfl) ?_
      refine lv_lload hx hb dX6_lowest_44 (lv_at hl 3 rfl) ?_
      obtain ⟨u6, e6, e4⟩ := cd_bind_some e4
      refine lv_ldiv hx hb dX6_lowest_46 (cd_nzl_eq e6) ?_
      have z : some (a1 / t1) = some x4 := e4
      cases z
      exact K4 _ _ _ (lv_sub hl [] rfl) hw
    · have e4 := cd_ite_t c4 e4
      refine lv_lload_n hx hb dX6_lowest_36 rfl (lv_at hl 0 rfl) ?_
      refine lv_lload hx hb dX6_lowest_37 (lv_at hl 3 rfl) ?_
      obtain ⟨u5, e5, e4⟩ := cd_bind_some e4
      refine lv_ldiv hx hb dX6_lowest_39 (cd_nzl_eq e5) ?_
      refine lv_goto (tgt := 47) hx hb dX6_lowest_40 (by decide) ?_
      have z : some (a0 / t1) = some x4 := e4
      cases z
      exact K4 _ _ _ (lv_sub hl [] rfl) hw
  refine cd_iter_ind (body := f_X6_lowest_b6) (K := fun r => r = x1) (P := fun (z1 : Int64 × Int64) => ∀ (ls : Array Slot) (H : Heap) (locs : List Loc), lv_has ls 11 [(0, .long a0), (2, .long a1), (4, .int a2), (5, .long z1.1), (7, .long z1.2)] → cd_WS G A s.heap H locs (([] : va_W)) → W p l e rm_X6_lowest s m ag below meth c H locs 0 0 Q (F0 m 6 ls [])) ?_ cd_N (a0, a1) x1 e1 rfl _ _ _ (lv_sub hl [2, 3, 4, 1, 0] rfl) hw
  intro z1 o1 hb1 hk1 ls H locs hl hw
  unfold f_X6_lowest_b6 at hb1
  refine lv_lload hx hb dX6_lowest_6 (lv_at hl 4 rfl) ?_
  refine lv_lconst (v := 0) hx hb dX6_lowest_8 (by decide) ?_
  refine W.lcmp hx hb dX6_lowest_9 ?_
  refine lv_if_eq (tgt := 31) hx hb dX6_lowest_10 (by decide) (fun c2 => ?_) (fun c2 => ?_)
  · have hb1 := cd_ite_t c2 hb1
    have z : some (Sum.inl z1.1) = some o1 := hb1
    cases z
    exact K1 _ hk1 _ _ _ (lv_sub hl [0, 1, 2, 3] rfl) hw
  · have hb1 := cd_ite_f c2 hb1
    refine lv_lload hx hb dX6_lowest_13 (lv_at hl 3 rfl) ?_
    refine lv_lload hx hb dX6_lowest_15 (lv_at hl 4 rfl) ?_
    obtain ⟨u3, e3, hb1⟩ := cd_bind_some hb1
    refine lv_lrem hx hb dX6_lowest_17 (cd_nzl_eq e3) ?_
    refine lv_lstore (lv' := [(9, .long (z1.1 - z1.1 / z1.2 * z1.2)), (0, .long a0), (2, .long a1), (4, .int a2), (5, .long z1.1), (7, .long z1.2)]) hx hb dX6_lowest_18 hl (by decide) rfl (fun ls hl => ?_)
    refine lv_lload hx hb dX6_lowest_20 (lv_at hl 5 rfl) ?_
    refine lv_lstore (lv' := [(5, .long z1.2), (9, .long (z1.1 - z1.1 / z1.2 * z1.2)), (0, .long a0), (2, .long a1), (4, .int a2), (7, .long z1.2)]) hx hb dX6_lowest_22 hl (by decide) rfl (fun ls hl => ?_)
    refine lv_lload hx hb dX6_lowest_24 (lv_at hl 1 rfl) ?_
    refine lv_lstore (lv' := [(7, .long (z1.1 - z1.1 / z1.2 * z1.2)), (5, .long z1.2), (9, .long (z1.1 - z1.1 / z1.2 * z1.2)), (0, .long a0), (2, .long a1), (4, .int a2)]) hx hb dX6_lowest_26 hl (by decide) rfl (fun ls hl => ?_)
    refine lv_goto (tgt := 6) hx hb dX6_lowest_28 (by decide) ?_
    have z : some (Sum.inr (z1.2, (z1.1 - z1.1 / z1.2 * z1.2))) = some o1 := hb1
    cases z
    exact hk1 _ _ _ (lv_sub hl [3, 4, 5, 1, 0] rfl) hw
abbrev rm_X6_matches : Room := { frames := 1, cells := 0, slots := 0, locals := 22 }
theorem nw_X6_matches_X6 : ∀ w ∈ u_ws RX6 TX6 22, w ∈ wsX6_matches := by decide +kernel
set_option maxHeartbeats 4000000 in
set_option maxRecDepth 100000 in
theorem c_X6_matches (l : Launch) (G : va_G) (cI cZ : ClassId) (sa sb : Nat) (h : Nat → Nat) (M : Nat → Nat → Int32) (a0 : Int32) (o : Int32 × (Nat → Nat → Int32)) (hf : f_X6_matches a0 M = some o) : cd_Ct l G cI cZ sa sb yX6_matches wsX6_matches rm_X6_matches [.ref (h 0), .int a0] ((pc_mod cI cZ h M)) ((pc_mod cI cZ h o.2)) (some (.int o.1)) := by
  refine cd_of (cc := cX6_matches) (maxL := 3) (ret := (some .int)) (by decide) rfl (Nat.le_of_ble_eq_true rfl) ?_
  intro p e s m ag below meth c A ls Q C0 hl hw hQ
  have C0 : cd_CX G cI cZ sa sb p s m ag meth c cX6_matches 3 (some .int) wsX6_matches RX6 A := C0
  obtain ⟨⟨hx, hb, hml, hown, hts⟩, hr, hlocks, hA, hE⟩ := id C0
  have hK := hE.1
  have hL0 := hts (.fieldLink RX6 7 "CandleDebtsModel" "book" "[I") (by decide +kernel)
  have hl : lv_has ls 3 [(0, .ref (h 0)), (1, .int a0)] := hl
  unfold f_X6_matches at hf
  refine lv_iload_n hx hb dX6_matches_0 rfl (lv_at hl 1 rfl) ?_
  refine lv_iconst (v := (0 : Int32)) hx hb dX6_matches_1 (by decide) ?_
  refine lv_bipush (v := (99 : Int32)) hx hb dX6_matches_2 (by decide) ?_
  obtain ⟨r1, e1, hf⟩ := cd_bind_some hf
  refine cd_callS (As := [.int a0, .int (0 : Int32), .int (99 : Int32)]) (rest := []) C0 hw (c_X6_in l G cI cZ sa sb a0 (0 : Int32) (99 : Int32) r1 e1) [] rfl rfl (va_cwS 3 hts gX6_matches_X6_in rfl rfl rfl (by decide +kernel) ⟨Nat.le_of_ble_eq_true rfl, Nat.le_of_ble_eq_true rfl⟩) rfl hl.1 (lv_room (Nat.le_of_ble_eq_true rfl)) dX6_matches_4 (fun H locs hw => ?_)
  refine lv_if_ne (tgt := 13) hx hb dX6_matches_7 (by decide) (fun c2 => ?_) (fun c2 => ?_)
  · have hf := cd_ite_f c2 hf
    refine lv_aload_n hx hb dX6_matches_13 rfl (lv_at hl 0 rfl) ?_
    refine va_get (D := G) (ci := 6) (v := .ref (h 1)) (C := RX6) (T := TX6) (N := 22) hx hb hts nw_X6_matches_X6 hown hK hw.1 0 rfl rfl 0 (by decide) hL0 (fun _ h9 => h9) rfl dX6_matches_14 ?_
    refine lv_bipush (v := (67 : Int32)) hx hb dX6_matches_17 (by decide) ?_
    obtain ⟨v3, e3, hf⟩ := cd_bind_some hf
    refine cd_iald hx hb hK hw 1 rfl e3 dX6_matches_19 ?_
    refine lv_istore_n (lv' := [(2, .int v3), (0, .ref (h 0)), (1, .int a0)]) hx hb dX6_matches_20 rfl hl (by decide) rfl (fun ls hl => ?_)
    refine lv_aload_n hx hb dX6_matches_21 rfl (lv_at hl 1 rfl) ?_
    refine va_get (D := G) (ci := 6) (v := .ref (h 1)) (C := RX6) (T := TX6) (N := 22) hx hb hts nw_X6_matches_X6 hown hK hw.1 0 rfl rfl 0 (by decide) hL0 (fun _ h9 => h9) rfl dX6_matches_22 ?_
    refine lv_bipush (v := (67 : Int32)) hx hb dX6_matches_25 (by decide) ?_
    refine lv_iload_n hx hb dX6_matches_27 rfl (lv_at hl 2 rfl) ?_
    obtain ⟨j4, e4, hf⟩ := cd_bind_some hf
    refine cd_iast (f := M 0) hx hb hK hw 1 rfl e4 dX6_matches_28 (fun H locs hw => ?_)
    have hw : cd_WS G A s.heap H locs ((pc_mod cI cZ h (cd_set M 0 j4 a0))) := (show ∀ (s9 : Nat → Nat → Int32) (y9 : Int32), cd_WS G A s.heap H locs (((pc_mod cI cZ h s9)).set 1 (h 1, .inl (cI, 69, .inl (upd (s9 0) j4 y9)))) → cd_WS G A s.heap H locs ((pc_mod cI cZ h (cd_set s9 0 j4 y9))) from fun _ _ hh => hh) M a0 hw
    refine lv_iload_n hx hb dX6_matches_29 rfl (lv_at hl 0 rfl) ?_
    have z : some (v3, (cd_set M 0 j4 a0)) = some o := hf
    cases z
    rw [hQ]
    exact cd_reti C0 hw dX6_matches_30
  · have hf := cd_ite_t c2 hf
    refine lv_bipush (v := (-2 : Int32)) hx hb dX6_matches_10 (by decide) ?_
    have z : some ((-2 : Int32), M) = some o := hf
    cases z
    rw [hQ]
    exact cd_reti C0 hw dX6_matches_12
abbrev rm_X6_may : Room := { frames := 2, cells := 0, slots := 0, locals := 42 }
theorem nw_X6_may_X6 : ∀ w ∈ u_ws RX6 TX6 22, w ∈ wsX6_may := by decide +kernel
set_option maxHeartbeats 4000000 in
set_option maxRecDepth 100000 in
theorem c_X6_may (l : Launch) (G : va_G) (cI cZ : ClassId) (sa sb : Nat) (h : Nat → Nat) (M : Nat → Nat → Int32) (a0 : Int32) (o : Int32) (hf : f_X6_may a0 M = some o) : cd_Ct l G cI cZ sa sb yX6_may wsX6_may rm_X6_may [.ref (h 0), .int a0] ((pc_mod cI cZ h M)) ((pc_mod cI cZ h M)) (some (.int o)) := by
  refine cd_of (cc := cX6_may) (maxL := 4) (ret := (some .int)) (by decide) rfl (Nat.le_of_ble_eq_true rfl) ?_
  intro p e s m ag below meth c A ls Q C0 hl hw hQ
  have C0 : cd_CX G cI cZ sa sb p s m ag meth c cX6_may 4 (some .int) wsX6_may RX6 A := C0
  obtain ⟨⟨hx, hb, hml, hown, hts⟩, hr, hlocks, hA, hE⟩ := id C0
  have hK := hE.1
  have hL0 := hts (.fieldLink RX6 7 "CandleDebtsModel" "book" "[I") (by decide +kernel)
  have hL1 := hts (.fieldLink RX6 16 "CandleDebtsModel" "creditor" "[I") (by decide +kernel)
  have hl : lv_has ls 4 [(0, .ref (h 0)), (1, .int a0)] := hl
  unfold f_X6_may at hf
  refine lv_iload_n hx hb dX6_may_0 rfl (lv_at hl 1 rfl) ?_
  obtain ⟨r1, e1, hf⟩ := cd_bind_some hf
  refine cd_callS (As := [.int a0]) (rest := []) C0 hw (c_X6_isOne l G cI cZ sa sb a0 r1 e1) [] rfl rfl (va_cwS 1 hts gX6_may_X6_isOne rfl rfl rfl (by decide +kernel) ⟨Nat.le_of_ble_eq_true rfl, Nat.le_of_ble_eq_true rfl⟩) rfl hl.1 (lv_room (Nat.le_of_ble_eq_true rfl)) dX6_may_1 (fun H locs hw => ?_)
  refine lv_if_ne (tgt := 9) hx hb dX6_may_4 (by decide) (fun c2 => ?_) (fun c2 => ?_)
  · have hf := cd_ite_f c2 hf
    refine lv_iconst (v := (0 : Int32)) hx hb dX6_may_9 (by decide) ?_
    refine lv_istore_n (lv' := [(2, .int (0 : Int32)), (0, .ref (h 0)), (1, .int a0)]) hx hb dX6_may_10 rfl hl (by decide) rfl (fun ls hl => ?_)
    refine lv_iconst (v := (0 : Int32)) hx hb dX6_may_11 (by decide) ?_
    refine lv_istore_n (lv' := [(3, .int (0 : Int32)), (2, .int (0 : Int32)), (0, .ref (h 0)), (1, .int a0)]) hx hb dX6_may_12 rfl hl (by decide) rfl (fun ls hl => ?_)
    obtain ⟨x3, e3, hf⟩ := cd_bind_some hf
    have K3 : ∀ (t3 : Int32), t3 = x3 → ∀ (ls : Array Slot) (H : Heap) (locs : List Loc), lv_has ls 4 [(2, .int t3)] → cd_WS G A s.heap H locs ((pc_mod cI cZ h M)) → W p l e rm_X6_may s m ag below meth c H locs 0 0 Q (F0 m 71 ls []) := by
      intro t3 hs_3
      subst hs_3
      intro ls H locs hl hw
      refine lv_iload_n hx hb dX6_may_71 rfl (lv_at hl 0 rfl) ?_
      have z : some t3 = some o := hf
      cases z
      rw [hQ]
      exact cd_reti C0 hw dX6_may_72
    refine cd_iter_ind (body := (f_X6_may_b13 a0 M)) (K := fun r => r = x3) (P := fun (z3 : Int32 × Int32) => ∀ (ls : Array Slot) (H : Heap) (locs : List Loc), lv_has ls 4 [(0, .ref (h 0)), (1, .int a0), (2, .int z3.1), (3, .int z3.2)] → cd_WS G A s.heap H locs ((pc_mod cI cZ h M)) → W p l e rm_X6_may s m ag below meth c H locs 0 0 Q (F0 m 13 ls [])) ?_ cd_N ((0 : Int32), (0 : Int32)) x3 e3 rfl _ _ _ (lv_sub hl [2, 3, 1, 0] rfl) hw
    intro z3 o3 hb3 hk3 ls H locs hl hw
    unfold f_X6_may_b13 at hb3
    refine lv_iload_n hx hb dX6_may_13 rfl (lv_at hl 3 rfl) ?_
    refine lv_bipush (v := (12 : Int32)) hx hb dX6_may_14 (by decide) ?_
    refine lv_icmp_ge (tgt := 71) hx hb dX6_may_16 (by decide) (fun c4 => ?_) (fun c4 => ?_)
    · have hb3 := cd_ite_t c4 hb3
      have z : some (Sum.inl z3.1) = some o3 := hb3
      cases z
      exact K3 _ hk3 _ _ _ (lv_sub hl [2] rfl) hw
    · have hb3 := cd_ite_f c4 hb3
      refine lv_iload_n hx hb dX6_may_19 rfl (lv_at hl 2 rfl) ?_
      refine lv_aload_n hx hb dX6_may_20 rfl (lv_at hl 0 rfl) ?_
      refine va_get (D := G) (ci := 6) (v := .ref (h 1)) (C := RX6) (T := TX6) (N := 22) hx hb hts nw_X6_may_X6 hown hK hw.1 0 rfl rfl 0 (by decide) hL0 (fun _ h9 => h9) rfl dX6_may_21 ?_
      refine lv_bipush (v := (66 : Int32)) hx hb dX6_may_24 (by decide) ?_
      obtain ⟨v5, e5, hb3⟩ := cd_bind_some hb3
      refine cd_iald hx hb hK hw 1 rfl e5 dX6_may_26 ?_
      refine lv_iload_n hx hb dX6_may_27 rfl (lv_at hl 3 rfl) ?_
      obtain ⟨r6, e6, hb3⟩ := cd_bind_some hb3
      refine cd_callS (As := [.int v5, .int z3.2]) (rest := [.int z3.1]) C0 hw (c_X6_isIn l G cI cZ sa sb v5 z3.2 r6 e6) [] rfl rfl (va_cwS 2 hts gX6_may_X6_isIn rfl rfl rfl (by decide +kernel) ⟨Nat.le_of_ble_eq_true rfl, Nat.le_of_ble_eq_true rfl⟩) rfl hl.1 (lv_room (Nat.le_of_ble_eq_true rfl)) dX6_may_28 (fun H locs hw => ?_)
      obtain ⟨x7, e7, hb3⟩ := cd_bind_some hb3
      have K7 : ∀ (ls : Array Slot) (H : Heap) (locs : List Loc), lv_has ls 4 [(0, .ref (h 0)), (1, .int a0), (3, .int z3.2)] → cd_WS G A s.heap H locs ((pc_mod cI cZ h M)) → W p l e rm_X6_may s m ag below meth c H locs 0 0 Q (F0 m 63 ls [.int x7, .int z3.1]) := by
        intro ls H locs hl hw
        refine lv_ior hx hb dX6_may_63 ?_
        refine lv_istore_n (lv' := [(2, .int (z3.1 ||| x7)), (0, .ref (h 0)), (1, .int a0), (3, .int z3.2)]) hx hb dX6_may_64 rfl hl (by decide) rfl (fun ls hl => ?_)
        refine lv_iinc (v := (z3.2 + (1 : Int32))) (lv' := [(3, .int (z3.2 + (1 : Int32))), (2, .int (z3.1 ||| x7)), (0, .ref (h 0)), (1, .int a0)]) hx hb dX6_may_65 hl (k := 3) rfl rfl (by decide) rfl (fun ls hl => ?_)
        refine lv_goto (tgt := 13) hx hb dX6_may_68 (by decide) ?_
        have z : some (Sum.inr ((z3.1 ||| x7), (z3.2 + (1 : Int32)))) = some o3 := hb3
        cases z
        exact hk3 _ _ _ (lv_sub hl [2, 3, 1, 0] rfl) hw
      refine lv_if_eq (tgt := 62) hx hb dX6_may_31 (by decide) (fun c7 => ?_) (fun c7 => ?_)
      · have e7 := cd_ite_t c7 e7
        refine lv_iconst (v := (0 : Int32)) hx hb dX6_may_62 (by decide) ?_
        have z : some (0 : Int32) = some x7 := e7
        cases z
        exact K7 _ _ _ (lv_sub hl [0, 1, 3] rfl) hw
      · have e7 := cd_ite_f c7 e7
        refine lv_aload_n hx hb dX6_may_34 rfl (lv_at hl 0 rfl) ?_
        refine va_get (D := G) (ci := 6) (v := .ref (h 3)) (C := RX6) (T := TX6) (N := 22) hx hb hts nw_X6_may_X6 hown hK hw.1 0 rfl rfl 2 (by decide) hL1 (fun _ h9 => h9) rfl dX6_may_35 ?_
        refine lv_iload_n hx hb dX6_may_38 rfl (lv_at hl 3 rfl) ?_
        obtain ⟨v8, e8, e7⟩ := cd_bind_some e7
        refine cd_iald hx hb hK hw 3 rfl e8 dX6_may_39 ?_
        refine lv_iload_n hx hb dX6_may_40 rfl (lv_at hl 1 rfl) ?_
        refine lv_icmp_ne (tgt := 62) hx hb dX6_may_41 (by decide) (fun c9 => ?_) (fun c9 => ?_)
        · have e7 := cd_ite_f c9 e7
          refine lv_iconst (v := (0 : Int32)) hx hb dX6_may_62 (by decide) ?_
          have z : some (0 : Int32) = some x7 := e7
          cases z
          exact K7 _ _ _ (lv_sub hl [0, 1, 3] rfl) hw
        · have e7 := cd_ite_t c9 e7
          refine lv_aload_n hx hb dX6_may_44 rfl (lv_at hl 0 rfl) ?_
          refine va_get (D := G) (ci := 6) (v := .ref (h 1)) (C := RX6) (T := TX6) (N := 22) hx hb hts nw_X6_may_X6 hown hK hw.1 0 rfl rfl 0 (by decide) hL0 (fun _ h9 => h9) rfl dX6_may_45 ?_
          refine lv_bipush (v := (12 : Int32)) hx hb dX6_may_48 (by decide) ?_
          refine lv_iload_n hx hb dX6_may_50 rfl (lv_at hl 3 rfl) ?_
          refine lv_iadd hx hb dX6_may_51 ?_
          obtain ⟨v10, e10, e7⟩ := cd_bind_some e7
          refine cd_iald hx hb hK hw 1 rfl e10 dX6_may_52 ?_
          refine lv_if_le (tgt := 62) hx hb dX6_may_53 (by decide) (fun c11 => ?_) (fun c11 => ?_)
          · have e7 := cd_ite_t c11 e7
            refine lv_iconst (v := (0 : Int32)) hx hb dX6_may_62 (by decide) ?_
            have z : some (0 : Int32) = some x7 := e7
            cases z
            exact K7 _ _ _ (lv_sub hl [0, 1, 3] rfl) hw
          · have e7 := cd_ite_f c11 e7
            refine lv_iconst (v := (1 : Int32)) hx hb dX6_may_56 (by decide) ?_
            refine lv_iload_n hx hb dX6_may_57 rfl (lv_at hl 3 rfl) ?_
            refine lv_ishl hx hb dX6_may_58 ?_
            refine lv_goto (tgt := 63) hx hb dX6_may_59 (by decide) ?_
            have z : some ((1 : Int32) <<< (z3.2 &&& 31)) = some x7 := e7
            cases z
            exact K7 _ _ _ (lv_sub hl [0, 1, 3] rfl) hw
  · have hf := cd_ite_t c2 hf
    refine lv_iconst (v := (-1 : Int32)) hx hb dX6_may_7 (by decide) ?_
    have z : some (-1 : Int32) = some o := hf
    cases z
    rw [hQ]
    exact cd_reti C0 hw dX6_may_8
abbrev rm_X6_moths : Room := { frames := 2, cells := 0, slots := 0, locals := 44 }
theorem nw_X6_moths_X6 : ∀ w ∈ u_ws RX6 TX6 22, w ∈ wsX6_moths := by decide +kernel
set_option maxHeartbeats 4000000 in
set_option maxRecDepth 100000 in
theorem c_X6_moths (l : Launch) (G : va_G) (cI cZ : ClassId) (sa sb : Nat) (h : Nat → Nat) (M : Nat → Nat → Int32) (a0 : Int32) (a1 : Int32) (a2 : Int32) (a3 : Int32) (o : Int64 × (Nat → Nat → Int32)) (hf : f_X6_moths a0 a1 a2 a3 M = some o) : cd_Ct l G cI cZ sa sb yX6_moths wsX6_moths rm_X6_moths [.ref (h 0), .int a0, .int a1, .int a2, .int a3] ((pc_mod cI cZ h M)) ((pc_mod cI cZ h o.2)) (some (.long o.1)) := by
  refine cd_of (cc := cX6_moths) (maxL := 11) (ret := (some .long)) (by decide) rfl (Nat.le_of_ble_eq_true rfl) ?_
  intro p e s m ag below meth c A ls Q C0 hl hw hQ
  have C0 : cd_CX G cI cZ sa sb p s m ag meth c cX6_moths 11 (some .long) wsX6_moths RX6 A := C0
  obtain ⟨⟨hx, hb, hml, hown, hts⟩, hr, hlocks, hA, hE⟩ := id C0
  have hK := hE.1
  have hL0 := hts (.constantLong RX6 187 (-1000000000000000002)) (by decide +kernel)
  have hL1 := hts (.constantLong RX6 189 (10)) (by decide +kernel)
  have hL2 := hts (.fieldLink RX6 7 "CandleDebtsModel" "book" "[I") (by decide +kernel)
  have hL3 := hts (.constantLong RX6 185 (-1000000000000000001)) (by decide +kernel)
  have hl : lv_has ls 11 [(0, .ref (h 0)), (1, .int a0), (2, .int a1), (3, .int a2), (4, .int a3)] := hl
  unfold f_X6_moths at hf
  refine lv_iload_n hx hb dX6_moths_0 rfl (lv_at hl 1 rfl) ?_
  refine lv_iconst (v := (-1 : Int32)) hx hb dX6_moths_1 (by decide) ?_
  refine lv_icmp_eq (tgt := 30) hx hb dX6_moths_2 (by decide) (fun c1 => ?_) (fun c1 => ?_)
  · have hf := cd_ite_t c1 hf
    refine lv_iload_n hx hb dX6_moths_30 rfl (lv_at hl 2 rfl) ?_
    refine lv_iconst (v := (0 : Int32)) hx hb dX6_moths_31 (by decide) ?_
    refine lv_bipush (v := (10 : Int32)) hx hb dX6_moths_32 (by decide) ?_
    obtain ⟨r2, e2, hf⟩ := cd_bind_some hf
    refine cd_callS (As := [.int a1, .int (0 : Int32), .int (10 : Int32)]) (rest := []) C0 hw (c_X6_in l G cI cZ sa sb a1 (0 : Int32) (10 : Int32) r2 e2) [] rfl rfl (va_cwS 3 hts gX6_moths_X6_in rfl rfl rfl (by decide +kernel) ⟨Nat.le_of_ble_eq_true rfl, Nat.le_of_ble_eq_true rfl⟩) rfl hl.1 (lv_room (Nat.le_of_ble_eq_true rfl)) dX6_moths_34 (fun H locs hw => ?_)
    refine lv_if_eq (tgt := 60) hx hb dX6_moths_37 (by decide) (fun c3 => ?_) (fun c3 => ?_)
    · have hf := cd_ite_t c3 hf
      refine lv_ldc2 (v := (-1000000000000000002 : Int64)) hx hb hown hL0 dX6_moths_60 ?_
      have z : some ((-1000000000000000002 : Int64), M) = some o := hf
      cases z
      rw [hQ]
      exact cd_retl C0 hw dX6_moths_63
    · have hf := cd_ite_f c3 hf
      refine lv_iload_n hx hb dX6_moths_40 rfl (lv_at hl 3 rfl) ?_
      refine lv_iconst (v := (0 : Int32)) hx hb dX6_moths_41 (by decide) ?_
      refine lv_bipush (v := (15 : Int32)) hx hb dX6_moths_42 (by decide) ?_
      obtain ⟨r4, e4, hf⟩ := cd_bind_some hf
      refine cd_callS (As := [.int a2, .int (0 : Int32), .int (15 : Int32)]) (rest := []) C0 hw (c_X6_in l G cI cZ sa sb a2 (0 : Int32) (15 : Int32) r4 e4) [] rfl rfl (va_cwS 3 hts gX6_moths_X6_in rfl rfl rfl (by decide +kernel) ⟨Nat.le_of_ble_eq_true rfl, Nat.le_of_ble_eq_true rfl⟩) rfl hl.1 (lv_room (Nat.le_of_ble_eq_true rfl)) dX6_moths_44 (fun H locs hw => ?_)
      refine lv_if_eq (tgt := 60) hx hb dX6_moths_47 (by decide) (fun c5 => ?_) (fun c5 => ?_)
      · have hf := cd_ite_t c5 hf
        refine lv_ldc2 (v := (-1000000000000000002 : Int64)) hx hb hown hL0 dX6_moths_60 ?_
        have z : some ((-1000000000000000002 : Int64), M) = some o := hf
        cases z
        rw [hQ]
        exact cd_retl C0 hw dX6_moths_63
      · have hf := cd_ite_f c5 hf
        refine lv_iload hx hb dX6_moths_50 (lv_at hl 4 rfl) ?_
        refine lv_iconst (v := (0 : Int32)) hx hb dX6_moths_52 (by decide) ?_
        refine lv_iconst (v := (1 : Int32)) hx hb dX6_moths_53 (by decide) ?_
        obtain ⟨r6, e6, hf⟩ := cd_bind_some hf
        refine cd_callS (As := [.int a3, .int (0 : Int32), .int (1 : Int32)]) (rest := []) C0 hw (c_X6_in l G cI cZ sa sb a3 (0 : Int32) (1 : Int32) r6 e6) [] rfl rfl (va_cwS 3 hts gX6_moths_X6_in rfl rfl rfl (by decide +kernel) ⟨Nat.le_of_ble_eq_true rfl, Nat.le_of_ble_eq_true rfl⟩) rfl hl.1 (lv_room (Nat.le_of_ble_eq_true rfl)) dX6_moths_54 (fun H locs hw => ?_)
        refine lv_if_ne (tgt := 64) hx hb dX6_moths_57 (by decide) (fun c7 => ?_) (fun c7 => ?_)
        · have hf := cd_ite_f c7 hf
          refine lv_lconst (v := 1) hx hb dX6_moths_64 (by decide) ?_
          refine lv_lstore (lv' := [(5, .long (1 : Int64)), (0, .ref (h 0)), (1, .int a0), (2, .int a1), (3, .int a2), (4, .int a3)]) hx hb dX6_moths_65 hl (by decide) rfl (fun ls hl => ?_)
          refine lv_lconst (v := 1) hx hb dX6_moths_67 (by decide) ?_
          refine lv_lstore (lv' := [(7, .long (1 : Int64)), (5, .long (1 : Int64)), (0, .ref (h 0)), (1, .int a0), (2, .int a1), (3, .int a2), (4, .int a3)]) hx hb dX6_moths_68 hl (by decide) rfl (fun ls hl => ?_)
          refine lv_iconst (v := (0 : Int32)) hx hb dX6_moths_70 (by decide) ?_
          refine lv_istore (lv' := [(9, .int (0 : Int32)), (7, .long (1 : Int64)), (5, .long (1 : Int64)), (0, .ref (h 0)), (1, .int a0), (2, .int a1), (3, .int a2), (4, .int a3)]) hx hb dX6_moths_71 hl (by decide) rfl (fun ls hl => ?_)
          obtain ⟨x8, e8, hf⟩ := cd_bind_some hf
          have K8 : ∀ (t8 : Int64 × Int64), t8 = x8 → ∀ (ls : Array Slot) (H : Heap) (locs : List Loc), lv_has ls 11 [(0, .ref (h 0)), (1, .int a0), (3, .int a2), (4, .int a3), (5, .long t8.1), (7, .long t8.2)] → cd_WS G A s.heap H locs ((pc_mod cI cZ h M)) → W p l e rm_X6_moths s m ag below meth c H locs 0 0 Q (F0 m 104 ls []) := by
            intro t8 hs_8
            subst hs_8
            intro ls H locs hl hw
            refine lv_iconst (v := (0 : Int32)) hx hb dX6_moths_104 (by decide) ?_
            refine lv_istore (lv' := [(9, .int (0 : Int32)), (0, .ref (h 0)), (1, .int a0), (3, .int a2), (4, .int a3), (5, .long t8.1), (7, .long t8.2)]) hx hb dX6_moths_105 hl (by decide) rfl (fun ls hl => ?_)
            refine lv_iconst (v := (0 : Int32)) hx hb dX6_moths_107 (by decide) ?_
            refine lv_istore (lv' := [(10, .int (0 : Int32)), (9, .int (0 : Int32)), (0, .ref (h 0)), (1, .int a0), (3, .int a2), (4, .int a3), (5, .long t8.1), (7, .long t8.2)]) hx hb dX6_moths_108 hl (by decide) rfl (fun ls hl => ?_)
            obtain ⟨x10, e10, hf⟩ := cd_bind_some hf
            have K10 : ∀ (t10 : Int32 × (Nat → Nat → Int32)), t10 = x10 → ∀ (ls : Array Slot) (H : Heap) (locs : List Loc), lv_has ls 11 [(4, .int a3), (5, .long t8.1), (7, .long t8.2), (9, .int t10.1)] → cd_WS G A s.heap H locs ((pc_mod cI cZ h t10.2)) → W p l e rm_X6_moths s m ag below meth c H locs 0 0 Q (F0 m 169 ls []) := by
              intro t10 hs_10
              subst hs_10
              intro ls H locs hl hw
              refine lv_iload hx hb dX6_moths_169 (lv_at hl 3 rfl) ?_
              refine lv_i2l hx hb dX6_moths_171 rfl ?_
              refine lv_lload hx hb dX6_moths_172 (lv_at hl 2 rfl) ?_
              refine lv_lmul hx hb dX6_moths_174 ?_
              refine lv_lload hx hb dX6_moths_175 (lv_at hl 1 rfl) ?_
              refine lv_iload hx hb dX6_moths_177 (lv_at hl 0 rfl) ?_
              obtain ⟨r24, e24, hf⟩ := cd_bind_some hf
              refine cd_callS (As := [.long ((t10.1.toInt64) * t8.2), .long t8.1, .int a3]) (rest := []) C0 hw (c_X6_lowest l G cI cZ sa sb ((t10.1.toInt64) * t8.2) t8.1 a3 r24 e24) [] rfl rfl (va_cwS 3 hts gX6_moths_X6_lowest rfl rfl rfl (by decide +kernel) ⟨Nat.le_of_ble_eq_true rfl, Nat.le_of_ble_eq_true rfl⟩) rfl hl.1 (lv_room (Nat.le_of_ble_eq_true rfl)) dX6_moths_179 (fun H locs hw => ?_)
              have z : some (r24, t10.2) = some o := hf
              cases z
              rw [hQ]
              exact cd_retl C0 hw dX6_moths_182
            refine cd_iter_ind (body := (f_X6_moths_b110 a0 a2)) (K := fun r => r = x10) (P := fun (z10 : Int32 × Int32 × (Nat → Nat → Int32)) => ∀ (ls : Array Slot) (H : Heap) (locs : List Loc), lv_has ls 11 [(0, .ref (h 0)), (1, .int a0), (3, .int a2), (4, .int a3), (5, .long t8.1), (7, .long t8.2), (9, .int z10.1), (10, .int z10.2.1)] → cd_WS G A s.heap H locs ((pc_mod cI cZ h z10.2.2)) → W p l e rm_X6_moths s m ag below meth c H locs 0 0 Q (F0 m 110 ls [])) ?_ cd_N ((0 : Int32), (0 : Int32), M) x10 e10 rfl _ _ _ (lv_sub hl [2, 3, 4, 5, 6, 7, 1, 0] rfl) hw
            intro z10 o10 hb10 hk10 ls H locs hl hw
            unfold f_X6_moths_b110 at hb10
            refine lv_iload hx hb dX6_moths_110 (lv_at hl 7 rfl) ?_
            refine lv_bipush (v := (12 : Int32)) hx hb dX6_moths_112 (by decide) ?_
            refine lv_icmp_ge (tgt := 169) hx hb dX6_moths_114 (by decide) (fun c11 => ?_) (fun c11 => ?_)
            · have hb10 := cd_ite_t c11 hb10
              have z : some (Sum.inl (z10.1, z10.2.2)) = some o10 := hb10
              cases z
              exact K10 _ hk10 _ _ _ (lv_sub hl [3, 4, 5, 6] rfl) hw
            · have hb10 := cd_ite_f c11 hb10
              refine lv_iload hx hb dX6_moths_117 (lv_at hl 6 rfl) ?_
              refine lv_iload_n hx hb dX6_moths_119 rfl (lv_at hl 1 rfl) ?_
              refine lv_iconst (v := (-1 : Int32)) hx hb dX6_moths_120 (by decide) ?_
              obtain ⟨x12, e12, hb10⟩ := cd_bind_some hb10
              have K12 : ∀ (ls : Array Slot) (H : Heap) (locs : List Loc), lv_has ls 11 [(0, .ref (h 0)), (1, .int a0), (3, .int a2), (4, .int a3), (5, .long t8.1), (7, .long t8.2), (10, .int z10.2.1)] → cd_WS G A s.heap H locs ((pc_mod cI cZ h x12.2)) → W p l e rm_X6_moths s m ag below meth c H locs 0 0 Q (F0 m 160 ls [.int x12.1, .int z10.1]) := by
                intro ls H locs hl hw
                refine lv_iadd hx hb dX6_moths_160 ?_
                refine lv_istore (lv' := [(9, .int (z10.1 + x12.1)), (0, .ref (h 0)), (1, .int a0), (3, .int a2), (4, .int a3), (5, .long t8.1), (7, .long t8.2), (10, .int z10.2.1)]) hx hb dX6_moths_161 hl (by decide) rfl (fun ls hl => ?_)
                refine lv_iinc (v := (z10.2.1 + (1 : Int32))) (lv' := [(10, .int (z10.2.1 + (1 : Int32))), (9, .int (z10.1 + x12.1)), (0, .ref (h 0)), (1, .int a0), (3, .int a2), (4, .int a3), (5, .long t8.1), (7, .long t8.2)]) hx hb dX6_moths_163 hl (k := 7) rfl rfl (by decide) rfl (fun ls hl => ?_)
                refine lv_goto (tgt := 110) hx hb dX6_moths_166 (by decide) ?_
                have z : some (Sum.inr ((z10.1 + x12.1), (z10.2.1 + (1 : Int32)), x12.2)) = some o10 := hb10
                cases z
                exact hk10 _ _ _ (lv_sub hl [2, 3, 4, 5, 6, 7, 1, 0] rfl) hw
              refine lv_icmp_eq (tgt := 130) hx hb dX6_moths_121 (by decide) (fun c12 => ?_) (fun c12 => ?_)
              · have e12 := cd_ite_t c12 e12
                refine lv_aload_n hx hb dX6_moths_130 rfl (lv_at hl 0 rfl) ?_
                refine va_get (D := G) (ci := 6) (v := .ref (h 1)) (C := RX6) (T := TX6) (N := 22) hx hb hts nw_X6_moths_X6 hown hK hw.1 0 rfl rfl 0 (by decide) hL2 (fun _ h9 => h9) rfl dX6_moths_131 ?_
                refine lv_bipush (v := (66 : Int32)) hx hb dX6_moths_134 (by decide) ?_
                obtain ⟨v13, e13, e12⟩ := cd_bind_some e12
                refine cd_iald hx hb hK hw 1 rfl e13 dX6_moths_136 ?_
                refine lv_iload hx hb dX6_moths_137 (lv_at hl 7 rfl) ?_
                obtain ⟨r14, e14, e12⟩ := cd_bind_some e12
                refine cd_callS (As := [.int v13, .int z10.2.1]) (rest := [.int z10.1]) C0 hw (c_X6_isIn l G cI cZ sa sb v13 z10.2.1 r14 e14) [] rfl rfl (va_cwS 2 hts gX6_moths_X6_isIn rfl rfl rfl (by decide +kernel) ⟨Nat.le_of_ble_eq_true rfl, Nat.le_of_ble_eq_true rfl⟩) rfl hl.1 (lv_room (Nat.le_of_ble_eq_true rfl)) dX6_moths_139 (fun H locs hw => ?_)
                refine lv_if_eq (tgt := 159) hx hb dX6_moths_142 (by decide) (fun c15 => ?_) (fun c15 => ?_)
                · have e12 := cd_ite_t c15 e12
                  refine lv_iconst (v := (0 : Int32)) hx hb dX6_moths_159 (by decide) ?_
                  have z : some ((0 : Int32), z10.2.2) = some x12 := e12
                  cases z
                  exact K12 _ _ _ (lv_sub hl [0, 1, 2, 3, 4, 5, 7] rfl) hw
                · have e12 := cd_ite_f c15 e12
                  refine lv_iload_n hx hb dX6_moths_145 rfl (lv_at hl 2 rfl) ?_
                  refine lv_aload_n hx hb dX6_moths_146 rfl (lv_at hl 0 rfl) ?_
                  refine lv_iload hx hb dX6_moths_147 (lv_at hl 7 rfl) ?_
                  obtain ⟨r16, e16, e12⟩ := cd_bind_some e12
                  refine cd_callVw (As := [.int z10.2.1]) (rest := [.int a2, .int z10.1]) (wr := ([] : va_W)) (wn := (pc_mod cI cZ h r16.2)) C0 hw (c_X6_lastsOf l G cI cZ sa sb h z10.2.2 z10.2.1 r16 e16) [0, 1, 2, 3, 4, 5, 6, 7, 8, 9, 10, 11, 12, 13, 14] [] [0, 1, 2, 3, 4, 5, 6, 7, 8, 9, 10, 11, 12, 13, 14] rfl rfl rfl rfl (by decide) rfl rfl 0 6 rfl rfl rfl (cwV 1 hts gX6_moths_X6_lastsOf rfl rfl rfl (by decide +kernel) ⟨Nat.le_of_ble_eq_true rfl, Nat.le_of_ble_eq_true rfl⟩) rfl hl.1 (lv_room (Nat.le_of_ble_eq_true rfl)) dX6_moths_149 (fun H locs hw => ?_)
                  refine lv_icmp_ge (tgt := 159) hx hb dX6_moths_152 (by decide) (fun c17 => ?_) (fun c17 => ?_)
                  · have e12 := cd_ite_t c17 e12
                    refine lv_iconst (v := (0 : Int32)) hx hb dX6_moths_159 (by decide) ?_
                    have z : some ((0 : Int32), r16.2) = some x12 := e12
                    cases z
                    exact K12 _ _ _ (lv_sub hl [0, 1, 2, 3, 4, 5, 7] rfl) hw
                  · have e12 := cd_ite_f c17 e12
                    refine lv_iconst (v := (1 : Int32)) hx hb dX6_moths_155 (by decide) ?_
                    refine lv_goto (tgt := 160) hx hb dX6_moths_156 (by decide) ?_
                    have z : some ((1 : Int32), r16.2) = some x12 := e12
                    cases z
                    exact K12 _ _ _ (lv_sub hl [0, 1, 2, 3, 4, 5, 7] rfl) hw
              · have e12 := cd_ite_f c12 e12
                refine lv_iload hx hb dX6_moths_124 (lv_at hl 7 rfl) ?_
                refine lv_iload_n hx hb dX6_moths_126 rfl (lv_at hl 1 rfl) ?_
                refine lv_icmp_ne (tgt := 159) hx hb dX6_moths_127 (by decide) (fun c18 => ?_) (fun c18 => ?_)
                · have e12 := cd_ite_f c18 e12
                  refine lv_iconst (v := (0 : Int32)) hx hb dX6_moths_159 (by decide) ?_
                  have z : some ((0 : Int32), z10.2.2) = some x12 := e12
                  cases z
                  exact K12 _ _ _ (lv_sub hl [0, 1, 2, 3, 4, 5, 7] rfl) hw
                · have e12 := cd_ite_t c18 e12
                  refine lv_aload_n hx hb dX6_moths_130 rfl (lv_at hl 0 rfl) ?_
                  refine va_get (D := G) (ci := 6) (v := .ref (h 1)) (C := RX6) (T := TX6) (N := 22) hx hb hts nw_X6_moths_X6 hown hK hw.1 0 rfl rfl 0 (by decide) hL2 (fun _ h9 => h9) rfl dX6_moths_131 ?_
                  refine lv_bipush (v := (66 : Int32)) hx hb dX6_moths_134 (by decide) ?_
                  obtain ⟨v19, e19, e12⟩ := cd_bind_some e12
                  refine cd_iald hx hb hK hw 1 rfl e19 dX6_moths_136 ?_
                  refine lv_iload hx hb dX6_moths_137 (lv_at hl 7 rfl) ?_
                  obtain ⟨r20, e20, e12⟩ := cd_bind_some e12
                  refine cd_callS (As := [.int v19, .int z10.2.1]) (rest := [.int z10.1]) C0 hw (c_X6_isIn l G cI cZ sa sb v19 z10.2.1 r20 e20) [] rfl rfl (va_cwS 2 hts gX6_moths_X6_isIn rfl rfl rfl (by decide +kernel) ⟨Nat.le_of_ble_eq_true rfl, Nat.le_of_ble_eq_true rfl⟩) rfl hl.1 (lv_room (Nat.le_of_ble_eq_true rfl)) dX6_moths_139 (fun H locs hw => ?_)
                  refine lv_if_eq (tgt := 159) hx hb dX6_moths_142 (by decide) (fun c21 => ?_) (fun c21 => ?_)
                  · have e12 := cd_ite_t c21 e12
                    refine lv_iconst (v := (0 : Int32)) hx hb dX6_moths_159 (by decide) ?_
                    have z : some ((0 : Int32), z10.2.2) = some x12 := e12
                    cases z
                    exact K12 _ _ _ (lv_sub hl [0, 1, 2, 3, 4, 5, 7] rfl) hw
                  · have e12 := cd_ite_f c21 e12
                    refine lv_iload_n hx hb dX6_moths_145 rfl (lv_at hl 2 rfl) ?_
                    refine lv_aload_n hx hb dX6_moths_146 rfl (lv_at hl 0 rfl) ?_
                    refine lv_iload hx hb dX6_moths_147 (lv_at hl 7 rfl) ?_
                    obtain ⟨r22, e22, e12⟩ := cd_bind_some e12
                    refine cd_callVw (As := [.int z10.2.1]) (rest := [.int a2, .int z10.1]) (wr := ([] : va_W)) (wn := (pc_mod cI cZ h r22.2)) C0 hw (c_X6_lastsOf l G cI cZ sa sb h z10.2.2 z10.2.1 r22 e22) [0, 1, 2, 3, 4, 5, 6, 7, 8, 9, 10, 11, 12, 13, 14] [] [0, 1, 2, 3, 4, 5, 6, 7, 8, 9, 10, 11, 12, 13, 14] rfl rfl rfl rfl (by decide) rfl rfl 0 6 rfl rfl rfl (cwV 1 hts gX6_moths_X6_lastsOf rfl rfl rfl (by decide +kernel) ⟨Nat.le_of_ble_eq_true rfl, Nat.le_of_ble_eq_true rfl⟩) rfl hl.1 (lv_room (Nat.le_of_ble_eq_true rfl)) dX6_moths_149 (fun H locs hw => ?_)
                    refine lv_icmp_ge (tgt := 159) hx hb dX6_moths_152 (by decide) (fun c23 => ?_) (fun c23 => ?_)
                    · have e12 := cd_ite_t c23 e12
                      refine lv_iconst (v := (0 : Int32)) hx hb dX6_moths_159 (by decide) ?_
                      have z : some ((0 : Int32), r22.2) = some x12 := e12
                      cases z
                      exact K12 _ _ _ (lv_sub hl [0, 1, 2, 3, 4, 5, 7] rfl) hw
                    · have e12 := cd_ite_f c23 e12
                      refine lv_iconst (v := (1 : Int32)) hx hb dX6_moths_155 (by decide) ?_
                      refine lv_goto (tgt := 160) hx hb dX6_moths_156 (by decide) ?_
                      have z : some ((1 : Int32), r22.2) = some x12 := e12
                      cases z
                      exact K12 _ _ _ (lv_sub hl [0, 1, 2, 3, 4, 5, 7] rfl) hw
          refine cd_iter_ind (body := (f_X6_moths_b73 a1 a2)) (K := fun r => r = x8) (P := fun (z8 : Int64 × Int64 × Int32) => ∀ (ls : Array Slot) (H : Heap) (locs : List Loc), lv_has ls 11 [(0, .ref (h 0)), (1, .int a0), (2, .int a1), (3, .int a2), (4, .int a3), (5, .long z8.1), (7, .long z8.2.1), (9, .int z8.2.2)] → cd_WS G A s.heap H locs ((pc_mod cI cZ h M)) → W p l e rm_X6_moths s m ag below meth c H locs 0 0 Q (F0 m 73 ls [])) ?_ cd_N ((1 : Int64), (1 : Int64), (0 : Int32)) x8 e8 rfl _ _ _ (lv_sub hl [3, 4, 5, 6, 7, 2, 1, 0] rfl) hw
          intro z8 o8 hb8 hk8 ls H locs hl hw
          unfold f_X6_moths_b73 at hb8
          refine lv_iload hx hb dX6_moths_73 (lv_at hl 7 rfl) ?_
          refine lv_iload_n hx hb dX6_moths_75 rfl (lv_at hl 3 rfl) ?_
          refine lv_icmp_ge (tgt := 104) hx hb dX6_moths_76 (by decide) (fun c9 => ?_) (fun c9 => ?_)
          · have hb8 := cd_ite_t c9 hb8
            have z : some (Sum.inl (z8.1, z8.2.1)) = some o8 := hb8
            cases z
            exact K8 _ hk8 _ _ _ (lv_sub hl [0, 1, 3, 4, 5, 6] rfl) hw
          · have hb8 := cd_ite_f c9 hb8
            refine lv_lload hx hb dX6_moths_79 (lv_at hl 5 rfl) ?_
            refine lv_ldc2 (v := (10 : Int64)) hx hb hown hL1 dX6_moths_81 ?_
            refine lv_lmul hx hb dX6_moths_84 ?_
            refine lv_lstore (lv' := [(5, .long (z8.1 * (10 : Int64))), (0, .ref (h 0)), (1, .int a0), (2, .int a1), (3, .int a2), (4, .int a3), (7, .long z8.2.1), (9, .int z8.2.2)]) hx hb dX6_moths_85 hl (by decide) rfl (fun ls hl => ?_)
            refine lv_lload hx hb dX6_moths_87 (lv_at hl 6 rfl) ?_
            refine lv_ldc2 (v := (10 : Int64)) hx hb hown hL1 dX6_moths_89 ?_
            refine lv_iload_n hx hb dX6_moths_92 rfl (lv_at hl 3 rfl) ?_
            refine lv_i2l hx hb dX6_moths_93 rfl ?_
            refine lv_lsub hx hb dX6_moths_94 ?_
            refine lv_lmul hx hb dX6_moths_95 ?_
            refine lv_lstore (lv' := [(7, .long (z8.2.1 * ((10 : Int64) - (a1.toInt64)))), (5, .long (z8.1 * (10 : Int64))), (0, .ref (h 0)), (1, .int a0), (2, .int a1), (3, .int a2), (4, .int a3), (9, .int z8.2.2)]) hx hb dX6_moths_96 hl (by decide) rfl (fun ls hl => ?_)
            refine lv_iinc (v := (z8.2.2 + (1 : Int32))) (lv' := [(9, .int (z8.2.2 + (1 : Int32))), (7, .long (z8.2.1 * ((10 : Int64) - (a1.toInt64)))), (5, .long (z8.1 * (10 : Int64))), (0, .ref (h 0)), (1, .int a0), (2, .int a1), (3, .int a2), (4, .int a3)]) hx hb dX6_moths_98 hl (k := 7) rfl rfl (by decide) rfl (fun ls hl => ?_)
            refine lv_goto (tgt := 73) hx hb dX6_moths_101 (by decide) ?_
            have z : some (Sum.inr ((z8.1 * (10 : Int64)), (z8.2.1 * ((10 : Int64) - (a1.toInt64))), (z8.2.2 + (1 : Int32)))) = some o8 := hb8
            cases z
            exact hk8 _ _ _ (lv_sub hl [3, 4, 5, 6, 7, 2, 1, 0] rfl) hw
        · have hf := cd_ite_t c7 hf
          refine lv_ldc2 (v := (-1000000000000000002 : Int64)) hx hb hown hL0 dX6_moths_60 ?_
          have z : some ((-1000000000000000002 : Int64), M) = some o := hf
          cases z
          rw [hQ]
          exact cd_retl C0 hw dX6_moths_63
  · have hf := cd_ite_f c1 hf
    refine lv_iload_n hx hb dX6_moths_5 rfl (lv_at hl 1 rfl) ?_
    obtain ⟨r25, e25, hf⟩ := cd_bind_some hf
    refine cd_callS (As := [.int a0]) (rest := []) C0 hw (c_X6_isCandle l G cI cZ sa sb a0 r25 e25) [] rfl rfl (va_cwS 1 hts gX6_moths_X6_isCandle rfl rfl rfl (by decide +kernel) ⟨Nat.le_of_ble_eq_true rfl, Nat.le_of_ble_eq_true rfl⟩) rfl hl.1 (lv_room (Nat.le_of_ble_eq_true rfl)) dX6_moths_6 (fun H locs hw => ?_)
    refine lv_if_eq (tgt := 26) hx hb dX6_moths_9 (by decide) (fun c26 => ?_) (fun c26 => ?_)
    · have hf := cd_ite_t c26 hf
      refine lv_ldc2 (v := (-1000000000000000001 : Int64)) hx hb hown hL3 dX6_moths_26 ?_
      have z : some ((-1000000000000000001 : Int64), M) = some o := hf
      cases z
      rw [hQ]
      exact cd_retl C0 hw dX6_moths_29
    · have hf := cd_ite_f c26 hf
      refine lv_aload_n hx hb dX6_moths_12 rfl (lv_at hl 0 rfl) ?_
      refine va_get (D := G) (ci := 6) (v := .ref (h 1)) (C := RX6) (T := TX6) (N := 22) hx hb hts nw_X6_moths_X6 hown hK hw.1 0 rfl rfl 0 (by decide) hL2 (fun _ h9 => h9) rfl dX6_moths_13 ?_
      refine lv_bipush (v := (66 : Int32)) hx hb dX6_moths_16 (by decide) ?_
      obtain ⟨v27, e27, hf⟩ := cd_bind_some hf
      refine cd_iald hx hb hK hw 1 rfl e27 dX6_moths_18 ?_
      refine lv_iload_n hx hb dX6_moths_19 rfl (lv_at hl 1 rfl) ?_
      obtain ⟨r28, e28, hf⟩ := cd_bind_some hf
      refine cd_callS (As := [.int v27, .int a0]) (rest := []) C0 hw (c_X6_isIn l G cI cZ sa sb v27 a0 r28 e28) [] rfl rfl (va_cwS 2 hts gX6_moths_X6_isIn rfl rfl rfl (by decide +kernel) ⟨Nat.le_of_ble_eq_true rfl, Nat.le_of_ble_eq_true rfl⟩) rfl hl.1 (lv_room (Nat.le_of_ble_eq_true rfl)) dX6_moths_20 (fun H locs hw => ?_)
      refine lv_if_ne (tgt := 30) hx hb dX6_moths_23 (by decide) (fun c29 => ?_) (fun c29 => ?_)
      · have hf := cd_ite_f c29 hf
        refine lv_iload_n hx hb dX6_moths_30 rfl (lv_at hl 2 rfl) ?_
        refine lv_iconst (v := (0 : Int32)) hx hb dX6_moths_31 (by decide) ?_
        refine lv_bipush (v := (10 : Int32)) hx hb dX6_moths_32 (by decide) ?_
        obtain ⟨r30, e30, hf⟩ := cd_bind_some hf
        refine cd_callS (As := [.int a1, .int (0 : Int32), .int (10 : Int32)]) (rest := []) C0 hw (c_X6_in l G cI cZ sa sb a1 (0 : Int32) (10 : Int32) r30 e30) [] rfl rfl (va_cwS 3 hts gX6_moths_X6_in rfl rfl rfl (by decide +kernel) ⟨Nat.le_of_ble_eq_true rfl, Nat.le_of_ble_eq_true rfl⟩) rfl hl.1 (lv_room (Nat.le_of_ble_eq_true rfl)) dX6_moths_34 (fun H locs hw => ?_)
        refine lv_if_eq (tgt := 60) hx hb dX6_moths_37 (by decide) (fun c31 => ?_) (fun c31 => ?_)
        · have hf := cd_ite_t c31 hf
          refine lv_ldc2 (v := (-1000000000000000002 : Int64)) hx hb hown hL0 dX6_moths_60 ?_
          have z : some ((-1000000000000000002 : Int64), M) = some o := hf
          cases z
          rw [hQ]
          exact cd_retl C0 hw dX6_moths_63
        · have hf := cd_ite_f c31 hf
          refine lv_iload_n hx hb dX6_moths_40 rfl (lv_at hl 3 rfl) ?_
          refine lv_iconst (v := (0 : Int32)) hx hb dX6_moths_41 (by decide) ?_
          refine lv_bipush (v := (15 : Int32)) hx hb dX6_moths_42 (by decide) ?_
          obtain ⟨r32, e32, hf⟩ := cd_bind_some hf
          refine cd_callS (As := [.int a2, .int (0 : Int32), .int (15 : Int32)]) (rest := []) C0 hw (c_X6_in l G cI cZ sa sb a2 (0 : Int32) (15 : Int32) r32 e32) [] rfl rfl (va_cwS 3 hts gX6_moths_X6_in rfl rfl rfl (by decide +kernel) ⟨Nat.le_of_ble_eq_true rfl, Nat.le_of_ble_eq_true rfl⟩) rfl hl.1 (lv_room (Nat.le_of_ble_eq_true rfl)) dX6_moths_44 (fun H locs hw => ?_)
          refine lv_if_eq (tgt := 60) hx hb dX6_moths_47 (by decide) (fun c33 => ?_) (fun c33 => ?_)
          · have hf := cd_ite_t c33 hf
            refine lv_ldc2 (v := (-1000000000000000002 : Int64)) hx hb hown hL0 dX6_moths_60 ?_
            have z : some ((-1000000000000000002 : Int64), M) = some o := hf
            cases z
            rw [hQ]
            exact cd_retl C0 hw dX6_moths_63
          · have hf := cd_ite_f c33 hf
            refine lv_iload hx hb dX6_moths_50 (lv_at hl 4 rfl) ?_
            refine lv_iconst (v := (0 : Int32)) hx hb dX6_moths_52 (by decide) ?_
            refine lv_iconst (v := (1 : Int32)) hx hb dX6_moths_53 (by decide) ?_
            obtain ⟨r34, e34, hf⟩ := cd_bind_some hf
            refine cd_callS (As := [.int a3, .int (0 : Int32), .int (1 : Int32)]) (rest := []) C0 hw (c_X6_in l G cI cZ sa sb a3 (0 : Int32) (1 : Int32) r34 e34) [] rfl rfl (va_cwS 3 hts gX6_moths_X6_in rfl rfl rfl (by decide +kernel) ⟨Nat.le_of_ble_eq_true rfl, Nat.le_of_ble_eq_true rfl⟩) rfl hl.1 (lv_room (Nat.le_of_ble_eq_true rfl)) dX6_moths_54 (fun H locs hw => ?_)
            refine lv_if_ne (tgt := 64) hx hb dX6_moths_57 (by decide) (fun c35 => ?_) (fun c35 => ?_)
            · have hf := cd_ite_f c35 hf
              refine lv_lconst (v := 1) hx hb dX6_moths_64 (by decide) ?_
              refine lv_lstore (lv' := [(5, .long (1 : Int64)), (0, .ref (h 0)), (1, .int a0), (2, .int a1), (3, .int a2), (4, .int a3)]) hx hb dX6_moths_65 hl (by decide) rfl (fun ls hl => ?_)
              refine lv_lconst (v := 1) hx hb dX6_moths_67 (by decide) ?_
              refine lv_lstore (lv' := [(7, .long (1 : Int64)), (5, .long (1 : Int64)), (0, .ref (h 0)), (1, .int a0), (2, .int a1), (3, .int a2), (4, .int a3)]) hx hb dX6_moths_68 hl (by decide) rfl (fun ls hl => ?_)
              refine lv_iconst (v := (0 : Int32)) hx hb dX6_moths_70 (by decide) ?_
              refine lv_istore (lv' := [(9, .int (0 : Int32)), (7, .long (1 : Int64)), (5, .long (1 : Int64)), (0, .ref (h 0)), (1, .int a0), (2, .int a1), (3, .int a2), (4, .int a3)]) hx hb dX6_moths_71 hl (by decide) rfl (fun ls hl => ?_)
              obtain ⟨x36, e36, hf⟩ := cd_bind_some hf
              have K36 : ∀ (t36 : Int64 × Int64), t36 = x36 → ∀ (ls : Array Slot) (H : Heap) (locs : List Loc), lv_has ls 11 [(0, .ref (h 0)), (1, .int a0), (3, .int a2), (4, .int a3), (5, .long t36.1), (7, .long t36.2)] → cd_WS G A s.heap H locs ((pc_mod cI cZ h M)) → W p l e rm_X6_moths s m ag below meth c H locs 0 0 Q (F0 m 104 ls []) := by
                intro t36 hs_36
                subst hs_36
                intro ls H locs hl hw
                refine lv_iconst (v := (0 : Int32)) hx hb dX6_moths_104 (by decide) ?_
                refine lv_istore (lv' := [(9, .int (0 : Int32)), (0, .ref (h 0)), (1, .int a0), (3, .int a2), (4, .int a3), (5, .long t36.1), (7, .long t36.2)]) hx hb dX6_moths_105 hl (by decide) rfl (fun ls hl => ?_)
                refine lv_iconst (v := (0 : Int32)) hx hb dX6_moths_107 (by decide) ?_
                refine lv_istore (lv' := [(10, .int (0 : Int32)), (9, .int (0 : Int32)), (0, .ref (h 0)), (1, .int a0), (3, .int a2), (4, .int a3), (5, .long t36.1), (7, .long t36.2)]) hx hb dX6_moths_108 hl (by decide) rfl (fun ls hl => ?_)
                obtain ⟨x38, e38, hf⟩ := cd_bind_some hf
                have K38 : ∀ (t38 : Int32 × (Nat → Nat → Int32)), t38 = x38 → ∀ (ls : Array Slot) (H : Heap) (locs : List Loc), lv_has ls 11 [(4, .int a3), (5, .long t36.1), (7, .long t36.2), (9, .int t38.1)] → cd_WS G A s.heap H locs ((pc_mod cI cZ h t38.2)) → W p l e rm_X6_moths s m ag below meth c H locs 0 0 Q (F0 m 169 ls []) := by
                  intro t38 hs_38
                  subst hs_38
                  intro ls H locs hl hw
                  refine lv_iload hx hb dX6_moths_169 (lv_at hl 3 rfl) ?_
                  refine lv_i2l hx hb dX6_moths_171 rfl ?_
                  refine lv_lload hx hb dX6_moths_172 (lv_at hl 2 rfl) ?_
                  refine lv_lmul hx hb dX6_moths_174 ?_
                  refine lv_lload hx hb dX6_moths_175 (lv_at hl 1 rfl) ?_
                  refine lv_iload hx hb dX6_moths_177 (lv_at hl 0 rfl) ?_
                  obtain ⟨r52, e52, hf⟩ := cd_bind_some hf
                  refine cd_callS (As := [.long ((t38.1.toInt64) * t36.2), .long t36.1, .int a3]) (rest := []) C0 hw (c_X6_lowest l G cI cZ sa sb ((t38.1.toInt64) * t36.2) t36.1 a3 r52 e52) [] rfl rfl (va_cwS 3 hts gX6_moths_X6_lowest rfl rfl rfl (by decide +kernel) ⟨Nat.le_of_ble_eq_true rfl, Nat.le_of_ble_eq_true rfl⟩) rfl hl.1 (lv_room (Nat.le_of_ble_eq_true rfl)) dX6_moths_179 (fun H locs hw => ?_)
                  have z : some (r52, t38.2) = some o := hf
                  cases z
                  rw [hQ]
                  exact cd_retl C0 hw dX6_moths_182
                refine cd_iter_ind (body := (f_X6_moths_b110_38 a0 a2)) (K := fun r => r = x38) (P := fun (z38 : Int32 × Int32 × (Nat → Nat → Int32)) => ∀ (ls : Array Slot) (H : Heap) (locs : List Loc), lv_has ls 11 [(0, .ref (h 0)), (1, .int a0), (3, .int a2), (4, .int a3), (5, .long t36.1), (7, .long t36.2), (9, .int z38.1), (10, .int z38.2.1)] → cd_WS G A s.heap H locs ((pc_mod cI cZ h z38.2.2)) → W p l e rm_X6_moths s m ag below meth c H locs 0 0 Q (F0 m 110 ls [])) ?_ cd_N ((0 : Int32), (0 : Int32), M) x38 e38 rfl _ _ _ (lv_sub hl [2, 3, 4, 5, 6, 7, 1, 0] rfl) hw
                intro z38 o38 hb38 hk38 ls H locs hl hw
                unfold f_X6_moths_b110_38 at hb38
                refine lv_iload hx hb dX6_moths_110 (lv_at hl 7 rfl) ?_
                refine lv_bipush (v := (12 : Int32)) hx hb dX6_moths_112 (by decide) ?_
                refine lv_icmp_ge (tgt := 169) hx hb dX6_moths_114 (by decide) (fun c39 => ?_) (fun c39 => ?_)
                · have hb38 := cd_ite_t c39 hb38
                  have z : some (Sum.inl (z38.1, z38.2.2)) = some o38 := hb38
                  cases z
                  exact K38 _ hk38 _ _ _ (lv_sub hl [3, 4, 5, 6] rfl) hw
                · have hb38 := cd_ite_f c39 hb38
                  refine lv_iload hx hb dX6_moths_117 (lv_at hl 6 rfl) ?_
                  refine lv_iload_n hx hb dX6_moths_119 rfl (lv_at hl 1 rfl) ?_
                  refine lv_iconst (v := (-1 : Int32)) hx hb dX6_moths_120 (by decide) ?_
                  obtain ⟨x40, e40, hb38⟩ := cd_bind_some hb38
                  have K40 : ∀ (ls : Array Slot) (H : Heap) (locs : List Loc), lv_has ls 11 [(0, .ref (h 0)), (1, .int a0), (3, .int a2), (4, .int a3), (5, .long t36.1), (7, .long t36.2), (10, .int z38.2.1)] → cd_WS G A s.heap H locs ((pc_mod cI cZ h x40.2)) → W p l e rm_X6_moths s m ag below meth c H locs 0 0 Q (F0 m 160 ls [.int x40.1, .int z38.1]) := by
                    intro ls H locs hl hw
                    refine lv_iadd hx hb dX6_moths_160 ?_
                    refine lv_istore (lv' := [(9, .int (z38.1 + x40.1)), (0, .ref (h 0)), (1, .int a0), (3, .int a2), (4, .int a3), (5, .long t36.1), (7, .long t36.2), (10, .int z38.2.1)]) hx hb dX6_moths_161 hl (by decide) rfl (fun ls hl => ?_)
                    refine lv_iinc (v := (z38.2.1 + (1 : Int32))) (lv' := [(10, .int (z38.2.1 + (1 : Int32))), (9, .int (z38.1 + x40.1)), (0, .ref (h 0)), (1, .int a0), (3, .int a2), (4, .int a3), (5, .long t36.1), (7, .long t36.2)]) hx hb dX6_moths_163 hl (k := 7) rfl rfl (by decide) rfl (fun ls hl => ?_)
                    refine lv_goto (tgt := 110) hx hb dX6_moths_166 (by decide) ?_
                    have z : some (Sum.inr ((z38.1 + x40.1), (z38.2.1 + (1 : Int32)), x40.2)) = some o38 := hb38
                    cases z
                    exact hk38 _ _ _ (lv_sub hl [2, 3, 4, 5, 6, 7, 1, 0] rfl) hw
                  refine lv_icmp_eq (tgt := 130) hx hb dX6_moths_121 (by decide) (fun c40 => ?_) (fun c40 => ?_)
                  · have e40 := cd_ite_t c40 e40
                    refine lv_aload_n hx hb dX6_moths_130 rfl (lv_at hl 0 rfl) ?_
                    refine va_get (D := G) (ci := 6) (v := .ref (h 1)) (C := RX6) (T := TX6) (N := 22) hx hb hts nw_X6_moths_X6 hown hK hw.1 0 rfl rfl 0 (by decide) hL2 (fun _ h9 => h9) rfl dX6_moths_131 ?_
                    refine lv_bipush (v := (66 : Int32)) hx hb dX6_moths_134 (by decide) ?_
                    obtain ⟨v41, e41, e40⟩ := cd_bind_some e40
                    refine cd_iald hx hb hK hw 1 rfl e41 dX6_moths_136 ?_
                    refine lv_iload hx hb dX6_moths_137 (lv_at hl 7 rfl) ?_
                    obtain ⟨r42, e42, e40⟩ := cd_bind_some e40
                    refine cd_callS (As := [.int v41, .int z38.2.1]) (rest := [.int z38.1]) C0 hw (c_X6_isIn l G cI cZ sa sb v41 z38.2.1 r42 e42) [] rfl rfl (va_cwS 2 hts gX6_moths_X6_isIn rfl rfl rfl (by decide +kernel) ⟨Nat.le_of_ble_eq_true rfl, Nat.le_of_ble_eq_true rfl⟩) rfl hl.1 (lv_room (Nat.le_of_ble_eq_true rfl)) dX6_moths_139 (fun H locs hw => ?_)
                    refine lv_if_eq (tgt := 159) hx hb dX6_moths_142 (by decide) (fun c43 => ?_) (fun c43 => ?_)
                    · have e40 := cd_ite_t c43 e40
                      refine lv_iconst (v := (0 : Int32)) hx hb dX6_moths_159 (by decide) ?_
                      have z : some ((0 : Int32), z38.2.2) = some x40 := e40
                      cases z
                      exact K40 _ _ _ (lv_sub hl [0, 1, 2, 3, 4, 5, 7] rfl) hw
                    · have e40 := cd_ite_f c43 e40
                      refine lv_iload_n hx hb dX6_moths_145 rfl (lv_at hl 2 rfl) ?_
                      refine lv_aload_n hx hb dX6_moths_146 rfl (lv_at hl 0 rfl) ?_
                      refine lv_iload hx hb dX6_moths_147 (lv_at hl 7 rfl) ?_
                      obtain ⟨r44, e44, e40⟩ := cd_bind_some e40
                      refine cd_callVw (As := [.int z38.2.1]) (rest := [.int a2, .int z38.1]) (wr := ([] : va_W)) (wn := (pc_mod cI cZ h r44.2)) C0 hw (c_X6_lastsOf l G cI cZ sa sb h z38.2.2 z38.2.1 r44 e44) [0, 1, 2, 3, 4, 5, 6, 7, 8, 9, 10, 11, 12, 13, 14] [] [0, 1, 2, 3, 4, 5, 6, 7, 8, 9, 10, 11, 12, 13, 14] rfl rfl rfl rfl (by decide) rfl rfl 0 6 rfl rfl rfl (cwV 1 hts gX6_moths_X6_lastsOf rfl rfl rfl (by decide +kernel) ⟨Nat.le_of_ble_eq_true rfl, Nat.le_of_ble_eq_true rfl⟩) rfl hl.1 (lv_room (Nat.le_of_ble_eq_true rfl)) dX6_moths_149 (fun H locs hw => ?_)
                      refine lv_icmp_ge (tgt := 159) hx hb dX6_moths_152 (by decide) (fun c45 => ?_) (fun c45 => ?_)
                      · have e40 := cd_ite_t c45 e40
                        refine lv_iconst (v := (0 : Int32)) hx hb dX6_moths_159 (by decide) ?_
                        have z : some ((0 : Int32), r44.2) = some x40 := e40
                        cases z
                        exact K40 _ _ _ (lv_sub hl [0, 1, 2, 3, 4, 5, 7] rfl) hw
                      · have e40 := cd_ite_f c45 e40
                        refine lv_iconst (v := (1 : Int32)) hx hb dX6_moths_155 (by decide) ?_
                        refine lv_goto (tgt := 160) hx hb dX6_moths_156 (by decide) ?_
                        have z : some ((1 : Int32), r44.2) = some x40 := e40
                        cases z
                        exact K40 _ _ _ (lv_sub hl [0, 1, 2, 3, 4, 5, 7] rfl) hw
                  · have e40 := cd_ite_f c40 e40
                    refine lv_iload hx hb dX6_moths_124 (lv_at hl 7 rfl) ?_
                    refine lv_iload_n hx hb dX6_moths_126 rfl (lv_at hl 1 rfl) ?_
                    refine lv_icmp_ne (tgt := 159) hx hb dX6_moths_127 (by decide) (fun c46 => ?_) (fun c46 => ?_)
                    · have e40 := cd_ite_f c46 e40
                      refine lv_iconst (v := (0 : Int32)) hx hb dX6_moths_159 (by decide) ?_
                      have z : some ((0 : Int32), z38.2.2) = some x40 := e40
                      cases z
                      exact K40 _ _ _ (lv_sub hl [0, 1, 2, 3, 4, 5, 7] rfl) hw
                    · have e40 := cd_ite_t c46 e40
                      refine lv_aload_n hx hb dX6_moths_130 rfl (lv_at hl 0 rfl) ?_
                      refine va_get (D := G) (ci := 6) (v := .ref (h 1)) (C := RX6) (T := TX6) (N := 22) hx hb hts nw_X6_moths_X6 hown hK hw.1 0 rfl rfl 0 (by decide) hL2 (fun _ h9 => h9) rfl dX6_moths_131 ?_
                      refine lv_bipush (v := (66 : Int32)) hx hb dX6_moths_134 (by decide) ?_
                      obtain ⟨v47, e47, e40⟩ := cd_bind_some e40
                      refine cd_iald hx hb hK hw 1 rfl e47 dX6_moths_136 ?_
                      refine lv_iload hx hb dX6_moths_137 (lv_at hl 7 rfl) ?_
                      obtain ⟨r48, e48, e40⟩ := cd_bind_some e40
                      refine cd_callS (As := [.int v47, .int z38.2.1]) (rest := [.int z38.1]) C0 hw (c_X6_isIn l G cI cZ sa sb v47 z38.2.1 r48 e48) [] rfl rfl (va_cwS 2 hts gX6_moths_X6_isIn rfl rfl rfl (by decide +kernel) ⟨Nat.le_of_ble_eq_true rfl, Nat.le_of_ble_eq_true rfl⟩) rfl hl.1 (lv_room (Nat.le_of_ble_eq_true rfl)) dX6_moths_139 (fun H locs hw => ?_)
                      refine lv_if_eq (tgt := 159) hx hb dX6_moths_142 (by decide) (fun c49 => ?_) (fun c49 => ?_)
                      · have e40 := cd_ite_t c49 e40
                        refine lv_iconst (v := (0 : Int32)) hx hb dX6_moths_159 (by decide) ?_
                        have z : some ((0 : Int32), z38.2.2) = some x40 := e40
                        cases z
                        exact K40 _ _ _ (lv_sub hl [0, 1, 2, 3, 4, 5, 7] rfl) hw
                      · have e40 := cd_ite_f c49 e40
                        refine lv_iload_n hx hb dX6_moths_145 rfl (lv_at hl 2 rfl) ?_
                        refine lv_aload_n hx hb dX6_moths_146 rfl (lv_at hl 0 rfl) ?_
                        refine lv_iload hx hb dX6_moths_147 (lv_at hl 7 rfl) ?_
                        obtain ⟨r50, e50, e40⟩ := cd_bind_some e40
                        refine cd_callVw (As := [.int z38.2.1]) (rest := [.int a2, .int z38.1]) (wr := ([] : va_W)) (wn := (pc_mod cI cZ h r50.2)) C0 hw (c_X6_lastsOf l G cI cZ sa sb h z38.2.2 z38.2.1 r50 e50) [0, 1, 2, 3, 4, 5, 6, 7, 8, 9, 10, 11, 12, 13, 14] [] [0, 1, 2, 3, 4, 5, 6, 7, 8, 9, 10, 11, 12, 13, 14] rfl rfl rfl rfl (by decide) rfl rfl 0 6 rfl rfl rfl (cwV 1 hts gX6_moths_X6_lastsOf rfl rfl rfl (by decide +kernel) ⟨Nat.le_of_ble_eq_true rfl, Nat.le_of_ble_eq_true rfl⟩) rfl hl.1 (lv_room (Nat.le_of_ble_eq_true rfl)) dX6_moths_149 (fun H locs hw => ?_)
                        refine lv_icmp_ge (tgt := 159) hx hb dX6_moths_152 (by decide) (fun c51 => ?_) (fun c51 => ?_)
                        · have e40 := cd_ite_t c51 e40
                          refine lv_iconst (v := (0 : Int32)) hx hb dX6_moths_159 (by decide) ?_
                          have z : some ((0 : Int32), r50.2) = some x40 := e40
                          cases z
                          exact K40 _ _ _ (lv_sub hl [0, 1, 2, 3, 4, 5, 7] rfl) hw
                        · have e40 := cd_ite_f c51 e40
                          refine lv_iconst (v := (1 : Int32)) hx hb dX6_moths_155 (by decide) ?_
                          refine lv_goto (tgt := 160) hx hb dX6_moths_156 (by decide) ?_
                          have z : some ((1 : Int32), r50.2) = some x40 := e40
                          cases z
                          exact K40 _ _ _ (lv_sub hl [0, 1, 2, 3, 4, 5, 7] rfl) hw
              refine cd_iter_ind (body := (f_X6_moths_b73_36 a1 a2)) (K := fun r => r = x36) (P := fun (z36 : Int64 × Int64 × Int32) => ∀ (ls : Array Slot) (H : Heap) (locs : List Loc), lv_has ls 11 [(0, .ref (h 0)), (1, .int a0), (2, .int a1), (3, .int a2), (4, .int a3), (5, .long z36.1), (7, .long z36.2.1), (9, .int z36.2.2)] → cd_WS G A s.heap H locs ((pc_mod cI cZ h M)) → W p l e rm_X6_moths s m ag below meth c H locs 0 0 Q (F0 m 73 ls [])) ?_ cd_N ((1 : Int64), (1 : Int64), (0 : Int32)) x36 e36 rfl _ _ _ (lv_sub hl [3, 4, 5, 6, 7, 2, 1, 0] rfl) hw
              intro z36 o36 hb36 hk36 ls H locs hl hw
              unfold f_X6_moths_b73_36 at hb36
              refine lv_iload hx hb dX6_moths_73 (lv_at hl 7 rfl) ?_
              refine lv_iload_n hx hb dX6_moths_75 rfl (lv_at hl 3 rfl) ?_
              refine lv_icmp_ge (tgt := 104) hx hb dX6_moths_76 (by decide) (fun c37 => ?_) (fun c37 => ?_)
              · have hb36 := cd_ite_t c37 hb36
                have z : some (Sum.inl (z36.1, z36.2.1)) = some o36 := hb36
                cases z
                exact K36 _ hk36 _ _ _ (lv_sub hl [0, 1, 3, 4, 5, 6] rfl) hw
              · have hb36 := cd_ite_f c37 hb36
                refine lv_lload hx hb dX6_moths_79 (lv_at hl 5 rfl) ?_
                refine lv_ldc2 (v := (10 : Int64)) hx hb hown hL1 dX6_moths_81 ?_
                refine lv_lmul hx hb dX6_moths_84 ?_
                refine lv_lstore (lv' := [(5, .long (z36.1 * (10 : Int64))), (0, .ref (h 0)), (1, .int a0), (2, .int a1), (3, .int a2), (4, .int a3), (7, .long z36.2.1), (9, .int z36.2.2)]) hx hb dX6_moths_85 hl (by decide) rfl (fun ls hl => ?_)
                refine lv_lload hx hb dX6_moths_87 (lv_at hl 6 rfl) ?_
                refine lv_ldc2 (v := (10 : Int64)) hx hb hown hL1 dX6_moths_89 ?_
                refine lv_iload_n hx hb dX6_moths_92 rfl (lv_at hl 3 rfl) ?_
                refine lv_i2l hx hb dX6_moths_93 rfl ?_
                refine lv_lsub hx hb dX6_moths_94 ?_
                refine lv_lmul hx hb dX6_moths_95 ?_
                refine lv_lstore (lv' := [(7, .long (z36.2.1 * ((10 : Int64) - (a1.toInt64)))), (5, .long (z36.1 * (10 : Int64))), (0, .ref (h 0)), (1, .int a0), (2, .int a1), (3, .int a2), (4, .int a3), (9, .int z36.2.2)]) hx hb dX6_moths_96 hl (by decide) rfl (fun ls hl => ?_)
                refine lv_iinc (v := (z36.2.2 + (1 : Int32))) (lv' := [(9, .int (z36.2.2 + (1 : Int32))), (7, .long (z36.2.1 * ((10 : Int64) - (a1.toInt64)))), (5, .long (z36.1 * (10 : Int64))), (0, .ref (h 0)), (1, .int a0), (2, .int a1), (3, .int a2), (4, .int a3)]) hx hb dX6_moths_98 hl (k := 7) rfl rfl (by decide) rfl (fun ls hl => ?_)
                refine lv_goto (tgt := 73) hx hb dX6_moths_101 (by decide) ?_
                have z : some (Sum.inr ((z36.1 * (10 : Int64)), (z36.2.1 * ((10 : Int64) - (a1.toInt64))), (z36.2.2 + (1 : Int32)))) = some o36 := hb36
                cases z
                exact hk36 _ _ _ (lv_sub hl [3, 4, 5, 6, 7, 2, 1, 0] rfl) hw
            · have hf := cd_ite_t c35 hf
              refine lv_ldc2 (v := (-1000000000000000002 : Int64)) hx hb hown hL0 dX6_moths_60 ?_
              have z : some ((-1000000000000000002 : Int64), M) = some o := hf
              cases z
              rw [hQ]
              exact cd_retl C0 hw dX6_moths_63
      · have hf := cd_ite_t c29 hf
        refine lv_ldc2 (v := (-1000000000000000001 : Int64)) hx hb hown hL3 dX6_moths_26 ?_
        have z : some ((-1000000000000000001 : Int64), M) = some o := hf
        cases z
        rw [hQ]
        exact cd_retl C0 hw dX6_moths_29
