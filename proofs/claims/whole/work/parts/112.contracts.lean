abbrev rm_X6_say : Room := { frames := 1, cells := 0, slots := 0, locals := 22 }
theorem nw_X6_say_X6 : ∀ w ∈ u_ws RX6 TX6 22, w ∈ wsX6_say := by decide +kernel
set_option maxHeartbeats 4000000 in
set_option maxRecDepth 100000 in
theorem c_X6_say (l : Launch) (G : va_G) (cI cZ : ClassId) (sa sb : Nat) (h : Nat → Nat) (M : Nat → Nat → Int32) (a0 : Int32) (o : Int32 × (Nat → Nat → Int32)) (hf : f_X6_say a0 M = some o) : cd_Ct l G cI cZ sa sb yX6_say wsX6_say rm_X6_say [.ref (h 0), .int a0] ((pc_mod cI cZ h M)) ((pc_mod cI cZ h o.2)) (some (.int o.1)) := by
  refine cd_of (cc := cX6_say) (maxL := 2) (ret := (some .int)) (by decide) rfl (Nat.le_of_ble_eq_true rfl) ?_
  intro p e s m ag below meth c A ls Q C0 hl hw hQ
  have C0 : cd_CX G cI cZ sa sb p s m ag meth c cX6_say 2 (some .int) wsX6_say RX6 A := C0
  obtain ⟨⟨hx, hb, hml, hown, hts⟩, hr, hlocks, hA, hE⟩ := id C0
  have hK := hE.1
  have hL0 := hts (.fieldLink RX6 71 "CandleDebtsModel" "signs" "I") (by decide +kernel)
  have hL1 := hts (.fieldLink RX6 25 "CandleDebtsModel" "pad" "[I") (by decide +kernel)
  have hl : lv_has ls 2 [(0, .ref (h 0)), (1, .int a0)] := hl
  unfold f_X6_say at hf
  refine lv_iload_n hx hb dX6_say_0 rfl (lv_at hl 1 rfl) ?_
  refine lv_bipush (v := (33 : Int32)) hx hb dX6_say_1 (by decide) ?_
  refine lv_bipush (v := (126 : Int32)) hx hb dX6_say_3 (by decide) ?_
  obtain ⟨r1, e1, hf⟩ := cd_bind_some hf
  refine cd_callS (As := [.int a0, .int (33 : Int32), .int (126 : Int32)]) (rest := []) C0 hw (c_X6_in l G cI cZ sa sb a0 (33 : Int32) (126 : Int32) r1 e1) [] rfl rfl (va_cwS 3 hts gX6_say_X6_in rfl rfl rfl (by decide +kernel) ⟨Nat.le_of_ble_eq_true rfl, Nat.le_of_ble_eq_true rfl⟩) rfl hl.1 (lv_room (Nat.le_of_ble_eq_true rfl)) dX6_say_5 (fun H locs hw => ?_)
  refine lv_if_ne (tgt := 14) hx hb dX6_say_8 (by decide) (fun c2 => ?_) (fun c2 => ?_)
  · have hf := cd_ite_f c2 hf
    refine lv_aload_n hx hb dX6_say_14 rfl (lv_at hl 0 rfl) ?_
    refine va_get (D := G) (ci := 6) (v := .int (M 6 0)) (C := RX6) (T := TX6) (N := 22) hx hb hts nw_X6_say_X6 hown hK hw.1 0 rfl rfl 6 (by decide) hL0 (fun _ h9 => h9) rfl dX6_say_15 ?_
    refine lv_bipush (v := (60 : Int32)) hx hb dX6_say_18 (by decide) ?_
    refine lv_icmp_ne (tgt := 26) hx hb dX6_say_20 (by decide) (fun c3 => ?_) (fun c3 => ?_)
    · have hf := cd_ite_f c3 hf
      refine lv_aload_n hx hb dX6_say_26 rfl (lv_at hl 0 rfl) ?_
      refine va_get (D := G) (ci := 6) (v := .ref (h 6)) (C := RX6) (T := TX6) (N := 22) hx hb hts nw_X6_say_X6 hown hK hw.1 0 rfl rfl 7 (by decide) hL1 (fun _ h9 => h9) rfl dX6_say_27 ?_
      refine lv_aload_n hx hb dX6_say_30 rfl (lv_at hl 0 rfl) ?_
      refine va_get (D := G) (ci := 6) (v := .int (M 6 0)) (C := RX6) (T := TX6) (N := 22) hx hb hts nw_X6_say_X6 hown hK hw.1 0 rfl rfl 6 (by decide) hL0 (fun _ h9 => h9) rfl dX6_say_31 ?_
      refine lv_iload_n hx hb dX6_say_34 rfl (lv_at hl 1 rfl) ?_
      obtain ⟨j4, e4, hf⟩ := cd_bind_some hf
      refine cd_iast (f := M 7) hx hb hK hw 6 rfl e4 dX6_say_35 (fun H locs hw => ?_)
      have hw : cd_WS G A s.heap H locs ((pc_mod cI cZ h (cd_set M 7 j4 a0))) := (show ∀ (s9 : Nat → Nat → Int32) (y9 : Int32), cd_WS G A s.heap H locs (((pc_mod cI cZ h s9)).set 6 (h 6, .inl (cI, 60, .inl (upd (s9 7) j4 y9)))) → cd_WS G A s.heap H locs ((pc_mod cI cZ h (cd_set s9 7 j4 y9))) from fun _ _ hh => hh) M a0 hw
      refine lv_aload_n hx hb dX6_say_36 rfl (lv_at hl 0 rfl) ?_
      refine lv_dup hx hb dX6_say_37 rfl ?_
      refine va_get (D := G) (ci := 6) (v := .int (M 6 0)) (C := RX6) (T := TX6) (N := 22) hx hb hts nw_X6_say_X6 hown hK hw.1 0 rfl rfl 6 (by decide) hL0 (fun _ h9 => h9) rfl dX6_say_38 ?_
      refine lv_iconst (v := (1 : Int32)) hx hb dX6_say_41 (by decide) ?_
      refine lv_iadd hx hb dX6_say_42 ?_
      refine va_put (D := G) (ci := 6) (v := .int ((M 6 0) + (1 : Int32))) (ty := .int) (C := RX6) (T := TX6) (N := 22) hx hb hts nw_X6_say_X6 tyX6 tyX6_ok nmX6 hown hK hw.1 hw.2.1 hw.2.2 0 rfl rfl 6 (by decide) hL0 (fun _ h9 => h9) rfl (by decide +kernel) rfl rfl (Nat.le_of_ble_eq_true rfl) dX6_say_43 (fun H locs hP hD hS => ?_)
      have hw : cd_WS G A s.heap H locs ((pc_mod cI cZ h (cd_fld (cd_set M 7 j4 a0) 6 ((M 6 0) + (1 : Int32))))) := ⟨hP, hD, hS⟩
      refine lv_aload_n hx hb dX6_say_46 rfl (lv_at hl 0 rfl) ?_
      refine va_get (D := G) (ci := 6) (v := .int ((M 6 0) + (1 : Int32))) (C := RX6) (T := TX6) (N := 22) hx hb hts nw_X6_say_X6 hown hK hw.1 0 rfl rfl 6 (by decide) hL0 (fun _ h9 => h9) rfl dX6_say_47 ?_
      have z : some (((M 6 0) + (1 : Int32)), (cd_fld (cd_set M 7 j4 a0) 6 ((M 6 0) + (1 : Int32)))) = some o := hf
      cases z
      rw [hQ]
      exact cd_reti C0 hw dX6_say_50
    · have hf := cd_ite_t c3 hf
      refine lv_bipush (v := (-4 : Int32)) hx hb dX6_say_23 (by decide) ?_
      have z : some ((-4 : Int32), M) = some o := hf
      cases z
      rw [hQ]
      exact cd_reti C0 hw dX6_say_25
  · have hf := cd_ite_t c2 hf
    refine lv_bipush (v := (-2 : Int32)) hx hb dX6_say_11 (by decide) ?_
    have z : some ((-2 : Int32), M) = some o := hf
    cases z
    rw [hQ]
    exact cd_reti C0 hw dX6_say_13
abbrev rm_X6_seen : Room := { frames := 2, cells := 0, slots := 0, locals := 42 }
theorem nw_X6_seen_X6 : ∀ w ∈ u_ws RX6 TX6 22, w ∈ wsX6_seen := by decide +kernel
set_option maxHeartbeats 4000000 in
set_option maxRecDepth 100000 in
theorem c_X6_seen (l : Launch) (G : va_G) (cI cZ : ClassId) (sa sb : Nat) (h : Nat → Nat) (M : Nat → Nat → Int32) (a0 : Int32) (a1 : Int32) (o : Int32 × (Nat → Nat → Int32)) (hf : f_X6_seen a0 a1 M = some o) : cd_Ct l G cI cZ sa sb yX6_seen wsX6_seen rm_X6_seen [.ref (h 0), .int a0, .int a1] ((pc_mod cI cZ h M)) ((pc_mod cI cZ h o.2)) (some (.int o.1)) := by
  refine cd_of (cc := cX6_seen) (maxL := 3) (ret := (some .int)) (by decide) rfl (Nat.le_of_ble_eq_true rfl) ?_
  intro p e s m ag below meth c A ls Q C0 hl hw hQ
  have C0 : cd_CX G cI cZ sa sb p s m ag meth c cX6_seen 3 (some .int) wsX6_seen RX6 A := C0
  obtain ⟨⟨hx, hb, hml, hown, hts⟩, hr, hlocks, hA, hE⟩ := id C0
  have hK := hE.1
  have hL0 := hts (.fieldLink RX6 167 "CandleDebtsModel" "sights" "I") (by decide +kernel)
  have hL1 := hts (.fieldLink RX6 22 "CandleDebtsModel" "sight" "[I") (by decide +kernel)
  have hl : lv_has ls 3 [(0, .ref (h 0)), (1, .int a0), (2, .int a1)] := hl
  unfold f_X6_seen at hf
  refine lv_iload_n hx hb dX6_seen_0 rfl (lv_at hl 1 rfl) ?_
  obtain ⟨r1, e1, hf⟩ := cd_bind_some hf
  refine cd_callS (As := [.int a0]) (rest := []) C0 hw (c_X6_isCandle l G cI cZ sa sb a0 r1 e1) [] rfl rfl (va_cwS 1 hts gX6_seen_X6_isCandle rfl rfl rfl (by decide +kernel) ⟨Nat.le_of_ble_eq_true rfl, Nat.le_of_ble_eq_true rfl⟩) rfl hl.1 (lv_room (Nat.le_of_ble_eq_true rfl)) dX6_seen_1 (fun H locs hw => ?_)
  refine lv_if_ne (tgt := 9) hx hb dX6_seen_4 (by decide) (fun c2 => ?_) (fun c2 => ?_)
  · have hf := cd_ite_f c2 hf
    refine lv_iload_n hx hb dX6_seen_9 rfl (lv_at hl 2 rfl) ?_
    refine lv_iconst (v := (0 : Int32)) hx hb dX6_seen_10 (by decide) ?_
    refine lv_sipush (v := (999 : Int32)) hx hb dX6_seen_11 (by decide) ?_
    obtain ⟨r3, e3, hf⟩ := cd_bind_some hf
    refine cd_callS (As := [.int a1, .int (0 : Int32), .int (999 : Int32)]) (rest := []) C0 hw (c_X6_in l G cI cZ sa sb a1 (0 : Int32) (999 : Int32) r3 e3) [] rfl rfl (va_cwS 3 hts gX6_seen_X6_in rfl rfl rfl (by decide +kernel) ⟨Nat.le_of_ble_eq_true rfl, Nat.le_of_ble_eq_true rfl⟩) rfl hl.1 (lv_room (Nat.le_of_ble_eq_true rfl)) dX6_seen_14 (fun H locs hw => ?_)
    refine lv_if_ne (tgt := 23) hx hb dX6_seen_17 (by decide) (fun c4 => ?_) (fun c4 => ?_)
    · have hf := cd_ite_f c4 hf
      refine lv_aload_n hx hb dX6_seen_23 rfl (lv_at hl 0 rfl) ?_
      refine va_get (D := G) (ci := 6) (v := .int (M 4 0)) (C := RX6) (T := TX6) (N := 22) hx hb hts nw_X6_seen_X6 hown hK hw.1 0 rfl rfl 4 (by decide) hL0 (fun _ h9 => h9) rfl dX6_seen_24 ?_
      refine lv_bipush (v := (8 : Int32)) hx hb dX6_seen_27 (by decide) ?_
      refine lv_icmp_ne (tgt := 35) hx hb dX6_seen_29 (by decide) (fun c5 => ?_) (fun c5 => ?_)
      · have hf := cd_ite_f c5 hf
        refine lv_aload_n hx hb dX6_seen_35 rfl (lv_at hl 0 rfl) ?_
        refine va_get (D := G) (ci := 6) (v := .ref (h 5)) (C := RX6) (T := TX6) (N := 22) hx hb hts nw_X6_seen_X6 hown hK hw.1 0 rfl rfl 5 (by decide) hL1 (fun _ h9 => h9) rfl dX6_seen_36 ?_
        refine lv_iconst (v := (2 : Int32)) hx hb dX6_seen_39 (by decide) ?_
        refine lv_aload_n hx hb dX6_seen_40 rfl (lv_at hl 0 rfl) ?_
        refine va_get (D := G) (ci := 6) (v := .int (M 4 0)) (C := RX6) (T := TX6) (N := 22) hx hb hts nw_X6_seen_X6 hown hK hw.1 0 rfl rfl 4 (by decide) hL0 (fun _ h9 => h9) rfl dX6_seen_41 ?_
        refine lv_imul hx hb dX6_seen_44 ?_
        refine lv_iload_n hx hb dX6_seen_45 rfl (lv_at hl 1 rfl) ?_
        obtain ⟨j6, e6, hf⟩ := cd_bind_some hf
        refine cd_iast (f := M 5) hx hb hK hw 5 rfl e6 dX6_seen_46 (fun H locs hw => ?_)
        have hw : cd_WS G A s.heap H locs ((pc_mod cI cZ h (cd_set M 5 j6 a0))) := (show ∀ (s9 : Nat → Nat → Int32) (y9 : Int32), cd_WS G A s.heap H locs (((pc_mod cI cZ h s9)).set 5 (h 5, .inl (cI, 16, .inl (upd (s9 5) j6 y9)))) → cd_WS G A s.heap H locs ((pc_mod cI cZ h (cd_set s9 5 j6 y9))) from fun _ _ hh => hh) M a0 hw
        refine lv_aload_n hx hb dX6_seen_47 rfl (lv_at hl 0 rfl) ?_
        refine va_get (D := G) (ci := 6) (v := .ref (h 5)) (C := RX6) (T := TX6) (N := 22) hx hb hts nw_X6_seen_X6 hown hK hw.1 0 rfl rfl 5 (by decide) hL1 (fun _ h9 => h9) rfl dX6_seen_48 ?_
        refine lv_iconst (v := (2 : Int32)) hx hb dX6_seen_51 (by decide) ?_
        refine lv_aload_n hx hb dX6_seen_52 rfl (lv_at hl 0 rfl) ?_
        refine va_get (D := G) (ci := 6) (v := .int (M 4 0)) (C := RX6) (T := TX6) (N := 22) hx hb hts nw_X6_seen_X6 hown hK hw.1 0 rfl rfl 4 (by decide) hL0 (fun _ h9 => h9) rfl dX6_seen_53 ?_
        refine lv_imul hx hb dX6_seen_56 ?_
        refine lv_iconst (v := (1 : Int32)) hx hb dX6_seen_57 (by decide) ?_
        refine lv_iadd hx hb dX6_seen_58 ?_
        refine lv_iload_n hx hb dX6_seen_59 rfl (lv_at hl 2 rfl) ?_
        obtain ⟨j7, e7, hf⟩ := cd_bind_some hf
        refine cd_iast (f := (cd_set M 5 j6 a0) 5) hx hb hK hw 5 rfl e7 dX6_seen_60 (fun H locs hw => ?_)
        have hw : cd_WS G A s.heap H locs ((pc_mod cI cZ h (cd_set (cd_set M 5 j6 a0) 5 j7 a1))) := (show ∀ (s9 : Nat → Nat → Int32) (y9 : Int32), cd_WS G A s.heap H locs (((pc_mod cI cZ h s9)).set 5 (h 5, .inl (cI, 16, .inl (upd (s9 5) j7 y9)))) → cd_WS G A s.heap H locs ((pc_mod cI cZ h (cd_set s9 5 j7 y9))) from fun _ _ hh => hh) (cd_set M 5 j6 a0) a1 hw
        refine lv_aload_n hx hb dX6_seen_61 rfl (lv_at hl 0 rfl) ?_
        refine lv_dup hx hb dX6_seen_62 rfl ?_
        refine va_get (D := G) (ci := 6) (v := .int (M 4 0)) (C := RX6) (T := TX6) (N := 22) hx hb hts nw_X6_seen_X6 hown hK hw.1 0 rfl rfl 4 (by decide) hL0 (fun _ h9 => h9) rfl dX6_seen_63 ?_
        refine lv_iconst (v := (1 : Int32)) hx hb dX6_seen_66 (by decide) ?_
        refine lv_iadd hx hb dX6_seen_67 ?_
        refine va_put (D := G) (ci := 6) (v := .int ((M 4 0) + (1 : Int32))) (ty := .int) (C := RX6) (T := TX6) (N := 22) hx hb hts nw_X6_seen_X6 tyX6 tyX6_ok nmX6 hown hK hw.1 hw.2.1 hw.2.2 0 rfl rfl 4 (by decide) hL0 (fun _ h9 => h9) rfl (by decide +kernel) rfl rfl (Nat.le_of_ble_eq_true rfl) dX6_seen_68 (fun H locs hP hD hS => ?_)
        have hw : cd_WS G A s.heap H locs ((pc_mod cI cZ h (cd_fld (cd_set (cd_set M 5 j6 a0) 5 j7 a1) 4 ((M 4 0) + (1 : Int32))))) := ⟨hP, hD, hS⟩
        refine lv_aload_n hx hb dX6_seen_71 rfl (lv_at hl 0 rfl) ?_
        refine va_get (D := G) (ci := 6) (v := .int ((M 4 0) + (1 : Int32))) (C := RX6) (T := TX6) (N := 22) hx hb hts nw_X6_seen_X6 hown hK hw.1 0 rfl rfl 4 (by decide) hL0 (fun _ h9 => h9) rfl dX6_seen_72 ?_
        have z : some (((M 4 0) + (1 : Int32)), (cd_fld (cd_set (cd_set M 5 j6 a0) 5 j7 a1) 4 ((M 4 0) + (1 : Int32)))) = some o := hf
        cases z
        rw [hQ]
        exact cd_reti C0 hw dX6_seen_75
      · have hf := cd_ite_t c5 hf
        refine lv_bipush (v := (-4 : Int32)) hx hb dX6_seen_32 (by decide) ?_
        have z : some ((-4 : Int32), M) = some o := hf
        cases z
        rw [hQ]
        exact cd_reti C0 hw dX6_seen_34
    · have hf := cd_ite_t c4 hf
      refine lv_bipush (v := (-2 : Int32)) hx hb dX6_seen_20 (by decide) ?_
      have z : some ((-2 : Int32), M) = some o := hf
      cases z
      rw [hQ]
      exact cd_reti C0 hw dX6_seen_22
  · have hf := cd_ite_t c2 hf
    refine lv_iconst (v := (-1 : Int32)) hx hb dX6_seen_7 (by decide) ?_
    have z : some ((-1 : Int32), M) = some o := hf
    cases z
    rw [hQ]
    exact cd_reti C0 hw dX6_seen_8
abbrev rm_X6_ship : Room := { frames := 1, cells := 0, slots := 0, locals := 30 }
set_option maxHeartbeats 4000000 in
set_option maxRecDepth 100000 in
theorem c_X6_ship (l : Launch) (G : va_G) (cI cZ : ClassId) (sa sb : Nat) (h : Nat → Nat) (M : Nat → Nat → Int32) (a0 : Int32) (a1 : Int32) (a2 : Int32) (a3 : Int32) (o : Int64) (hf : f_X6_ship a0 a1 a2 a3 M = some o) : cd_Ct l G cI cZ sa sb yX6_ship wsX6_ship rm_X6_ship [.ref (h 0), .int a0, .int a1, .int a2, .int a3] ((pc_mod cI cZ h M)) ((pc_mod cI cZ h M)) (some (.long o)) := by
  refine cd_of (cc := cX6_ship) (maxL := 9) (ret := (some .long)) (by decide) rfl (Nat.le_of_ble_eq_true rfl) ?_
  intro p e s m ag below meth c A ls Q C0 hl hw hQ
  have C0 : cd_CX G cI cZ sa sb p s m ag meth c cX6_ship 9 (some .long) wsX6_ship RX6 A := C0
  obtain ⟨⟨hx, hb, hml, hown, hts⟩, hr, hlocks, hA, hE⟩ := id C0
  have hK := hE.1
  have hL0 := hts (.constantLong RX6 187 (-1000000000000000002)) (by decide +kernel)
  have hL1 := hts (.constantLong RX6 195 (200)) (by decide +kernel)
  have hl : lv_has ls 9 [(0, .ref (h 0)), (1, .int a0), (2, .int a1), (3, .int a2), (4, .int a3)] := hl
  unfold f_X6_ship at hf
  refine lv_iload_n hx hb dX6_ship_0 rfl (lv_at hl 1 rfl) ?_
  refine lv_iconst (v := (1 : Int32)) hx hb dX6_ship_1 (by decide) ?_
  refine lv_bipush (v := (9 : Int32)) hx hb dX6_ship_2 (by decide) ?_
  obtain ⟨r1, e1, hf⟩ := cd_bind_some hf
  refine cd_callS (As := [.int a0, .int (1 : Int32), .int (9 : Int32)]) (rest := []) C0 hw (c_X6_in l G cI cZ sa sb a0 (1 : Int32) (9 : Int32) r1 e1) [] rfl rfl (va_cwS 3 hts gX6_ship_X6_in rfl rfl rfl (by decide +kernel) ⟨Nat.le_of_ble_eq_true rfl, Nat.le_of_ble_eq_true rfl⟩) rfl hl.1 (lv_room (Nat.le_of_ble_eq_true rfl)) dX6_ship_4 (fun H locs hw => ?_)
  refine lv_if_eq (tgt := 40) hx hb dX6_ship_7 (by decide) (fun c2 => ?_) (fun c2 => ?_)
  · have hf := cd_ite_t c2 hf
    refine lv_ldc2 (v := (-1000000000000000002 : Int64)) hx hb hown hL0 dX6_ship_40 ?_
    have z : some (-1000000000000000002 : Int64) = some o := hf
    cases z
    rw [hQ]
    exact cd_retl C0 hw dX6_ship_43
  · have hf := cd_ite_f c2 hf
    refine lv_iload_n hx hb dX6_ship_10 rfl (lv_at hl 2 rfl) ?_
    refine lv_iconst (v := (0 : Int32)) hx hb dX6_ship_11 (by decide) ?_
    refine lv_bipush (v := (99 : Int32)) hx hb dX6_ship_12 (by decide) ?_
    obtain ⟨r3, e3, hf⟩ := cd_bind_some hf
    refine cd_callS (As := [.int a1, .int (0 : Int32), .int (99 : Int32)]) (rest := []) C0 hw (c_X6_in l G cI cZ sa sb a1 (0 : Int32) (99 : Int32) r3 e3) [] rfl rfl (va_cwS 3 hts gX6_ship_X6_in rfl rfl rfl (by decide +kernel) ⟨Nat.le_of_ble_eq_true rfl, Nat.le_of_ble_eq_true rfl⟩) rfl hl.1 (lv_room (Nat.le_of_ble_eq_true rfl)) dX6_ship_14 (fun H locs hw => ?_)
    refine lv_if_eq (tgt := 40) hx hb dX6_ship_17 (by decide) (fun c4 => ?_) (fun c4 => ?_)
    · have hf := cd_ite_t c4 hf
      refine lv_ldc2 (v := (-1000000000000000002 : Int64)) hx hb hown hL0 dX6_ship_40 ?_
      have z : some (-1000000000000000002 : Int64) = some o := hf
      cases z
      rw [hQ]
      exact cd_retl C0 hw dX6_ship_43
    · have hf := cd_ite_f c4 hf
      refine lv_iload_n hx hb dX6_ship_20 rfl (lv_at hl 3 rfl) ?_
      refine lv_iconst (v := (0 : Int32)) hx hb dX6_ship_21 (by decide) ?_
      refine lv_bipush (v := (99 : Int32)) hx hb dX6_ship_22 (by decide) ?_
      obtain ⟨r5, e5, hf⟩ := cd_bind_some hf
      refine cd_callS (As := [.int a2, .int (0 : Int32), .int (99 : Int32)]) (rest := []) C0 hw (c_X6_in l G cI cZ sa sb a2 (0 : Int32) (99 : Int32) r5 e5) [] rfl rfl (va_cwS 3 hts gX6_ship_X6_in rfl rfl rfl (by decide +kernel) ⟨Nat.le_of_ble_eq_true rfl, Nat.le_of_ble_eq_true rfl⟩) rfl hl.1 (lv_room (Nat.le_of_ble_eq_true rfl)) dX6_ship_24 (fun H locs hw => ?_)
      refine lv_if_eq (tgt := 40) hx hb dX6_ship_27 (by decide) (fun c6 => ?_) (fun c6 => ?_)
      · have hf := cd_ite_t c6 hf
        refine lv_ldc2 (v := (-1000000000000000002 : Int64)) hx hb hown hL0 dX6_ship_40 ?_
        have z : some (-1000000000000000002 : Int64) = some o := hf
        cases z
        rw [hQ]
        exact cd_retl C0 hw dX6_ship_43
      · have hf := cd_ite_f c6 hf
        refine lv_iload hx hb dX6_ship_30 (lv_at hl 4 rfl) ?_
        refine lv_iconst (v := (0 : Int32)) hx hb dX6_ship_32 (by decide) ?_
        refine lv_iconst (v := (1 : Int32)) hx hb dX6_ship_33 (by decide) ?_
        obtain ⟨r7, e7, hf⟩ := cd_bind_some hf
        refine cd_callS (As := [.int a3, .int (0 : Int32), .int (1 : Int32)]) (rest := []) C0 hw (c_X6_in l G cI cZ sa sb a3 (0 : Int32) (1 : Int32) r7 e7) [] rfl rfl (va_cwS 3 hts gX6_ship_X6_in rfl rfl rfl (by decide +kernel) ⟨Nat.le_of_ble_eq_true rfl, Nat.le_of_ble_eq_true rfl⟩) rfl hl.1 (lv_room (Nat.le_of_ble_eq_true rfl)) dX6_ship_34 (fun H locs hw => ?_)
        refine lv_if_ne (tgt := 44) hx hb dX6_ship_37 (by decide) (fun c8 => ?_) (fun c8 => ?_)
        · have hf := cd_ite_f c8 hf
          refine lv_ldc2 (v := (200 : Int64)) hx hb hown hL1 dX6_ship_44 ?_
          refine lv_iload_n hx hb dX6_ship_47 rfl (lv_at hl 2 rfl) ?_
          refine lv_iload_n hx hb dX6_ship_48 rfl (lv_at hl 1 rfl) ?_
          refine lv_imul hx hb dX6_ship_49 ?_
          refine lv_i2l hx hb dX6_ship_50 rfl ?_
          refine lv_lsub hx hb dX6_ship_51 ?_
          refine lv_lconst (v := 0) hx hb dX6_ship_52 (by decide) ?_
          refine W.lcmp hx hb dX6_ship_53 ?_
          obtain ⟨x9, e9, hf⟩ := cd_bind_some hf
          have K9 : ∀ (ls : Array Slot) (H : Heap) (locs : List Loc), lv_has ls 9 [(1, .int a0), (2, .int a1), (3, .int a2), (4, .int a3)] → cd_WS G A s.heap H locs ((pc_mod cI cZ h M)) → W p l e rm_X6_ship s m ag below meth c H locs 0 0 Q (F0 m 69 ls [.long x9]) := by
            intro ls H locs hl hw
            refine lv_lstore (lv' := [(5, .long x9), (1, .int a0), (2, .int a1), (3, .int a2), (4, .int a3)]) hx hb dX6_ship_69 hl (by decide) rfl (fun ls hl => ?_)
            refine lv_ldc2 (v := (200 : Int64)) hx hb hown hL1 dX6_ship_71 ?_
            refine lv_iload_n hx hb dX6_ship_74 rfl (lv_at hl 2 rfl) ?_
            refine lv_iload_n hx hb dX6_ship_75 rfl (lv_at hl 3 rfl) ?_
            refine lv_iadd hx hb dX6_ship_76 ?_
            refine lv_iload_n hx hb dX6_ship_77 rfl (lv_at hl 1 rfl) ?_
            refine lv_imul hx hb dX6_ship_78 ?_
            refine lv_i2l hx hb dX6_ship_79 rfl ?_
            refine lv_lsub hx hb dX6_ship_80 ?_
            refine lv_lconst (v := 0) hx hb dX6_ship_81 (by decide) ?_
            refine W.lcmp hx hb dX6_ship_82 ?_
            obtain ⟨x10, e10, hf⟩ := cd_bind_some hf
            have K10 : ∀ (ls : Array Slot) (H : Heap) (locs : List Loc), lv_has ls 9 [(4, .int a3), (5, .long x9)] → cd_WS G A s.heap H locs ((pc_mod cI cZ h M)) → W p l e rm_X6_ship s m ag below meth c H locs 0 0 Q (F0 m 100 ls [.long x10]) := by
              intro ls H locs hl hw
              refine lv_lstore (lv' := [(7, .long x10), (4, .int a3), (5, .long x9)]) hx hb dX6_ship_100 hl (by decide) rfl (fun ls hl => ?_)
              refine lv_lload hx hb dX6_ship_102 (lv_at hl 2 rfl) ?_
              refine lv_lconst (v := 0) hx hb dX6_ship_104 (by decide) ?_
              refine W.lcmp hx hb dX6_ship_105 ?_
              obtain ⟨x11, e11, hf⟩ := cd_bind_some hf
              have K11 : ∀ (ls : Array Slot) (H : Heap) (locs : List Loc), lv_has ls 9 [] → cd_WS G A s.heap H locs ((pc_mod cI cZ h M)) → W p l e rm_X6_ship s m ag below meth c H locs 0 0 Q (F0 m 124 ls [.long x11]) := by
                intro ls H locs hl hw
                have z : some x11 = some o := hf
                cases z
                rw [hQ]
                exact cd_retl C0 hw dX6_ship_124
              refine lv_if_ne (tgt := 115) hx hb dX6_ship_106 (by decide) (fun c11 => ?_) (fun c11 => ?_)
              · have e11 := cd_ite_f c11 e11
                refine lv_lload hx hb dX6_ship_115 (lv_at hl 0 rfl) ?_
                refine lv_lload hx hb dX6_ship_117 (lv_at hl 2 rfl) ?_
                refine lv_iload hx hb dX6_ship_119 (lv_at hl 1 rfl) ?_
                obtain ⟨r12, e12, e11⟩ := cd_bind_some e11
                refine cd_callS (As := [.long x10, .long x9, .int a3]) (rest := []) C0 hw (c_X6_lowest l G cI cZ sa sb x10 x9 a3 r12 e12) [] rfl rfl (va_cwS 3 hts gX6_ship_X6_lowest rfl rfl rfl (by decide +kernel) ⟨Nat.le_of_ble_eq_true rfl, Nat.le_of_ble_eq_true rfl⟩) rfl hl.1 (lv_room (Nat.le_of_ble_eq_true rfl)) dX6_ship_121 (fun H locs hw => ?_)
                have z : some r12 = some x11 := e11
                cases z
                exact K11 _ _ _ (lv_sub hl [] rfl) hw
              · have e11 := cd_ite_t c11 e11
                refine lv_iload hx hb dX6_ship_109 (lv_at hl 1 rfl) ?_
                refine lv_i2l hx hb dX6_ship_111 rfl ?_
                refine lv_goto (tgt := 124) hx hb dX6_ship_112 (by decide) ?_
                have z : some (a3.toInt64) = some x11 := e11
                cases z
                exact K11 _ _ _ (lv_sub hl [] rfl) hw
            refine lv_if_le (tgt := 99) hx hb dX6_ship_83 (by decide) (fun c10 => ?_) (fun c10 => ?_)
            · have e10 := cd_ite_t c10 e10
              refine lv_lconst (v := 0) hx hb dX6_ship_99 (by decide) ?_
              have z : some (0 : Int64) = some x10 := e10
              cases z
              exact K10 _ _ _ (lv_sub hl [4, 0] rfl) hw
            · have e10 := cd_ite_f c10 e10
              refine lv_ldc2 (v := (200 : Int64)) hx hb hown hL1 dX6_ship_86 ?_
              refine lv_iload_n hx hb dX6_ship_89 rfl (lv_at hl 2 rfl) ?_
              refine lv_iload_n hx hb dX6_ship_90 rfl (lv_at hl 3 rfl) ?_
              refine lv_iadd hx hb dX6_ship_91 ?_
              refine lv_iload_n hx hb dX6_ship_92 rfl (lv_at hl 1 rfl) ?_
              refine lv_imul hx hb dX6_ship_93 ?_
              refine lv_i2l hx hb dX6_ship_94 rfl ?_
              refine lv_lsub hx hb dX6_ship_95 ?_
              refine lv_goto (tgt := 100) hx hb dX6_ship_96 (by decide) ?_
              have z : some ((200 : Int64) - (((a1 + a2) * a0).toInt64)) = some x10 := e10
              cases z
              exact K10 _ _ _ (lv_sub hl [4, 0] rfl) hw
          refine lv_if_le (tgt := 68) hx hb dX6_ship_54 (by decide) (fun c9 => ?_) (fun c9 => ?_)
          · have e9 := cd_ite_t c9 e9
            refine lv_lconst (v := 0) hx hb dX6_ship_68 (by decide) ?_
            have z : some (0 : Int64) = some x9 := e9
            cases z
            exact K9 _ _ _ (lv_sub hl [1, 2, 3, 4] rfl) hw
          · have e9 := cd_ite_f c9 e9
            refine lv_ldc2 (v := (200 : Int64)) hx hb hown hL1 dX6_ship_57 ?_
            refine lv_iload_n hx hb dX6_ship_60 rfl (lv_at hl 2 rfl) ?_
            refine lv_iload_n hx hb dX6_ship_61 rfl (lv_at hl 1 rfl) ?_
            refine lv_imul hx hb dX6_ship_62 ?_
            refine lv_i2l hx hb dX6_ship_63 rfl ?_
            refine lv_lsub hx hb dX6_ship_64 ?_
            refine lv_goto (tgt := 69) hx hb dX6_ship_65 (by decide) ?_
            have z : some ((200 : Int64) - ((a1 * a0).toInt64)) = some x9 := e9
            cases z
            exact K9 _ _ _ (lv_sub hl [1, 2, 3, 4] rfl) hw
        · have hf := cd_ite_t c8 hf
          refine lv_ldc2 (v := (-1000000000000000002 : Int64)) hx hb hown hL0 dX6_ship_40 ?_
          have z : some (-1000000000000000002 : Int64) = some o := hf
          cases z
          rw [hQ]
          exact cd_retl C0 hw dX6_ship_43
abbrev rm_X6_sneezes : Room := { frames := 3, cells := 0, slots := 0, locals := 70 }
set_option maxHeartbeats 4000000 in
set_option maxRecDepth 100000 in
theorem c_X6_sneezes (l : Launch) (G : va_G) (cI cZ : ClassId) (sa sb : Nat) (h : Nat → Nat) (M : Nat → Nat → Int32) (a0 : Int32) (o : Int32 × (Nat → Nat → Int32)) (hf : f_X6_sneezes a0 M = some o) : cd_Ct l G cI cZ sa sb yX6_sneezes wsX6_sneezes rm_X6_sneezes [.ref (h 0), .int a0] ((pc_mod cI cZ h M)) ((pc_mod cI cZ h o.2)) (some (.int o.1)) := by
  refine cd_of (cc := cX6_sneezes) (maxL := 4) (ret := (some .int)) (by decide) rfl (Nat.le_of_ble_eq_true rfl) ?_
  intro p e s m ag below meth c A ls Q C0 hl hw hQ
  have C0 : cd_CX G cI cZ sa sb p s m ag meth c cX6_sneezes 4 (some .int) wsX6_sneezes RX6 A := C0
  obtain ⟨⟨hx, hb, hml, hown, hts⟩, hr, hlocks, hA, hE⟩ := id C0
  have hK := hE.1
  have hl : lv_has ls 4 [(0, .ref (h 0)), (1, .int a0)] := hl
  unfold f_X6_sneezes at hf
  refine lv_aload_n hx hb dX6_sneezes_0 rfl (lv_at hl 0 rfl) ?_
  obtain ⟨r1, e1, hf⟩ := cd_bind_some hf
  refine cd_callVw (As := []) (rest := []) (wr := ([] : va_W)) (wn := (pc_mod cI cZ h r1)) C0 hw (c_X6_layBurns l G cI cZ sa sb h M r1 e1) [0, 1, 2, 3, 4, 5, 6, 7, 8, 9, 10, 11, 12, 13, 14] [] [0, 1, 2, 3, 4, 5, 6, 7, 8, 9, 10, 11, 12, 13, 14] rfl rfl rfl rfl (by decide) rfl rfl 0 6 rfl rfl rfl (cwV 0 hts gX6_sneezes_X6_layBurns rfl rfl rfl (by decide +kernel) ⟨Nat.le_of_ble_eq_true rfl, Nat.le_of_ble_eq_true rfl⟩) rfl hl.1 (lv_room (Nat.le_of_ble_eq_true rfl)) dX6_sneezes_1 (fun H locs hw => ?_)
  refine lv_iconst (v := (0 : Int32)) hx hb dX6_sneezes_4 (by decide) ?_
  refine lv_istore_n (lv' := [(2, .int (0 : Int32)), (0, .ref (h 0)), (1, .int a0)]) hx hb dX6_sneezes_5 rfl hl (by decide) rfl (fun ls hl => ?_)
  refine lv_iconst (v := (0 : Int32)) hx hb dX6_sneezes_6 (by decide) ?_
  refine lv_istore_n (lv' := [(3, .int (0 : Int32)), (2, .int (0 : Int32)), (0, .ref (h 0)), (1, .int a0)]) hx hb dX6_sneezes_7 rfl hl (by decide) rfl (fun ls hl => ?_)
  obtain ⟨x2, e2, hf⟩ := cd_bind_some hf
  have K2 : ∀ (t2 : Int32), Sum.inr t2 = x2 → ∀ (ls : Array Slot) (H : Heap) (locs : List Loc), lv_has ls 4 [(1, .int a0), (2, .int t2)] → cd_WS G A s.heap H locs ((pc_mod cI cZ h r1)) → W p l e rm_X6_sneezes s m ag below meth c H locs 0 0 Q (F0 m 39 ls []) := by
    intro t2 hs_2
    subst hs_2
    intro ls H locs hl hw
    refine lv_iload_n hx hb dX6_sneezes_39 rfl (lv_at hl 0 rfl) ?_
    refine lv_iconst (v := (-1 : Int32)) hx hb dX6_sneezes_40 (by decide) ?_
    obtain ⟨x7, e7, hf⟩ := cd_bind_some hf
    have K7 : ∀ (ls : Array Slot) (H : Heap) (locs : List Loc), lv_has ls 4 [] → cd_WS G A s.heap H locs ((pc_mod cI cZ h r1)) → W p l e rm_X6_sneezes s m ag below meth c H locs 0 0 Q (F0 m 50 ls [.int x7]) := by
      intro ls H locs hl hw
      have z : some (x7, r1) = some o := hf
      cases z
      rw [hQ]
      exact cd_reti C0 hw dX6_sneezes_50
    refine lv_icmp_ne (tgt := 48) hx hb dX6_sneezes_41 (by decide) (fun c7 => ?_) (fun c7 => ?_)
    · have e7 := cd_ite_f c7 e7
      refine lv_bipush (v := (-6 : Int32)) hx hb dX6_sneezes_48 (by decide) ?_
      have z : some (-6 : Int32) = some x7 := e7
      cases z
      exact K7 _ _ _ (lv_sub hl [] rfl) hw
    · have e7 := cd_ite_t c7 e7
      refine lv_iload_n hx hb dX6_sneezes_44 rfl (lv_at hl 1 rfl) ?_
      refine lv_goto (tgt := 50) hx hb dX6_sneezes_45 (by decide) ?_
      have z : some t2 = some x7 := e7
      cases z
      exact K7 _ _ _ (lv_sub hl [] rfl) hw
  refine cd_iter_ind (body := (f_X6_sneezes_b8 a0 r1)) (K := fun r => r = x2) (P := fun (z2 : Int32 × Int32) => ∀ (ls : Array Slot) (H : Heap) (locs : List Loc), lv_has ls 4 [(0, .ref (h 0)), (1, .int a0), (2, .int z2.1), (3, .int z2.2)] → cd_WS G A s.heap H locs ((pc_mod cI cZ h r1)) → W p l e rm_X6_sneezes s m ag below meth c H locs 0 0 Q (F0 m 8 ls [])) ?_ cd_N ((0 : Int32), (0 : Int32)) x2 e2 rfl _ _ _ (lv_sub hl [2, 3, 1, 0] rfl) hw
  intro z2 o2 hb2 hk2 ls H locs hl hw
  unfold f_X6_sneezes_b8 at hb2
  refine lv_iload_n hx hb dX6_sneezes_8 rfl (lv_at hl 3 rfl) ?_
  refine lv_sipush (v := (12000 : Int32)) hx hb dX6_sneezes_9 (by decide) ?_
  refine lv_icmp_ge (tgt := 39) hx hb dX6_sneezes_12 (by decide) (fun c3 => ?_) (fun c3 => ?_)
  · have hb2 := cd_ite_t c3 hb2
    have z : some (Sum.inl (Sum.inr z2.1)) = some o2 := hb2
    cases z
    exact K2 _ hk2 _ _ _ (lv_sub hl [1, 2] rfl) hw
  · have hb2 := cd_ite_f c3 hb2
    refine lv_aload_n hx hb dX6_sneezes_15 rfl (lv_at hl 0 rfl) ?_
    refine lv_iload_n hx hb dX6_sneezes_16 rfl (lv_at hl 3 rfl) ?_
    obtain ⟨r4, e4, hb2⟩ := cd_bind_some hb2
    refine cd_callV (As := [.int z2.2]) (rest := []) C0 hw (c_X6_isSneeze l G cI cZ sa sb h r1 z2.2 r4 e4) [0, 1, 2, 3, 4, 5, 6, 7, 8, 9, 10, 11, 12, 13, 14] rfl rfl 0 6 rfl rfl rfl (cwV 1 hts gX6_sneezes_X6_isSneeze rfl rfl rfl (by decide +kernel) ⟨Nat.le_of_ble_eq_true rfl, Nat.le_of_ble_eq_true rfl⟩) rfl hl.1 (lv_room (Nat.le_of_ble_eq_true rfl)) dX6_sneezes_17 (fun H locs hw => ?_)
    refine lv_if_eq (tgt := 33) hx hb dX6_sneezes_20 (by decide) (fun c5 => ?_) (fun c5 => ?_)
    · have hb2 := cd_ite_t c5 hb2
      refine lv_iinc (v := (z2.2 + (1 : Int32))) (lv' := [(3, .int (z2.2 + (1 : Int32))), (0, .ref (h 0)), (1, .int a0), (2, .int z2.1)]) hx hb dX6_sneezes_33 hl (k := 3) rfl rfl (by decide) rfl (fun ls hl => ?_)
      refine lv_goto (tgt := 8) hx hb dX6_sneezes_36 (by decide) ?_
      have z : some (Sum.inr (z2.1, (z2.2 + (1 : Int32)))) = some o2 := hb2
      cases z
      exact hk2 _ _ _ (lv_sub hl [1, 2, 3, 0] rfl) hw
    · have hb2 := cd_ite_f c5 hb2
      refine lv_iload_n hx hb dX6_sneezes_23 rfl (lv_at hl 2 rfl) ?_
      refine lv_iload_n hx hb dX6_sneezes_24 rfl (lv_at hl 1 rfl) ?_
      refine lv_icmp_ne (tgt := 30) hx hb dX6_sneezes_25 (by decide) (fun c6 => ?_) (fun c6 => ?_)
      · have hb2 := cd_ite_f c6 hb2
        refine lv_iinc (v := (z2.1 + (1 : Int32))) (lv' := [(2, .int (z2.1 + (1 : Int32))), (0, .ref (h 0)), (1, .int a0), (3, .int z2.2)]) hx hb dX6_sneezes_30 hl (k := 2) rfl rfl (by decide) rfl (fun ls hl => ?_)
        refine lv_iinc (v := (z2.2 + (1 : Int32))) (lv' := [(3, .int (z2.2 + (1 : Int32))), (2, .int (z2.1 + (1 : Int32))), (0, .ref (h 0)), (1, .int a0)]) hx hb dX6_sneezes_33 hl (k := 3) rfl rfl (by decide) rfl (fun ls hl => ?_)
        refine lv_goto (tgt := 8) hx hb dX6_sneezes_36 (by decide) ?_
        have z : some (Sum.inr ((z2.1 + (1 : Int32)), (z2.2 + (1 : Int32)))) = some o2 := hb2
        cases z
        exact hk2 _ _ _ (lv_sub hl [2, 3, 1, 0] rfl) hw
      · have hb2 := cd_ite_t c6 hb2
        refine lv_iload_n hx hb dX6_sneezes_28 rfl (lv_at hl 3 rfl) ?_
        have z : some (Sum.inl (Sum.inl (z2.2, r1))) = some o2 := hb2
        cases z
        have y2 : Sum.inl (z2.2, r1) = x2 := hk2
        subst y2
        have z : some (z2.2, r1) = some o := hf
        cases z
        rw [hQ]
        exact cd_reti C0 hw dX6_sneezes_29
abbrev rm_X6_worthOf : Room := { frames := 1, cells := 0, slots := 0, locals := 21 }
theorem nw_X6_worthOf_X6 : ∀ w ∈ u_ws RX6 TX6 22, w ∈ wsX6_worthOf := by decide +kernel
set_option maxHeartbeats 4000000 in
set_option maxRecDepth 100000 in
theorem c_X6_worthOf (l : Launch) (G : va_G) (cI cZ : ClassId) (sa sb : Nat) (h : Nat → Nat) (M : Nat → Nat → Int32) (a0 : Int32) (o : Int32) (hf : f_X6_worthOf a0 M = some o) : cd_Ct l G cI cZ sa sb yX6_worthOf wsX6_worthOf rm_X6_worthOf [.ref (h 0), .int a0] ((pc_mod cI cZ h M)) ((pc_mod cI cZ h M)) (some (.int o)) := by
  refine cd_of (cc := cX6_worthOf) (maxL := 5) (ret := (some .int)) (by decide) rfl (Nat.le_of_ble_eq_true rfl) ?_
  intro p e s m ag below meth c A ls Q C0 hl hw hQ
  have C0 : cd_CX G cI cZ sa sb p s m ag meth c cX6_worthOf 5 (some .int) wsX6_worthOf RX6 A := C0
  obtain ⟨⟨hx, hb, hml, hown, hts⟩, hr, hlocks, hA, hE⟩ := id C0
  have hK := hE.1
  have hL0 := hts (.fieldLink RX6 40 "CandleDebtsModel" "row" "[I") (by decide +kernel)
  have hl : lv_has ls 5 [(0, .ref (h 0)), (1, .int a0)] := hl
  unfold f_X6_worthOf at hf
  refine lv_iconst (v := (0 : Int32)) hx hb dX6_worthOf_0 (by decide) ?_
  refine lv_istore_n (lv' := [(2, .int (0 : Int32)), (0, .ref (h 0)), (1, .int a0)]) hx hb dX6_worthOf_1 rfl hl (by decide) rfl (fun ls hl => ?_)
  refine lv_iconst (v := (0 : Int32)) hx hb dX6_worthOf_2 (by decide) ?_
  refine lv_istore_n (lv' := [(3, .int (0 : Int32)), (2, .int (0 : Int32)), (0, .ref (h 0)), (1, .int a0)]) hx hb dX6_worthOf_3 rfl hl (by decide) rfl (fun ls hl => ?_)
  refine lv_iconst (v := (0 : Int32)) hx hb dX6_worthOf_4 (by decide) ?_
  refine lv_istore (lv' := [(4, .int (0 : Int32)), (3, .int (0 : Int32)), (2, .int (0 : Int32)), (0, .ref (h 0)), (1, .int a0)]) hx hb dX6_worthOf_5 hl (by decide) rfl (fun ls hl => ?_)
  obtain ⟨x1, e1, hf⟩ := cd_bind_some hf
  have K1 : ∀ (t1 : Int32), t1 = x1 → ∀ (ls : Array Slot) (H : Heap) (locs : List Loc), lv_has ls 5 [(2, .int t1)] → cd_WS G A s.heap H locs ((pc_mod cI cZ h M)) → W p l e rm_X6_worthOf s m ag below meth c H locs 0 0 Q (F0 m 46 ls []) := by
    intro t1 hs_1
    subst hs_1
    intro ls H locs hl hw
    refine lv_iload_n hx hb dX6_worthOf_46 rfl (lv_at hl 0 rfl) ?_
    have z : some t1 = some o := hf
    cases z
    rw [hQ]
    exact cd_reti C0 hw dX6_worthOf_47
  refine cd_iter_ind (body := (f_X6_worthOf_b7 a0 M)) (K := fun r => r = x1) (P := fun (z1 : Int32 × Int32 × Int32) => ∀ (ls : Array Slot) (H : Heap) (locs : List Loc), lv_has ls 5 [(0, .ref (h 0)), (1, .int a0), (2, .int z1.1), (3, .int z1.2.1), (4, .int z1.2.2)] → cd_WS G A s.heap H locs ((pc_mod cI cZ h M)) → W p l e rm_X6_worthOf s m ag below meth c H locs 0 0 Q (F0 m 7 ls [])) ?_ cd_N ((0 : Int32), (0 : Int32), (0 : Int32)) x1 e1 rfl _ _ _ (lv_sub hl [3, 4, 2, 1, 0] rfl) hw
  intro z1 o1 hb1 hk1 ls H locs hl hw
  unfold f_X6_worthOf_b7 at hb1
  refine lv_iload hx hb dX6_worthOf_7 (lv_at hl 4 rfl) ?_
  refine lv_bipush (v := (13 : Int32)) hx hb dX6_worthOf_9 (by decide) ?_
  refine lv_icmp_ge (tgt := 46) hx hb dX6_worthOf_11 (by decide) (fun c2 => ?_) (fun c2 => ?_)
  · have hb1 := cd_ite_t c2 hb1
    have z : some (Sum.inl z1.1) = some o1 := hb1
    cases z
    exact K1 _ hk1 _ _ _ (lv_sub hl [2] rfl) hw
  · have hb1 := cd_ite_f c2 hb1
    refine lv_iload_n hx hb dX6_worthOf_14 rfl (lv_at hl 1 rfl) ?_
    refine lv_iload hx hb dX6_worthOf_15 (lv_at hl 4 rfl) ?_
    obtain ⟨r3, e3, hb1⟩ := cd_bind_some hb1
    refine cd_callS (As := [.int a0, .int z1.2.2]) (rest := []) C0 hw (c_X6_isIn l G cI cZ sa sb a0 z1.2.2 r3 e3) [] rfl rfl (va_cwS 2 hts gX6_worthOf_X6_isIn rfl rfl rfl (by decide +kernel) ⟨Nat.le_of_ble_eq_true rfl, Nat.le_of_ble_eq_true rfl⟩) rfl hl.1 (lv_room (Nat.le_of_ble_eq_true rfl)) dX6_worthOf_17 (fun H locs hw => ?_)
    refine lv_if_eq (tgt := 29) hx hb dX6_worthOf_20 (by decide) (fun c4 => ?_) (fun c4 => ?_)
    · have hb1 := cd_ite_t c4 hb1
      refine lv_iload_n hx hb dX6_worthOf_29 rfl (lv_at hl 2 rfl) ?_
      refine lv_aload_n hx hb dX6_worthOf_30 rfl (lv_at hl 0 rfl) ?_
      refine va_get (D := G) (ci := 6) (v := .ref (h 11)) (C := RX6) (T := TX6) (N := 22) hx hb hts nw_X6_worthOf_X6 hown hK hw.1 0 rfl rfl 18 (by decide) hL0 (fun _ h9 => h9) rfl dX6_worthOf_31 ?_
      refine lv_iload_n hx hb dX6_worthOf_34 rfl (lv_at hl 3 rfl) ?_
      obtain ⟨v5, e5, hb1⟩ := cd_bind_some hb1
      refine cd_iald hx hb hK hw 11 rfl e5 dX6_worthOf_35 ?_
      refine lv_ixor hx hb dX6_worthOf_36 ?_
      refine lv_istore_n (lv' := [(2, .int (z1.1 ^^^ v5)), (0, .ref (h 0)), (1, .int a0), (3, .int z1.2.1), (4, .int z1.2.2)]) hx hb dX6_worthOf_37 rfl hl (by decide) rfl (fun ls hl => ?_)
      refine lv_iconst (v := (0 : Int32)) hx hb dX6_worthOf_38 (by decide) ?_
      refine lv_istore_n (lv' := [(3, .int (0 : Int32)), (2, .int (z1.1 ^^^ v5)), (0, .ref (h 0)), (1, .int a0), (4, .int z1.2.2)]) hx hb dX6_worthOf_39 rfl hl (by decide) rfl (fun ls hl => ?_)
      refine lv_iinc (v := (z1.2.2 + (1 : Int32))) (lv' := [(4, .int (z1.2.2 + (1 : Int32))), (3, .int (0 : Int32)), (2, .int (z1.1 ^^^ v5)), (0, .ref (h 0)), (1, .int a0)]) hx hb dX6_worthOf_40 hl (k := 4) rfl rfl (by decide) rfl (fun ls hl => ?_)
      refine lv_goto (tgt := 7) hx hb dX6_worthOf_43 (by decide) ?_
      have z : some (Sum.inr ((z1.1 ^^^ v5), (0 : Int32), (z1.2.2 + (1 : Int32)))) = some o1 := hb1
      cases z
      exact hk1 _ _ _ (lv_sub hl [3, 4, 2, 1, 0] rfl) hw
    · have hb1 := cd_ite_f c4 hb1
      refine lv_iinc (v := (z1.2.1 + (1 : Int32))) (lv' := [(3, .int (z1.2.1 + (1 : Int32))), (0, .ref (h 0)), (1, .int a0), (2, .int z1.1), (4, .int z1.2.2)]) hx hb dX6_worthOf_23 hl (k := 3) rfl rfl (by decide) rfl (fun ls hl => ?_)
      refine lv_goto (tgt := 40) hx hb dX6_worthOf_26 (by decide) ?_
      refine lv_iinc (v := (z1.2.2 + (1 : Int32))) (lv' := [(4, .int (z1.2.2 + (1 : Int32))), (3, .int (z1.2.1 + (1 : Int32))), (0, .ref (h 0)), (1, .int a0), (2, .int z1.1)]) hx hb dX6_worthOf_40 hl (k := 4) rfl rfl (by decide) rfl (fun ls hl => ?_)
      refine lv_goto (tgt := 7) hx hb dX6_worthOf_43 (by decide) ?_
      have z : some (Sum.inr (z1.1, (z1.2.1 + (1 : Int32)), (z1.2.2 + (1 : Int32)))) = some o1 := hb1
      cases z
      exact hk1 _ _ _ (lv_sub hl [2, 3, 4, 1, 0] rfl) hw
abbrev rm_X6_snuff : Room := { frames := 2, cells := 0, slots := 0, locals := 45 }
theorem nw_X6_snuff_X6 : ∀ w ∈ u_ws RX6 TX6 22, w ∈ wsX6_snuff := by decide +kernel
set_option maxHeartbeats 4000000 in
set_option maxRecDepth 100000 in
theorem c_X6_snuff (l : Launch) (G : va_G) (cI cZ : ClassId) (sa sb : Nat) (h : Nat → Nat) (M : Nat → Nat → Int32) (a0 : Int32) (o : Int32 × (Nat → Nat → Int32)) (hf : f_X6_snuff a0 M = some o) : cd_Ct l G cI cZ sa sb yX6_snuff wsX6_snuff rm_X6_snuff [.ref (h 0), .int a0] ((pc_mod cI cZ h M)) ((pc_mod cI cZ h o.2)) (some (.int o.1)) := by
  refine cd_of (cc := cX6_snuff) (maxL := 5) (ret := (some .int)) (by decide) rfl (Nat.le_of_ble_eq_true rfl) ?_
  intro p e s m ag below meth c A ls Q C0 hl hw hQ
  have C0 : cd_CX G cI cZ sa sb p s m ag meth c cX6_snuff 5 (some .int) wsX6_snuff RX6 A := C0
  obtain ⟨⟨hx, hb, hml, hown, hts⟩, hr, hlocks, hA, hE⟩ := id C0
  have hK := hE.1
  have hL0 := hts (.fieldLink RX6 7 "CandleDebtsModel" "book" "[I") (by decide +kernel)
  have hl : lv_has ls 5 [(0, .ref (h 0)), (1, .int a0)] := hl
  unfold f_X6_snuff at hf
  refine lv_iload_n hx hb dX6_snuff_0 rfl (lv_at hl 1 rfl) ?_
  refine lv_iconst (v := (0 : Int32)) hx hb dX6_snuff_1 (by decide) ?_
  refine lv_iconst (v := (1 : Int32)) hx hb dX6_snuff_2 (by decide) ?_
  obtain ⟨r1, e1, hf⟩ := cd_bind_some hf
  refine cd_callS (As := [.int a0, .int (0 : Int32), .int (1 : Int32)]) (rest := []) C0 hw (c_X6_in l G cI cZ sa sb a0 (0 : Int32) (1 : Int32) r1 e1) [] rfl rfl (va_cwS 3 hts gX6_snuff_X6_in rfl rfl rfl (by decide +kernel) ⟨Nat.le_of_ble_eq_true rfl, Nat.le_of_ble_eq_true rfl⟩) rfl hl.1 (lv_room (Nat.le_of_ble_eq_true rfl)) dX6_snuff_3 (fun H locs hw => ?_)
  refine lv_if_ne (tgt := 12) hx hb dX6_snuff_6 (by decide) (fun c2 => ?_) (fun c2 => ?_)
  · have hf := cd_ite_f c2 hf
    refine lv_aload_n hx hb dX6_snuff_12 rfl (lv_at hl 0 rfl) ?_
    obtain ⟨r3, e3, hf⟩ := cd_bind_some hf
    refine cd_callVw (As := []) (rest := []) (wr := ([] : va_W)) (wn := (pc_mod cI cZ h r3)) C0 hw (c_X6_layRows l G cI cZ sa sb h M r3 e3) [0, 1, 2, 3, 4, 5, 6, 7, 8, 9, 10, 11, 12, 13, 14] [] [0, 1, 2, 3, 4, 5, 6, 7, 8, 9, 10, 11, 12, 13, 14] rfl rfl rfl rfl (by decide) rfl rfl 0 6 rfl rfl rfl (cwV 0 hts gX6_snuff_X6_layRows rfl rfl rfl (by decide +kernel) ⟨Nat.le_of_ble_eq_true rfl, Nat.le_of_ble_eq_true rfl⟩) rfl hl.1 (lv_room (Nat.le_of_ble_eq_true rfl)) dX6_snuff_13 (fun H locs hw => ?_)
    refine lv_bipush (v := (-6 : Int32)) hx hb dX6_snuff_16 (by decide) ?_
    refine lv_istore_n (lv' := [(2, .int (-6 : Int32)), (0, .ref (h 0)), (1, .int a0)]) hx hb dX6_snuff_18 rfl hl (by decide) rfl (fun ls hl => ?_)
    refine lv_bipush (v := (11 : Int32)) hx hb dX6_snuff_19 (by decide) ?_
    refine lv_istore_n (lv' := [(3, .int (11 : Int32)), (2, .int (-6 : Int32)), (0, .ref (h 0)), (1, .int a0)]) hx hb dX6_snuff_21 rfl hl (by decide) rfl (fun ls hl => ?_)
    obtain ⟨x4, e4, hf⟩ := cd_bind_some hf
    have K4 : ∀ (t4 : Int32), t4 = x4 → ∀ (ls : Array Slot) (H : Heap) (locs : List Loc), lv_has ls 5 [(1, .int a0), (2, .int t4)] → cd_WS G A s.heap H locs ((pc_mod cI cZ h r3)) → W p l e rm_X6_snuff s m ag below meth c H locs 0 0 Q (F0 m 79 ls []) := by
      intro t4 hs_4
      subst hs_4
      intro ls H locs hl hw
      refine lv_iload_n hx hb dX6_snuff_79 rfl (lv_at hl 0 rfl) ?_
      refine lv_iconst (v := (1 : Int32)) hx hb dX6_snuff_80 (by decide) ?_
      obtain ⟨x12, e12, hf⟩ := cd_bind_some hf
      have K12 : ∀ (ls : Array Slot) (H : Heap) (locs : List Loc), lv_has ls 5 [] → cd_WS G A s.heap H locs ((pc_mod cI cZ h r3)) → W p l e rm_X6_snuff s m ag below meth c H locs 0 0 Q (F0 m 97 ls [.int x12]) := by
        intro ls H locs hl hw
        have z : some (x12, r3) = some o := hf
        cases z
        rw [hQ]
        exact cd_reti C0 hw dX6_snuff_97
      refine lv_icmp_ne (tgt := 88) hx hb dX6_snuff_81 (by decide) (fun c12 => ?_) (fun c12 => ?_)
      · have e12 := cd_ite_f c12 e12
        refine lv_iload_n hx hb dX6_snuff_88 rfl (lv_at hl 1 rfl) ?_
        refine lv_if_ge (tgt := 96) hx hb dX6_snuff_89 (by decide) (fun c13 => ?_) (fun c13 => ?_)
        · have e12 := cd_ite_t c13 e12
          refine lv_iconst (v := (1 : Int32)) hx hb dX6_snuff_96 (by decide) ?_
          have z : some (1 : Int32) = some x12 := e12
          cases z
          exact K12 _ _ _ (lv_sub hl [] rfl) hw
        · have e12 := cd_ite_f c13 e12
          refine lv_iconst (v := (0 : Int32)) hx hb dX6_snuff_92 (by decide) ?_
          refine lv_goto (tgt := 97) hx hb dX6_snuff_93 (by decide) ?_
          have z : some (0 : Int32) = some x12 := e12
          cases z
          exact K12 _ _ _ (lv_sub hl [] rfl) hw
      · have e12 := cd_ite_t c12 e12
        refine lv_iload_n hx hb dX6_snuff_84 rfl (lv_at hl 1 rfl) ?_
        refine lv_goto (tgt := 97) hx hb dX6_snuff_85 (by decide) ?_
        have z : some t4 = some x12 := e12
        cases z
        exact K12 _ _ _ (lv_sub hl [] rfl) hw
    refine cd_iter_ind (body := (f_X6_snuff_b22 r3)) (K := fun r => r = x4) (P := fun (z4 : Int32 × Int32) => ∀ (ls : Array Slot) (H : Heap) (locs : List Loc), lv_has ls 5 [(0, .ref (h 0)), (1, .int a0), (2, .int z4.1), (3, .int z4.2)] → cd_WS G A s.heap H locs ((pc_mod cI cZ h r3)) → W p l e rm_X6_snuff s m ag below meth c H locs 0 0 Q (F0 m 22 ls [])) ?_ cd_N ((-6 : Int32), (11 : Int32)) x4 e4 rfl _ _ _ (lv_sub hl [2, 3, 1, 0] rfl) hw
    intro z4 o4 hb4 hk4 ls H locs hl hw
    unfold f_X6_snuff_b22 at hb4
    refine lv_iload_n hx hb dX6_snuff_22 rfl (lv_at hl 3 rfl) ?_
    refine lv_if_lt (tgt := 79) hx hb dX6_snuff_23 (by decide) (fun c5 => ?_) (fun c5 => ?_)
    · have hb4 := cd_ite_t c5 hb4
      have z : some (Sum.inl z4.1) = some o4 := hb4
      cases z
      exact K4 _ hk4 _ _ _ (lv_sub hl [1, 2] rfl) hw
    · have hb4 := cd_ite_f c5 hb4
      refine lv_bipush (v := (7 : Int32)) hx hb dX6_snuff_26 (by decide) ?_
      refine lv_iload_n hx hb dX6_snuff_28 rfl (lv_at hl 3 rfl) ?_
      refine lv_ishl hx hb dX6_snuff_29 ?_
      refine lv_iconst (v := (1 : Int32)) hx hb dX6_snuff_30 (by decide) ?_
      refine lv_ishr hx hb dX6_snuff_31 ?_
      refine lv_istore (lv' := [(4, .int (((7 : Int32) <<< (z4.2 &&& 31)) >>> ((1 : Int32) &&& 31))), (0, .ref (h 0)), (1, .int a0), (2, .int z4.1), (3, .int z4.2)]) hx hb dX6_snuff_32 hl (by decide) rfl (fun ls hl => ?_)
      refine lv_aload_n hx hb dX6_snuff_34 rfl (lv_at hl 1 rfl) ?_
      refine va_get (D := G) (ci := 6) (v := .ref (h 1)) (C := RX6) (T := TX6) (N := 22) hx hb hts nw_X6_snuff_X6 hown hK hw.1 0 rfl rfl 0 (by decide) hL0 (fun _ h9 => h9) rfl dX6_snuff_35 ?_
      refine lv_bipush (v := (66 : Int32)) hx hb dX6_snuff_38 (by decide) ?_
      obtain ⟨v6, e6, hb4⟩ := cd_bind_some hb4
      refine cd_iald hx hb hK hw 1 rfl e6 dX6_snuff_40 ?_
      refine lv_iload_n hx hb dX6_snuff_41 rfl (lv_at hl 4 rfl) ?_
      obtain ⟨r7, e7, hb4⟩ := cd_bind_some hb4
      refine cd_callS (As := [.int v6, .int z4.2]) (rest := []) C0 hw (c_X6_isIn l G cI cZ sa sb v6 z4.2 r7 e7) [] rfl rfl (va_cwS 2 hts gX6_snuff_X6_isIn rfl rfl rfl (by decide +kernel) ⟨Nat.le_of_ble_eq_true rfl, Nat.le_of_ble_eq_true rfl⟩) rfl hl.1 (lv_room (Nat.le_of_ble_eq_true rfl)) dX6_snuff_42 (fun H locs hw => ?_)
      refine lv_if_eq (tgt := 71) hx hb dX6_snuff_45 (by decide) (fun c8 => ?_) (fun c8 => ?_)
      · have hb4 := cd_ite_t c8 hb4
        refine lv_iload_n hx hb dX6_snuff_71 rfl (lv_at hl 3 rfl) ?_
        refine lv_istore_n (lv' := [(2, .int z4.1), (4, .int (((7 : Int32) <<< (z4.2 &&& 31)) >>> ((1 : Int32) &&& 31))), (0, .ref (h 0)), (1, .int a0), (3, .int z4.2)]) hx hb dX6_snuff_72 rfl hl (by decide) rfl (fun ls hl => ?_)
        refine lv_iinc (v := (z4.2 + (-1 : Int32))) (lv' := [(3, .int (z4.2 + (-1 : Int32))), (2, .int z4.1), (4, .int (((7 : Int32) <<< (z4.2 &&& 31)) >>> ((1 : Int32) &&& 31))), (0, .ref (h 0)), (1, .int a0)]) hx hb dX6_snuff_73 hl (k := 4) rfl rfl (by decide) rfl (fun ls hl => ?_)
        refine lv_goto (tgt := 22) hx hb dX6_snuff_76 (by decide) ?_
        have z : some (Sum.inr (z4.1, (z4.2 + (-1 : Int32)))) = some o4 := hb4
        cases z
        exact hk4 _ _ _ (lv_sub hl [3, 4, 1, 0] rfl) hw
      · have hb4 := cd_ite_f c8 hb4
        refine lv_aload_n hx hb dX6_snuff_48 rfl (lv_at hl 1 rfl) ?_
        refine lv_aload_n hx hb dX6_snuff_49 rfl (lv_at hl 1 rfl) ?_
        refine va_get (D := G) (ci := 6) (v := .ref (h 1)) (C := RX6) (T := TX6) (N := 22) hx hb hts nw_X6_snuff_X6 hown hK hw.1 0 rfl rfl 0 (by decide) hL0 (fun _ h9 => h9) rfl dX6_snuff_50 ?_
        refine lv_bipush (v := (66 : Int32)) hx hb dX6_snuff_53 (by decide) ?_
        obtain ⟨v9, e9, hb4⟩ := cd_bind_some hb4
        refine cd_iald hx hb hK hw 1 rfl e9 dX6_snuff_55 ?_
        refine lv_iload hx hb dX6_snuff_56 (lv_at hl 0 rfl) ?_
        refine lv_iconst (v := (-1 : Int32)) hx hb dX6_snuff_58 (by decide) ?_
        refine lv_ixor hx hb dX6_snuff_59 ?_
        refine lv_iand hx hb dX6_snuff_60 ?_
        obtain ⟨r10, e10, hb4⟩ := cd_bind_some hb4
        refine cd_callV (As := [.int (v9 &&& ((((7 : Int32) <<< (z4.2 &&& 31)) >>> ((1 : Int32) &&& 31)) ^^^ (-1 : Int32)))]) (rest := []) C0 hw (c_X6_worthOf l G cI cZ sa sb h r3 (v9 &&& ((((7 : Int32) <<< (z4.2 &&& 31)) >>> ((1 : Int32) &&& 31)) ^^^ (-1 : Int32))) r10 e10) [0, 1, 2, 3, 4, 5, 6, 7, 8, 9, 10, 11, 12, 13, 14] rfl rfl 0 6 rfl rfl rfl (cwV 1 hts gX6_snuff_X6_worthOf rfl rfl rfl (by decide +kernel) ⟨Nat.le_of_ble_eq_true rfl, Nat.le_of_ble_eq_true rfl⟩) rfl hl.1 (lv_room (Nat.le_of_ble_eq_true rfl)) dX6_snuff_61 (fun H locs hw => ?_)
        refine lv_if_ne (tgt := 71) hx hb dX6_snuff_64 (by decide) (fun c11 => ?_) (fun c11 => ?_)
        · have hb4 := cd_ite_f c11 hb4
          refine lv_iload_n hx hb dX6_snuff_71 rfl (lv_at hl 3 rfl) ?_
          refine lv_istore_n (lv' := [(2, .int z4.1), (4, .int (((7 : Int32) <<< (z4.2 &&& 31)) >>> ((1 : Int32) &&& 31))), (0, .ref (h 0)), (1, .int a0), (3, .int z4.2)]) hx hb dX6_snuff_72 rfl hl (by decide) rfl (fun ls hl => ?_)
          refine lv_iinc (v := (z4.2 + (-1 : Int32))) (lv' := [(3, .int (z4.2 + (-1 : Int32))), (2, .int z4.1), (4, .int (((7 : Int32) <<< (z4.2 &&& 31)) >>> ((1 : Int32) &&& 31))), (0, .ref (h 0)), (1, .int a0)]) hx hb dX6_snuff_73 hl (k := 4) rfl rfl (by decide) rfl (fun ls hl => ?_)
          refine lv_goto (tgt := 22) hx hb dX6_snuff_76 (by decide) ?_
          have z : some (Sum.inr (z4.1, (z4.2 + (-1 : Int32)))) = some o4 := hb4
          cases z
          exact hk4 _ _ _ (lv_sub hl [3, 4, 1, 0] rfl) hw
        · have hb4 := cd_ite_t c11 hb4
          refine lv_iload_n hx hb dX6_snuff_67 rfl (lv_at hl 4 rfl) ?_
          refine lv_goto (tgt := 72) hx hb dX6_snuff_68 (by decide) ?_
          refine lv_istore_n (lv' := [(2, .int z4.2), (4, .int (((7 : Int32) <<< (z4.2 &&& 31)) >>> ((1 : Int32) &&& 31))), (0, .ref (h 0)), (1, .int a0), (3, .int z4.2)]) hx hb dX6_snuff_72 rfl hl (by decide) rfl (fun ls hl => ?_)
          refine lv_iinc (v := (z4.2 + (-1 : Int32))) (lv' := [(3, .int (z4.2 + (-1 : Int32))), (2, .int z4.2), (4, .int (((7 : Int32) <<< (z4.2 &&& 31)) >>> ((1 : Int32) &&& 31))), (0, .ref (h 0)), (1, .int a0)]) hx hb dX6_snuff_73 hl (k := 4) rfl rfl (by decide) rfl (fun ls hl => ?_)
          refine lv_goto (tgt := 22) hx hb dX6_snuff_76 (by decide) ?_
          have z : some (Sum.inr (z4.2, (z4.2 + (-1 : Int32)))) = some o4 := hb4
          cases z
          exact hk4 _ _ _ (lv_sub hl [3, 4, 1, 0] rfl) hw
  · have hf := cd_ite_t c2 hf
    refine lv_bipush (v := (-2 : Int32)) hx hb dX6_snuff_9 (by decide) ?_
    have z : some ((-2 : Int32), M) = some o := hf
    cases z
    rw [hQ]
    exact cd_reti C0 hw dX6_snuff_11
abbrev rm_X6_then : Room := { frames := 6, cells := 0, slots := 0, locals := 132 }
theorem nw_X6_then_X6 : ∀ w ∈ u_ws RX6 TX6 22, w ∈ wsX6_then := by decide +kernel
set_option maxHeartbeats 4000000 in
set_option maxRecDepth 100000 in
theorem c_X6_then (l : Launch) (G : va_G) (cI cZ : ClassId) (sa sb : Nat) (h : Nat → Nat) (M : Nat → Nat → Int32) (a0 : Int32) (o : Int32 × (Nat → Nat → Int32)) (hf : f_X6_then a0 M = some o) : cd_Ct l G cI cZ sa sb yX6_then wsX6_then rm_X6_then [.ref (h 0), .int a0] ((pc_mod cI cZ h M)) ((pc_mod cI cZ h o.2)) (some (.int o.1)) := by
  refine cd_of (cc := cX6_then) (maxL := 2) (ret := (some .int)) (by decide) rfl (Nat.le_of_ble_eq_true rfl) ?_
  intro p e s m ag below meth c A ls Q C0 hl hw hQ
  have C0 : cd_CX G cI cZ sa sb p s m ag meth c cX6_then 2 (some .int) wsX6_then RX6 A := C0
  obtain ⟨⟨hx, hb, hml, hown, hts⟩, hr, hlocks, hA, hE⟩ := id C0
  have hK := hE.1
  have hL0 := hts (.fieldLink RX6 82 "CandleDebtsModel" "paid" "I") (by decide +kernel)
  have hL1 := hts (.fieldLink RX6 85 "CandleDebtsModel" "outAt" "I") (by decide +kernel)
  have hL2 := hts (.fieldLink RX6 88 "CandleDebtsModel" "outWho" "I") (by decide +kernel)
  have hL3 := hts (.fieldLink RX6 13 "CandleDebtsModel" "now" "[I") (by decide +kernel)
  have hl : lv_has ls 2 [(0, .ref (h 0)), (1, .int a0)] := hl
  unfold f_X6_then at hf
  refine lv_iload_n hx hb dX6_then_0 rfl (lv_at hl 1 rfl) ?_
  refine lv_iconst (v := (0 : Int32)) hx hb dX6_then_1 (by decide) ?_
  refine lv_iconst (v := (5 : Int32)) hx hb dX6_then_2 (by decide) ?_
  obtain ⟨r1, e1, hf⟩ := cd_bind_some hf
  refine cd_callS (As := [.int a0, .int (0 : Int32), .int (5 : Int32)]) (rest := []) C0 hw (c_X6_in l G cI cZ sa sb a0 (0 : Int32) (5 : Int32) r1 e1) [] rfl rfl (va_cwS 3 hts gX6_then_X6_in rfl rfl rfl (by decide +kernel) ⟨Nat.le_of_ble_eq_true rfl, Nat.le_of_ble_eq_true rfl⟩) rfl hl.1 (lv_room (Nat.le_of_ble_eq_true rfl)) dX6_then_3 (fun H locs hw => ?_)
  refine lv_if_ne (tgt := 12) hx hb dX6_then_6 (by decide) (fun c2 => ?_) (fun c2 => ?_)
  · have hf := cd_ite_f c2 hf
    refine lv_aload_n hx hb dX6_then_12 rfl (lv_at hl 0 rfl) ?_
    obtain ⟨r3, e3, hf⟩ := cd_bind_some hf
    refine cd_callVw (As := []) (rest := []) (wr := ([] : va_W)) (wn := (pc_mod cI cZ h r3.2)) C0 hw (c_X6_barOfNights l G cI cZ sa sb h M r3 e3) [0, 1, 2, 3, 4, 5, 6, 7, 8, 9, 10, 11, 12, 13, 14] [] [0, 1, 2, 3, 4, 5, 6, 7, 8, 9, 10, 11, 12, 13, 14] rfl rfl rfl rfl (by decide) rfl rfl 0 6 rfl rfl rfl (cwV 0 hts gX6_then_X6_barOfNights rfl rfl rfl (by decide +kernel) ⟨Nat.le_of_ble_eq_true rfl, Nat.le_of_ble_eq_true rfl⟩) rfl hl.1 (lv_room (Nat.le_of_ble_eq_true rfl)) dX6_then_13 (fun H locs hw => ?_)
    refine lv_if_ge (tgt := 22) hx hb dX6_then_16 (by decide) (fun c4 => ?_) (fun c4 => ?_)
    · have hf := cd_ite_t c4 hf
      refine lv_iload_n hx hb dX6_then_22 rfl (lv_at hl 1 rfl) ?_
      refine lv_iconst (v := (3 : Int32)) hx hb dX6_then_23 (by decide) ?_
      obtain ⟨x5, e5, hf⟩ := cd_bind_some hf
      have K5 : ∀ (ls : Array Slot) (H : Heap) (locs : List Loc), lv_has ls 2 [] → cd_WS G A s.heap H locs ((pc_mod cI cZ h r3.2)) → W p l e rm_X6_then s m ag below meth c H locs 0 0 Q (F0 m 67 ls [.int x5]) := by
        intro ls H locs hl hw
        have z : some (x5, r3.2) = some o := hf
        cases z
        rw [hQ]
        exact cd_reti C0 hw dX6_then_67
      refine lv_icmp_ge (tgt := 39) hx hb dX6_then_24 (by decide) (fun c5 => ?_) (fun c5 => ?_)
      · have e5 := cd_ite_t c5 e5
        refine lv_iload_n hx hb dX6_then_39 rfl (lv_at hl 1 rfl) ?_
        refine lv_iconst (v := (3 : Int32)) hx hb dX6_then_40 (by decide) ?_
        refine lv_icmp_ne (tgt := 51) hx hb dX6_then_41 (by decide) (fun c6 => ?_) (fun c6 => ?_)
        · have e5 := cd_ite_f c6 e5
          refine lv_iload_n hx hb dX6_then_51 rfl (lv_at hl 1 rfl) ?_
          refine lv_iconst (v := (4 : Int32)) hx hb dX6_then_52 (by decide) ?_
          refine lv_icmp_ne (tgt := 63) hx hb dX6_then_53 (by decide) (fun c7 => ?_) (fun c7 => ?_)
          · have e5 := cd_ite_f c7 e5
            refine lv_aload_n hx hb dX6_then_63 rfl (lv_at hl 0 rfl) ?_
            refine va_get (D := G) (ci := 6) (v := .int (r3.2 10 0)) (C := RX6) (T := TX6) (N := 22) hx hb hts nw_X6_then_X6 hown hK hw.1 0 rfl rfl 10 (by decide) hL2 (fun _ h9 => h9) rfl dX6_then_64 ?_
            have z : some (r3.2 10 0) = some x5 := e5
            cases z
            exact K5 _ _ _ (lv_sub hl [] rfl) hw
          · have e5 := cd_ite_t c7 e5
            refine lv_aload_n hx hb dX6_then_56 rfl (lv_at hl 0 rfl) ?_
            refine va_get (D := G) (ci := 6) (v := .int (r3.2 9 0)) (C := RX6) (T := TX6) (N := 22) hx hb hts nw_X6_then_X6 hown hK hw.1 0 rfl rfl 9 (by decide) hL1 (fun _ h9 => h9) rfl dX6_then_57 ?_
            refine lv_goto (tgt := 67) hx hb dX6_then_60 (by decide) ?_
            have z : some (r3.2 9 0) = some x5 := e5
            cases z
            exact K5 _ _ _ (lv_sub hl [] rfl) hw
        · have e5 := cd_ite_t c6 e5
          refine lv_aload_n hx hb dX6_then_44 rfl (lv_at hl 0 rfl) ?_
          refine va_get (D := G) (ci := 6) (v := .int (r3.2 8 0)) (C := RX6) (T := TX6) (N := 22) hx hb hts nw_X6_then_X6 hown hK hw.1 0 rfl rfl 8 (by decide) hL0 (fun _ h9 => h9) rfl dX6_then_45 ?_
          refine lv_goto (tgt := 67) hx hb dX6_then_48 (by decide) ?_
          have z : some (r3.2 8 0) = some x5 := e5
          cases z
          exact K5 _ _ _ (lv_sub hl [] rfl) hw
      · have e5 := cd_ite_f c5 e5
        refine lv_aload_n hx hb dX6_then_27 rfl (lv_at hl 0 rfl) ?_
        refine va_get (D := G) (ci := 6) (v := .ref (h 2)) (C := RX6) (T := TX6) (N := 22) hx hb hts nw_X6_then_X6 hown hK hw.1 0 rfl rfl 1 (by decide) hL3 (fun _ h9 => h9) rfl dX6_then_28 ?_
        refine lv_bipush (v := (66 : Int32)) hx hb dX6_then_31 (by decide) ?_
        refine lv_iload_n hx hb dX6_then_33 rfl (lv_at hl 1 rfl) ?_
        refine lv_iadd hx hb dX6_then_34 ?_
        obtain ⟨v8, e8, e5⟩ := cd_bind_some e5
        refine cd_iald hx hb hK hw 2 rfl e8 dX6_then_35 ?_
        refine lv_goto (tgt := 67) hx hb dX6_then_36 (by decide) ?_
        have z : some v8 = some x5 := e5
        cases z
        exact K5 _ _ _ (lv_sub hl [] rfl) hw
    · have hf := cd_ite_f c4 hf
      refine lv_bipush (v := (-5 : Int32)) hx hb dX6_then_19 (by decide) ?_
      have z : some ((-5 : Int32), r3.2) = some o := hf
      cases z
      rw [hQ]
      exact cd_reti C0 hw dX6_then_21
  · have hf := cd_ite_t c2 hf
    refine lv_bipush (v := (-2 : Int32)) hx hb dX6_then_9 (by decide) ?_
    have z : some ((-2 : Int32), M) = some o := hf
    cases z
    rw [hQ]
    exact cd_reti C0 hw dX6_then_11
abbrev rm_X6_told : Room := { frames := 2, cells := 0, slots := 0, locals := 42 }
theorem nw_X6_told_X6 : ∀ w ∈ u_ws RX6 TX6 22, w ∈ wsX6_told := by decide +kernel
set_option maxHeartbeats 4000000 in
set_option maxRecDepth 100000 in
theorem c_X6_told (l : Launch) (G : va_G) (cI cZ : ClassId) (sa sb : Nat) (h : Nat → Nat) (M : Nat → Nat → Int32) (a0 : Int32) (o : Int32 × (Nat → Nat → Int32)) (hf : f_X6_told a0 M = some o) : cd_Ct l G cI cZ sa sb yX6_told wsX6_told rm_X6_told [.ref (h 0), .int a0] ((pc_mod cI cZ h M)) ((pc_mod cI cZ h o.2)) (some (.int o.1)) := by
  refine cd_of (cc := cX6_told) (maxL := 3) (ret := (some .int)) (by decide) rfl (Nat.le_of_ble_eq_true rfl) ?_
  intro p e s m ag below meth c A ls Q C0 hl hw hQ
  have C0 : cd_CX G cI cZ sa sb p s m ag meth c cX6_told 3 (some .int) wsX6_told RX6 A := C0
  obtain ⟨⟨hx, hb, hml, hown, hts⟩, hr, hlocks, hA, hE⟩ := id C0
  have hK := hE.1
  have hL0 := hts (.fieldLink RX6 71 "CandleDebtsModel" "signs" "I") (by decide +kernel)
  have hL1 := hts (.fieldLink RX6 167 "CandleDebtsModel" "sights" "I") (by decide +kernel)
  have hL2 := hts (.fieldLink RX6 7 "CandleDebtsModel" "book" "[I") (by decide +kernel)
  have hL3 := hts (.fieldLink RX6 16 "CandleDebtsModel" "creditor" "[I") (by decide +kernel)
  have hL4 := hts (.fieldLink RX6 19 "CandleDebtsModel" "debtor" "[I") (by decide +kernel)
  have hl : lv_has ls 3 [(0, .ref (h 0)), (1, .int a0)] := hl
  unfold f_X6_told at hf
  refine lv_iload_n hx hb dX6_told_0 rfl (lv_at hl 1 rfl) ?_
  refine lv_bipush (v := (100 : Int32)) hx hb dX6_told_1 (by decide) ?_
  refine lv_icmp_lt (tgt := 159) hx hb dX6_told_3 (by decide) (fun c1 => ?_) (fun c1 => ?_)
  · have hf := cd_ite_t c1 hf
    refine lv_iload_n hx hb dX6_told_159 rfl (lv_at hl 1 rfl) ?_
    refine lv_bipush (v := (10 : Int32)) hx hb dX6_told_160 (by decide) ?_
    refine lv_icmp_lt (tgt := 193) hx hb dX6_told_162 (by decide) (fun c2 => ?_) (fun c2 => ?_)
    · have hf := cd_ite_t c2 hf
      refine lv_iload_n hx hb dX6_told_193 rfl (lv_at hl 1 rfl) ?_
      obtain ⟨x3, e3, hf⟩ := cd_bind_some hf
      have K3 : ∀ (ls : Array Slot) (H : Heap) (locs : List Loc), lv_has ls 3 [] → cd_WS G A s.heap H locs ((pc_mod cI cZ h M)) → W p l e rm_X6_told s m ag below meth c H locs 0 0 Q (F0 m 239 ls [.int x3]) := by
        intro ls H locs hl hw
        have z : some (x3, M) = some o := hf
        cases z
        rw [hQ]
        exact cd_reti C0 hw dX6_told_239
      refine lv_if_ne (tgt := 204) hx hb dX6_told_194 (by decide) (fun c3 => ?_) (fun c3 => ?_)
      · have e3 := cd_ite_f c3 e3
        refine lv_iload_n hx hb dX6_told_204 rfl (lv_at hl 1 rfl) ?_
        refine lv_iconst (v := (1 : Int32)) hx hb dX6_told_205 (by decide) ?_
        refine lv_iconst (v := (3 : Int32)) hx hb dX6_told_206 (by decide) ?_
        obtain ⟨r4, e4, e3⟩ := cd_bind_some e3
        refine cd_callS (As := [.int a0, .int (1 : Int32), .int (3 : Int32)]) (rest := []) C0 hw (c_X6_in l G cI cZ sa sb a0 (1 : Int32) (3 : Int32) r4 e4) [] rfl rfl (va_cwS 3 hts gX6_told_X6_in rfl rfl rfl (by decide +kernel) ⟨Nat.le_of_ble_eq_true rfl, Nat.le_of_ble_eq_true rfl⟩) rfl hl.1 (lv_room (Nat.le_of_ble_eq_true rfl)) dX6_told_207 (fun H locs hw => ?_)
        refine lv_if_eq (tgt := 225) hx hb dX6_told_210 (by decide) (fun c5 => ?_) (fun c5 => ?_)
        · have e3 := cd_ite_t c5 e3
          refine lv_iload_n hx hb dX6_told_225 rfl (lv_at hl 1 rfl) ?_
          refine lv_iconst (v := (4 : Int32)) hx hb dX6_told_226 (by decide) ?_
          refine lv_icmp_ne (tgt := 237) hx hb dX6_told_227 (by decide) (fun c6 => ?_) (fun c6 => ?_)
          · have e3 := cd_ite_f c6 e3
            refine lv_bipush (v := (-2 : Int32)) hx hb dX6_told_237 (by decide) ?_
            have z : some (-2 : Int32) = some x3 := e3
            cases z
            exact K3 _ _ _ (lv_sub hl [] rfl) hw
          · have e3 := cd_ite_t c6 e3
            refine lv_aload_n hx hb dX6_told_230 rfl (lv_at hl 0 rfl) ?_
            refine va_get (D := G) (ci := 6) (v := .int (M 4 0)) (C := RX6) (T := TX6) (N := 22) hx hb hts nw_X6_told_X6 hown hK hw.1 0 rfl rfl 4 (by decide) hL1 (fun _ h9 => h9) rfl dX6_told_231 ?_
            refine lv_goto (tgt := 239) hx hb dX6_told_234 (by decide) ?_
            have z : some (M 4 0) = some x3 := e3
            cases z
            exact K3 _ _ _ (lv_sub hl [] rfl) hw
        · have e3 := cd_ite_f c5 e3
          refine lv_aload_n hx hb dX6_told_213 rfl (lv_at hl 0 rfl) ?_
          refine va_get (D := G) (ci := 6) (v := .ref (h 1)) (C := RX6) (T := TX6) (N := 22) hx hb hts nw_X6_told_X6 hown hK hw.1 0 rfl rfl 0 (by decide) hL2 (fun _ h9 => h9) rfl dX6_told_214 ?_
          refine lv_bipush (v := (65 : Int32)) hx hb dX6_told_217 (by decide) ?_
          refine lv_iload_n hx hb dX6_told_219 rfl (lv_at hl 1 rfl) ?_
          refine lv_iadd hx hb dX6_told_220 ?_
          obtain ⟨v7, e7, e3⟩ := cd_bind_some e3
          refine cd_iald hx hb hK hw 1 rfl e7 dX6_told_221 ?_
          refine lv_goto (tgt := 239) hx hb dX6_told_222 (by decide) ?_
          have z : some v7 = some x3 := e3
          cases z
          exact K3 _ _ _ (lv_sub hl [] rfl) hw
      · have e3 := cd_ite_t c3 e3
        refine lv_aload_n hx hb dX6_told_197 rfl (lv_at hl 0 rfl) ?_
        refine va_get (D := G) (ci := 6) (v := .int (M 6 0)) (C := RX6) (T := TX6) (N := 22) hx hb hts nw_X6_told_X6 hown hK hw.1 0 rfl rfl 6 (by decide) hL0 (fun _ h9 => h9) rfl dX6_told_198 ?_
        refine lv_goto (tgt := 239) hx hb dX6_told_201 (by decide) ?_
        have z : some (M 6 0) = some x3 := e3
        cases z
        exact K3 _ _ _ (lv_sub hl [] rfl) hw
    · have hf := cd_ite_f c2 hf
      refine lv_iload_n hx hb dX6_told_165 rfl (lv_at hl 1 rfl) ?_
      refine lv_bipush (v := (10 : Int32)) hx hb dX6_told_166 (by decide) ?_
      refine lv_isub hx hb dX6_told_168 ?_
      obtain ⟨r8, e8, hf⟩ := cd_bind_some hf
      refine cd_callS (As := [.int (a0 - (10 : Int32))]) (rest := []) C0 hw (c_X6_isOne l G cI cZ sa sb (a0 - (10 : Int32)) r8 e8) [] rfl rfl (va_cwS 1 hts gX6_told_X6_isOne rfl rfl rfl (by decide +kernel) ⟨Nat.le_of_ble_eq_true rfl, Nat.le_of_ble_eq_true rfl⟩) rfl hl.1 (lv_room (Nat.le_of_ble_eq_true rfl)) dX6_told_169 (fun H locs hw => ?_)
      obtain ⟨x9, e9, hf⟩ := cd_bind_some hf
      have K9 : ∀ (ls : Array Slot) (H : Heap) (locs : List Loc), lv_has ls 3 [] → cd_WS G A s.heap H locs ((pc_mod cI cZ h M)) → W p l e rm_X6_told s m ag below meth c H locs 0 0 Q (F0 m 192 ls [.int x9]) := by
        intro ls H locs hl hw
        have z : some (x9, M) = some o := hf
        cases z
        rw [hQ]
        exact cd_reti C0 hw dX6_told_192
      refine lv_if_eq (tgt := 190) hx hb dX6_told_172 (by decide) (fun c9 => ?_) (fun c9 => ?_)
      · have e9 := cd_ite_t c9 e9
        refine lv_bipush (v := (-2 : Int32)) hx hb dX6_told_190 (by decide) ?_
        have z : some (-2 : Int32) = some x9 := e9
        cases z
        exact K9 _ _ _ (lv_sub hl [] rfl) hw
      · have e9 := cd_ite_f c9 e9
        refine lv_aload_n hx hb dX6_told_175 rfl (lv_at hl 0 rfl) ?_
        refine va_get (D := G) (ci := 6) (v := .ref (h 1)) (C := RX6) (T := TX6) (N := 22) hx hb hts nw_X6_told_X6 hown hK hw.1 0 rfl rfl 0 (by decide) hL2 (fun _ h9 => h9) rfl dX6_told_176 ?_
        refine lv_bipush (v := (60 : Int32)) hx hb dX6_told_179 (by decide) ?_
        refine lv_iload_n hx hb dX6_told_181 rfl (lv_at hl 1 rfl) ?_
        refine lv_iadd hx hb dX6_told_182 ?_
        refine lv_bipush (v := (10 : Int32)) hx hb dX6_told_183 (by decide) ?_
        refine lv_isub hx hb dX6_told_185 ?_
        obtain ⟨v10, e10, e9⟩ := cd_bind_some e9
        refine cd_iald hx hb hK hw 1 rfl e10 dX6_told_186 ?_
        refine lv_goto (tgt := 192) hx hb dX6_told_187 (by decide) ?_
        have z : some v10 = some x9 := e9
        cases z
        exact K9 _ _ _ (lv_sub hl [] rfl) hw
  · have hf := cd_ite_f c1 hf
    refine lv_iload_n hx hb dX6_told_6 rfl (lv_at hl 1 rfl) ?_
    refine lv_bipush (v := (10 : Int32)) hx hb dX6_told_7 (by decide) ?_
    refine lv_idiv hx hb dX6_told_9 (by decide) ?_
    refine lv_bipush (v := (10 : Int32)) hx hb dX6_told_10 (by decide) ?_
    refine lv_isub hx hb dX6_told_12 ?_
    refine lv_istore_n (lv' := [(2, .int ((a0 / (10 : Int32)) - (10 : Int32))), (0, .ref (h 0)), (1, .int a0)]) hx hb dX6_told_13 rfl hl (by decide) rfl (fun ls hl => ?_)
    refine lv_iload_n hx hb dX6_told_14 rfl (lv_at hl 0 rfl) ?_
    obtain ⟨r11, e11, hf⟩ := cd_bind_some hf
    refine cd_callS (As := [.int ((a0 / (10 : Int32)) - (10 : Int32))]) (rest := []) C0 hw (c_X6_isCandle l G cI cZ sa sb ((a0 / (10 : Int32)) - (10 : Int32)) r11 e11) [] rfl rfl (va_cwS 1 hts gX6_told_X6_isCandle rfl rfl rfl (by decide +kernel) ⟨Nat.le_of_ble_eq_true rfl, Nat.le_of_ble_eq_true rfl⟩) rfl hl.1 (lv_room (Nat.le_of_ble_eq_true rfl)) dX6_told_15 (fun H locs hw => ?_)
    refine lv_if_ne (tgt := 24) hx hb dX6_told_18 (by decide) (fun c12 => ?_) (fun c12 => ?_)
    · have hf := cd_ite_f c12 hf
      refine lv_aload_n hx hb dX6_told_24 rfl (lv_at hl 1 rfl) ?_
      obtain ⟨r13, e13, hf⟩ := cd_bind_some hf
      refine cd_callVw (As := []) (rest := []) (wr := ([] : va_W)) (wn := (pc_mod cI cZ h r13)) C0 hw (c_X6_asNow l G cI cZ sa sb h M r13 e13) [0, 1, 2, 3, 4, 5, 6, 7, 8, 9, 10, 11, 12, 13, 14] [] [0, 1, 2, 3, 4, 5, 6, 7, 8, 9, 10, 11, 12, 13, 14] rfl rfl rfl rfl (by decide) rfl rfl 0 6 rfl rfl rfl (cwV 0 hts gX6_told_X6_asNow rfl rfl rfl (by decide +kernel) ⟨Nat.le_of_ble_eq_true rfl, Nat.le_of_ble_eq_true rfl⟩) rfl hl.1 (lv_room (Nat.le_of_ble_eq_true rfl)) dX6_told_25 (fun H locs hw => ?_)
      refine lv_iload_n hx hb dX6_told_28 rfl (lv_at hl 2 rfl) ?_
      refine lv_bipush (v := (10 : Int32)) hx hb dX6_told_29 (by decide) ?_
      refine lv_irem hx hb dX6_told_31 (by decide) ?_
      by_cases c14_0 : (a0 - a0 / (10 : Int32) * (10 : Int32)) = (0 : Int32)
      · have hf := cd_ite_t c14_0 hf
        refine lv_tableIn (off := 44) (tgt := 76) hx hb dX6_told_32 (by rw [c14_0]; decide) (by rw [c14_0]; decide) (by rw [c14_0]; rfl) (by decide) ?_
        refine lv_aload_n hx hb dX6_told_76 rfl (lv_at hl 1 rfl) ?_
        refine va_get (D := G) (ci := 6) (v := .ref (h 1)) (C := RX6) (T := TX6) (N := 22) hx hb hts nw_X6_told_X6 hown hK hw.1 0 rfl rfl 0 (by decide) hL2 (fun _ h9 => h9) rfl dX6_told_77 ?_
        refine lv_iload_n hx hb dX6_told_80 rfl (lv_at hl 0 rfl) ?_
        obtain ⟨v15, e15, hf⟩ := cd_bind_some hf
        refine cd_iald hx hb hK hw 1 rfl e15 dX6_told_81 ?_
        have z : some (v15, r13) = some o := hf
        cases z
        rw [hQ]
        exact cd_reti C0 hw dX6_told_82
      · have hf := cd_ite_f c14_0 hf
        by_cases c14_1 : (a0 - a0 / (10 : Int32) * (10 : Int32)) = (1 : Int32)
        · have hf := cd_ite_t c14_1 hf
          refine lv_tableIn (off := 51) (tgt := 83) hx hb dX6_told_32 (by rw [c14_1]; decide) (by rw [c14_1]; decide) (by rw [c14_1]; rfl) (by decide) ?_
          refine lv_aload_n hx hb dX6_told_83 rfl (lv_at hl 1 rfl) ?_
          refine va_get (D := G) (ci := 6) (v := .ref (h 1)) (C := RX6) (T := TX6) (N := 22) hx hb hts nw_X6_told_X6 hown hK hw.1 0 rfl rfl 0 (by decide) hL2 (fun _ h9 => h9) rfl dX6_told_84 ?_
          refine lv_bipush (v := (66 : Int32)) hx hb dX6_told_87 (by decide) ?_
          obtain ⟨v16, e16, hf⟩ := cd_bind_some hf
          refine cd_iald hx hb hK hw 1 rfl e16 dX6_told_89 ?_
          refine lv_iload_n hx hb dX6_told_90 rfl (lv_at hl 0 rfl) ?_
          refine lv_ishr hx hb dX6_told_91 ?_
          refine lv_iconst (v := (1 : Int32)) hx hb dX6_told_92 (by decide) ?_
          refine lv_iand hx hb dX6_told_93 ?_
          have z : some (((v16 >>> (((a0 / (10 : Int32)) - (10 : Int32)) &&& 31)) &&& (1 : Int32)), r13) = some o := hf
          cases z
          rw [hQ]
          exact cd_reti C0 hw dX6_told_94
        · have hf := cd_ite_f c14_1 hf
          by_cases c14_2 : (a0 - a0 / (10 : Int32) * (10 : Int32)) = (2 : Int32)
          · have hf := cd_ite_t c14_2 hf
            refine lv_tableIn (off := 63) (tgt := 95) hx hb dX6_told_32 (by rw [c14_2]; decide) (by rw [c14_2]; decide) (by rw [c14_2]; rfl) (by decide) ?_
            refine lv_aload_n hx hb dX6_told_95 rfl (lv_at hl 1 rfl) ?_
            refine va_get (D := G) (ci := 6) (v := .ref (h 1)) (C := RX6) (T := TX6) (N := 22) hx hb hts nw_X6_told_X6 hown hK hw.1 0 rfl rfl 0 (by decide) hL2 (fun _ h9 => h9) rfl dX6_told_96 ?_
            refine lv_bipush (v := (24 : Int32)) hx hb dX6_told_99 (by decide) ?_
            refine lv_iload_n hx hb dX6_told_101 rfl (lv_at hl 0 rfl) ?_
            refine lv_iadd hx hb dX6_told_102 ?_
            obtain ⟨v17, e17, hf⟩ := cd_bind_some hf
            refine cd_iald hx hb hK hw 1 rfl e17 dX6_told_103 ?_
            have z : some (v17, r13) = some o := hf
            cases z
            rw [hQ]
            exact cd_reti C0 hw dX6_told_104
          · have hf := cd_ite_f c14_2 hf
            by_cases c14_3 : (a0 - a0 / (10 : Int32) * (10 : Int32)) = (3 : Int32)
            · have hf := cd_ite_t c14_3 hf
              refine lv_tableIn (off := 73) (tgt := 105) hx hb dX6_told_32 (by rw [c14_3]; decide) (by rw [c14_3]; decide) (by rw [c14_3]; rfl) (by decide) ?_
              refine lv_aload_n hx hb dX6_told_105 rfl (lv_at hl 1 rfl) ?_
              refine va_get (D := G) (ci := 6) (v := .ref (h 1)) (C := RX6) (T := TX6) (N := 22) hx hb hts nw_X6_told_X6 hown hK hw.1 0 rfl rfl 0 (by decide) hL2 (fun _ h9 => h9) rfl dX6_told_106 ?_
              refine lv_bipush (v := (36 : Int32)) hx hb dX6_told_109 (by decide) ?_
              refine lv_iload_n hx hb dX6_told_111 rfl (lv_at hl 0 rfl) ?_
              refine lv_iadd hx hb dX6_told_112 ?_
              obtain ⟨v18, e18, hf⟩ := cd_bind_some hf
              refine cd_iald hx hb hK hw 1 rfl e18 dX6_told_113 ?_
              have z : some (v18, r13) = some o := hf
              cases z
              rw [hQ]
              exact cd_reti C0 hw dX6_told_114
            · have hf := cd_ite_f c14_3 hf
              by_cases c14_4 : (a0 - a0 / (10 : Int32) * (10 : Int32)) = (4 : Int32)
              · have hf := cd_ite_t c14_4 hf
                refine lv_tableIn (off := 83) (tgt := 115) hx hb dX6_told_32 (by rw [c14_4]; decide) (by rw [c14_4]; decide) (by rw [c14_4]; rfl) (by decide) ?_
                refine lv_aload_n hx hb dX6_told_115 rfl (lv_at hl 1 rfl) ?_
                refine va_get (D := G) (ci := 6) (v := .ref (h 3)) (C := RX6) (T := TX6) (N := 22) hx hb hts nw_X6_told_X6 hown hK hw.1 0 rfl rfl 2 (by decide) hL3 (fun _ h9 => h9) rfl dX6_told_116 ?_
                refine lv_iload_n hx hb dX6_told_119 rfl (lv_at hl 0 rfl) ?_
                obtain ⟨v19, e19, hf⟩ := cd_bind_some hf
                refine cd_iald hx hb hK hw 3 rfl e19 dX6_told_120 ?_
                have z : some (v19, r13) = some o := hf
                cases z
                rw [hQ]
                exact cd_reti C0 hw dX6_told_121
              · have hf := cd_ite_f c14_4 hf
                by_cases c14_5 : (a0 - a0 / (10 : Int32) * (10 : Int32)) = (5 : Int32)
                · have hf := cd_ite_t c14_5 hf
                  refine lv_tableIn (off := 90) (tgt := 122) hx hb dX6_told_32 (by rw [c14_5]; decide) (by rw [c14_5]; decide) (by rw [c14_5]; rfl) (by decide) ?_
                  refine lv_aload_n hx hb dX6_told_122 rfl (lv_at hl 1 rfl) ?_
                  refine va_get (D := G) (ci := 6) (v := .ref (h 4)) (C := RX6) (T := TX6) (N := 22) hx hb hts nw_X6_told_X6 hown hK hw.1 0 rfl rfl 3 (by decide) hL4 (fun _ h9 => h9) rfl dX6_told_123 ?_
                  refine lv_iload_n hx hb dX6_told_126 rfl (lv_at hl 0 rfl) ?_
                  obtain ⟨v20, e20, hf⟩ := cd_bind_some hf
                  refine cd_iald hx hb hK hw 4 rfl e20 dX6_told_127 ?_
                  have z : some (v20, r13) = some o := hf
                  cases z
                  rw [hQ]
                  exact cd_reti C0 hw dX6_told_128
                · have hf := cd_ite_f c14_5 hf
                  by_cases c14_6 : (a0 - a0 / (10 : Int32) * (10 : Int32)) = (6 : Int32)
                  · have hf := cd_ite_t c14_6 hf
                    refine lv_tableIn (off := 97) (tgt := 129) hx hb dX6_told_32 (by rw [c14_6]; decide) (by rw [c14_6]; decide) (by rw [c14_6]; rfl) (by decide) ?_
                    refine lv_aload_n hx hb dX6_told_129 rfl (lv_at hl 1 rfl) ?_
                    refine va_get (D := G) (ci := 6) (v := .ref (h 1)) (C := RX6) (T := TX6) (N := 22) hx hb hts nw_X6_told_X6 hown hK hw.1 0 rfl rfl 0 (by decide) hL2 (fun _ h9 => h9) rfl dX6_told_130 ?_
                    refine lv_bipush (v := (12 : Int32)) hx hb dX6_told_133 (by decide) ?_
                    refine lv_iload_n hx hb dX6_told_135 rfl (lv_at hl 0 rfl) ?_
                    refine lv_iadd hx hb dX6_told_136 ?_
                    obtain ⟨v21, e21, hf⟩ := cd_bind_some hf
                    refine cd_iald hx hb hK hw 1 rfl e21 dX6_told_137 ?_
                    have z : some (v21, r13) = some o := hf
                    cases z
                    rw [hQ]
                    exact cd_reti C0 hw dX6_told_138
                  · have hf := cd_ite_f c14_6 hf
                    refine lv_tableOut (tgt := 139) hx hb dX6_told_32 (by have q0 : (a0 - a0 / (10 : Int32) * (10 : Int32)).toInt ≠ 0 := cd_ne c14_0; have q1 : (a0 - a0 / (10 : Int32) * (10 : Int32)).toInt ≠ 1 := cd_ne c14_1; have q2 : (a0 - a0 / (10 : Int32) * (10 : Int32)).toInt ≠ 2 := cd_ne c14_2; have q3 : (a0 - a0 / (10 : Int32) * (10 : Int32)).toInt ≠ 3 := cd_ne c14_3; have q4 : (a0 - a0 / (10 : Int32) * (10 : Int32)).toInt ≠ 4 := cd_ne c14_4; have q5 : (a0 - a0 / (10 : Int32) * (10 : Int32)).toInt ≠ 5 := cd_ne c14_5; have q6 : (a0 - a0 / (10 : Int32) * (10 : Int32)).toInt ≠ 6 := cd_ne c14_6; omega) (by decide) ?_
                    refine lv_iload_n hx hb dX6_told_139 rfl (lv_at hl 2 rfl) ?_
                    refine lv_bipush (v := (10 : Int32)) hx hb dX6_told_140 (by decide) ?_
                    refine lv_irem hx hb dX6_told_142 (by decide) ?_
                    refine lv_bipush (v := (7 : Int32)) hx hb dX6_told_143 (by decide) ?_
                    obtain ⟨x22, e22, hf⟩ := cd_bind_some hf
                    have K22 : ∀ (ls : Array Slot) (H : Heap) (locs : List Loc), lv_has ls 3 [] → cd_WS G A s.heap H locs ((pc_mod cI cZ h r13)) → W p l e rm_X6_told s m ag below meth c H locs 0 0 Q (F0 m 158 ls [.int x22]) := by
                      intro ls H locs hl hw
                      have z : some (x22, r13) = some o := hf
                      cases z
                      rw [hQ]
                      exact cd_reti C0 hw dX6_told_158
                    refine lv_icmp_ne (tgt := 156) hx hb dX6_told_145 (by decide) (fun c22 => ?_) (fun c22 => ?_)
                    · have e22 := cd_ite_f c22 e22
                      refine lv_bipush (v := (-2 : Int32)) hx hb dX6_told_156 (by decide) ?_
                      have z : some (-2 : Int32) = some x22 := e22
                      cases z
                      exact K22 _ _ _ (lv_sub hl [] rfl) hw
                    · have e22 := cd_ite_t c22 e22
                      refine lv_aload_n hx hb dX6_told_148 rfl (lv_at hl 1 rfl) ?_
                      refine lv_iload_n hx hb dX6_told_149 rfl (lv_at hl 0 rfl) ?_
                      obtain ⟨r23, e23, e22⟩ := cd_bind_some e22
                      refine cd_callV (As := [.int ((a0 / (10 : Int32)) - (10 : Int32))]) (rest := []) C0 hw (c_X6_burnOf l G cI cZ sa sb h r13 ((a0 / (10 : Int32)) - (10 : Int32)) r23 e23) [0, 1, 2, 3, 4, 5, 6, 7, 8, 9, 10, 11, 12, 13, 14] rfl rfl 0 6 rfl rfl rfl (cwV 1 hts gX6_told_X6_burnOf rfl rfl rfl (by decide +kernel) ⟨Nat.le_of_ble_eq_true rfl, Nat.le_of_ble_eq_true rfl⟩) rfl hl.1 (lv_room (Nat.le_of_ble_eq_true rfl)) dX6_told_150 (fun H locs hw => ?_)
                      refine lv_goto (tgt := 158) hx hb dX6_told_153 (by decide) ?_
                      have z : some r23 = some x22 := e22
                      cases z
                      exact K22 _ _ _ (lv_sub hl [] rfl) hw
    · have hf := cd_ite_t c12 hf
      refine lv_bipush (v := (-2 : Int32)) hx hb dX6_told_21 (by decide) ?_
      have z : some ((-2 : Int32), M) = some o := hf
      cases z
      rw [hQ]
      exact cd_reti C0 hw dX6_told_23
abbrev rm_X6_trims : Room := { frames := 2, cells := 0, slots := 0, locals := 42 }
theorem nw_X6_trims_X6 : ∀ w ∈ u_ws RX6 TX6 22, w ∈ wsX6_trims := by decide +kernel
set_option maxHeartbeats 4000000 in
set_option maxRecDepth 100000 in
theorem c_X6_trims (l : Launch) (G : va_G) (cI cZ : ClassId) (sa sb : Nat) (h : Nat → Nat) (M : Nat → Nat → Int32) (a0 : Int32) (a1 : Int32) (o : Int32) (hf : f_X6_trims a0 a1 M = some o) : cd_Ct l G cI cZ sa sb yX6_trims wsX6_trims rm_X6_trims [.ref (h 0), .int a0, .int a1] ((pc_mod cI cZ h M)) ((pc_mod cI cZ h M)) (some (.int o)) := by
  refine cd_of (cc := cX6_trims) (maxL := 5) (ret := (some .int)) (by decide) rfl (Nat.le_of_ble_eq_true rfl) ?_
  intro p e s m ag below meth c A ls Q C0 hl hw hQ
  have C0 : cd_CX G cI cZ sa sb p s m ag meth c cX6_trims 5 (some .int) wsX6_trims RX6 A := C0
  obtain ⟨⟨hx, hb, hml, hown, hts⟩, hr, hlocks, hA, hE⟩ := id C0
  have hK := hE.1
  have hL0 := hts (.fieldLink RX6 7 "CandleDebtsModel" "book" "[I") (by decide +kernel)
  have hl : lv_has ls 5 [(0, .ref (h 0)), (1, .int a0), (2, .int a1)] := hl
  unfold f_X6_trims at hf
  refine lv_iload_n hx hb dX6_trims_0 rfl (lv_at hl 1 rfl) ?_
  obtain ⟨r1, e1, hf⟩ := cd_bind_some hf
  refine cd_callS (As := [.int a0]) (rest := []) C0 hw (c_X6_isCandle l G cI cZ sa sb a0 r1 e1) [] rfl rfl (va_cwS 1 hts gX6_trims_X6_isCandle rfl rfl rfl (by decide +kernel) ⟨Nat.le_of_ble_eq_true rfl, Nat.le_of_ble_eq_true rfl⟩) rfl hl.1 (lv_room (Nat.le_of_ble_eq_true rfl)) dX6_trims_1 (fun H locs hw => ?_)
  refine lv_if_ne (tgt := 9) hx hb dX6_trims_4 (by decide) (fun c2 => ?_) (fun c2 => ?_)
  · have hf := cd_ite_f c2 hf
    refine lv_iload_n hx hb dX6_trims_9 rfl (lv_at hl 2 rfl) ?_
    refine lv_iconst (v := (1 : Int32)) hx hb dX6_trims_10 (by decide) ?_
    refine lv_sipush (v := (999 : Int32)) hx hb dX6_trims_11 (by decide) ?_
    obtain ⟨r3, e3, hf⟩ := cd_bind_some hf
    refine cd_callS (As := [.int a1, .int (1 : Int32), .int (999 : Int32)]) (rest := []) C0 hw (c_X6_in l G cI cZ sa sb a1 (1 : Int32) (999 : Int32) r3 e3) [] rfl rfl (va_cwS 3 hts gX6_trims_X6_in rfl rfl rfl (by decide +kernel) ⟨Nat.le_of_ble_eq_true rfl, Nat.le_of_ble_eq_true rfl⟩) rfl hl.1 (lv_room (Nat.le_of_ble_eq_true rfl)) dX6_trims_14 (fun H locs hw => ?_)
    refine lv_if_ne (tgt := 23) hx hb dX6_trims_17 (by decide) (fun c4 => ?_) (fun c4 => ?_)
    · have hf := cd_ite_f c4 hf
      refine lv_iconst (v := (0 : Int32)) hx hb dX6_trims_23 (by decide) ?_
      refine lv_istore_n (lv' := [(3, .int (0 : Int32)), (0, .ref (h 0)), (1, .int a0), (2, .int a1)]) hx hb dX6_trims_24 rfl hl (by decide) rfl (fun ls hl => ?_)
      obtain ⟨x5, e5, hf⟩ := cd_bind_some hf
      have K5 : ∀ (t5 : Unit), Sum.inr t5 = x5 → ∀ (ls : Array Slot) (H : Heap) (locs : List Loc), lv_has ls 5 [] → cd_WS G A s.heap H locs ((pc_mod cI cZ h M)) → W p l e rm_X6_trims s m ag below meth c H locs 0 0 Q (F0 m 106 ls []) := by
        intro t5 hs_5
        subst hs_5
        intro ls H locs hl hw
        refine lv_bipush (v := (-6 : Int32)) hx hb dX6_trims_106 (by decide) ?_
        have z : some (-6 : Int32) = some o := hf
        cases z
        rw [hQ]
        exact cd_reti C0 hw dX6_trims_108
      refine cd_iter_ind (body := (f_X6_trims_b25 a0 a1 M)) (K := fun r => r = x5) (P := fun (z5 : Int32) => ∀ (ls : Array Slot) (H : Heap) (locs : List Loc), lv_has ls 5 [(0, .ref (h 0)), (1, .int a0), (2, .int a1), (3, .int z5)] → cd_WS G A s.heap H locs ((pc_mod cI cZ h M)) → W p l e rm_X6_trims s m ag below meth c H locs 0 0 Q (F0 m 25 ls [])) ?_ cd_N (0 : Int32) x5 e5 rfl _ _ _ (lv_sub hl [1, 2, 3, 0] rfl) hw
      intro z5 o5 hb5 hk5 ls H locs hl hw
      unfold f_X6_trims_b25 at hb5
      refine lv_aload_n hx hb dX6_trims_25 rfl (lv_at hl 0 rfl) ?_
      refine va_get (D := G) (ci := 6) (v := .ref (h 1)) (C := RX6) (T := TX6) (N := 22) hx hb hts nw_X6_trims_X6 hown hK hw.1 0 rfl rfl 0 (by decide) hL0 (fun _ h9 => h9) rfl dX6_trims_26 ?_
      refine lv_bipush (v := (24 : Int32)) hx hb dX6_trims_29 (by decide) ?_
      refine lv_iload_n hx hb dX6_trims_31 rfl (lv_at hl 1 rfl) ?_
      refine lv_iadd hx hb dX6_trims_32 ?_
      obtain ⟨v6, e6, hb5⟩ := cd_bind_some hb5
      refine cd_iald hx hb hK hw 1 rfl e6 dX6_trims_33 ?_
      refine lv_iload_n hx hb dX6_trims_34 rfl (lv_at hl 3 rfl) ?_
      refine lv_iadd hx hb dX6_trims_35 ?_
      refine lv_bipush (v := (10 : Int32)) hx hb dX6_trims_36 (by decide) ?_
      refine lv_icmp_ge (tgt := 106) hx hb dX6_trims_38 (by decide) (fun c7 => ?_) (fun c7 => ?_)
      · have hb5 := cd_ite_t c7 hb5
        have z : some (Sum.inl (Sum.inr ())) = some o5 := hb5
        cases z
        exact K5 _ hk5 _ _ _ (lv_sub hl [] rfl) hw
      · have hb5 := cd_ite_f c7 hb5
        refine lv_iconst (v := (1 : Int32)) hx hb dX6_trims_41 (by decide) ?_
        refine lv_aload_n hx hb dX6_trims_42 rfl (lv_at hl 0 rfl) ?_
        refine va_get (D := G) (ci := 6) (v := .ref (h 1)) (C := RX6) (T := TX6) (N := 22) hx hb hts nw_X6_trims_X6 hown hK hw.1 0 rfl rfl 0 (by decide) hL0 (fun _ h9 => h9) rfl dX6_trims_43 ?_
        refine lv_bipush (v := (36 : Int32)) hx hb dX6_trims_46 (by decide) ?_
        refine lv_iload_n hx hb dX6_trims_48 rfl (lv_at hl 1 rfl) ?_
        refine lv_iadd hx hb dX6_trims_49 ?_
        obtain ⟨v8, e8, hb5⟩ := cd_bind_some hb5
        refine cd_iald hx hb hK hw 1 rfl e8 dX6_trims_50 ?_
        refine lv_iadd hx hb dX6_trims_51 ?_
        refine lv_aload_n hx hb dX6_trims_52 rfl (lv_at hl 0 rfl) ?_
        refine va_get (D := G) (ci := 6) (v := .ref (h 1)) (C := RX6) (T := TX6) (N := 22) hx hb hts nw_X6_trims_X6 hown hK hw.1 0 rfl rfl 0 (by decide) hL0 (fun _ h9 => h9) rfl dX6_trims_53 ?_
        refine lv_bipush (v := (24 : Int32)) hx hb dX6_trims_56 (by decide) ?_
        refine lv_iload_n hx hb dX6_trims_58 rfl (lv_at hl 1 rfl) ?_
        refine lv_iadd hx hb dX6_trims_59 ?_
        obtain ⟨v9, e9, hb5⟩ := cd_bind_some hb5
        refine cd_iald hx hb hK hw 1 rfl e9 dX6_trims_60 ?_
        refine lv_isub hx hb dX6_trims_61 ?_
        refine lv_iload_n hx hb dX6_trims_62 rfl (lv_at hl 3 rfl) ?_
        refine lv_isub hx hb dX6_trims_63 ?_
        refine lv_istore (lv' := [(4, .int ((((1 : Int32) + v8) - v9) - z5)), (0, .ref (h 0)), (1, .int a0), (2, .int a1), (3, .int z5)]) hx hb dX6_trims_64 hl (by decide) rfl (fun ls hl => ?_)
        refine lv_iload hx hb dX6_trims_66 (lv_at hl 0 rfl) ?_
        refine lv_iconst (v := (1 : Int32)) hx hb dX6_trims_68 (by decide) ?_
        obtain ⟨x10, e10, hb5⟩ := cd_bind_some hb5
        have K10 : ∀ (ls : Array Slot) (H : Heap) (locs : List Loc), lv_has ls 5 [(0, .ref (h 0)), (1, .int a0), (2, .int a1), (3, .int z5)] → cd_WS G A s.heap H locs ((pc_mod cI cZ h M)) → W p l e rm_X6_trims s m ag below meth c H locs 0 0 Q (F0 m 78 ls [.int x10]) := by
          intro ls H locs hl hw
          refine lv_istore (lv' := [(4, .int x10), (0, .ref (h 0)), (1, .int a0), (2, .int a1), (3, .int z5)]) hx hb dX6_trims_78 hl (by decide) rfl (fun ls hl => ?_)
          refine lv_aload_n hx hb dX6_trims_80 rfl (lv_at hl 1 rfl) ?_
          refine va_get (D := G) (ci := 6) (v := .ref (h 1)) (C := RX6) (T := TX6) (N := 22) hx hb hts nw_X6_trims_X6 hown hK hw.1 0 rfl rfl 0 (by decide) hL0 (fun _ h9 => h9) rfl dX6_trims_81 ?_
          refine lv_iload_n hx hb dX6_trims_84 rfl (lv_at hl 2 rfl) ?_
          obtain ⟨v11, e11, hb5⟩ := cd_bind_some hb5
          refine cd_iald hx hb hK hw 1 rfl e11 dX6_trims_85 ?_
          refine lv_iload hx hb dX6_trims_86 (lv_at hl 0 rfl) ?_
          refine lv_iadd hx hb dX6_trims_88 ?_
          refine lv_iconst (v := (1 : Int32)) hx hb dX6_trims_89 (by decide) ?_
          refine lv_isub hx hb dX6_trims_90 ?_
          refine lv_iload hx hb dX6_trims_91 (lv_at hl 0 rfl) ?_
          obtain ⟨u12, e12, hb5⟩ := cd_bind_some hb5
          refine lv_idiv hx hb dX6_trims_93 (cd_nz_eq e12) ?_
          refine lv_iload_n hx hb dX6_trims_94 rfl (lv_at hl 3 rfl) ?_
          refine lv_icmp_lt (tgt := 100) hx hb dX6_trims_95 (by decide) (fun c13 => ?_) (fun c13 => ?_)
          · have hb5 := cd_ite_t c13 hb5
            refine lv_iinc (v := (z5 + (1 : Int32))) (lv' := [(3, .int (z5 + (1 : Int32))), (4, .int x10), (0, .ref (h 0)), (1, .int a0), (2, .int a1)]) hx hb dX6_trims_100 hl (k := 4) rfl rfl (by decide) rfl (fun ls hl => ?_)
            refine lv_goto (tgt := 25) hx hb dX6_trims_103 (by decide) ?_
            have z : some (Sum.inr (z5 + (1 : Int32))) = some o5 := hb5
            cases z
            exact hk5 _ _ _ (lv_sub hl [2, 3, 4, 0] rfl) hw
          · have hb5 := cd_ite_f c13 hb5
            refine lv_iload_n hx hb dX6_trims_98 rfl (lv_at hl 4 rfl) ?_
            have z : some (Sum.inl (Sum.inl z5)) = some o5 := hb5
            cases z
            have y5 : Sum.inl z5 = x5 := hk5
            subst y5
            have z : some z5 = some o := hf
            cases z
            rw [hQ]
            exact cd_reti C0 hw dX6_trims_99
        refine lv_icmp_ge (tgt := 76) hx hb dX6_trims_69 (by decide) (fun c10 => ?_) (fun c10 => ?_)
        · have e10 := cd_ite_t c10 e10
          refine lv_iload hx hb dX6_trims_76 (lv_at hl 0 rfl) ?_
          have z : some ((((1 : Int32) + v8) - v9) - z5) = some x10 := e10
          cases z
          exact K10 _ _ _ (lv_sub hl [1, 2, 3, 4] rfl) hw
        · have e10 := cd_ite_f c10 e10
          refine lv_iconst (v := (1 : Int32)) hx hb dX6_trims_72 (by decide) ?_
          refine lv_goto (tgt := 78) hx hb dX6_trims_73 (by decide) ?_
          have z : some (1 : Int32) = some x10 := e10
          cases z
          exact K10 _ _ _ (lv_sub hl [1, 2, 3, 4] rfl) hw
    · have hf := cd_ite_t c4 hf
      refine lv_bipush (v := (-2 : Int32)) hx hb dX6_trims_20 (by decide) ?_
      have z : some (-2 : Int32) = some o := hf
      cases z
      rw [hQ]
      exact cd_reti C0 hw dX6_trims_22
  · have hf := cd_ite_t c2 hf
    refine lv_iconst (v := (-1 : Int32)) hx hb dX6_trims_7 (by decide) ?_
    have z : some (-1 : Int32) = some o := hf
    cases z
    rw [hQ]
    exact cd_reti C0 hw dX6_trims_8
