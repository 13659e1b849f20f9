abbrev rm_X5_isOne : Room := { frames := 1, cells := 0, slots := 0, locals := 22 }
set_option maxHeartbeats 4000000 in
set_option maxRecDepth 100000 in
theorem c_X5_isOne (l : Launch) (G : va_G) (cI cZ : ClassId) (sa sb : Nat) (a0 : Int32) (o : Int32) (hf : f_X5_isOne a0 = some o) : cd_Ct l G cI cZ sa sb yX5_isOne wsX5_isOne rm_X5_isOne [.int a0] (([] : va_W)) (([] : va_W)) (some (.int o)) := by
  refine cd_of (cc := cX5_isOne) (maxL := 1) (ret := (some .boolean)) (by decide) rfl (Nat.le_of_ble_eq_true rfl) ?_
  intro p e s m ag below meth c A ls Q C0 hl hw hQ
  have C0 : cd_CX G cI cZ sa sb p s m ag meth c cX5_isOne 1 (some .boolean) wsX5_isOne RX5 A := C0
  obtain ⟨⟨hx, hb, hml, hown, hts⟩, hr, hlocks, hA, hE⟩ := id C0
  have hK := hE.1
  have hl : lv_has ls 1 [(0, .int a0)] := hl
  unfold f_X5_isOne at hf
  refine lv_iload_n hx hb dX5_isOne_0 rfl (lv_at hl 0 rfl) ?_
  refine lv_iconst (v := (0 : Int32)) hx hb dX5_isOne_1 (by decide) ?_
  refine lv_iconst (v := (5 : Int32)) hx hb dX5_isOne_2 (by decide) ?_
  obtain ⟨r1, e1, hf⟩ := cd_bind_some hf
  refine cd_callS (As := [.int a0, .int (0 : Int32), .int (5 : Int32)]) (rest := []) C0 hw (c_X5_within l G cI cZ sa sb a0 (0 : Int32) (5 : Int32) r1 e1) [] rfl rfl (va_cwS 3 hts gX5_isOne_X5_within rfl rfl rfl (by decide +kernel) ⟨Nat.le_of_ble_eq_true rfl, Nat.le_of_ble_eq_true rfl⟩) rfl hl.1 (lv_room (Nat.le_of_ble_eq_true rfl)) dX5_isOne_3 (fun H locs hw => ?_)
  obtain ⟨u2, e2, hf⟩ := cd_bind_some hf
  have z : some r1 = some o := hf
  cases z
  rw [hQ]
  exact cd_retz C0 hw (cd_zb_eq e2) dX5_isOne_6
abbrev rm_X5_candle : Room := { frames := 3, cells := 0, slots := 0, locals := 67 }
theorem nw_X5_candle_X3 : ∀ w ∈ u_ws RX3 TX3 14, w ∈ wsX5_candle := by decide +kernel
theorem nw_X5_candle_X5 : ∀ w ∈ u_ws RX5 TX5 8, w ∈ wsX5_candle := by decide +kernel
set_option maxHeartbeats 4000000 in
set_option maxRecDepth 100000 in
theorem c_X5_candle (l : Launch) (G : va_G) (cI cZ : ClassId) (sa sb : Nat) (h ht h1 h2 hp hy hs hv hz : Nat → Nat) (K T : Nat → Nat → Int32) (a0 : Int32) (a1 : Int32) (a2 : Int32) (a3 : Int32) (a4 : Int32) (o : Int32 × (Nat → Nat → Int32)) (hf : f_X5_candle a0 a1 a2 a3 a4 K T = some o) : cd_Ct l G cI cZ sa sb yX5_candle wsX5_candle rm_X5_candle [.ref (h 0), .int a0, .int a1, .int a2, .int a3, .int a4] ((pc_top cZ h ht h1 h2 hp hy hv hz K) ++ (pc_town cI ht T)) ((pc_top cZ h ht h1 h2 hp hy hv hz K) ++ (pc_town cI ht o.2)) (some (.int o.1)) := by
  refine cd_of (cc := cX5_candle) (maxL := 7) (ret := (some .int)) (by decide) rfl (Nat.le_of_ble_eq_true rfl) ?_
  intro p e s m ag below meth c A ls Q C0 hl hw hQ
  have C0 : cd_CX G cI cZ sa sb p s m ag meth c cX5_candle 7 (some .int) wsX5_candle RX5 A := C0
  obtain ⟨⟨hx, hb, hml, hown, hts⟩, hr, hlocks, hA, hE⟩ := id C0
  have hK := hE.1
  have hL0 := hts (.fieldLink RX5 12 "CandleDebts" "town" "LCandleDebts$Town;") (by decide +kernel)
  have hL1 := hts (.fieldLink RX5 65 "CandleDebts$Town" "wax" "[I") (by decide +kernel)
  have hl : lv_has ls 7 [(0, .ref (h 0)), (1, .int a0), (2, .int a1), (3, .int a2), (4, .int a3), (5, .int a4)] := hl
  unfold f_X5_candle at hf
  refine lv_iload_n hx hb dX5_candle_0 rfl (lv_at hl 1 rfl) ?_
  obtain ⟨r1, e1, hf⟩ := cd_bind_some hf
  refine cd_callS (As := [.int a0]) (rest := []) C0 hw (c_X5_isCandle l G cI cZ sa sb a0 r1 e1) [] rfl rfl (va_cwS 1 hts gX5_candle_X5_isCandle rfl rfl rfl (by decide +kernel) ⟨Nat.le_of_ble_eq_true rfl, Nat.le_of_ble_eq_true rfl⟩) rfl hl.1 (lv_room (Nat.le_of_ble_eq_true rfl)) dX5_candle_1 (fun H locs hw => ?_)
  refine lv_if_eq (tgt := 22) hx hb dX5_candle_4 (by decide) (fun c2 => ?_) (fun c2 => ?_)
  · have hf := cd_ite_t c2 hf
    refine lv_iconst (v := (-1 : Int32)) hx hb dX5_candle_22 (by decide) ?_
    have z : some ((-1 : Int32), T) = some o := hf
    cases z
    rw [hQ]
    exact cd_reti C0 hw dX5_candle_23
  · have hf := cd_ite_f c2 hf
    refine lv_iload_n hx hb dX5_candle_7 rfl (lv_at hl 3 rfl) ?_
    obtain ⟨r3, e3, hf⟩ := cd_bind_some hf
    refine cd_callS (As := [.int a2]) (rest := []) C0 hw (c_X5_isOne l G cI cZ sa sb a2 r3 e3) [] rfl rfl (va_cwS 1 hts gX5_candle_X5_isOne rfl rfl rfl (by decide +kernel) ⟨Nat.le_of_ble_eq_true rfl, Nat.le_of_ble_eq_true rfl⟩) rfl hl.1 (lv_room (Nat.le_of_ble_eq_true rfl)) dX5_candle_8 (fun H locs hw => ?_)
    refine lv_if_eq (tgt := 22) hx hb dX5_candle_11 (by decide) (fun c4 => ?_) (fun c4 => ?_)
    · have hf := cd_ite_t c4 hf
      refine lv_iconst (v := (-1 : Int32)) hx hb dX5_candle_22 (by decide) ?_
      have z : some ((-1 : Int32), T) = some o := hf
      cases z
      rw [hQ]
      exact cd_reti C0 hw dX5_candle_23
    · have hf := cd_ite_f c4 hf
      refine lv_iload hx hb dX5_candle_14 (lv_at hl 4 rfl) ?_
      obtain ⟨r5, e5, hf⟩ := cd_bind_some hf
      refine cd_callS (As := [.int a3]) (rest := []) C0 hw (c_X5_isOne l G cI cZ sa sb a3 r5 e5) [] rfl rfl (va_cwS 1 hts gX5_candle_X5_isOne rfl rfl rfl (by decide +kernel) ⟨Nat.le_of_ble_eq_true rfl, Nat.le_of_ble_eq_true rfl⟩) rfl hl.1 (lv_room (Nat.le_of_ble_eq_true rfl)) dX5_candle_16 (fun H locs hw => ?_)
      refine lv_if_ne (tgt := 24) hx hb dX5_candle_19 (by decide) (fun c6 => ?_) (fun c6 => ?_)
      · have hf := cd_ite_f c6 hf
        refine lv_iload_n hx hb dX5_candle_24 rfl (lv_at hl 2 rfl) ?_
        refine lv_iconst (v := (0 : Int32)) hx hb dX5_candle_25 (by decide) ?_
        refine lv_sipush (v := (999 : Int32)) hx hb dX5_candle_26 (by decide) ?_
        obtain ⟨r7, e7, hf⟩ := cd_bind_some hf
        refine cd_callS (As := [.int a1, .int (0 : Int32), .int (999 : Int32)]) (rest := []) C0 hw (c_X5_within l G cI cZ sa sb a1 (0 : Int32) (999 : Int32) r7 e7) [] rfl rfl (va_cwS 3 hts gX5_candle_X5_within rfl rfl rfl (by decide +kernel) ⟨Nat.le_of_ble_eq_true rfl, Nat.le_of_ble_eq_true rfl⟩) rfl hl.1 (lv_room (Nat.le_of_ble_eq_true rfl)) dX5_candle_29 (fun H locs hw => ?_)
        refine lv_if_eq (tgt := 47) hx hb dX5_candle_32 (by decide) (fun c8 => ?_) (fun c8 => ?_)
        · have hf := cd_ite_t c8 hf
          refine lv_bipush (v := (-2 : Int32)) hx hb dX5_candle_47 (by decide) ?_
          have z : some ((-2 : Int32), T) = some o := hf
          cases z
          rw [hQ]
          exact cd_reti C0 hw dX5_candle_49
        · have hf := cd_ite_f c8 hf
          refine lv_iload hx hb dX5_candle_35 (lv_at hl 5 rfl) ?_
          refine lv_iconst (v := (0 : Int32)) hx hb dX5_candle_37 (by decide) ?_
          refine lv_sipush (v := (999 : Int32)) hx hb dX5_candle_38 (by decide) ?_
          obtain ⟨r9, e9, hf⟩ := cd_bind_some hf
          refine cd_callS (As := [.int a4, .int (0 : Int32), .int (999 : Int32)]) (rest := []) C0 hw (c_X5_within l G cI cZ sa sb a4 (0 : Int32) (999 : Int32) r9 e9) [] rfl rfl (va_cwS 3 hts gX5_candle_X5_within rfl rfl rfl (by decide +kernel) ⟨Nat.le_of_ble_eq_true rfl, Nat.le_of_ble_eq_true rfl⟩) rfl hl.1 (lv_room (Nat.le_of_ble_eq_true rfl)) dX5_candle_41 (fun H locs hw => ?_)
          refine lv_if_ne (tgt := 50) hx hb dX5_candle_44 (by decide) (fun c10 => ?_) (fun c10 => ?_)
          · have hf := cd_ite_f c10 hf
            refine lv_aload_n hx hb dX5_candle_50 rfl (lv_at hl 0 rfl) ?_
            refine va_get (D := G) (ci := 5) (v := .ref (ht 0)) (C := RX5) (T := TX5) (N := 8) hx hb hts nw_X5_candle_X5 hown hK hw.1 0 rfl rfl 0 (by decide) hL0 (fun _ h9 => h9) rfl dX5_candle_51 ?_
            refine va_get (D := G) (ci := 3) (v := .ref (ht 1)) (C := RX3) (T := TX3) (N := 14) hx hb hts nw_X5_candle_X3 hown hK hw.1 2 rfl rfl 0 (by decide) hL1 (fun _ h9 => h9) rfl dX5_candle_54 ?_
            refine lv_iload_n hx hb dX5_candle_57 rfl (lv_at hl 1 rfl) ?_
            obtain ⟨v11, e11, hf⟩ := cd_bind_some hf
            refine cd_iald hx hb hK hw 3 rfl e11 dX5_candle_58 ?_
            refine lv_istore (lv' := [(6, .int v11), (0, .ref (h 0)), (1, .int a0), (2, .int a1), (3, .int a2), (4, .int a3), (5, .int a4)]) hx hb dX5_candle_59 hl (by decide) rfl (fun ls hl => ?_)
            refine lv_aload_n hx hb dX5_candle_61 rfl (lv_at hl 1 rfl) ?_
            refine va_get (D := G) (ci := 5) (v := .ref (ht 0)) (C := RX5) (T := TX5) (N := 8) hx hb hts nw_X5_candle_X5 hown hK hw.1 0 rfl rfl 0 (by decide) hL0 (fun _ h9 => h9) rfl dX5_candle_62 ?_
            refine lv_iload_n hx hb dX5_candle_65 rfl (lv_at hl 2 rfl) ?_
            refine lv_iload_n hx hb dX5_candle_66 rfl (lv_at hl 3 rfl) ?_
            refine lv_iload_n hx hb dX5_candle_67 rfl (lv_at hl 4 rfl) ?_
            refine lv_iload hx hb dX5_candle_68 (lv_at hl 5 rfl) ?_
            refine lv_iload hx hb dX5_candle_70 (lv_at hl 6 rfl) ?_
            obtain ⟨r12, e12, hf⟩ := cd_bind_some hf
            refine cd_callVw (As := [.int a0, .int a1, .int a2, .int a3, .int a4]) (rest := []) (wr := (pc_top cZ h ht h1 h2 hp hy hv hz K)) (wn := (pc_top cZ h ht h1 h2 hp hy hv hz K) ++ (pc_town cI ht r12)) C0 hw (c_X3_place l G cI cZ sa sb ht T a0 a1 a2 a3 a4 r12 e12) [2, 3, 4, 5, 6, 7, 8, 9, 10, 11, 12] [0, 1] [0, 1, 2, 3, 4, 5, 6, 7, 8, 9, 10, 11, 12] rfl rfl rfl rfl (by decide) rfl rfl 0 3 rfl rfl rfl (cwV 5 hts gX5_candle_X3_place rfl rfl rfl (by decide +kernel) ⟨Nat.le_of_ble_eq_true rfl, Nat.le_of_ble_eq_true rfl⟩) rfl hl.1 (lv_room (Nat.le_of_ble_eq_true rfl)) dX5_candle_72 (fun H locs hw => ?_)
            refine lv_iload hx hb dX5_candle_75 (lv_at hl 0 rfl) ?_
            have z : some (v11, r12) = some o := hf
            cases z
            rw [hQ]
            exact cd_reti C0 hw dX5_candle_77
          · have hf := cd_ite_t c10 hf
            refine lv_bipush (v := (-2 : Int32)) hx hb dX5_candle_47 (by decide) ?_
            have z : some ((-2 : Int32), T) = some o := hf
            cases z
            rw [hQ]
            exact cd_reti C0 hw dX5_candle_49
      · have hf := cd_ite_t c6 hf
        refine lv_iconst (v := (-1 : Int32)) hx hb dX5_candle_22 (by decide) ?_
        have z : some ((-1 : Int32), T) = some o := hf
        cases z
        rw [hQ]
        exact cd_reti C0 hw dX5_candle_23
abbrev rm_X5_done : Room := { frames := 6, cells := 0, slots := 0, locals := 134 }
theorem nw_X5_done_X0 : ∀ w ∈ u_ws RX0 TX0 6, w ∈ wsX5_done := by decide +kernel
theorem nw_X5_done_X1 : ∀ w ∈ u_ws RX1 TX1 6, w ∈ wsX5_done := by decide +kernel
theorem nw_X5_done_X5 : ∀ w ∈ u_ws RX5 TX5 8, w ∈ wsX5_done := by decide +kernel
set_option maxHeartbeats 4000000 in
set_option maxRecDepth 100000 in
theorem c_X5_done (l : Launch) (G : va_G) (cI cZ : ClassId) (sa sb : Nat) (h ht h1 h2 hp hy hs hv hz : Nat → Nat) (K T P Y S : Nat → Nat → Int32) (o : Int32 × (Nat → Nat → Int32) × (Nat → Nat → Int32) × (Nat → Nat → Int32) × (Nat → Nat → Int32)) (hf : f_X5_done K T P Y S = some o) : cd_Ct l G cI cZ sa sb yX5_done wsX5_done rm_X5_done [.ref (h 0)] ((pc_top cZ h ht h1 h2 hp hy hv hz K) ++ (pc_town cI ht T) ++ (pc_pad cI hp P) ++ (pc_play hy hs Y) ++ (pc_town cI hs S)) ((pc_top cZ h ht h1 h2 hp hy hv hz K) ++ (pc_town cI ht o.2.1) ++ (pc_pad cI hp o.2.2.1) ++ (pc_play hy hs o.2.2.2.1) ++ (pc_town cI hs o.2.2.2.2)) (some (.int o.1)) := by
  refine cd_of (cc := cX5_done) (maxL := 1) (ret := (some .int)) (by decide) rfl (Nat.le_of_ble_eq_true rfl) ?_
  intro p e s m ag below meth c A ls Q C0 hl hw hQ
  have C0 : cd_CX G cI cZ sa sb p s m ag meth c cX5_done 1 (some .int) wsX5_done RX5 A := C0
  obtain ⟨⟨hx, hb, hml, hown, hts⟩, hr, hlocks, hA, hE⟩ := id C0
  have hK := hE.1
  have hL0 := hts (.fieldLink RX5 12 "CandleDebts" "town" "LCandleDebts$Town;") (by decide +kernel)
  have hL1 := hts (.fieldLink RX5 36 "CandleDebts" "play" "LCandleDebts$Play;") (by decide +kernel)
  have hL2 := hts (.fieldLink RX5 107 "CandleDebts$Play" "scene" "LCandleDebts$Town;") (by decide +kernel)
  have hL3 := hts (.fieldLink RX5 29 "CandleDebts" "pad" "LCandleDebts$Pad;") (by decide +kernel)
  have hL4 := hts (.fieldLink RX5 86 "CandleDebts$Pad" "count" "I") (by decide +kernel)
  have hL5 := hts (.fieldLink RX5 97 "CandleDebts$Play" "acts" "I") (by decide +kernel)
  have hl : lv_has ls 1 [(0, .ref (h 0))] := hl
  unfold f_X5_done at hf
  refine lv_aload_n hx hb dX5_done_0 rfl (lv_at hl 0 rfl) ?_
  obtain ⟨r1, e1, hf⟩ := cd_bind_some hf
  refine cd_callVw (As := []) (rest := []) (wr := ([] : va_W)) (wn := (pc_top cZ h ht h1 h2 hp hy hv hz K) ++ (pc_town cI ht T) ++ (pc_pad cI hp r1.2.1) ++ (pc_play hy hs r1.2.2.1) ++ (pc_town cI hs r1.2.2.2)) C0 hw (c_X5_nightCanBe l G cI cZ sa sb h ht h1 h2 hp hy hs hv hz K T P Y S r1 e1) [0, 1, 2, 3, 4, 5, 6, 7, 8, 9, 10, 11, 12, 13, 14, 15, 16, 17, 18, 19, 20, 21, 22, 23, 24, 25, 26] [] [0, 1, 2, 3, 4, 5, 6, 7, 8, 9, 10, 11, 12, 13, 14, 15, 16, 17, 18, 19, 20, 21, 22, 23, 24, 25, 26] rfl rfl rfl rfl (by decide) rfl rfl 0 5 rfl rfl rfl (cwV 0 hts gX5_done_X5_nightCanBe rfl rfl rfl (by decide +kernel) ⟨Nat.le_of_ble_eq_true rfl, Nat.le_of_ble_eq_true rfl⟩) rfl hl.1 (lv_room (Nat.le_of_ble_eq_true rfl)) dX5_done_1 (fun H locs hw => ?_)
  refine lv_if_ne (tgt := 10) hx hb dX5_done_4 (by decide) (fun c2 => ?_) (fun c2 => ?_)
  · have hf := cd_ite_f c2 hf
    refine lv_aload_n hx hb dX5_done_10 rfl (lv_at hl 0 rfl) ?_
    refine va_get (D := G) (ci := 5) (v := .ref (ht 0)) (C := RX5) (T := TX5) (N := 8) hx hb hts nw_X5_done_X5 hown hK hw.1 0 rfl rfl 0 (by decide) hL0 (fun _ h9 => h9) rfl dX5_done_11 ?_
    refine lv_aload_n hx hb dX5_done_14 rfl (lv_at hl 0 rfl) ?_
    refine va_get (D := G) (ci := 5) (v := .ref (hy 0)) (C := RX5) (T := TX5) (N := 8) hx hb hts nw_X5_done_X5 hown hK hw.1 0 rfl rfl 5 (by decide) hL1 (fun _ h9 => h9) rfl dX5_done_15 ?_
    refine va_get (D := G) (ci := 1) (v := .ref (hs 0)) (C := RX1) (T := TX1) (N := 6) hx hb hts nw_X5_done_X1 hown hK hw.1 15 rfl rfl 0 (by decide) hL2 (fun _ h9 => h9) rfl dX5_done_18 ?_
    obtain ⟨r3, e3, hf⟩ := cd_bind_some hf
    refine cd_callVw (As := [.ref (hs 0)]) (rest := []) (wr := (pc_top cZ h ht h1 h2 hp hy hv hz K) ++ (pc_pad cI hp r1.2.1) ++ (pc_play hy hs r1.2.2.1)) (wn := (pc_top cZ h ht h1 h2 hp hy hv hz K) ++ (pc_town cI ht r3) ++ (pc_pad cI hp r1.2.1) ++ (pc_play hy hs r1.2.2.1) ++ (pc_town cI hs r1.2.2.2)) C0 hw (c_X3_copyFrom l G cI cZ sa sb ht hs T r1.2.2.2 r3 e3) [2, 3, 4, 5, 6, 7, 8, 9, 10, 11, 12, 16, 17, 18, 19, 20, 21, 22, 23, 24, 25, 26] [0, 1, 13, 14, 15] [0, 1, 5, 6, 7, 8, 9, 10, 11, 12, 13, 14, 15, 2, 3, 4, 16, 17, 18, 19, 20, 21, 22, 23, 24, 25, 26] rfl rfl rfl rfl (by decide) rfl rfl 0 3 rfl rfl rfl (cwV 1 hts gX5_done_X3_copyFrom rfl rfl rfl (by decide +kernel) ⟨Nat.le_of_ble_eq_true rfl, Nat.le_of_ble_eq_true rfl⟩) rfl hl.1 (lv_room (Nat.le_of_ble_eq_true rfl)) dX5_done_21 (fun H locs hw => ?_)
    refine lv_aload_n hx hb dX5_done_24 rfl (lv_at hl 0 rfl) ?_
    refine va_get (D := G) (ci := 5) (v := .ref (hp 0)) (C := RX5) (T := TX5) (N := 8) hx hb hts nw_X5_done_X5 hown hK hw.1 0 rfl rfl 4 (by decide) hL3 (fun _ h9 => h9) rfl dX5_done_25 ?_
    refine lv_iconst (v := (0 : Int32)) hx hb dX5_done_28 (by decide) ?_
    refine va_put (D := G) (ci := 0) (v := .int (0 : Int32)) (ty := .int) (C := RX0) (T := TX0) (N := 6) hx hb hts nw_X5_done_X0 tyX0 tyX0_ok nmX0 hown hK hw.1 hw.2.1 hw.2.2 13 rfl rfl 1 (by decide) hL4 (fun _ h9 => h9) rfl (by decide +kernel) rfl rfl (Nat.le_of_ble_eq_true rfl) dX5_done_29 (fun H locs hP hD hS => ?_)
    have hw : cd_WS G A s.heap H locs ((pc_top cZ h ht h1 h2 hp hy hv hz K) ++ (pc_town cI ht r3) ++ (pc_pad cI hp (cd_fld r1.2.1 1 (0 : Int32))) ++ (pc_play hy hs r1.2.2.1) ++ (pc_town cI hs r1.2.2.2)) := ⟨hP, hD, hS⟩
    refine lv_aload_n hx hb dX5_done_32 rfl (lv_at hl 0 rfl) ?_
    refine va_get (D := G) (ci := 5) (v := .ref (hy 0)) (C := RX5) (T := TX5) (N := 8) hx hb hts nw_X5_done_X5 hown hK hw.1 0 rfl rfl 5 (by decide) hL1 (fun _ h9 => h9) rfl dX5_done_33 ?_
    refine va_get (D := G) (ci := 1) (v := .int (r1.2.2.1 1 0)) (C := RX1) (T := TX1) (N := 6) hx hb hts nw_X5_done_X1 hown hK hw.1 15 rfl rfl 1 (by decide) hL5 (fun _ h9 => h9) rfl dX5_done_36 ?_
    have z : some ((r1.2.2.1 1 0), r3, (cd_fld r1.2.1 1 (0 : Int32)), r1.2.2.1, r1.2.2.2) = some o := hf
    cases z
    rw [hQ]
    exact cd_reti C0 hw dX5_done_39
  · have hf := cd_ite_t c2 hf
    refine lv_bipush (v := (-5 : Int32)) hx hb dX5_done_7 (by decide) ?_
    have z : some ((-5 : Int32), T, r1.2.1, r1.2.2.1, r1.2.2.2) = some o := hf
    cases z
    rw [hQ]
    exact cd_reti C0 hw dX5_done_9
abbrev rm_X5_draught : Room := { frames := 2, cells := 0, slots := 0, locals := 42 }
theorem nw_X5_draught_X3 : ∀ w ∈ u_ws RX3 TX3 14, w ∈ wsX5_draught := by decide +kernel
theorem nw_X5_draught_X5 : ∀ w ∈ u_ws RX5 TX5 8, w ∈ wsX5_draught := by decide +kernel
set_option maxHeartbeats 4000000 in
set_option maxRecDepth 100000 in
theorem c_X5_draught (l : Launch) (G : va_G) (cI cZ : ClassId) (sa sb : Nat) (h ht h1 h2 hp hy hs hv hz : Nat → Nat) (K T : Nat → Nat → Int32) (a0 : Int32) (a1 : Int32) (o : Int32 × (Nat → Nat → Int32)) (hf : f_X5_draught a0 a1 K T = some o) : cd_Ct l G cI cZ sa sb yX5_draught wsX5_draught rm_X5_draught [.ref (h 0), .int a0, .int a1] ((pc_top cZ h ht h1 h2 hp hy hv hz K) ++ (pc_town cI ht T)) ((pc_top cZ h ht h1 h2 hp hy hv hz K) ++ (pc_town cI ht o.2)) (some (.int o.1)) := by
  refine cd_of (cc := cX5_draught) (maxL := 4) (ret := (some .int)) (by decide) rfl (Nat.le_of_ble_eq_true rfl) ?_
  intro p e s m ag below meth c A ls Q C0 hl hw hQ
  have C0 : cd_CX G cI cZ sa sb p s m ag meth c cX5_draught 4 (some .int) wsX5_draught RX5 A := C0
  obtain ⟨⟨hx, hb, hml, hown, hts⟩, hr, hlocks, hA, hE⟩ := id C0
  have hK := hE.1
  have hL0 := hts (.fieldLink RX5 12 "CandleDebts" "town" "LCandleDebts$Town;") (by decide +kernel)
  have hL1 := hts (.fieldLink RX5 73 "CandleDebts$Town" "draughts" "[I") (by decide +kernel)
  have hl : lv_has ls 4 [(0, .ref (h 0)), (1, .int a0), (2, .int a1)] := hl
  unfold f_X5_draught at hf
  refine lv_iload_n hx hb dX5_draught_0 rfl (lv_at hl 1 rfl) ?_
  obtain ⟨r1, e1, hf⟩ := cd_bind_some hf
  refine cd_callS (As := [.int a0]) (rest := []) C0 hw (c_X5_isCandle l G cI cZ sa sb a0 r1 e1) [] rfl rfl (va_cwS 1 hts gX5_draught_X5_isCandle rfl rfl rfl (by decide +kernel) ⟨Nat.le_of_ble_eq_true rfl, Nat.le_of_ble_eq_true rfl⟩) rfl hl.1 (lv_room (Nat.le_of_ble_eq_true rfl)) dX5_draught_1 (fun H locs hw => ?_)
  refine lv_if_ne (tgt := 9) hx hb dX5_draught_4 (by decide) (fun c2 => ?_) (fun c2 => ?_)
  · have hf := cd_ite_f c2 hf
    refine lv_iload_n hx hb dX5_draught_9 rfl (lv_at hl 2 rfl) ?_
    refine lv_iconst (v := (0 : Int32)) hx hb dX5_draught_10 (by decide) ?_
    refine lv_bipush (v := (9 : Int32)) hx hb dX5_draught_11 (by decide) ?_
    obtain ⟨r3, e3, hf⟩ := cd_bind_some hf
    refine cd_callS (As := [.int a1, .int (0 : Int32), .int (9 : Int32)]) (rest := []) C0 hw (c_X5_within l G cI cZ sa sb a1 (0 : Int32) (9 : Int32) r3 e3) [] rfl rfl (va_cwS 3 hts gX5_draught_X5_within rfl rfl rfl (by decide +kernel) ⟨Nat.le_of_ble_eq_true rfl, Nat.le_of_ble_eq_true rfl⟩) rfl hl.1 (lv_room (Nat.le_of_ble_eq_true rfl)) dX5_draught_13 (fun H locs hw => ?_)
    refine lv_if_ne (tgt := 22) hx hb dX5_draught_16 (by decide) (fun c4 => ?_) (fun c4 => ?_)
    · have hf := cd_ite_f c4 hf
      refine lv_aload_n hx hb dX5_draught_22 rfl (lv_at hl 0 rfl) ?_
      refine va_get (D := G) (ci := 5) (v := .ref (ht 0)) (C := RX5) (T := TX5) (N := 8) hx hb hts nw_X5_draught_X5 hown hK hw.1 0 rfl rfl 0 (by decide) hL0 (fun _ h9 => h9) rfl dX5_draught_23 ?_
      refine va_get (D := G) (ci := 3) (v := .ref (ht 3)) (C := RX3) (T := TX3) (N := 14) hx hb hts nw_X5_draught_X3 hown hK hw.1 2 rfl rfl 2 (by decide) hL1 (fun _ h9 => h9) rfl dX5_draught_26 ?_
      refine lv_iload_n hx hb dX5_draught_29 rfl (lv_at hl 1 rfl) ?_
      obtain ⟨v5, e5, hf⟩ := cd_bind_some hf
      refine cd_iald hx hb hK hw 5 rfl e5 dX5_draught_30 ?_
      refine lv_istore_n (lv' := [(3, .int v5), (0, .ref (h 0)), (1, .int a0), (2, .int a1)]) hx hb dX5_draught_31 rfl hl (by decide) rfl (fun ls hl => ?_)
      refine lv_aload_n hx hb dX5_draught_32 rfl (lv_at hl 1 rfl) ?_
      refine va_get (D := G) (ci := 5) (v := .ref (ht 0)) (C := RX5) (T := TX5) (N := 8) hx hb hts nw_X5_draught_X5 hown hK hw.1 0 rfl rfl 0 (by decide) hL0 (fun _ h9 => h9) rfl dX5_draught_33 ?_
      refine va_get (D := G) (ci := 3) (v := .ref (ht 3)) (C := RX3) (T := TX3) (N := 14) hx hb hts nw_X5_draught_X3 hown hK hw.1 2 rfl rfl 2 (by decide) hL1 (fun _ h9 => h9) rfl dX5_draught_36 ?_
      refine lv_iload_n hx hb dX5_draught_39 rfl (lv_at hl 2 rfl) ?_
      refine lv_iload_n hx hb dX5_draught_40 rfl (lv_at hl 3 rfl) ?_
      obtain ⟨j6, e6, hf⟩ := cd_bind_some hf
      refine cd_iast (f := T 2) hx hb hK hw 5 rfl e6 dX5_draught_41 (fun H locs hw => ?_)
      have hw : cd_WS G A s.heap H locs ((pc_top cZ h ht h1 h2 hp hy hv hz K) ++ (pc_town cI ht (cd_set T 2 j6 a1))) := (show ∀ (s9 : Nat → Nat → Int32) (y9 : Int32), cd_WS G A s.heap H locs (((pc_top cZ h ht h1 h2 hp hy hv hz K) ++ (pc_town cI ht s9)).set 5 (ht 3, .inl (cI, 12, .inl (upd (s9 2) j6 y9)))) → cd_WS G A s.heap H locs ((pc_top cZ h ht h1 h2 hp hy hv hz K) ++ (pc_town cI ht (cd_set s9 2 j6 y9))) from fun _ _ hh => hh) T a1 hw
      refine lv_iload_n hx hb dX5_draught_42 rfl (lv_at hl 0 rfl) ?_
      have z : some (v5, (cd_set T 2 j6 a1)) = some o := hf
      cases z
      rw [hQ]
      exact cd_reti C0 hw dX5_draught_43
    · have hf := cd_ite_t c4 hf
      refine lv_bipush (v := (-2 : Int32)) hx hb dX5_draught_19 (by decide) ?_
      have z : some ((-2 : Int32), T) = some o := hf
      cases z
      rw [hQ]
      exact cd_reti C0 hw dX5_draught_21
  · have hf := cd_ite_t c2 hf
    refine lv_iconst (v := (-1 : Int32)) hx hb dX5_draught_7 (by decide) ?_
    have z : some ((-1 : Int32), T) = some o := hf
    cases z
    rw [hQ]
    exact cd_reti C0 hw dX5_draught_8
abbrev rm_X5_fault : Room := { frames := 5, cells := 0, slots := 0, locals := 110 }
theorem nw_X5_fault_X5 : ∀ w ∈ u_ws RX5 TX5 8, w ∈ wsX5_fault := by decide +kernel
set_option maxHeartbeats 4000000 in
set_option maxRecDepth 100000 in
theorem c_X5_fault (l : Launch) (G : va_G) (cI cZ : ClassId) (sa sb : Nat) (h ht h1 h2 hp hy hs hv hz : Nat → Nat) (K P : Nat → Nat → Int32) (o : Int32 × (Nat → Nat → Int32)) (hf : f_X5_fault K P = some o) : cd_Ct l G cI cZ sa sb yX5_fault wsX5_fault rm_X5_fault [.ref (h 0)] ((pc_top cZ h ht h1 h2 hp hy hv hz K) ++ (pc_pad cI hp P)) ((pc_top cZ h ht h1 h2 hp hy hv hz K) ++ (pc_pad cI hp o.2)) (some (.int o.1)) := by
  refine cd_of (cc := cX5_fault) (maxL := 1) (ret := (some .int)) (by decide) rfl (Nat.le_of_ble_eq_true rfl) ?_
  intro p e s m ag below meth c A ls Q C0 hl hw hQ
  have C0 : cd_CX G cI cZ sa sb p s m ag meth c cX5_fault 1 (some .int) wsX5_fault RX5 A := C0
  obtain ⟨⟨hx, hb, hml, hown, hts⟩, hr, hlocks, hA, hE⟩ := id C0
  have hK := hE.1
  have hL0 := hts (.fieldLink RX5 29 "CandleDebts" "pad" "LCandleDebts$Pad;") (by decide +kernel)
  have hl : lv_has ls 1 [(0, .ref (h 0))] := hl
  unfold f_X5_fault at hf
  refine lv_aload_n hx hb dX5_fault_0 rfl (lv_at hl 0 rfl) ?_
  refine va_get (D := G) (ci := 5) (v := .ref (hp 0)) (C := RX5) (T := TX5) (N := 8) hx hb hts nw_X5_fault_X5 hown hK hw.1 0 rfl rfl 4 (by decide) hL0 (fun _ h9 => h9) rfl dX5_fault_1 ?_
  obtain ⟨r1, e1, hf⟩ := cd_bind_some hf
  refine cd_callVw (As := []) (rest := []) (wr := (pc_top cZ h ht h1 h2 hp hy hv hz K)) (wn := (pc_top cZ h ht h1 h2 hp hy hv hz K) ++ (pc_pad cI hp r1.2)) C0 hw (c_X0_firstFault l G cI cZ sa sb hp P r1 e1) [2, 3] [0, 1] [0, 1, 2, 3] rfl rfl rfl rfl (by decide) rfl rfl 0 0 rfl rfl rfl (cwV 0 hts gX5_fault_X0_firstFault rfl rfl rfl (by decide +kernel) ⟨Nat.le_of_ble_eq_true rfl, Nat.le_of_ble_eq_true rfl⟩) rfl hl.1 (lv_room (Nat.le_of_ble_eq_true rfl)) dX5_fault_4 (fun H locs hw => ?_)
  have z : some (r1.1, r1.2) = some o := hf
  cases z
  rw [hQ]
  exact cd_reti C0 hw dX5_fault_7
abbrev rm_X5_forget : Room := { frames := 0, cells := 0, slots := 0, locals := 0 }
theorem nw_X5_forget_X3 : ∀ w ∈ u_ws RX3 TX3 14, w ∈ wsX5_forget := by decide +kernel
theorem nw_X5_forget_X5 : ∀ w ∈ u_ws RX5 TX5 8, w ∈ wsX5_forget := by decide +kernel
set_option maxHeartbeats 4000000 in
set_option maxRecDepth 100000 in
theorem c_X5_forget (l : Launch) (G : va_G) (cI cZ : ClassId) (sa sb : Nat) (h ht h1 h2 hp hy hs hv hz : Nat → Nat) (K T : Nat → Nat → Int32) (o : Int32 × (Nat → Nat → Int32)) (hf : f_X5_forget K T = some o) : cd_Ct l G cI cZ sa sb yX5_forget wsX5_forget rm_X5_forget [.ref (h 0)] ((pc_top cZ h ht h1 h2 hp hy hv hz K) ++ (pc_town cI ht T)) ((pc_top cZ h ht h1 h2 hp hy hv hz K) ++ (pc_town cI ht o.2)) (some (.int o.1)) := by
  refine cd_of (cc := cX5_forget) (maxL := 2) (ret := (some .int)) (by decide) rfl (Nat.le_of_ble_eq_true rfl) ?_
  intro p e s m ag below meth c A ls Q C0 hl hw hQ
  have C0 : cd_CX G cI cZ sa sb p s m ag meth c cX5_forget 2 (some .int) wsX5_forget RX5 A := C0
  obtain ⟨⟨hx, hb, hml, hown, hts⟩, hr, hlocks, hA, hE⟩ := id C0
  have hK := hE.1
  have hL0 := hts (.fieldLink RX5 12 "CandleDebts" "town" "LCandleDebts$Town;") (by decide +kernel)
  have hL1 := hts (.fieldLink RX5 193 "CandleDebts$Town" "sights" "I") (by decide +kernel)
  have hl : lv_has ls 2 [(0, .ref (h 0))] := hl
  unfold f_X5_forget at hf
  refine lv_aload_n hx hb dX5_forget_0 rfl (lv_at hl 0 rfl) ?_
  refine va_get (D := G) (ci := 5) (v := .ref (ht 0)) (C := RX5) (T := TX5) (N := 8) hx hb hts nw_X5_forget_X5 hown hK hw.1 0 rfl rfl 0 (by decide) hL0 (fun _ h9 => h9) rfl dX5_forget_1 ?_
  refine va_get (D := G) (ci := 3) (v := .int (T 10 0)) (C := RX3) (T := TX3) (N := 14) hx hb hts nw_X5_forget_X3 hown hK hw.1 2 rfl rfl 10 (by decide) hL1 (fun _ h9 => h9) rfl dX5_forget_4 ?_
  refine lv_istore_n (lv' := [(1, .int (T 10 0)), (0, .ref (h 0))]) hx hb dX5_forget_7 rfl hl (by decide) rfl (fun ls hl => ?_)
  refine lv_aload_n hx hb dX5_forget_8 rfl (lv_at hl 1 rfl) ?_
  refine va_get (D := G) (ci := 5) (v := .ref (ht 0)) (C := RX5) (T := TX5) (N := 8) hx hb hts nw_X5_forget_X5 hown hK hw.1 0 rfl rfl 0 (by decide) hL0 (fun _ h9 => h9) rfl dX5_forget_9 ?_
  refine lv_iconst (v := (0 : Int32)) hx hb dX5_forget_12 (by decide) ?_
  refine va_put (D := G) (ci := 3) (v := .int (0 : Int32)) (ty := .int) (C := RX3) (T := TX3) (N := 14) hx hb hts nw_X5_forget_X3 tyX3 tyX3_ok nmX3 hown hK hw.1 hw.2.1 hw.2.2 2 rfl rfl 10 (by decide) hL1 (fun _ h9 => h9) rfl (by decide +kernel) rfl rfl (Nat.le_of_ble_eq_true rfl) dX5_forget_13 (fun H locs hP hD hS => ?_)
  have hw : cd_WS G A s.heap H locs ((pc_top cZ h ht h1 h2 hp hy hv hz K) ++ (pc_town cI ht (cd_fld T 10 (0 : Int32)))) := ⟨hP, hD, hS⟩
  refine lv_iload_n hx hb dX5_forget_16 rfl (lv_at hl 0 rfl) ?_
  have z : some ((T 10 0), (cd_fld T 10 (0 : Int32))) = some o := hf
  cases z
  rw [hQ]
  exact cd_reti C0 hw dX5_forget_17
abbrev rm_X5_has : Room := { frames := 6, cells := 0, slots := 0, locals := 134 }
theorem nw_X5_has_X1 : ∀ w ∈ u_ws RX1 TX1 6, w ∈ wsX5_has := by decide +kernel
theorem nw_X5_has_X3 : ∀ w ∈ u_ws RX3 TX3 14, w ∈ wsX5_has := by decide +kernel
theorem nw_X5_has_X5 : ∀ w ∈ u_ws RX5 TX5 8, w ∈ wsX5_has := by decide +kernel
set_option maxHeartbeats 4000000 in
set_option maxRecDepth 100000 in
theorem c_X5_has (l : Launch) (G : va_G) (cI cZ : ClassId) (sa sb : Nat) (h ht h1 h2 hp hy hs hv hz : Nat → Nat) (K T P Y S : Nat → Nat → Int32) (a0 : Int32) (o : Int32 × (Nat → Nat → Int32) × (Nat → Nat → Int32) × (Nat → Nat → Int32)) (hf : f_X5_has a0 K T P Y S = some o) : cd_Ct l G cI cZ sa sb yX5_has wsX5_has rm_X5_has [.ref (h 0), .int a0] ((pc_top cZ h ht h1 h2 hp hy hv hz K) ++ (pc_town cI ht T) ++ (pc_pad cI hp P) ++ (pc_play hy hs Y) ++ (pc_town cI hs S)) ((pc_top cZ h ht h1 h2 hp hy hv hz K) ++ (pc_town cI ht T) ++ (pc_pad cI hp o.2.1) ++ (pc_play hy hs o.2.2.1) ++ (pc_town cI hs o.2.2.2)) (some (.int o.1)) := by
  refine cd_of (cc := cX5_has) (maxL := 2) (ret := (some .int)) (by decide) rfl (Nat.le_of_ble_eq_true rfl) ?_
  intro p e s m ag below meth c A ls Q C0 hl hw hQ
  have C0 : cd_CX G cI cZ sa sb p s m ag meth c cX5_has 2 (some .int) wsX5_has RX5 A := C0
  obtain ⟨⟨hx, hb, hml, hown, hts⟩, hr, hlocks, hA, hE⟩ := id C0
  have hK := hE.1
  have hL0 := hts (.fieldLink RX5 36 "CandleDebts" "play" "LCandleDebts$Play;") (by decide +kernel)
  have hL1 := hts (.fieldLink RX5 107 "CandleDebts$Play" "scene" "LCandleDebts$Town;") (by decide +kernel)
  have hL2 := hts (.fieldLink RX5 76 "CandleDebts$Town" "purses" "[I") (by decide +kernel)
  have hl : lv_has ls 2 [(0, .ref (h 0)), (1, .int a0)] := hl
  unfold f_X5_has at hf
  refine lv_iload_n hx hb dX5_has_0 rfl (lv_at hl 1 rfl) ?_
  obtain ⟨r1, e1, hf⟩ := cd_bind_some hf
  refine cd_callS (As := [.int a0]) (rest := []) C0 hw (c_X5_isOne l G cI cZ sa sb a0 r1 e1) [] rfl rfl (va_cwS 1 hts gX5_has_X5_isOne rfl rfl rfl (by decide +kernel) ⟨Nat.le_of_ble_eq_true rfl, Nat.le_of_ble_eq_true rfl⟩) rfl hl.1 (lv_room (Nat.le_of_ble_eq_true rfl)) dX5_has_1 (fun H locs hw => ?_)
  refine lv_if_ne (tgt := 9) hx hb dX5_has_4 (by decide) (fun c2 => ?_) (fun c2 => ?_)
  · have hf := cd_ite_f c2 hf
    refine lv_aload_n hx hb dX5_has_9 rfl (lv_at hl 0 rfl) ?_
    obtain ⟨r3, e3, hf⟩ := cd_bind_some hf
    refine cd_callVw (As := []) (rest := []) (wr := ([] : va_W)) (wn := (pc_top cZ h ht h1 h2 hp hy hv hz K) ++ (pc_town cI ht T) ++ (pc_pad cI hp r3.2.1) ++ (pc_play hy hs r3.2.2.1) ++ (pc_town cI hs r3.2.2.2)) C0 hw (c_X5_nightCanBe l G cI cZ sa sb h ht h1 h2 hp hy hs hv hz K T P Y S r3 e3) [0, 1, 2, 3, 4, 5, 6, 7, 8, 9, 10, 11, 12, 13, 14, 15, 16, 17, 18, 19, 20, 21, 22, 23, 24, 25, 26] [] [0, 1, 2, 3, 4, 5, 6, 7, 8, 9, 10, 11, 12, 13, 14, 15, 16, 17, 18, 19, 20, 21, 22, 23, 24, 25, 26] rfl rfl rfl rfl (by decide) rfl rfl 0 5 rfl rfl rfl (cwV 0 hts gX5_has_X5_nightCanBe rfl rfl rfl (by decide +kernel) ⟨Nat.le_of_ble_eq_true rfl, Nat.le_of_ble_eq_true rfl⟩) rfl hl.1 (lv_room (Nat.le_of_ble_eq_true rfl)) dX5_has_10 (fun H locs hw => ?_)
    obtain ⟨x4, e4, hf⟩ := cd_bind_some hf
    have K4 : ∀ (ls : Array Slot) (H : Heap) (locs : List Loc), lv_has ls 2 [] → cd_WS G A s.heap H locs ((pc_top cZ h ht h1 h2 hp hy hv hz K) ++ (pc_town cI ht T) ++ (pc_pad cI hp r3.2.1) ++ (pc_play hy hs r3.2.2.1) ++ (pc_town cI hs r3.2.2.2)) → W p l e rm_X5_has s m ag below meth c H locs 0 0 Q (F0 m 33 ls [.int x4]) := by
      intro ls H locs hl hw
      have z : some (x4, r3.2.1, r3.2.2.1, r3.2.2.2) = some o := hf
      cases z
      rw [hQ]
      exact cd_reti C0 hw dX5_has_33
    refine lv_if_eq (tgt := 31) hx hb dX5_has_13 (by decide) (fun c4 => ?_) (fun c4 => ?_)
    · have e4 := cd_ite_t c4 e4
      refine lv_bipush (v := (-5 : Int32)) hx hb dX5_has_31 (by decide) ?_
      have z : some (-5 : Int32) = some x4 := e4
      cases z
      exact K4 _ _ _ (lv_sub hl [] rfl) hw
    · have e4 := cd_ite_f c4 e4
      refine lv_aload_n hx hb dX5_has_16 rfl (lv_at hl 0 rfl) ?_
      refine va_get (D := G) (ci := 5) (v := .ref (hy 0)) (C := RX5) (T := TX5) (N := 8) hx hb hts nw_X5_has_X5 hown hK hw.1 0 rfl rfl 5 (by decide) hL0 (fun _ h9 => h9) rfl dX5_has_17 ?_
      refine va_get (D := G) (ci := 1) (v := .ref (hs 0)) (C := RX1) (T := TX1) (N := 6) hx hb hts nw_X5_has_X1 hown hK hw.1 15 rfl rfl 0 (by decide) hL1 (fun _ h9 => h9) rfl dX5_has_20 ?_
      refine va_get (D := G) (ci := 3) (v := .ref (hs 8)) (C := RX3) (T := TX3) (N := 14) hx hb hts nw_X5_has_X3 hown hK hw.1 16 rfl rfl 7 (by decide) hL2 (fun _ h9 => h9) rfl dX5_has_23 ?_
      refine lv_iload_n hx hb dX5_has_26 rfl (lv_at hl 1 rfl) ?_
      obtain ⟨v5, e5, e4⟩ := cd_bind_some e4
      refine cd_iald hx hb hK hw 24 rfl e5 dX5_has_27 ?_
      refine lv_goto (tgt := 33) hx hb dX5_has_28 (by decide) ?_
      have z : some v5 = some x4 := e4
      cases z
      exact K4 _ _ _ (lv_sub hl [] rfl) hw
  · have hf := cd_ite_t c2 hf
    refine lv_iconst (v := (-1 : Int32)) hx hb dX5_has_7 (by decide) ?_
    have z : some ((-1 : Int32), P, Y, S) = some o := hf
    cases z
    rw [hQ]
    exact cd_reti C0 hw dX5_has_8
abbrev rm_X5_imageOf : Room := { frames := 0, cells := 0, slots := 0, locals := 0 }
theorem nw_X5_imageOf_X5 : ∀ w ∈ u_ws RX5 TX5 8, w ∈ wsX5_imageOf := by decide +kernel
set_option maxHeartbeats 4000000 in
set_option maxRecDepth 100000 in
theorem c_X5_imageOf_0 (l : Launch) (G : va_G) (cI cZ : ClassId) (sa sb : Nat) (h ht h1 h2 hp hy hs hv hz : Nat → Nat) (K : Nat → Nat → Int32) (a0 : Int32) (hc : a0 = 0) : cd_Ct l G cI cZ sa sb yX5_imageOf wsX5_imageOf rm_X5_imageOf [.ref (h 0), .int a0] (pc_top cZ h ht h1 h2 hp hy hv hz K) (pc_top cZ h ht h1 h2 hp hy hv hz K) (some (.ref (h1 0))) := by
  refine cd_of (cc := cX5_imageOf) (maxL := 2) (ret := (some (.object "CandleDebts$Town"))) (by decide) rfl (Nat.le_of_ble_eq_true rfl) ?_
  intro p e s m ag below meth c A ls Q C0 hl hw hQ
  have C0 : cd_CX G cI cZ sa sb p s m ag meth c cX5_imageOf 2 (some (.object "CandleDebts$Town")) wsX5_imageOf RX5 A := C0
  obtain ⟨⟨hx, hb, hml, hown, hts⟩, hr, hlocks, hA, hE⟩ := id C0
  have hK := hE.1
  have hL0 := hts (.fieldLink RX5 16 "CandleDebts" "firstImage" "LCandleDebts$Town;") (by decide +kernel)
  have hl : lv_has ls 2 [(0, .ref (h 0)), (1, .int a0)] := hl
  refine lv_iload_n hx hb dX5_imageOf_0 rfl (lv_at hl 1 rfl) ?_
  refine lv_if_ne (tgt := 11) hx hb dX5_imageOf_1 (by decide) (fun c2 => ?_) (fun c2 => ?_)
  · exact absurd hc c2
  · refine lv_aload_n hx hb dX5_imageOf_4 rfl (lv_at hl 0 rfl) ?_
    refine va_get (D := G) (ci := 5) (v := .ref (h1 0)) (C := RX5) (T := TX5) (N := 8) hx hb hts nw_X5_imageOf_X5 hown hK hw.1 0 rfl rfl 1 (by decide) hL0 (fun _ h9 => h9) rfl dX5_imageOf_5 ?_
    refine lv_goto (tgt := 15) hx hb dX5_imageOf_8 (by decide) ?_
    rw [hQ]
    exact cd_reta C0 hw dX5_imageOf_15
set_option maxHeartbeats 4000000 in
set_option maxRecDepth 100000 in
theorem c_X5_imageOf_1 (l : Launch) (G : va_G) (cI cZ : ClassId) (sa sb : Nat) (h ht h1 h2 hp hy hs hv hz : Nat → Nat) (K : Nat → Nat → Int32) (a0 : Int32) (hc : ¬ a0 = 0) : cd_Ct l G cI cZ sa sb yX5_imageOf wsX5_imageOf rm_X5_imageOf [.ref (h 0), .int a0] (pc_top cZ h ht h1 h2 hp hy hv hz K) (pc_top cZ h ht h1 h2 hp hy hv hz K) (some (.ref (h2 0))) := by
  refine cd_of (cc := cX5_imageOf) (maxL := 2) (ret := (some (.object "CandleDebts$Town"))) (by decide) rfl (Nat.le_of_ble_eq_true rfl) ?_
  intro p e s m ag below meth c A ls Q C0 hl hw hQ
  have C0 : cd_CX G cI cZ sa sb p s m ag meth c cX5_imageOf 2 (some (.object "CandleDebts$Town")) wsX5_imageOf RX5 A := C0
  obtain ⟨⟨hx, hb, hml, hown, hts⟩, hr, hlocks, hA, hE⟩ := id C0
  have hK := hE.1
  have hL1 := hts (.fieldLink RX5 19 "CandleDebts" "secondImage" "LCandleDebts$Town;") (by decide +kernel)
  have hl : lv_has ls 2 [(0, .ref (h 0)), (1, .int a0)] := hl
  refine lv_iload_n hx hb dX5_imageOf_0 rfl (lv_at hl 1 rfl) ?_
  refine lv_if_ne (tgt := 11) hx hb dX5_imageOf_1 (by decide) (fun c2 => ?_) (fun c2 => ?_)
  · refine lv_aload_n hx hb dX5_imageOf_11 rfl (lv_at hl 0 rfl) ?_
    refine va_get (D := G) (ci := 5) (v := .ref (h2 0)) (C := RX5) (T := TX5) (N := 8) hx hb hts nw_X5_imageOf_X5 hown hK hw.1 0 rfl rfl 2 (by decide) hL1 (fun _ h9 => h9) rfl dX5_imageOf_12 ?_
    rw [hQ]
    exact cd_reta C0 hw dX5_imageOf_15
  · exact absurd c2 hc
abbrev rm_X5_image : Room := { frames := 2, cells := 0, slots := 0, locals := 39 }
theorem nw_X5_image_X5 : ∀ w ∈ u_ws RX5 TX5 8, w ∈ wsX5_image := by decide +kernel
set_option maxHeartbeats 4000000 in
set_option maxRecDepth 100000 in
theorem c_X5_image (l : Launch) (G : va_G) (cI cZ : ClassId) (sa sb : Nat) (h ht h1 h2 hp hy hs hv hz : Nat → Nat) (K T T1 T2 : Nat → Nat → Int32) (a0 : Int32) (o : Int32 × (Nat → Nat → Int32) × (Nat → Nat → Int32) × (Nat → Nat → Int32)) (hf : f_X5_image a0 K T T1 T2 = some o) : cd_Ct l G cI cZ sa sb yX5_image wsX5_image rm_X5_image [.ref (h 0), .int a0] ((pc_top cZ h ht h1 h2 hp hy hv hz K) ++ (pc_town cI ht T) ++ (pc_town cI h1 T1) ++ (pc_town cI h2 T2)) ((pc_top cZ h ht h1 h2 hp hy hv hz o.2.1) ++ (pc_town cI ht T) ++ (pc_town cI h1 o.2.2.1) ++ (pc_town cI h2 o.2.2.2)) (some (.int o.1)) := by
  refine cd_of (cc := cX5_image) (maxL := 2) (ret := (some .int)) (by decide) rfl (Nat.le_of_ble_eq_true rfl) ?_
  intro p e s m ag below meth c A ls Q C0 hl hw hQ
  have C0 : cd_CX G cI cZ sa sb p s m ag meth c cX5_image 2 (some .int) wsX5_image RX5 A := C0
  obtain ⟨⟨hx, hb, hml, hown, hts⟩, hr, hlocks, hA, hE⟩ := id C0
  have hK := hE.1
  have hL0 := hts (.fieldLink RX5 12 "CandleDebts" "town" "LCandleDebts$Town;") (by decide +kernel)
  have hL1 := hts (.fieldLink RX5 22 "CandleDebts" "kept" "[Z") (by decide +kernel)
  have hl : lv_has ls 2 [(0, .ref (h 0)), (1, .int a0)] := hl
  unfold f_X5_image at hf
  refine lv_iload_n hx hb dX5_image_0 rfl (lv_at hl 1 rfl) ?_
  refine lv_iconst (v := (0 : Int32)) hx hb dX5_image_1 (by decide) ?_
  refine lv_iconst (v := (1 : Int32)) hx hb dX5_image_2 (by decide) ?_
  obtain ⟨r1, e1, hf⟩ := cd_bind_some hf
  refine cd_callS (As := [.int a0, .int (0 : Int32), .int (1 : Int32)]) (rest := []) C0 hw (c_X5_within l G cI cZ sa sb a0 (0 : Int32) (1 : Int32) r1 e1) [] rfl rfl (va_cwS 3 hts gX5_image_X5_within rfl rfl rfl (by decide +kernel) ⟨Nat.le_of_ble_eq_true rfl, Nat.le_of_ble_eq_true rfl⟩) rfl hl.1 (lv_room (Nat.le_of_ble_eq_true rfl)) dX5_image_3 (fun H locs hw => ?_)
  refine lv_if_ne (tgt := 12) hx hb dX5_image_6 (by decide) (fun c2 => ?_) (fun c2 => ?_)
  · have hf := cd_ite_f c2 hf
    refine lv_aload_n hx hb dX5_image_12 rfl (lv_at hl 0 rfl) ?_
    refine lv_iload_n hx hb dX5_image_13 rfl (lv_at hl 1 rfl) ?_
    by_cases c3 : a0 = 0
    · have hf := cd_ite_t c3 hf
      refine cd_callV (As := [.int a0]) (rest := []) C0 hw (c_X5_imageOf_0 l G cI cZ sa sb h ht h1 h2 hp hy hs hv hz K a0 c3) [0, 1] rfl rfl 0 5 rfl rfl rfl (cwV 1 hts gX5_image_X5_imageOf rfl rfl rfl (by decide +kernel) ⟨Nat.le_of_ble_eq_true rfl, Nat.le_of_ble_eq_true rfl⟩) rfl hl.1 (lv_room (Nat.le_of_ble_eq_true rfl)) dX5_image_14 (fun H locs hw => ?_)
      refine lv_aload_n hx hb dX5_image_17 rfl (lv_at hl 0 rfl) ?_
      refine va_get (D := G) (ci := 5) (v := .ref (ht 0)) (C := RX5) (T := TX5) (N := 8) hx hb hts nw_X5_image_X5 hown hK hw.1 0 rfl rfl 0 (by decide) hL0 (fun _ h9 => h9) rfl dX5_image_18 ?_
      obtain ⟨r4, e4, hf⟩ := cd_bind_some hf
      refine cd_callVw (As := [.ref (ht 0)]) (rest := []) (wr := (pc_top cZ h ht h1 h2 hp hy hv hz K) ++ (pc_town cI h2 T2)) (wn := (pc_top cZ h ht h1 h2 hp hy hv hz K) ++ (pc_town cI ht T) ++ (pc_town cI h1 r4) ++ (pc_town cI h2 T2)) C0 hw (c_X3_copyFrom l G cI cZ sa sb h1 ht T1 T r4 e4) [13, 14, 15, 16, 17, 18, 19, 20, 21, 22, 23, 2, 3, 4, 5, 6, 7, 8, 9, 10, 11, 12] [0, 1, 24, 25, 26, 27, 28, 29, 30, 31, 32, 33, 34] [0, 1, 24, 25, 26, 27, 28, 29, 30, 31, 32, 33, 34, 13, 14, 15, 16, 17, 18, 19, 20, 21, 22, 23, 2, 3, 4, 5, 6, 7, 8, 9, 10, 11, 12] rfl rfl rfl rfl (by decide) rfl rfl 0 3 rfl rfl rfl (cwV 1 hts gX5_image_X3_copyFrom rfl rfl rfl (by decide +kernel) ⟨Nat.le_of_ble_eq_true rfl, Nat.le_of_ble_eq_true rfl⟩) rfl hl.1 (lv_room (Nat.le_of_ble_eq_true rfl)) dX5_image_21 (fun H locs hw => ?_)
      refine lv_aload_n hx hb dX5_image_24 rfl (lv_at hl 0 rfl) ?_
      refine va_get (D := G) (ci := 5) (v := .ref (h 1)) (C := RX5) (T := TX5) (N := 8) hx hb hts nw_X5_image_X5 hown hK hw.1 0 rfl rfl 3 (by decide) hL1 (fun _ h9 => h9) rfl dX5_image_25 ?_
      refine lv_iload_n hx hb dX5_image_28 rfl (lv_at hl 1 rfl) ?_
      refine lv_iconst (v := (1 : Int32)) hx hb dX5_image_29 (by decide) ?_
      obtain ⟨j5, e5, hf⟩ := cd_bind_some hf
      refine cd_zast (f := K 3) hx hb hK hw 1 rfl e5 rfl dX5_image_30 (fun H locs hw => ?_)
      have hw : cd_WS G A s.heap H locs ((pc_top cZ h ht h1 h2 hp hy hv hz (cd_set K 3 j5 (1 : Int32))) ++ (pc_town cI ht T) ++ (pc_town cI h1 r4) ++ (pc_town cI h2 T2)) := (show ∀ (s9 : Nat → Nat → Int32) (y9 : Int32), cd_WS G A s.heap H locs (((pc_top cZ h ht h1 h2 hp hy hv hz s9) ++ (pc_town cI ht T) ++ (pc_town cI h1 r4) ++ (pc_town cI h2 T2)).set 1 (h 1, .inl (cZ, 2, .inl (upd (s9 3) j5 y9)))) → cd_WS G A s.heap H locs ((pc_top cZ h ht h1 h2 hp hy hv hz (cd_set s9 3 j5 y9)) ++ (pc_town cI ht T) ++ (pc_town cI h1 r4) ++ (pc_town cI h2 T2)) from fun _ _ hh => hh) K (1 : Int32) hw
      refine lv_iconst (v := (1 : Int32)) hx hb dX5_image_31 (by decide) ?_
      have z : some ((1 : Int32), (cd_set K 3 j5 (1 : Int32)), r4, T2) = some o := hf
      cases z
      rw [hQ]
      exact cd_reti C0 hw dX5_image_32
    · have hf := cd_ite_f c3 hf
      refine cd_callV (As := [.int a0]) (rest := []) C0 hw (c_X5_imageOf_1 l G cI cZ sa sb h ht h1 h2 hp hy hs hv hz K a0 c3) [0, 1] rfl rfl 0 5 rfl rfl rfl (cwV 1 hts gX5_image_X5_imageOf rfl rfl rfl (by decide +kernel) ⟨Nat.le_of_ble_eq_true rfl, Nat.le_of_ble_eq_true rfl⟩) rfl hl.1 (lv_room (Nat.le_of_ble_eq_true rfl)) dX5_image_14 (fun H locs hw => ?_)
      refine lv_aload_n hx hb dX5_image_17 rfl (lv_at hl 0 rfl) ?_
      refine va_get (D := G) (ci := 5) (v := .ref (ht 0)) (C := RX5) (T := TX5) (N := 8) hx hb hts nw_X5_image_X5 hown hK hw.1 0 rfl rfl 0 (by decide) hL0 (fun _ h9 => h9) rfl dX5_image_18 ?_
      obtain ⟨r6, e6, hf⟩ := cd_bind_some hf
      refine cd_callVw (As := [.ref (ht 0)]) (rest := []) (wr := (pc_top cZ h ht h1 h2 hp hy hv hz K) ++ (pc_town cI h1 T1)) (wn := (pc_top cZ h ht h1 h2 hp hy hv hz K) ++ (pc_town cI ht T) ++ (pc_town cI h1 T1) ++ (pc_town cI h2 r6)) C0 hw (c_X3_copyFrom l G cI cZ sa sb h2 ht T2 T r6 e6) [24, 25, 26, 27, 28, 29, 30, 31, 32, 33, 34, 2, 3, 4, 5, 6, 7, 8, 9, 10, 11, 12] [0, 1, 13, 14, 15, 16, 17, 18, 19, 20, 21, 22, 23] [0, 1, 24, 25, 26, 27, 28, 29, 30, 31, 32, 33, 34, 2, 3, 4, 5, 6, 7, 8, 9, 10, 11, 12, 13, 14, 15, 16, 17, 18, 19, 20, 21, 22, 23] rfl rfl rfl rfl (by decide) rfl rfl 0 3 rfl rfl rfl (cwV 1 hts gX5_image_X3_copyFrom rfl rfl rfl (by decide +kernel) ⟨Nat.le_of_ble_eq_true rfl, Nat.le_of_ble_eq_true rfl⟩) rfl hl.1 (lv_room (Nat.le_of_ble_eq_true rfl)) dX5_image_21 (fun H locs hw => ?_)
      refine lv_aload_n hx hb dX5_image_24 rfl (lv_at hl 0 rfl) ?_
      refine va_get (D := G) (ci := 5) (v := .ref (h 1)) (C := RX5) (T := TX5) (N := 8) hx hb hts nw_X5_image_X5 hown hK hw.1 0 rfl rfl 3 (by decide) hL1 (fun _ h9 => h9) rfl dX5_image_25 ?_
      refine lv_iload_n hx hb dX5_image_28 rfl (lv_at hl 1 rfl) ?_
      refine lv_iconst (v := (1 : Int32)) hx hb dX5_image_29 (by decide) ?_
      obtain ⟨j7, e7, hf⟩ := cd_bind_some hf
      refine cd_zast (f := K 3) hx hb hK hw 1 rfl e7 rfl dX5_image_30 (fun H locs hw => ?_)
      have hw : cd_WS G A s.heap H locs ((pc_top cZ h ht h1 h2 hp hy hv hz (cd_set K 3 j7 (1 : Int32))) ++ (pc_town cI ht T) ++ (pc_town cI h1 T1) ++ (pc_town cI h2 r6)) := (show ∀ (s9 : Nat → Nat → Int32) (y9 : Int32), cd_WS G A s.heap H locs (((pc_top cZ h ht h1 h2 hp hy hv hz s9) ++ (pc_town cI ht T) ++ (pc_town cI h1 T1) ++ (pc_town cI h2 r6)).set 1 (h 1, .inl (cZ, 2, .inl (upd (s9 3) j7 y9)))) → cd_WS G A s.heap H locs ((pc_top cZ h ht h1 h2 hp hy hv hz (cd_set s9 3 j7 y9)) ++ (pc_town cI ht T) ++ (pc_town cI h1 T1) ++ (pc_town cI h2 r6)) from fun _ _ hh => hh) K (1 : Int32) hw
      refine lv_iconst (v := (1 : Int32)) hx hb dX5_image_31 (by decide) ?_
      have z : some ((1 : Int32), (cd_set K 3 j7 (1 : Int32)), T1, r6) = some o := hf
      cases z
      rw [hQ]
      exact cd_reti C0 hw dX5_image_32
  · have hf := cd_ite_t c2 hf
    refine lv_bipush (v := (-2 : Int32)) hx hb dX5_image_9 (by decide) ?_
    have z : some ((-2 : Int32), K, T1, T2) = some o := hf
    cases z
    rw [hQ]
    exact cd_reti C0 hw dX5_image_11
abbrev rm_X5_joined : Room := { frames := 2, cells := 0, slots := 0, locals := 42 }
theorem nw_X5_joined_X3 : ∀ w ∈ u_ws RX3 TX3 14, w ∈ wsX5_joined := by decide +kernel
theorem nw_X5_joined_X5 : ∀ w ∈ u_ws RX5 TX5 8, w ∈ wsX5_joined := by decide +kernel
set_option maxHeartbeats 4000000 in
set_option maxRecDepth 100000 in
theorem c_X5_joined (l : Launch) (G : va_G) (cI cZ : ClassId) (sa sb : Nat) (h ht h1 h2 hp hy hs hv hz : Nat → Nat) (K T : Nat → Nat → Int32) (a0 : Int32) (o : Int32) (hf : f_X5_joined a0 K T = some o) : cd_Ct l G cI cZ sa sb yX5_joined wsX5_joined rm_X5_joined [.ref (h 0), .int a0] ((pc_top cZ h ht h1 h2 hp hy hv hz K) ++ (pc_town cI ht T)) ((pc_top cZ h ht h1 h2 hp hy hv hz K) ++ (pc_town cI ht T)) (some (.int o)) := by
  refine cd_of (cc := cX5_joined) (maxL := 2) (ret := (some .int)) (by decide) rfl (Nat.le_of_ble_eq_true rfl) ?_
  intro p e s m ag below meth c A ls Q C0 hl hw hQ
  have C0 : cd_CX G cI cZ sa sb p s m ag meth c cX5_joined 2 (some .int) wsX5_joined RX5 A := C0
  obtain ⟨⟨hx, hb, hml, hown, hts⟩, hr, hlocks, hA, hE⟩ := id C0
  have hK := hE.1
  have hL0 := hts (.fieldLink RX5 12 "CandleDebts" "town" "LCandleDebts$Town;") (by decide +kernel)
  have hL1 := hts (.fieldLink RX5 142 "CandleDebts$Town" "groups" "[I") (by decide +kernel)
  have hl : lv_has ls 2 [(0, .ref (h 0)), (1, .int a0)] := hl
  unfold f_X5_joined at hf
  refine lv_iload_n hx hb dX5_joined_0 rfl (lv_at hl 1 rfl) ?_
  obtain ⟨r1, e1, hf⟩ := cd_bind_some hf
  refine cd_callS (As := [.int a0]) (rest := []) C0 hw (c_X5_isCandle l G cI cZ sa sb a0 r1 e1) [] rfl rfl (va_cwS 1 hts gX5_joined_X5_isCandle rfl rfl rfl (by decide +kernel) ⟨Nat.le_of_ble_eq_true rfl, Nat.le_of_ble_eq_true rfl⟩) rfl hl.1 (lv_room (Nat.le_of_ble_eq_true rfl)) dX5_joined_1 (fun H locs hw => ?_)
  obtain ⟨x2, e2, hf⟩ := cd_bind_some hf
  have K2 : ∀ (ls : Array Slot) (H : Heap) (locs : List Loc), lv_has ls 2 [] → cd_WS G A s.heap H locs ((pc_top cZ h ht h1 h2 hp hy hv hz K) ++ (pc_town cI ht T)) → W p l e rm_X5_joined s m ag below meth c H locs 0 0 Q (F0 m 27 ls [.int x2]) := by
    intro ls H locs hl hw
    have z : some x2 = some o := hf
    cases z
    rw [hQ]
    exact cd_reti C0 hw dX5_joined_27
  refine lv_if_eq (tgt := 26) hx hb dX5_joined_4 (by decide) (fun c2 => ?_) (fun c2 => ?_)
  · have e2 := cd_ite_t c2 e2
    refine lv_iconst (v := (-1 : Int32)) hx hb dX5_joined_26 (by decide) ?_
    have z : some (-1 : Int32) = some x2 := e2
    cases z
    exact K2 _ _ _ (lv_sub hl [] rfl) hw
  · have e2 := cd_ite_f c2 e2
    refine lv_aload_n hx hb dX5_joined_7 rfl (lv_at hl 0 rfl) ?_
    refine va_get (D := G) (ci := 5) (v := .ref (ht 0)) (C := RX5) (T := TX5) (N := 8) hx hb hts nw_X5_joined_X5 hown hK hw.1 0 rfl rfl 0 (by decide) hL0 (fun _ h9 => h9) rfl dX5_joined_8 ?_
    refine va_get (D := G) (ci := 3) (v := .ref (ht 7)) (C := RX3) (T := TX3) (N := 14) hx hb hts nw_X5_joined_X3 hown hK hw.1 2 rfl rfl 6 (by decide) hL1 (fun _ h9 => h9) rfl dX5_joined_11 ?_
    refine lv_iload_n hx hb dX5_joined_14 rfl (lv_at hl 1 rfl) ?_
    obtain ⟨v3, e3, e2⟩ := cd_bind_some e2
    refine cd_iald hx hb hK hw 9 rfl e3 dX5_joined_15 ?_
    refine lv_iload_n hx hb dX5_joined_16 rfl (lv_at hl 1 rfl) ?_
    obtain ⟨r4, e4, e2⟩ := cd_bind_some e2
    refine cd_callS (As := [.int a0]) (rest := [.int v3]) C0 hw (c_X5_bit l G cI cZ sa sb a0 r4 e4) [] rfl rfl (va_cwS 1 hts gX5_joined_X5_bit rfl rfl rfl (by decide +kernel) ⟨Nat.le_of_ble_eq_true rfl, Nat.le_of_ble_eq_true rfl⟩) rfl hl.1 (lv_room (Nat.le_of_ble_eq_true rfl)) dX5_joined_17 (fun H locs hw => ?_)
    refine lv_iconst (v := (-1 : Int32)) hx hb dX5_joined_20 (by decide) ?_
    refine lv_ixor hx hb dX5_joined_21 ?_
    refine lv_iand hx hb dX5_joined_22 ?_
    refine lv_goto (tgt := 27) hx hb dX5_joined_23 (by decide) ?_
    have z : some (v3 &&& (r4 ^^^ (-1 : Int32))) = some x2 := e2
    cases z
    exact K2 _ _ _ (lv_sub hl [] rfl) hw
abbrev rm_X5_matchesFor : Room := { frames := 1, cells := 0, slots := 0, locals := 21 }
theorem nw_X5_matchesFor_X3 : ∀ w ∈ u_ws RX3 TX3 14, w ∈ wsX5_matchesFor := by decide +kernel
theorem nw_X5_matchesFor_X5 : ∀ w ∈ u_ws RX5 TX5 8, w ∈ wsX5_matchesFor := by decide +kernel
set_option maxHeartbeats 4000000 in
set_option maxRecDepth 100000 in
theorem c_X5_matchesFor (l : Launch) (G : va_G) (cI cZ : ClassId) (sa sb : Nat) (h ht h1 h2 hp hy hs hv hz : Nat → Nat) (K T : Nat → Nat → Int32) (a0 : Int32) (o : Int32) (hf : f_X5_matchesFor a0 K T = some o) : cd_Ct l G cI cZ sa sb yX5_matchesFor wsX5_matchesFor rm_X5_matchesFor [.ref (h 0), .int a0] ((pc_top cZ h ht h1 h2 hp hy hv hz K) ++ (pc_town cI ht T)) ((pc_top cZ h ht h1 h2 hp hy hv hz K) ++ (pc_town cI ht T)) (some (.int o)) := by
  refine cd_of (cc := cX5_matchesFor) (maxL := 7) (ret := (some .int)) (by decide) rfl (Nat.le_of_ble_eq_true rfl) ?_
  intro p e s m ag below meth c A ls Q C0 hl hw hQ
  have C0 : cd_CX G cI cZ sa sb p s m ag meth c cX5_matchesFor 7 (some .int) wsX5_matchesFor RX5 A := C0
  obtain ⟨⟨hx, hb, hml, hown, hts⟩, hr, hlocks, hA, hE⟩ := id C0
  have hK := hE.1
  have hL0 := hts (.fieldLink RX5 12 "CandleDebts" "town" "LCandleDebts$Town;") (by decide +kernel)
  have hL1 := hts (.fieldLink RX5 65 "CandleDebts$Town" "wax" "[I") (by decide +kernel)
  have hl : lv_has ls 7 [(0, .ref (h 0)), (1, .int a0)] := hl
  unfold f_X5_matchesFor at hf
  refine lv_iconst (v := (0 : Int32)) hx hb dX5_matchesFor_0 (by decide) ?_
  refine lv_istore_n (lv' := [(2, .int (0 : Int32)), (0, .ref (h 0)), (1, .int a0)]) hx hb dX5_matchesFor_1 rfl hl (by decide) rfl (fun ls hl => ?_)
  refine lv_iconst (v := (0 : Int32)) hx hb dX5_matchesFor_2 (by decide) ?_
  refine lv_istore_n (lv' := [(3, .int (0 : Int32)), (2, .int (0 : Int32)), (0, .ref (h 0)), (1, .int a0)]) hx hb dX5_matchesFor_3 rfl hl (by decide) rfl (fun ls hl => ?_)
  refine lv_iconst (v := (0 : Int32)) hx hb dX5_matchesFor_4 (by decide) ?_
  refine lv_istore (lv' := [(4, .int (0 : Int32)), (3, .int (0 : Int32)), (2, .int (0 : Int32)), (0, .ref (h 0)), (1, .int a0)]) hx hb dX5_matchesFor_5 hl (by decide) rfl (fun ls hl => ?_)
  refine lv_iconst (v := (0 : Int32)) hx hb dX5_matchesFor_7 (by decide) ?_
  refine lv_istore (lv' := [(5, .int (0 : Int32)), (4, .int (0 : Int32)), (3, .int (0 : Int32)), (2, .int (0 : Int32)), (0, .ref (h 0)), (1, .int a0)]) hx hb dX5_matchesFor_8 hl (by decide) rfl (fun ls hl => ?_)
  obtain ⟨x1, e1, hf⟩ := cd_bind_some hf
  have K1 : ∀ (t1 : Int32), t1 = x1 → ∀ (ls : Array Slot) (H : Heap) (locs : List Loc), lv_has ls 7 [(2, .int t1)] → cd_WS G A s.heap H locs ((pc_top cZ h ht h1 h2 hp hy hv hz K) ++ (pc_town cI ht T)) → W p l e rm_X5_matchesFor s m ag below meth c H locs 0 0 Q (F0 m 113 ls []) := by
    intro t1 hs_1
    subst hs_1
    intro ls H locs hl hw
    refine lv_iload_n hx hb dX5_matchesFor_113 rfl (lv_at hl 0 rfl) ?_
    have z : some t1 = some o := hf
    cases z
    rw [hQ]
    exact cd_reti C0 hw dX5_matchesFor_114
  refine cd_iter_ind (body := (f_X5_matchesFor_b10 a0 T)) (K := fun r => r = x1) (P := fun (z1 : Int32 × Int32 × Int32 × Int32) => ∀ (ls : Array Slot) (H : Heap) (locs : List Loc), lv_has ls 7 [(0, .ref (h 0)), (1, .int a0), (2, .int z1.1), (3, .int z1.2.1), (4, .int z1.2.2.1), (5, .int z1.2.2.2)] → cd_WS G A s.heap H locs ((pc_top cZ h ht h1 h2 hp hy hv hz K) ++ (pc_town cI ht T)) → W p l e rm_X5_matchesFor s m ag below meth c H locs 0 0 Q (F0 m 10 ls [])) ?_ cd_N ((0 : Int32), (0 : Int32), (0 : Int32), (0 : Int32)) x1 e1 rfl _ _ _ (lv_sub hl [4, 5, 3, 2, 1, 0] rfl) hw
  intro z1 o1 hb1 hk1 ls H locs hl hw
  unfold f_X5_matchesFor_b10 at hb1
  refine lv_iload hx hb dX5_matchesFor_10 (lv_at hl 5 rfl) ?_
  refine lv_bipush (v := (12 : Int32)) hx hb dX5_matchesFor_12 (by decide) ?_
  refine lv_icmp_ge (tgt := 113) hx hb dX5_matchesFor_14 (by decide) (fun c2 => ?_) (fun c2 => ?_)
  · have hb1 := cd_ite_t c2 hb1
    have z : some (Sum.inl z1.1) = some o1 := hb1
    cases z
    exact K1 _ hk1 _ _ _ (lv_sub hl [2] rfl) hw
  · have hb1 := cd_ite_f c2 hb1
    refine lv_aload_n hx hb dX5_matchesFor_17 rfl (lv_at hl 0 rfl) ?_
    refine va_get (D := G) (ci := 5) (v := .ref (ht 0)) (C := RX5) (T := TX5) (N := 8) hx hb hts nw_X5_matchesFor_X5 hown hK hw.1 0 rfl rfl 0 (by decide) hL0 (fun _ h9 => h9) rfl dX5_matchesFor_18 ?_
    refine va_get (D := G) (ci := 3) (v := .ref (ht 1)) (C := RX3) (T := TX3) (N := 14) hx hb hts nw_X5_matchesFor_X3 hown hK hw.1 2 rfl rfl 0 (by decide) hL1 (fun _ h9 => h9) rfl dX5_matchesFor_21 ?_
    refine lv_iload hx hb dX5_matchesFor_24 (lv_at hl 5 rfl) ?_
    obtain ⟨v3, e3, hb1⟩ := cd_bind_some hb1
    refine cd_iald hx hb hK hw 3 rfl e3 dX5_matchesFor_26 ?_
    obtain ⟨x4, e4, hb1⟩ := cd_bind_some hb1
    have K4 : ∀ (ls : Array Slot) (H : Heap) (locs : List Loc), lv_has ls 7 [(0, .ref (h 0)), (1, .int a0), (2, .int z1.1), (3, .int x4.1), (4, .int x4.2), (5, .int z1.2.2.2)] → cd_WS G A s.heap H locs ((pc_top cZ h ht h1 h2 hp hy hv hz K) ++ (pc_town cI ht T)) → W p l e rm_X5_matchesFor s m ag below meth c H locs 0 0 Q (F0 m 53 ls []) := by
      intro ls H locs hl hw
      refine lv_aload_n hx hb dX5_matchesFor_53 rfl (lv_at hl 0 rfl) ?_
      refine va_get (D := G) (ci := 5) (v := .ref (ht 0)) (C := RX5) (T := TX5) (N := 8) hx hb hts nw_X5_matchesFor_X5 hown hK hw.1 0 rfl rfl 0 (by decide) hL0 (fun _ h9 => h9) rfl dX5_matchesFor_54 ?_
      refine va_get (D := G) (ci := 3) (v := .ref (ht 1)) (C := RX3) (T := TX3) (N := 14) hx hb hts nw_X5_matchesFor_X3 hown hK hw.1 2 rfl rfl 0 (by decide) hL1 (fun _ h9 => h9) rfl dX5_matchesFor_57 ?_
      refine lv_iload hx hb dX5_matchesFor_60 (lv_at hl 5 rfl) ?_
      obtain ⟨v5, e5, hb1⟩ := cd_bind_some hb1
      refine cd_iald hx hb hK hw 3 rfl e5 dX5_matchesFor_62 ?_
      obtain ⟨x6, e6, hb1⟩ := cd_bind_some hb1
      have K6 : ∀ (ls : Array Slot) (H : Heap) (locs : List Loc), lv_has ls 7 [(0, .ref (h 0)), (1, .int a0), (2, .int z1.1), (3, .int x4.1), (4, .int x4.2), (5, .int z1.2.2.2)] → cd_WS G A s.heap H locs ((pc_top cZ h ht h1 h2 hp hy hv hz K) ++ (pc_town cI ht T)) → W p l e rm_X5_matchesFor s m ag below meth c H locs 0 0 Q (F0 m 78 ls [.int x6]) := by
        intro ls H locs hl hw
        refine lv_istore (lv' := [(6, .int x6), (0, .ref (h 0)), (1, .int a0), (2, .int z1.1), (3, .int x4.1), (4, .int x4.2), (5, .int z1.2.2.2)]) hx hb dX5_matchesFor_78 hl (by decide) rfl (fun ls hl => ?_)
        refine lv_iload hx hb dX5_matchesFor_80 (lv_at hl 0 rfl) ?_
        refine lv_if_eq (tgt := 107) hx hb dX5_matchesFor_82 (by decide) (fun c7 => ?_) (fun c7 => ?_)
        · have hb1 := cd_ite_t c7 hb1
          refine lv_iinc (v := (z1.2.2.2 + (1 : Int32))) (lv' := [(5, .int (z1.2.2.2 + (1 : Int32))), (6, .int x6), (0, .ref (h 0)), (1, .int a0), (2, .int z1.1), (3, .int x4.1), (4, .int x4.2)]) hx hb dX5_matchesFor_107 hl (k := 6) rfl rfl (by decide) rfl (fun ls hl => ?_)
          refine lv_goto (tgt := 10) hx hb dX5_matchesFor_110 (by decide) ?_
          have z : some (Sum.inr (z1.1, x4.1, x4.2, (z1.2.2.2 + (1 : Int32)))) = some o1 := hb1
          cases z
          exact hk1 _ _ _ (lv_sub hl [2, 3, 4, 5, 6, 0] rfl) hw
        · have hb1 := cd_ite_f c7 hb1
          refine lv_iload_n hx hb dX5_matchesFor_85 rfl (lv_at hl 3 rfl) ?_
          refine lv_iload_n hx hb dX5_matchesFor_86 rfl (lv_at hl 4 rfl) ?_
          obtain ⟨x8, e8, hb1⟩ := cd_bind_some hb1
          have K8 : ∀ (ls : Array Slot) (H : Heap) (locs : List Loc), lv_has ls 7 [(0, .ref (h 0)), (1, .int a0), (5, .int z1.2.2.2)] → cd_WS G A s.heap H locs ((pc_top cZ h ht h1 h2 hp hy hv hz K) ++ (pc_town cI ht T)) → W p l e rm_X5_matchesFor s m ag below meth c H locs 0 0 Q (F0 m 100 ls [.int x8, .int z1.1]) := by
            intro ls H locs hl hw
            refine lv_iadd hx hb dX5_matchesFor_100 ?_
            refine lv_istore_n (lv' := [(2, .int (z1.1 + x8)), (0, .ref (h 0)), (1, .int a0), (5, .int z1.2.2.2)]) hx hb dX5_matchesFor_101 rfl hl (by decide) rfl (fun ls hl => ?_)
            refine lv_iconst (v := (0 : Int32)) hx hb dX5_matchesFor_102 (by decide) ?_
            refine lv_istore_n (lv' := [(3, .int (0 : Int32)), (2, .int (z1.1 + x8)), (0, .ref (h 0)), (1, .int a0), (5, .int z1.2.2.2)]) hx hb dX5_matchesFor_103 rfl hl (by decide) rfl (fun ls hl => ?_)
            refine lv_iconst (v := (0 : Int32)) hx hb dX5_matchesFor_104 (by decide) ?_
            refine lv_istore (lv' := [(4, .int (0 : Int32)), (3, .int (0 : Int32)), (2, .int (z1.1 + x8)), (0, .ref (h 0)), (1, .int a0), (5, .int z1.2.2.2)]) hx hb dX5_matchesFor_105 hl (by decide) rfl (fun ls hl => ?_)
            refine lv_iinc (v := (z1.2.2.2 + (1 : Int32))) (lv' := [(5, .int (z1.2.2.2 + (1 : Int32))), (4, .int (0 : Int32)), (3, .int (0 : Int32)), (2, .int (z1.1 + x8)), (0, .ref (h 0)), (1, .int a0)]) hx hb dX5_matchesFor_107 hl (k := 5) rfl rfl (by decide) rfl (fun ls hl => ?_)
            refine lv_goto (tgt := 10) hx hb dX5_matchesFor_110 (by decide) ?_
            have z : some (Sum.inr ((z1.1 + x8), (0 : Int32), (0 : Int32), (z1.2.2.2 + (1 : Int32)))) = some o1 := hb1
            cases z
            exact hk1 _ _ _ (lv_sub hl [4, 5, 3, 2, 1, 0] rfl) hw
          refine lv_if_eq (tgt := 99) hx hb dX5_matchesFor_87 (by decide) (fun c8 => ?_) (fun c8 => ?_)
          · have e8 := cd_ite_t c8 e8
            refine lv_iconst (v := (0 : Int32)) hx hb dX5_matchesFor_99 (by decide) ?_
            have z : some (0 : Int32) = some x8 := e8
            cases z
            exact K8 _ _ _ (lv_sub hl [1, 2, 6] rfl) hw
          · have e8 := cd_ite_f c8 e8
            refine lv_iload hx hb dX5_matchesFor_90 (lv_at hl 5 rfl) ?_
            refine lv_if_ne (tgt := 99) hx hb dX5_matchesFor_92 (by decide) (fun c9 => ?_) (fun c9 => ?_)
            · have e8 := cd_ite_f c9 e8
              refine lv_iconst (v := (0 : Int32)) hx hb dX5_matchesFor_99 (by decide) ?_
              have z : some (0 : Int32) = some x8 := e8
              cases z
              exact K8 _ _ _ (lv_sub hl [1, 2, 6] rfl) hw
            · have e8 := cd_ite_t c9 e8
              refine lv_iconst (v := (1 : Int32)) hx hb dX5_matchesFor_95 (by decide) ?_
              refine lv_goto (tgt := 100) hx hb dX5_matchesFor_96 (by decide) ?_
              have z : some (1 : Int32) = some x8 := e8
              cases z
              exact K8 _ _ _ (lv_sub hl [1, 2, 6] rfl) hw
      refine lv_if_eq (tgt := 73) hx hb dX5_matchesFor_63 (by decide) (fun c6 => ?_) (fun c6 => ?_)
      · have e6 := cd_ite_t c6 e6
        refine lv_iconst (v := (1 : Int32)) hx hb dX5_matchesFor_73 (by decide) ?_
        refine lv_goto (tgt := 78) hx hb dX5_matchesFor_74 (by decide) ?_
        have z : some (1 : Int32) = some x6 := e6
        cases z
        exact K6 _ _ _ (lv_sub hl [0, 1, 2, 3, 4, 5] rfl) hw
      · have e6 := cd_ite_f c6 e6
        refine lv_iload hx hb dX5_matchesFor_66 (lv_at hl 5 rfl) ?_
        refine lv_bipush (v := (11 : Int32)) hx hb dX5_matchesFor_68 (by decide) ?_
        refine lv_icmp_ne (tgt := 77) hx hb dX5_matchesFor_70 (by decide) (fun c10 => ?_) (fun c10 => ?_)
        · have e6 := cd_ite_f c10 e6
          refine lv_iconst (v := (0 : Int32)) hx hb dX5_matchesFor_77 (by decide) ?_
          have z : some (0 : Int32) = some x6 := e6
          cases z
          exact K6 _ _ _ (lv_sub hl [0, 1, 2, 3, 4, 5] rfl) hw
        · have e6 := cd_ite_t c10 e6
          refine lv_iconst (v := (1 : Int32)) hx hb dX5_matchesFor_73 (by decide) ?_
          refine lv_goto (tgt := 78) hx hb dX5_matchesFor_74 (by decide) ?_
          have z : some (1 : Int32) = some x6 := e6
          cases z
          exact K6 _ _ _ (lv_sub hl [0, 1, 2, 3, 4, 5] rfl) hw
    refine lv_if_le (tgt := 53) hx hb dX5_matchesFor_27 (by decide) (fun c4 => ?_) (fun c4 => ?_)
    · have e4 := cd_ite_t c4 e4
      have z : some (z1.2.1, z1.2.2.1) = some x4 := e4
      cases z
      exact K4 _ _ _ (lv_sub hl [0, 1, 2, 3, 4, 5] rfl) hw
    · have e4 := cd_ite_f c4 e4
      refine lv_iload_n hx hb dX5_matchesFor_30 rfl (lv_at hl 3 rfl) ?_
      refine lv_iload_n hx hb dX5_matchesFor_31 rfl (lv_at hl 1 rfl) ?_
      refine lv_iload hx hb dX5_matchesFor_32 (lv_at hl 5 rfl) ?_
      obtain ⟨r11, e11, e4⟩ := cd_bind_some e4
      refine cd_callS (As := [.int a0, .int z1.2.2.2]) (rest := [.int z1.2.1]) C0 hw (c_X5_holds l G cI cZ sa sb a0 z1.2.2.2 r11 e11) [] rfl rfl (va_cwS 2 hts gX5_matchesFor_X5_holds rfl rfl rfl (by decide +kernel) ⟨Nat.le_of_ble_eq_true rfl, Nat.le_of_ble_eq_true rfl⟩) rfl hl.1 (lv_room (Nat.le_of_ble_eq_true rfl)) dX5_matchesFor_34 (fun H locs hw => ?_)
      refine lv_ior hx hb dX5_matchesFor_37 ?_
      refine lv_istore_n (lv' := [(3, .int (z1.2.1 ||| r11)), (0, .ref (h 0)), (1, .int a0), (2, .int z1.1), (4, .int z1.2.2.1), (5, .int z1.2.2.2)]) hx hb dX5_matchesFor_38 rfl hl (by decide) rfl (fun ls hl => ?_)
      refine lv_iload hx hb dX5_matchesFor_39 (lv_at hl 4 rfl) ?_
      refine lv_aload_n hx hb dX5_matchesFor_41 rfl (lv_at hl 1 rfl) ?_
      refine va_get (D := G) (ci := 5) (v := .ref (ht 0)) (C := RX5) (T := TX5) (N := 8) hx hb hts nw_X5_matchesFor_X5 hown hK hw.1 0 rfl rfl 0 (by decide) hL0 (fun _ h9 => h9) rfl dX5_matchesFor_42 ?_
      refine lv_iload hx hb dX5_matchesFor_45 (lv_at hl 5 rfl) ?_
      obtain ⟨r12, e12, e4⟩ := cd_bind_some e4
      refine cd_callV (As := [.int z1.2.2.2]) (rest := [.int z1.2.2.1]) C0 hw (c_X3_isLit l G cI cZ sa sb ht T z1.2.2.2 r12 e12) [2, 3, 4, 5, 6, 7, 8, 9, 10, 11, 12] rfl rfl 0 3 rfl rfl rfl (cwV 1 hts gX5_matchesFor_X3_isLit rfl rfl rfl (by decide +kernel) ⟨Nat.le_of_ble_eq_true rfl, Nat.le_of_ble_eq_true rfl⟩) rfl hl.1 (lv_room (Nat.le_of_ble_eq_true rfl)) dX5_matchesFor_47 (fun H locs hw => ?_)
      refine lv_ior hx hb dX5_matchesFor_50 ?_
      refine lv_istore (lv' := [(4, .int (z1.2.2.1 ||| r12)), (3, .int (z1.2.1 ||| r11)), (0, .ref (h 0)), (1, .int a0), (2, .int z1.1), (5, .int z1.2.2.2)]) hx hb dX5_matchesFor_51 hl (by decide) rfl (fun ls hl => ?_)
      have z : some ((z1.2.1 ||| r11), (z1.2.2.1 ||| r12)) = some x4 := e4
      cases z
      exact K4 _ _ _ (lv_sub hl [2, 3, 4, 1, 0, 5] rfl) hw
abbrev rm_X5_jubilee : Room := { frames := 2, cells := 0, slots := 0, locals := 47 }
theorem nw_X5_jubilee_X3 : ∀ w ∈ u_ws RX3 TX3 14, w ∈ wsX5_jubilee := by decide +kernel
theorem nw_X5_jubilee_X5 : ∀ w ∈ u_ws RX5 TX5 8, w ∈ wsX5_jubilee := by decide +kernel
set_option maxHeartbeats 4000000 in
set_option maxRecDepth 100000 in
theorem c_X5_jubilee (l : Launch) (G : va_G) (cI cZ : ClassId) (sa sb : Nat) (h ht h1 h2 hp hy hs hv hz : Nat → Nat) (K T : Nat → Nat → Int32) (a0 : Int32) (o : Int32) (hf : f_X5_jubilee a0 K T = some o) : cd_Ct l G cI cZ sa sb yX5_jubilee wsX5_jubilee rm_X5_jubilee [.ref (h 0), .int a0] ((pc_top cZ h ht h1 h2 hp hy hv hz K) ++ (pc_town cI ht T)) ((pc_top cZ h ht h1 h2 hp hy hv hz K) ++ (pc_town cI ht T)) (some (.int o)) := by
  refine cd_of (cc := cX5_jubilee) (maxL := 3) (ret := (some .int)) (by decide) rfl (Nat.le_of_ble_eq_true rfl) ?_
  intro p e s m ag below meth c A ls Q C0 hl hw hQ
  have C0 : cd_CX G cI cZ sa sb p s m ag meth c cX5_jubilee 3 (some .int) wsX5_jubilee RX5 A := C0
  obtain ⟨⟨hx, hb, hml, hown, hts⟩, hr, hlocks, hA, hE⟩ := id C0
  have hK := hE.1
  have hL0 := hts (.fieldLink RX5 12 "CandleDebts" "town" "LCandleDebts$Town;") (by decide +kernel)
  have hL1 := hts (.fieldLink RX5 65 "CandleDebts$Town" "wax" "[I") (by decide +kernel)
  have hl : lv_has ls 3 [(0, .ref (h 0)), (1, .int a0)] := hl
  unfold f_X5_jubilee at hf
  refine lv_iload_n hx hb dX5_jubilee_0 rfl (lv_at hl 1 rfl) ?_
  refine lv_iconst (v := (0 : Int32)) hx hb dX5_jubilee_1 (by decide) ?_
  refine lv_bipush (v := (12 : Int32)) hx hb dX5_jubilee_2 (by decide) ?_
  obtain ⟨r1, e1, hf⟩ := cd_bind_some hf
  refine cd_callS (As := [.int (12 : Int32)]) (rest := [.int (0 : Int32), .int a0]) C0 hw (c_X5_bit l G cI cZ sa sb (12 : Int32) r1 e1) [] rfl rfl (va_cwS 1 hts gX5_jubilee_X5_bit rfl rfl rfl (by decide +kernel) ⟨Nat.le_of_ble_eq_true rfl, Nat.le_of_ble_eq_true rfl⟩) rfl hl.1 (lv_room (Nat.le_of_ble_eq_true rfl)) dX5_jubilee_4 (fun H locs hw => ?_)
  refine lv_iconst (v := (1 : Int32)) hx hb dX5_jubilee_7 (by decide) ?_
  refine lv_isub hx hb dX5_jubilee_8 ?_
  obtain ⟨r2, e2, hf⟩ := cd_bind_some hf
  refine cd_callS (As := [.int a0, .int (0 : Int32), .int (r1 - (1 : Int32))]) (rest := []) C0 hw (c_X5_within l G cI cZ sa sb a0 (0 : Int32) (r1 - (1 : Int32)) r2 e2) [] rfl rfl (va_cwS 3 hts gX5_jubilee_X5_within rfl rfl rfl (by decide +kernel) ⟨Nat.le_of_ble_eq_true rfl, Nat.le_of_ble_eq_true rfl⟩) rfl hl.1 (lv_room (Nat.le_of_ble_eq_true rfl)) dX5_jubilee_9 (fun H locs hw => ?_)
  refine lv_if_ne (tgt := 18) hx hb dX5_jubilee_12 (by decide) (fun c3 => ?_) (fun c3 => ?_)
  · have hf := cd_ite_f c3 hf
    refine lv_iconst (v := (0 : Int32)) hx hb dX5_jubilee_18 (by decide) ?_
    refine lv_istore_n (lv' := [(2, .int (0 : Int32)), (0, .ref (h 0)), (1, .int a0)]) hx hb dX5_jubilee_19 rfl hl (by decide) rfl (fun ls hl => ?_)
    obtain ⟨x4, e4, hf⟩ := cd_bind_some hf
    have K4 : ∀ (t4 : Unit), Sum.inr t4 = x4 → ∀ (ls : Array Slot) (H : Heap) (locs : List Loc), lv_has ls 3 [(0, .ref (h 0)), (1, .int a0)] → cd_WS G A s.heap H locs ((pc_top cZ h ht h1 h2 hp hy hv hz K) ++ (pc_town cI ht T)) → W p l e rm_X5_jubilee s m ag below meth c H locs 0 0 Q (F0 m 55 ls []) := by
      intro t4 hs_4
      subst hs_4
      intro ls H locs hl hw
      refine lv_aload_n hx hb dX5_jubilee_55 rfl (lv_at hl 0 rfl) ?_
      refine lv_iload_n hx hb dX5_jubilee_56 rfl (lv_at hl 1 rfl) ?_
      obtain ⟨r10, e10, hf⟩ := cd_bind_some hf
      refine cd_callV (As := [.int a0]) (rest := []) C0 hw (c_X5_matchesFor l G cI cZ sa sb h ht h1 h2 hp hy hs hv hz K T a0 r10 e10) [0, 1, 2, 3, 4, 5, 6, 7, 8, 9, 10, 11, 12] rfl rfl 0 5 rfl rfl rfl (cwV 1 hts gX5_jubilee_X5_matchesFor rfl rfl rfl (by decide +kernel) ⟨Nat.le_of_ble_eq_true rfl, Nat.le_of_ble_eq_true rfl⟩) rfl hl.1 (lv_room (Nat.le_of_ble_eq_true rfl)) dX5_jubilee_57 (fun H locs hw => ?_)
      have z : some r10 = some o := hf
      cases z
      rw [hQ]
      exact cd_reti C0 hw dX5_jubilee_60
    refine cd_iter_ind (body := (f_X5_jubilee_b20 a0 T)) (K := fun r => r = x4) (P := fun (z4 : Int32) => ∀ (ls : Array Slot) (H : Heap) (locs : List Loc), lv_has ls 3 [(0, .ref (h 0)), (1, .int a0), (2, .int z4)] → cd_WS G A s.heap H locs ((pc_top cZ h ht h1 h2 hp hy hv hz K) ++ (pc_town cI ht T)) → W p l e rm_X5_jubilee s m ag below meth c H locs 0 0 Q (F0 m 20 ls [])) ?_ cd_N (0 : Int32) x4 e4 rfl _ _ _ (lv_sub hl [1, 2, 0] rfl) hw
    intro z4 o4 hb4 hk4 ls H locs hl hw
    unfold f_X5_jubilee_b20 at hb4
    refine lv_iload_n hx hb dX5_jubilee_20 rfl (lv_at hl 2 rfl) ?_
    refine lv_bipush (v := (12 : Int32)) hx hb dX5_jubilee_21 (by decide) ?_
    refine lv_icmp_ge (tgt := 55) hx hb dX5_jubilee_23 (by decide) (fun c5 => ?_) (fun c5 => ?_)
    · have hb4 := cd_ite_t c5 hb4
      have z : some (Sum.inl (Sum.inr ())) = some o4 := hb4
      cases z
      exact K4 _ hk4 _ _ _ (lv_sub hl [0, 1] rfl) hw
    · have hb4 := cd_ite_f c5 hb4
      refine lv_iload_n hx hb dX5_jubilee_26 rfl (lv_at hl 1 rfl) ?_
      refine lv_iload_n hx hb dX5_jubilee_27 rfl (lv_at hl 2 rfl) ?_
      obtain ⟨r6, e6, hb4⟩ := cd_bind_some hb4
      refine cd_callS (As := [.int a0, .int z4]) (rest := []) C0 hw (c_X5_holds l G cI cZ sa sb a0 z4 r6 e6) [] rfl rfl (va_cwS 2 hts gX5_jubilee_X5_holds rfl rfl rfl (by decide +kernel) ⟨Nat.le_of_ble_eq_true rfl, Nat.le_of_ble_eq_true rfl⟩) rfl hl.1 (lv_room (Nat.le_of_ble_eq_true rfl)) dX5_jubilee_28 (fun H locs hw => ?_)
      refine lv_if_eq (tgt := 49) hx hb dX5_jubilee_31 (by decide) (fun c7 => ?_) (fun c7 => ?_)
      · have hb4 := cd_ite_t c7 hb4
        refine lv_iinc (v := (z4 + (1 : Int32))) (lv' := [(2, .int (z4 + (1 : Int32))), (0, .ref (h 0)), (1, .int a0)]) hx hb dX5_jubilee_49 hl (k := 2) rfl rfl (by decide) rfl (fun ls hl => ?_)
        refine lv_goto (tgt := 20) hx hb dX5_jubilee_52 (by decide) ?_
        have z : some (Sum.inr (z4 + (1 : Int32))) = some o4 := hb4
        cases z
        exact hk4 _ _ _ (lv_sub hl [1, 2, 0] rfl) hw
      · have hb4 := cd_ite_f c7 hb4
        refine lv_aload_n hx hb dX5_jubilee_34 rfl (lv_at hl 0 rfl) ?_
        refine va_get (D := G) (ci := 5) (v := .ref (ht 0)) (C := RX5) (T := TX5) (N := 8) hx hb hts nw_X5_jubilee_X5 hown hK hw.1 0 rfl rfl 0 (by decide) hL0 (fun _ h9 => h9) rfl dX5_jubilee_35 ?_
        refine va_get (D := G) (ci := 3) (v := .ref (ht 1)) (C := RX3) (T := TX3) (N := 14) hx hb hts nw_X5_jubilee_X3 hown hK hw.1 2 rfl rfl 0 (by decide) hL1 (fun _ h9 => h9) rfl dX5_jubilee_38 ?_
        refine lv_iload_n hx hb dX5_jubilee_41 rfl (lv_at hl 2 rfl) ?_
        obtain ⟨v8, e8, hb4⟩ := cd_bind_some hb4
        refine cd_iald hx hb hK hw 3 rfl e8 dX5_jubilee_42 ?_
        refine lv_if_ne (tgt := 49) hx hb dX5_jubilee_43 (by decide) (fun c9 => ?_) (fun c9 => ?_)
        · have hb4 := cd_ite_f c9 hb4
          refine lv_iinc (v := (z4 + (1 : Int32))) (lv' := [(2, .int (z4 + (1 : Int32))), (0, .ref (h 0)), (1, .int a0)]) hx hb dX5_jubilee_49 hl (k := 2) rfl rfl (by decide) rfl (fun ls hl => ?_)
          refine lv_goto (tgt := 20) hx hb dX5_jubilee_52 (by decide) ?_
          have z : some (Sum.inr (z4 + (1 : Int32))) = some o4 := hb4
          cases z
          exact hk4 _ _ _ (lv_sub hl [1, 2, 0] rfl) hw
        · have hb4 := cd_ite_t c9 hb4
          refine lv_bipush (v := (-6 : Int32)) hx hb dX5_jubilee_46 (by decide) ?_
          have z : some (Sum.inl (Sum.inl (-6 : Int32))) = some o4 := hb4
          cases z
          have y4 : Sum.inl (-6 : Int32) = x4 := hk4
          subst y4
          have z : some (-6 : Int32) = some o := hf
          cases z
          rw [hQ]
          exact cd_reti C0 hw dX5_jubilee_48
  · have hf := cd_ite_t c3 hf
    refine lv_bipush (v := (-2 : Int32)) hx hb dX5_jubilee_15 (by decide) ?_
    have z : some (-2 : Int32) = some o := hf
    cases z
    rw [hQ]
    exact cd_reti C0 hw dX5_jubilee_17
abbrev rm_X5_judge : Room := { frames := 5, cells := 0, slots := 0, locals := 114 }
theorem nw_X5_judge_X1 : ∀ w ∈ u_ws RX1 TX1 6, w ∈ wsX5_judge := by decide +kernel
theorem nw_X5_judge_X5 : ∀ w ∈ u_ws RX5 TX5 8, w ∈ wsX5_judge := by decide +kernel
set_option maxHeartbeats 4000000 in
set_option maxRecDepth 100000 in
theorem c_X5_judge (l : Launch) (G : va_G) (cI cZ : ClassId) (sa sb : Nat) (h ht h1 h2 hp hy hs hv hz : Nat → Nat) (K T P Y S : Nat → Nat → Int32) (a0 : Int32) (o : Int32 × (Nat → Nat → Int32) × (Nat → Nat → Int32) × (Nat → Nat → Int32)) (hf : f_X5_judge a0 K T P Y S = some o) : cd_Ct l G cI cZ sa sb yX5_judge wsX5_judge rm_X5_judge [.ref (h 0), .int a0] ((pc_top cZ h ht h1 h2 hp hy hv hz K) ++ (pc_town cI ht T) ++ (pc_pad cI hp P) ++ (pc_play hy hs Y) ++ (pc_town cI hs S)) ((pc_top cZ h ht h1 h2 hp hy hv hz K) ++ (pc_town cI ht T) ++ (pc_pad cI hp o.2.1) ++ (pc_play hy hs o.2.2.1) ++ (pc_town cI hs o.2.2.2)) (some (.int o.1)) := by
  refine cd_of (cc := cX5_judge) (maxL := 2) (ret := (some .int)) (by decide) rfl (Nat.le_of_ble_eq_true rfl) ?_
  intro p e s m ag below meth c A ls Q C0 hl hw hQ
  have C0 : cd_CX G cI cZ sa sb p s m ag meth c cX5_judge 2 (some .int) wsX5_judge RX5 A := C0
  obtain ⟨⟨hx, hb, hml, hown, hts⟩, hr, hlocks, hA, hE⟩ := id C0
  have hK := hE.1
  have hL0 := hts (.fieldLink RX5 29 "CandleDebts" "pad" "LCandleDebts$Pad;") (by decide +kernel)
  have hL1 := hts (.fieldLink RX5 36 "CandleDebts" "play" "LCandleDebts$Play;") (by decide +kernel)
  have hL2 := hts (.fieldLink RX5 12 "CandleDebts" "town" "LCandleDebts$Town;") (by decide +kernel)
  have hL3 := hts (.fieldLink RX5 97 "CandleDebts$Play" "acts" "I") (by decide +kernel)
  have hL4 := hts (.fieldLink RX5 100 "CandleDebts$Play" "why" "I") (by decide +kernel)
  have hl : lv_has ls 2 [(0, .ref (h 0)), (1, .int a0)] := hl
  unfold f_X5_judge at hf
  refine lv_iload_n hx hb dX5_judge_0 rfl (lv_at hl 1 rfl) ?_
  refine lv_iconst (v := (0 : Int32)) hx hb dX5_judge_1 (by decide) ?_
  refine lv_iconst (v := (1 : Int32)) hx hb dX5_judge_2 (by decide) ?_
  obtain ⟨r1, e1, hf⟩ := cd_bind_some hf
  refine cd_callS (As := [.int a0, .int (0 : Int32), .int (1 : Int32)]) (rest := []) C0 hw (c_X5_within l G cI cZ sa sb a0 (0 : Int32) (1 : Int32) r1 e1) [] rfl rfl (va_cwS 3 hts gX5_judge_X5_within rfl rfl rfl (by decide +kernel) ⟨Nat.le_of_ble_eq_true rfl, Nat.le_of_ble_eq_true rfl⟩) rfl hl.1 (lv_room (Nat.le_of_ble_eq_true rfl)) dX5_judge_3 (fun H locs hw => ?_)
  refine lv_if_ne (tgt := 12) hx hb dX5_judge_6 (by decide) (fun c2 => ?_) (fun c2 => ?_)
  · have hf := cd_ite_f c2 hf
    refine lv_aload_n hx hb dX5_judge_12 rfl (lv_at hl 0 rfl) ?_
    refine va_get (D := G) (ci := 5) (v := .ref (hp 0)) (C := RX5) (T := TX5) (N := 8) hx hb hts nw_X5_judge_X5 hown hK hw.1 0 rfl rfl 4 (by decide) hL0 (fun _ h9 => h9) rfl dX5_judge_13 ?_
    obtain ⟨r3, e3, hf⟩ := cd_bind_some hf
    refine cd_callVw (As := []) (rest := []) (wr := (pc_top cZ h ht h1 h2 hp hy hv hz K) ++ (pc_town cI ht T) ++ (pc_play hy hs Y) ++ (pc_town cI hs S)) (wn := (pc_top cZ h ht h1 h2 hp hy hv hz K) ++ (pc_town cI ht T) ++ (pc_pad cI hp r3.2) ++ (pc_play hy hs Y) ++ (pc_town cI hs S)) C0 hw (c_X0_firstFault l G cI cZ sa sb hp P r3 e3) [13, 14] [0, 1, 2, 3, 4, 5, 6, 7, 8, 9, 10, 11, 12, 15, 16, 17, 18, 19, 20, 21, 22, 23, 24, 25, 26] [0, 1, 2, 3, 4, 5, 6, 7, 8, 9, 10, 11, 12, 25, 26, 13, 14, 15, 16, 17, 18, 19, 20, 21, 22, 23, 24] rfl rfl rfl rfl (by decide) rfl rfl 0 0 rfl rfl rfl (cwV 0 hts gX5_judge_X0_firstFault rfl rfl rfl (by decide +kernel) ⟨Nat.le_of_ble_eq_true rfl, Nat.le_of_ble_eq_true rfl⟩) rfl hl.1 (lv_room (Nat.le_of_ble_eq_true rfl)) dX5_judge_16 (fun H locs hw => ?_)
    refine lv_bipush (v := (-6 : Int32)) hx hb dX5_judge_19 (by decide) ?_
    refine lv_icmp_eq (tgt := 27) hx hb dX5_judge_21 (by decide) (fun c4 => ?_) (fun c4 => ?_)
    · have hf := cd_ite_t c4 hf
      refine lv_aload_n hx hb dX5_judge_27 rfl (lv_at hl 0 rfl) ?_
      refine va_get (D := G) (ci := 5) (v := .ref (hy 0)) (C := RX5) (T := TX5) (N := 8) hx hb hts nw_X5_judge_X5 hown hK hw.1 0 rfl rfl 5 (by decide) hL1 (fun _ h9 => h9) rfl dX5_judge_28 ?_
      refine lv_aload_n hx hb dX5_judge_31 rfl (lv_at hl 0 rfl) ?_
      refine va_get (D := G) (ci := 5) (v := .ref (ht 0)) (C := RX5) (T := TX5) (N := 8) hx hb hts nw_X5_judge_X5 hown hK hw.1 0 rfl rfl 0 (by decide) hL2 (fun _ h9 => h9) rfl dX5_judge_32 ?_
      refine lv_aload_n hx hb dX5_judge_35 rfl (lv_at hl 0 rfl) ?_
      refine va_get (D := G) (ci := 5) (v := .ref (hp 0)) (C := RX5) (T := TX5) (N := 8) hx hb hts nw_X5_judge_X5 hown hK hw.1 0 rfl rfl 4 (by decide) hL0 (fun _ h9 => h9) rfl dX5_judge_36 ?_
      obtain ⟨r5, e5, hf⟩ := cd_bind_some hf
      refine cd_callVw (As := [.ref (ht 0), .ref (hp 0)]) (rest := []) (wr := (pc_top cZ h ht h1 h2 hp hy hv hz K)) (wn := (pc_top cZ h ht h1 h2 hp hy hv hz K) ++ (pc_town cI ht T) ++ (pc_pad cI hp r5.2.2.2) ++ (pc_play hy hs r5.2.1) ++ (pc_town cI hs r5.2.2.1)) C0 hw (c_X1_night l G cI cZ sa sb hy hs ht hp Y S T r3.2 r5 e5) [15, 16, 17, 18, 19, 20, 21, 22, 23, 24, 25, 26, 2, 3, 4, 5, 6, 7, 8, 9, 10, 11, 12, 13, 14] [0, 1] [0, 1, 14, 15, 16, 17, 18, 19, 20, 21, 22, 23, 24, 25, 26, 2, 3, 4, 5, 6, 7, 8, 9, 10, 11, 12, 13] rfl rfl rfl rfl (by decide) rfl rfl 0 1 rfl rfl rfl (cwV 2 hts gX5_judge_X1_night rfl rfl rfl (by decide +kernel) ⟨Nat.le_of_ble_eq_true rfl, Nat.le_of_ble_eq_true rfl⟩) rfl hl.1 (lv_room (Nat.le_of_ble_eq_true rfl)) dX5_judge_39 (fun H locs hw => ?_)
      refine lv_if_eq (tgt := 48) hx hb dX5_judge_42 (by decide) (fun c6 => ?_) (fun c6 => ?_)
      · have hf := cd_ite_t c6 hf
        refine lv_iload_n hx hb dX5_judge_48 rfl (lv_at hl 1 rfl) ?_
        obtain ⟨x7, e7, hf⟩ := cd_bind_some hf
        have K7 : ∀ (ls : Array Slot) (H : Heap) (locs : List Loc), lv_has ls 2 [] → cd_WS G A s.heap H locs ((pc_top cZ h ht h1 h2 hp hy hv hz K) ++ (pc_town cI ht T) ++ (pc_pad cI hp r5.2.2.2) ++ (pc_play hy hs r5.2.1) ++ (pc_town cI hs r5.2.2.1)) → W p l e rm_X5_judge s m ag below meth c H locs 0 0 Q (F0 m 69 ls [.int x7]) := by
          intro ls H locs hl hw
          have z : some (x7, r5.2.2.2, r5.2.1, r5.2.2.1) = some o := hf
          cases z
          rw [hQ]
          exact cd_reti C0 hw dX5_judge_69
        refine lv_if_ne (tgt := 62) hx hb dX5_judge_49 (by decide) (fun c7 => ?_) (fun c7 => ?_)
        · have e7 := cd_ite_f c7 e7
          refine lv_aload_n hx hb dX5_judge_62 rfl (lv_at hl 0 rfl) ?_
          refine va_get (D := G) (ci := 5) (v := .ref (hy 0)) (C := RX5) (T := TX5) (N := 8) hx hb hts nw_X5_judge_X5 hown hK hw.1 0 rfl rfl 5 (by decide) hL1 (fun _ h9 => h9) rfl dX5_judge_63 ?_
          refine va_get (D := G) (ci := 1) (v := .int (r5.2.1 2 0)) (C := RX1) (T := TX1) (N := 6) hx hb hts nw_X5_judge_X1 hown hK hw.1 15 rfl rfl 2 (by decide) hL4 (fun _ h9 => h9) rfl dX5_judge_66 ?_
          have z : some (r5.2.1 2 0) = some x7 := e7
          cases z
          exact K7 _ _ _ (lv_sub hl [] rfl) hw
        · have e7 := cd_ite_t c7 e7
          refine lv_aload_n hx hb dX5_judge_52 rfl (lv_at hl 0 rfl) ?_
          refine va_get (D := G) (ci := 5) (v := .ref (hy 0)) (C := RX5) (T := TX5) (N := 8) hx hb hts nw_X5_judge_X5 hown hK hw.1 0 rfl rfl 5 (by decide) hL1 (fun _ h9 => h9) rfl dX5_judge_53 ?_
          refine va_get (D := G) (ci := 1) (v := .int (r5.2.1 1 0)) (C := RX1) (T := TX1) (N := 6) hx hb hts nw_X5_judge_X1 hown hK hw.1 15 rfl rfl 1 (by decide) hL3 (fun _ h9 => h9) rfl dX5_judge_56 ?_
          refine lv_goto (tgt := 69) hx hb dX5_judge_59 (by decide) ?_
          have z : some (r5.2.1 1 0) = some x7 := e7
          cases z
          exact K7 _ _ _ (lv_sub hl [] rfl) hw
      · have hf := cd_ite_f c6 hf
        refine lv_bipush (v := (-6 : Int32)) hx hb dX5_judge_45 (by decide) ?_
        have z : some ((-6 : Int32), r5.2.2.2, r5.2.1, r5.2.2.1) = some o := hf
        cases z
        rw [hQ]
        exact cd_reti C0 hw dX5_judge_47
    · have hf := cd_ite_f c4 hf
      refine lv_bipush (v := (-5 : Int32)) hx hb dX5_judge_24 (by decide) ?_
      have z : some ((-5 : Int32), r3.2, Y, S) = some o := hf
      cases z
      rw [hQ]
      exact cd_reti C0 hw dX5_judge_26
  · have hf := cd_ite_t c2 hf
    refine lv_bipush (v := (-2 : Int32)) hx hb dX5_judge_9 (by decide) ?_
    have z : some ((-2 : Int32), P, Y, S) = some o := hf
    cases z
    rw [hQ]
    exact cd_reti C0 hw dX5_judge_11
abbrev rm_X5_lasts : Room := { frames := 3, cells := 0, slots := 0, locals := 67 }
theorem nw_X5_lasts_X5 : ∀ w ∈ u_ws RX5 TX5 8, w ∈ wsX5_lasts := by decide +kernel
set_option maxHeartbeats 4000000 in
set_option maxRecDepth 100000 in
theorem c_X5_lasts (l : Launch) (G : va_G) (cI cZ : ClassId) (sa sb : Nat) (h ht h1 h2 hp hy hs hv hz : Nat → Nat) (K T : Nat → Nat → Int32) (a0 : Int32) (o : Int32) (hf : f_X5_lasts a0 K T = some o) : cd_Ct l G cI cZ sa sb yX5_lasts wsX5_lasts rm_X5_lasts [.ref (h 0), .int a0] ((pc_top cZ h ht h1 h2 hp hy hv hz K) ++ (pc_town cI ht T)) ((pc_top cZ h ht h1 h2 hp hy hv hz K) ++ (pc_town cI ht T)) (some (.int o)) := by
  refine cd_of (cc := cX5_lasts) (maxL := 2) (ret := (some .int)) (by decide) rfl (Nat.le_of_ble_eq_true rfl) ?_
  intro p e s m ag below meth c A ls Q C0 hl hw hQ
  have C0 : cd_CX G cI cZ sa sb p s m ag meth c cX5_lasts 2 (some .int) wsX5_lasts RX5 A := C0
  obtain ⟨⟨hx, hb, hml, hown, hts⟩, hr, hlocks, hA, hE⟩ := id C0
  have hK := hE.1
  have hL0 := hts (.fieldLink RX5 12 "CandleDebts" "town" "LCandleDebts$Town;") (by decide +kernel)
  have hl : lv_has ls 2 [(0, .ref (h 0)), (1, .int a0)] := hl
  unfold f_X5_lasts at hf
  refine lv_iload_n hx hb dX5_lasts_0 rfl (lv_at hl 1 rfl) ?_
  obtain ⟨r1, e1, hf⟩ := cd_bind_some hf
  refine cd_callS (As := [.int a0]) (rest := []) C0 hw (c_X5_isCandle l G cI cZ sa sb a0 r1 e1) [] rfl rfl (va_cwS 1 hts gX5_lasts_X5_isCandle rfl rfl rfl (by decide +kernel) ⟨Nat.le_of_ble_eq_true rfl, Nat.le_of_ble_eq_true rfl⟩) rfl hl.1 (lv_room (Nat.le_of_ble_eq_true rfl)) dX5_lasts_1 (fun H locs hw => ?_)
  obtain ⟨x2, e2, hf⟩ := cd_bind_some hf
  have K2 : ∀ (ls : Array Slot) (H : Heap) (locs : List Loc), lv_has ls 2 [] → cd_WS G A s.heap H locs ((pc_top cZ h ht h1 h2 hp hy hv hz K) ++ (pc_town cI ht T)) → W p l e rm_X5_lasts s m ag below meth c H locs 0 0 Q (F0 m 19 ls [.int x2]) := by
    intro ls H locs hl hw
    have z : some x2 = some o := hf
    cases z
    rw [hQ]
    exact cd_reti C0 hw dX5_lasts_19
  refine lv_if_eq (tgt := 18) hx hb dX5_lasts_4 (by decide) (fun c2 => ?_) (fun c2 => ?_)
  · have e2 := cd_ite_t c2 e2
    refine lv_iconst (v := (-1 : Int32)) hx hb dX5_lasts_18 (by decide) ?_
    have z : some (-1 : Int32) = some x2 := e2
    cases z
    exact K2 _ _ _ (lv_sub hl [] rfl) hw
  · have e2 := cd_ite_f c2 e2
    refine lv_aload_n hx hb dX5_lasts_7 rfl (lv_at hl 0 rfl) ?_
    refine va_get (D := G) (ci := 5) (v := .ref (ht 0)) (C := RX5) (T := TX5) (N := 8) hx hb hts nw_X5_lasts_X5 hown hK hw.1 0 rfl rfl 0 (by decide) hL0 (fun _ h9 => h9) rfl dX5_lasts_8 ?_
    refine lv_iload_n hx hb dX5_lasts_11 rfl (lv_at hl 1 rfl) ?_
    obtain ⟨r3, e3, e2⟩ := cd_bind_some e2
    refine cd_callV (As := [.int a0]) (rest := []) C0 hw (c_X3_minutesLeft l G cI cZ sa sb ht T a0 r3 e3) [2, 3, 4, 5, 6, 7, 8, 9, 10, 11, 12] rfl rfl 0 3 rfl rfl rfl (cwV 1 hts gX5_lasts_X3_minutesLeft rfl rfl rfl (by decide +kernel) ⟨Nat.le_of_ble_eq_true rfl, Nat.le_of_ble_eq_true rfl⟩) rfl hl.1 (lv_room (Nat.le_of_ble_eq_true rfl)) dX5_lasts_12 (fun H locs hw => ?_)
    refine lv_goto (tgt := 19) hx hb dX5_lasts_15 (by decide) ?_
    have z : some r3 = some x2 := e2
    cases z
    exact K2 _ _ _ (lv_sub hl [] rfl) hw
abbrev rm_X5_look : Room := { frames := 6, cells := 0, slots := 0, locals := 140 }
theorem nw_X5_look_X5 : ∀ w ∈ u_ws RX5 TX5 8, w ∈ wsX5_look := by decide +kernel
set_option maxHeartbeats 4000000 in
set_option maxRecDepth 100000 in
theorem c_X5_look (l : Launch) (G : va_G) (cI cZ : ClassId) (sa sb : Nat) (h ht h1 h2 hp hy hs hv hz : Nat → Nat) (K T Z : Nat → Nat → Int32) (a0 : Int32) (o : Int32 × (Nat → Nat → Int32)) (hf : f_X5_look a0 K T Z = some o) : cd_Ct l G cI cZ sa sb yX5_look wsX5_look rm_X5_look [.ref (h 0), .int a0] ((pc_top cZ h ht h1 h2 hp hy hv hz K) ++ (pc_town cI ht T) ++ (pc_snz cI hz Z)) ((pc_top cZ h ht h1 h2 hp hy hv hz K) ++ (pc_town cI ht T) ++ (pc_snz cI hz o.2)) (some (.int o.1)) := by
  refine cd_of (cc := cX5_look) (maxL := 6) (ret := (some .int)) (by decide) rfl (Nat.le_of_ble_eq_true rfl) ?_
  intro p e s m ag below meth c A ls Q C0 hl hw hQ
  have C0 : cd_CX G cI cZ sa sb p s m ag meth c cX5_look 6 (some .int) wsX5_look RX5 A := C0
  obtain ⟨⟨hx, hb, hml, hown, hts⟩, hr, hlocks, hA, hE⟩ := id C0
  have hK := hE.1
  have hL0 := hts (.fieldLink RX5 50 "CandleDebts" "sneezing" "LCandleDebts$Sneezing;") (by decide +kernel)
  have hL1 := hts (.fieldLink RX5 12 "CandleDebts" "town" "LCandleDebts$Town;") (by decide +kernel)
  have hl : lv_has ls 6 [(0, .ref (h 0)), (1, .int a0)] := hl
  unfold f_X5_look at hf
  refine lv_iload_n hx hb dX5_look_0 rfl (lv_at hl 1 rfl) ?_
  refine lv_iconst (v := (0 : Int32)) hx hb dX5_look_1 (by decide) ?_
  refine lv_iconst (v := (1 : Int32)) hx hb dX5_look_2 (by decide) ?_
  obtain ⟨r1, e1, hf⟩ := cd_bind_some hf
  refine cd_callS (As := [.int a0, .int (0 : Int32), .int (1 : Int32)]) (rest := []) C0 hw (c_X5_within l G cI cZ sa sb a0 (0 : Int32) (1 : Int32) r1 e1) [] rfl rfl (va_cwS 3 hts gX5_look_X5_within rfl rfl rfl (by decide +kernel) ⟨Nat.le_of_ble_eq_true rfl, Nat.le_of_ble_eq_true rfl⟩) rfl hl.1 (lv_room (Nat.le_of_ble_eq_true rfl)) dX5_look_3 (fun H locs hw => ?_)
  refine lv_if_ne (tgt := 12) hx hb dX5_look_6 (by decide) (fun c2 => ?_) (fun c2 => ?_)
  · have hf := cd_ite_f c2 hf
    refine lv_aload_n hx hb dX5_look_12 rfl (lv_at hl 0 rfl) ?_
    refine va_get (D := G) (ci := 5) (v := .ref (hz 0)) (C := RX5) (T := TX5) (N := 8) hx hb hts nw_X5_look_X5 hown hK hw.1 0 rfl rfl 7 (by decide) hL0 (fun _ h9 => h9) rfl dX5_look_13 ?_
    refine lv_aload_n hx hb dX5_look_16 rfl (lv_at hl 0 rfl) ?_
    refine va_get (D := G) (ci := 5) (v := .ref (ht 0)) (C := RX5) (T := TX5) (N := 8) hx hb hts nw_X5_look_X5 hown hK hw.1 0 rfl rfl 0 (by decide) hL1 (fun _ h9 => h9) rfl dX5_look_17 ?_
    obtain ⟨r3, e3, hf⟩ := cd_bind_some hf
    refine cd_callVw (As := [.ref (ht 0)]) (rest := []) (wr := (pc_top cZ h ht h1 h2 hp hy hv hz K)) (wn := (pc_top cZ h ht h1 h2 hp hy hv hz K) ++ (pc_town cI ht T) ++ (pc_snz cI hz r3)) C0 hw (c_X2_fit l G cI cZ sa sb hz ht Z T r3 e3) [13, 14, 15, 16, 2, 3, 4, 5, 6, 7, 8, 9, 10, 11, 12] [0, 1] [0, 1, 6, 7, 8, 9, 10, 11, 12, 13, 14, 15, 16, 2, 3, 4, 5] rfl rfl rfl rfl (by decide) rfl rfl 0 2 rfl rfl rfl (cwV 1 hts gX5_look_X2_fit rfl rfl rfl (by decide +kernel) ⟨Nat.le_of_ble_eq_true rfl, Nat.le_of_ble_eq_true rfl⟩) rfl hl.1 (lv_room (Nat.le_of_ble_eq_true rfl)) dX5_look_20 (fun H locs hw => ?_)
    refine lv_aload_n hx hb dX5_look_23 rfl (lv_at hl 0 rfl) ?_
    refine va_get (D := G) (ci := 5) (v := .ref (hz 0)) (C := RX5) (T := TX5) (N := 8) hx hb hts nw_X5_look_X5 hown hK hw.1 0 rfl rfl 7 (by decide) hL0 (fun _ h9 => h9) rfl dX5_look_24 ?_
    obtain ⟨r4, e4, hf⟩ := cd_bind_some hf
    refine cd_callV (As := []) (rest := []) C0 hw (c_X2_howMany l G cI cZ sa sb hz r3 r4 e4) [13, 14, 15, 16] rfl rfl 0 2 rfl rfl rfl (cwV 0 hts gX5_look_X2_howMany rfl rfl rfl (by decide +kernel) ⟨Nat.le_of_ble_eq_true rfl, Nat.le_of_ble_eq_true rfl⟩) rfl hl.1 (lv_room (Nat.le_of_ble_eq_true rfl)) dX5_look_27 (fun H locs hw => ?_)
    refine lv_if_ne (tgt := 36) hx hb dX5_look_30 (by decide) (fun c5 => ?_) (fun c5 => ?_)
    · have hf := cd_ite_f c5 hf
      refine lv_iconst (v := (0 : Int32)) hx hb dX5_look_36 (by decide) ?_
      refine lv_istore_n (lv' := [(2, .int (0 : Int32)), (0, .ref (h 0)), (1, .int a0)]) hx hb dX5_look_37 rfl hl (by decide) rfl (fun ls hl => ?_)
      refine lv_aload_n hx hb dX5_look_38 rfl (lv_at hl 1 rfl) ?_
      refine va_get (D := G) (ci := 5) (v := .ref (hz 0)) (C := RX5) (T := TX5) (N := 8) hx hb hts nw_X5_look_X5 hown hK hw.1 0 rfl rfl 7 (by decide) hL0 (fun _ h9 => h9) rfl dX5_look_39 ?_
      refine lv_aload_n hx hb dX5_look_42 rfl (lv_at hl 1 rfl) ?_
      refine va_get (D := G) (ci := 5) (v := .ref (ht 0)) (C := RX5) (T := TX5) (N := 8) hx hb hts nw_X5_look_X5 hown hK hw.1 0 rfl rfl 0 (by decide) hL1 (fun _ h9 => h9) rfl dX5_look_43 ?_
      refine lv_iconst (v := (0 : Int32)) hx hb dX5_look_46 (by decide) ?_
      obtain ⟨r6, e6, hf⟩ := cd_bind_some hf
      refine cd_callVw (As := [.ref (ht 0), .int (0 : Int32)]) (rest := []) (wr := (pc_top cZ h ht h1 h2 hp hy hv hz K)) (wn := (pc_top cZ h ht h1 h2 hp hy hv hz K) ++ (pc_town cI ht T) ++ (pc_snz cI hz r6.2)) C0 hw (c_X2_mostLeft l G cI cZ sa sb hz ht r3 T (0 : Int32) r6 e6) [13, 14, 15, 16, 2, 3, 4, 5, 6, 7, 8, 9, 10, 11, 12] [0, 1] [0, 1, 6, 7, 8, 9, 10, 11, 12, 13, 14, 15, 16, 2, 3, 4, 5] rfl rfl rfl rfl (by decide) rfl rfl 0 2 rfl rfl rfl (cwV 2 hts gX5_look_X2_mostLeft rfl rfl rfl (by decide +kernel) ⟨Nat.le_of_ble_eq_true rfl, Nat.le_of_ble_eq_true rfl⟩) rfl hl.1 (lv_room (Nat.le_of_ble_eq_true rfl)) dX5_look_47 (fun H locs hw => ?_)
      refine lv_istore_n (lv' := [(3, .int r6.1), (2, .int (0 : Int32)), (0, .ref (h 0)), (1, .int a0)]) hx hb dX5_look_50 rfl hl (by decide) rfl (fun ls hl => ?_)
      refine lv_iconst (v := (1 : Int32)) hx hb dX5_look_51 (by decide) ?_
      refine lv_istore (lv' := [(4, .int (1 : Int32)), (3, .int r6.1), (2, .int (0 : Int32)), (0, .ref (h 0)), (1, .int a0)]) hx hb dX5_look_52 hl (by decide) rfl (fun ls hl => ?_)
      obtain ⟨x7, e7, hf⟩ := cd_bind_some hf
      have K7 : ∀ (t7 : Int32 × Int32 × (Nat → Nat → Int32)), t7 = x7 → ∀ (ls : Array Slot) (H : Heap) (locs : List Loc), lv_has ls 6 [(1, .int a0), (2, .int t7.1), (3, .int t7.2.1)] → cd_WS G A s.heap H locs ((pc_top cZ h ht h1 h2 hp hy hv hz K) ++ (pc_town cI ht T) ++ (pc_snz cI hz t7.2.2)) → W p l e rm_X5_look s m ag below meth c H locs 0 0 Q (F0 m 94 ls []) := by
        intro t7 hs_7
        subst hs_7
        intro ls H locs hl hw
        refine lv_iload_n hx hb dX5_look_94 rfl (lv_at hl 0 rfl) ?_
        obtain ⟨x11, e11, hf⟩ := cd_bind_some hf
        have K11 : ∀ (ls : Array Slot) (H : Heap) (locs : List Loc), lv_has ls 6 [] → cd_WS G A s.heap H locs ((pc_top cZ h ht h1 h2 hp hy hv hz K) ++ (pc_town cI ht T) ++ (pc_snz cI hz t7.2.2)) → W p l e rm_X5_look s m ag below meth c H locs 0 0 Q (F0 m 103 ls [.int x11]) := by
          intro ls H locs hl hw
          have z : some (x11, t7.2.2) = some o := hf
          cases z
          rw [hQ]
          exact cd_reti C0 hw dX5_look_103
        refine lv_if_ne (tgt := 102) hx hb dX5_look_95 (by decide) (fun c11 => ?_) (fun c11 => ?_)
        · have e11 := cd_ite_f c11 e11
          refine lv_iload_n hx hb dX5_look_102 rfl (lv_at hl 2 rfl) ?_
          have z : some t7.2.1 = some x11 := e11
          cases z
          exact K11 _ _ _ (lv_sub hl [] rfl) hw
        · have e11 := cd_ite_t c11 e11
          refine lv_iload_n hx hb dX5_look_98 rfl (lv_at hl 1 rfl) ?_
          refine lv_goto (tgt := 103) hx hb dX5_look_99 (by decide) ?_
          have z : some t7.1 = some x11 := e11
          cases z
          exact K11 _ _ _ (lv_sub hl [] rfl) hw
      refine cd_iter_ind (body := (f_X5_look_b54 T)) (K := fun r => r = x7) (P := fun (z7 : Int32 × Int32 × Int32 × (Nat → Nat → Int32)) => ∀ (ls : Array Slot) (H : Heap) (locs : List Loc), lv_has ls 6 [(0, .ref (h 0)), (1, .int a0), (2, .int z7.1), (3, .int z7.2.1), (4, .int z7.2.2.1)] → cd_WS G A s.heap H locs ((pc_top cZ h ht h1 h2 hp hy hv hz K) ++ (pc_town cI ht T) ++ (pc_snz cI hz z7.2.2.2)) → W p l e rm_X5_look s m ag below meth c H locs 0 0 Q (F0 m 54 ls [])) ?_ cd_N ((0 : Int32), r6.1, (1 : Int32), r6.2) x7 e7 rfl _ _ _ (lv_sub hl [3, 4, 2, 1, 0] rfl) hw
      intro z7 o7 hb7 hk7 ls H locs hl hw
      unfold f_X5_look_b54 at hb7
      refine lv_iload hx hb dX5_look_54 (lv_at hl 4 rfl) ?_
      refine lv_bipush (v := (12 : Int32)) hx hb dX5_look_56 (by decide) ?_
      refine lv_icmp_ge (tgt := 94) hx hb dX5_look_58 (by decide) (fun c8 => ?_) (fun c8 => ?_)
      · have hb7 := cd_ite_t c8 hb7
        have z : some (Sum.inl (z7.1, z7.2.1, z7.2.2.2)) = some o7 := hb7
        cases z
        exact K7 _ hk7 _ _ _ (lv_sub hl [1, 2, 3] rfl) hw
      · have hb7 := cd_ite_f c8 hb7
        refine lv_aload_n hx hb dX5_look_61 rfl (lv_at hl 0 rfl) ?_
        refine va_get (D := G) (ci := 5) (v := .ref (hz 0)) (C := RX5) (T := TX5) (N := 8) hx hb hts nw_X5_look_X5 hown hK hw.1 0 rfl rfl 7 (by decide) hL0 (fun _ h9 => h9) rfl dX5_look_62 ?_
        refine lv_aload_n hx hb dX5_look_65 rfl (lv_at hl 0 rfl) ?_
        refine va_get (D := G) (ci := 5) (v := .ref (ht 0)) (C := RX5) (T := TX5) (N := 8) hx hb hts nw_X5_look_X5 hown hK hw.1 0 rfl rfl 0 (by decide) hL1 (fun _ h9 => h9) rfl dX5_look_66 ?_
        refine lv_iload hx hb dX5_look_69 (lv_at hl 4 rfl) ?_
        obtain ⟨r9, e9, hb7⟩ := cd_bind_some hb7
        refine cd_callVw (As := [.ref (ht 0), .int z7.2.2.1]) (rest := []) (wr := (pc_top cZ h ht h1 h2 hp hy hv hz K)) (wn := (pc_top cZ h ht h1 h2 hp hy hv hz K) ++ (pc_town cI ht T) ++ (pc_snz cI hz r9.2)) C0 hw (c_X2_mostLeft l G cI cZ sa sb hz ht z7.2.2.2 T z7.2.2.1 r9 e9) [13, 14, 15, 16, 2, 3, 4, 5, 6, 7, 8, 9, 10, 11, 12] [0, 1] [0, 1, 6, 7, 8, 9, 10, 11, 12, 13, 14, 15, 16, 2, 3, 4, 5] rfl rfl rfl rfl (by decide) rfl rfl 0 2 rfl rfl rfl (cwV 2 hts gX5_look_X2_mostLeft rfl rfl rfl (by decide +kernel) ⟨Nat.le_of_ble_eq_true rfl, Nat.le_of_ble_eq_true rfl⟩) rfl hl.1 (lv_room (Nat.le_of_ble_eq_true rfl)) dX5_look_71 (fun H locs hw => ?_)
        refine lv_istore (lv' := [(5, .int r9.1), (0, .ref (h 0)), (1, .int a0), (2, .int z7.1), (3, .int z7.2.1), (4, .int z7.2.2.1)]) hx hb dX5_look_74 hl (by decide) rfl (fun ls hl => ?_)
        refine lv_iload hx hb dX5_look_76 (lv_at hl 0 rfl) ?_
        refine lv_iload_n hx hb dX5_look_78 rfl (lv_at hl 4 rfl) ?_
        refine lv_icmp_ge (tgt := 88) hx hb dX5_look_79 (by decide) (fun c10 => ?_) (fun c10 => ?_)
        · have hb7 := cd_ite_t c10 hb7
          refine lv_iinc (v := (z7.2.2.1 + (1 : Int32))) (lv' := [(4, .int (z7.2.2.1 + (1 : Int32))), (5, .int r9.1), (0, .ref (h 0)), (1, .int a0), (2, .int z7.1), (3, .int z7.2.1)]) hx hb dX5_look_88 hl (k := 5) rfl rfl (by decide) rfl (fun ls hl => ?_)
          refine lv_goto (tgt := 54) hx hb dX5_look_91 (by decide) ?_
          have z : some (Sum.inr (z7.1, z7.2.1, (z7.2.2.1 + (1 : Int32)), r9.2)) = some o7 := hb7
          cases z
          exact hk7 _ _ _ (lv_sub hl [2, 3, 4, 5, 0] rfl) hw
        · have hb7 := cd_ite_f c10 hb7
          refine lv_iload hx hb dX5_look_82 (lv_at hl 5 rfl) ?_
          refine lv_istore_n (lv' := [(2, .int z7.2.2.1), (5, .int r9.1), (0, .ref (h 0)), (1, .int a0), (3, .int z7.2.1), (4, .int z7.2.2.1)]) hx hb dX5_look_84 rfl hl (by decide) rfl (fun ls hl => ?_)
          refine lv_iload hx hb dX5_look_85 (lv_at hl 1 rfl) ?_
          refine lv_istore_n (lv' := [(3, .int r9.1), (2, .int z7.2.2.1), (5, .int r9.1), (0, .ref (h 0)), (1, .int a0), (4, .int z7.2.2.1)]) hx hb dX5_look_87 rfl hl (by decide) rfl (fun ls hl => ?_)
          refine lv_iinc (v := (z7.2.2.1 + (1 : Int32))) (lv' := [(4, .int (z7.2.2.1 + (1 : Int32))), (3, .int r9.1), (2, .int z7.2.2.1), (5, .int r9.1), (0, .ref (h 0)), (1, .int a0)]) hx hb dX5_look_88 hl (k := 5) rfl rfl (by decide) rfl (fun ls hl => ?_)
          refine lv_goto (tgt := 54) hx hb dX5_look_91 (by decide) ?_
          have z : some (Sum.inr (z7.2.2.1, r9.1, (z7.2.2.1 + (1 : Int32)), r9.2)) = some o7 := hb7
          cases z
          exact hk7 _ _ _ (lv_sub hl [4, 5, 2, 1, 0] rfl) hw
    · have hf := cd_ite_t c5 hf
      refine lv_bipush (v := (-6 : Int32)) hx hb dX5_look_33 (by decide) ?_
      have z : some ((-6 : Int32), r3) = some o := hf
      cases z
      rw [hQ]
      exact cd_reti C0 hw dX5_look_35
  · have hf := cd_ite_t c2 hf
    refine lv_bipush (v := (-2 : Int32)) hx hb dX5_look_9 (by decide) ?_
    have z : some ((-2 : Int32), Z) = some o := hf
    cases z
    rw [hQ]
    exact cd_reti C0 hw dX5_look_11
abbrev rm_X5_matches : Room := { frames := 1, cells := 0, slots := 0, locals := 22 }
theorem nw_X5_matches_X3 : ∀ w ∈ u_ws RX3 TX3 14, w ∈ wsX5_matches := by decide +kernel
theorem nw_X5_matches_X5 : ∀ w ∈ u_ws RX5 TX5 8, w ∈ wsX5_matches := by decide +kernel
set_option maxHeartbeats 4000000 in
set_option maxRecDepth 100000 in
theorem c_X5_matches (l : Launch) (G : va_G) (cI cZ : ClassId) (sa sb : Nat) (h ht h1 h2 hp hy hs hv hz : Nat → Nat) (K T : Nat → Nat → Int32) (a0 : Int32) (o : Int32 × (Nat → Nat → Int32)) (hf : f_X5_matches a0 K T = some o) : cd_Ct l G cI cZ sa sb yX5_matches wsX5_matches rm_X5_matches [.ref (h 0), .int a0] ((pc_top cZ h ht h1 h2 hp hy hv hz K) ++ (pc_town cI ht T)) ((pc_top cZ h ht h1 h2 hp hy hv hz K) ++ (pc_town cI ht o.2)) (some (.int o.1)) := by
  refine cd_of (cc := cX5_matches) (maxL := 3) (ret := (some .int)) (by decide) rfl (Nat.le_of_ble_eq_true rfl) ?_
  intro p e s m ag below meth c A ls Q C0 hl hw hQ
  have C0 : cd_CX G cI cZ sa sb p s m ag meth c cX5_matches 3 (some .int) wsX5_matches RX5 A := C0
  obtain ⟨⟨hx, hb, hml, hown, hts⟩, hr, hlocks, hA, hE⟩ := id C0
  have hK := hE.1
  have hL0 := hts (.fieldLink RX5 12 "CandleDebts" "town" "LCandleDebts$Town;") (by decide +kernel)
  have hL1 := hts (.fieldLink RX5 79 "CandleDebts$Town" "matchesLeft" "I") (by decide +kernel)
  have hl : lv_has ls 3 [(0, .ref (h 0)), (1, .int a0)] := hl
  unfold f_X5_matches at hf
  refine lv_iload_n hx hb dX5_matches_0 rfl (lv_at hl 1 rfl) ?_
  refine lv_iconst (v := (0 : Int32)) hx hb dX5_matches_1 (by decide) ?_
  refine lv_bipush (v := (99 : Int32)) hx hb dX5_matches_2 (by decide) ?_
  obtain ⟨r1, e1, hf⟩ := cd_bind_some hf
  refine cd_callS (As := [.int a0, .int (0 : Int32), .int (99 : Int32)]) (rest := []) C0 hw (c_X5_within l G cI cZ sa sb a0 (0 : Int32) (99 : Int32) r1 e1) [] rfl rfl (va_cwS 3 hts gX5_matches_X5_within rfl rfl rfl (by decide +kernel) ⟨Nat.le_of_ble_eq_true rfl, Nat.le_of_ble_eq_true rfl⟩) rfl hl.1 (lv_room (Nat.le_of_ble_eq_true rfl)) dX5_matches_4 (fun H locs hw => ?_)
  refine lv_if_ne (tgt := 13) hx hb dX5_matches_7 (by decide) (fun c2 => ?_) (fun c2 => ?_)
  · have hf := cd_ite_f c2 hf
    refine lv_aload_n hx hb dX5_matches_13 rfl (lv_at hl 0 rfl) ?_
    refine va_get (D := G) (ci := 5) (v := .ref (ht 0)) (C := RX5) (T := TX5) (N := 8) hx hb hts nw_X5_matches_X5 hown hK hw.1 0 rfl rfl 0 (by decide) hL0 (fun _ h9 => h9) rfl dX5_matches_14 ?_
    refine va_get (D := G) (ci := 3) (v := .int (T 12 0)) (C := RX3) (T := TX3) (N := 14) hx hb hts nw_X5_matches_X3 hown hK hw.1 2 rfl rfl 12 (by decide) hL1 (fun _ h9 => h9) rfl dX5_matches_17 ?_
    refine lv_istore_n (lv' := [(2, .int (T 12 0)), (0, .ref (h 0)), (1, .int a0)]) hx hb dX5_matches_20 rfl hl (by decide) rfl (fun ls hl => ?_)
    refine lv_aload_n hx hb dX5_matches_21 rfl (lv_at hl 1 rfl) ?_
    refine va_get (D := G) (ci := 5) (v := .ref (ht 0)) (C := RX5) (T := TX5) (N := 8) hx hb hts nw_X5_matches_X5 hown hK hw.1 0 rfl rfl 0 (by decide) hL0 (fun _ h9 => h9) rfl dX5_matches_22 ?_
    refine lv_iload_n hx hb dX5_matches_25 rfl (lv_at hl 2 rfl) ?_
    refine va_put (D := G) (ci := 3) (v := .int a0) (ty := .int) (C := RX3) (T := TX3) (N := 14) hx hb hts nw_X5_matches_X3 tyX3 tyX3_ok nmX3 hown hK hw.1 hw.2.1 hw.2.2 2 rfl rfl 12 (by decide) hL1 (fun _ h9 => h9) rfl (by decide +kernel) rfl rfl (Nat.le_of_ble_eq_true rfl) dX5_matches_26 (fun H locs hP hD hS => ?_)
    have hw : cd_WS G A s.heap H locs ((pc_top cZ h ht h1 h2 hp hy hv hz K) ++ (pc_town cI ht (cd_fld T 12 a0))) := ⟨hP, hD, hS⟩
    refine lv_iload_n hx hb dX5_matches_29 rfl (lv_at hl 0 rfl) ?_
    have z : some ((T 12 0), (cd_fld T 12 a0)) = some o := hf
    cases z
    rw [hQ]
    exact cd_reti C0 hw dX5_matches_30
  · have hf := cd_ite_t c2 hf
    refine lv_bipush (v := (-2 : Int32)) hx hb dX5_matches_10 (by decide) ?_
    have z : some ((-2 : Int32), T) = some o := hf
    cases z
    rw [hQ]
    exact cd_reti C0 hw dX5_matches_12
abbrev rm_X5_may : Room := { frames := 2, cells := 0, slots := 0, locals := 42 }
theorem nw_X5_may_X3 : ∀ w ∈ u_ws RX3 TX3 14, w ∈ wsX5_may := by decide +kernel
theorem nw_X5_may_X5 : ∀ w ∈ u_ws RX5 TX5 8, w ∈ wsX5_may := by decide +kernel
set_option maxHeartbeats 4000000 in
set_option maxRecDepth 100000 in
theorem c_X5_may (l : Launch) (G : va_G) (cI cZ : ClassId) (sa sb : Nat) (h ht h1 h2 hp hy hs hv hz : Nat → Nat) (K T : Nat → Nat → Int32) (a0 : Int32) (o : Int32) (hf : f_X5_may a0 K T = some o) : cd_Ct l G cI cZ sa sb yX5_may wsX5_may rm_X5_may [.ref (h 0), .int a0] ((pc_top cZ h ht h1 h2 hp hy hv hz K) ++ (pc_town cI ht T)) ((pc_top cZ h ht h1 h2 hp hy hv hz K) ++ (pc_town cI ht T)) (some (.int o)) := by
  refine cd_of (cc := cX5_may) (maxL := 4) (ret := (some .int)) (by decide) rfl (Nat.le_of_ble_eq_true rfl) ?_
  intro p e s m ag below meth c A ls Q C0 hl hw hQ
  have C0 : cd_CX G cI cZ sa sb p s m ag meth c cX5_may 4 (some .int) wsX5_may RX5 A := C0
  obtain ⟨⟨hx, hb, hml, hown, hts⟩, hr, hlocks, hA, hE⟩ := id C0
  have hK := hE.1
  have hL0 := hts (.fieldLink RX5 12 "CandleDebts" "town" "LCandleDebts$Town;") (by decide +kernel)
  have hL1 := hts (.fieldLink RX5 151 "CandleDebts$Town" "creditors" "[I") (by decide +kernel)
  have hl : lv_has ls 4 [(0, .ref (h 0)), (1, .int a0)] := hl
  unfold f_X5_may at hf
  refine lv_iload_n hx hb dX5_may_0 rfl (lv_at hl 1 rfl) ?_
  obtain ⟨r1, e1, hf⟩ := cd_bind_some hf
  refine cd_callS (As := [.int a0]) (rest := []) C0 hw (c_X5_isOne l G cI cZ sa sb a0 r1 e1) [] rfl rfl (va_cwS 1 hts gX5_may_X5_isOne rfl rfl rfl (by decide +kernel) ⟨Nat.le_of_ble_eq_true rfl, Nat.le_of_ble_eq_true rfl⟩) rfl hl.1 (lv_room (Nat.le_of_ble_eq_true rfl)) dX5_may_1 (fun H locs hw => ?_)
  refine lv_if_ne (tgt := 9) hx hb dX5_may_4 (by decide) (fun c2 => ?_) (fun c2 => ?_)
  · have hf := cd_ite_f c2 hf
    refine lv_iconst (v := (0 : Int32)) hx hb dX5_may_9 (by decide) ?_
    refine lv_istore_n (lv' := [(2, .int (0 : Int32)), (0, .ref (h 0)), (1, .int a0)]) hx hb dX5_may_10 rfl hl (by decide) rfl (fun ls hl => ?_)
    refine lv_iconst (v := (0 : Int32)) hx hb dX5_may_11 (by decide) ?_
    refine lv_istore_n (lv' := [(3, .int (0 : Int32)), (2, .int (0 : Int32)), (0, .ref (h 0)), (1, .int a0)]) hx hb dX5_may_12 rfl hl (by decide) rfl (fun ls hl => ?_)
    obtain ⟨x3, e3, hf⟩ := cd_bind_some hf
    have K3 : ∀ (t3 : Int32), t3 = x3 → ∀ (ls : Array Slot) (H : Heap) (locs : List Loc), lv_has ls 4 [(2, .int t3)] → cd_WS G A s.heap H locs ((pc_top cZ h ht h1 h2 hp hy hv hz K) ++ (pc_town cI ht T)) → W p l e rm_X5_may s m ag below meth c H locs 0 0 Q (F0 m 56 ls []) := by
      intro t3 hs_3
      subst hs_3
      intro ls H locs hl hw
      refine lv_iload_n hx hb dX5_may_56 rfl (lv_at hl 0 rfl) ?_
      have z : some t3 = some o := hf
      cases z
      rw [hQ]
      exact cd_reti C0 hw dX5_may_57
    refine cd_iter_ind (body := (f_X5_may_b13 a0 T)) (K := fun r => r = x3) (P := fun (z3 : Int32 × Int32) => ∀ (ls : Array Slot) (H : Heap) (locs : List Loc), lv_has ls 4 [(0, .ref (h 0)), (1, .int a0), (2, .int z3.1), (3, .int z3.2)] → cd_WS G A s.heap H locs ((pc_top cZ h ht h1 h2 hp hy hv hz K) ++ (pc_town cI ht T)) → W p l e rm_X5_may s m ag below meth c H locs 0 0 Q (F0 m 13 ls [])) ?_ cd_N ((0 : Int32), (0 : Int32)) x3 e3 rfl _ _ _ (lv_sub hl [2, 3, 1, 0] rfl) hw
    intro z3 o3 hb3 hk3 ls H locs hl hw
    unfold f_X5_may_b13 at hb3
    refine lv_iload_n hx hb dX5_may_13 rfl (lv_at hl 3 rfl) ?_
    refine lv_bipush (v := (12 : Int32)) hx hb dX5_may_14 (by decide) ?_
    refine lv_icmp_ge (tgt := 56) hx hb dX5_may_16 (by decide) (fun c4 => ?_) (fun c4 => ?_)
    · have hb3 := cd_ite_t c4 hb3
      have z : some (Sum.inl z3.1) = some o3 := hb3
      cases z
      exact K3 _ hk3 _ _ _ (lv_sub hl [2] rfl) hw
    · have hb3 := cd_ite_f c4 hb3
      refine lv_aload_n hx hb dX5_may_19 rfl (lv_at hl 0 rfl) ?_
      refine va_get (D := G) (ci := 5) (v := .ref (ht 0)) (C := RX5) (T := TX5) (N := 8) hx hb hts nw_X5_may_X5 hown hK hw.1 0 rfl rfl 0 (by decide) hL0 (fun _ h9 => h9) rfl dX5_may_20 ?_
      refine lv_iload_n hx hb dX5_may_23 rfl (lv_at hl 3 rfl) ?_
      obtain ⟨r5, e5, hb3⟩ := cd_bind_some hb3
      refine cd_callV (As := [.int z3.2]) (rest := []) C0 hw (c_X3_canBeAsked l G cI cZ sa sb ht T z3.2 r5 e5) [2, 3, 4, 5, 6, 7, 8, 9, 10, 11, 12] rfl rfl 0 3 rfl rfl rfl (cwV 1 hts gX5_may_X3_canBeAsked rfl rfl rfl (by decide +kernel) ⟨Nat.le_of_ble_eq_true rfl, Nat.le_of_ble_eq_true rfl⟩) rfl hl.1 (lv_room (Nat.le_of_ble_eq_true rfl)) dX5_may_24 (fun H locs hw => ?_)
      refine lv_if_eq (tgt := 50) hx hb dX5_may_27 (by decide) (fun c6 => ?_) (fun c6 => ?_)
      · have hb3 := cd_ite_t c6 hb3
        refine lv_iinc (v := (z3.2 + (1 : Int32))) (lv' := [(3, .int (z3.2 + (1 : Int32))), (0, .ref (h 0)), (1, .int a0), (2, .int z3.1)]) hx hb dX5_may_50 hl (k := 3) rfl rfl (by decide) rfl (fun ls hl => ?_)
        refine lv_goto (tgt := 13) hx hb dX5_may_53 (by decide) ?_
        have z : some (Sum.inr (z3.1, (z3.2 + (1 : Int32)))) = some o3 := hb3
        cases z
        exact hk3 _ _ _ (lv_sub hl [1, 2, 3, 0] rfl) hw
      · have hb3 := cd_ite_f c6 hb3
        refine lv_aload_n hx hb dX5_may_30 rfl (lv_at hl 0 rfl) ?_
        refine va_get (D := G) (ci := 5) (v := .ref (ht 0)) (C := RX5) (T := TX5) (N := 8) hx hb hts nw_X5_may_X5 hown hK hw.1 0 rfl rfl 0 (by decide) hL0 (fun _ h9 => h9) rfl dX5_may_31 ?_
        refine va_get (D := G) (ci := 3) (v := .ref (ht 4)) (C := RX3) (T := TX3) (N := 14) hx hb hts nw_X5_may_X3 hown hK hw.1 2 rfl rfl 3 (by decide) hL1 (fun _ h9 => h9) rfl dX5_may_34 ?_
        refine lv_iload_n hx hb dX5_may_37 rfl (lv_at hl 3 rfl) ?_
        obtain ⟨v7, e7, hb3⟩ := cd_bind_some hb3
        refine cd_iald hx hb hK hw 6 rfl e7 dX5_may_38 ?_
        refine lv_iload_n hx hb dX5_may_39 rfl (lv_at hl 1 rfl) ?_
        refine lv_icmp_ne (tgt := 50) hx hb dX5_may_40 (by decide) (fun c8 => ?_) (fun c8 => ?_)
        · have hb3 := cd_ite_f c8 hb3
          refine lv_iinc (v := (z3.2 + (1 : Int32))) (lv' := [(3, .int (z3.2 + (1 : Int32))), (0, .ref (h 0)), (1, .int a0), (2, .int z3.1)]) hx hb dX5_may_50 hl (k := 3) rfl rfl (by decide) rfl (fun ls hl => ?_)
          refine lv_goto (tgt := 13) hx hb dX5_may_53 (by decide) ?_
          have z : some (Sum.inr (z3.1, (z3.2 + (1 : Int32)))) = some o3 := hb3
          cases z
          exact hk3 _ _ _ (lv_sub hl [1, 2, 3, 0] rfl) hw
        · have hb3 := cd_ite_t c8 hb3
          refine lv_iload_n hx hb dX5_may_43 rfl (lv_at hl 2 rfl) ?_
          refine lv_iload_n hx hb dX5_may_44 rfl (lv_at hl 3 rfl) ?_
          obtain ⟨r9, e9, hb3⟩ := cd_bind_some hb3
          refine cd_callS (As := [.int z3.2]) (rest := [.int z3.1]) C0 hw (c_X5_bit l G cI cZ sa sb z3.2 r9 e9) [] rfl rfl (va_cwS 1 hts gX5_may_X5_bit rfl rfl rfl (by decide +kernel) ⟨Nat.le_of_ble_eq_true rfl, Nat.le_of_ble_eq_true rfl⟩) rfl hl.1 (lv_room (Nat.le_of_ble_eq_true rfl)) dX5_may_45 (fun H locs hw => ?_)
          refine lv_ior hx hb dX5_may_48 ?_
          refine lv_istore_n (lv' := [(2, .int (z3.1 ||| r9)), (0, .ref (h 0)), (1, .int a0), (3, .int z3.2)]) hx hb dX5_may_49 rfl hl (by decide) rfl (fun ls hl => ?_)
          refine lv_iinc (v := (z3.2 + (1 : Int32))) (lv' := [(3, .int (z3.2 + (1 : Int32))), (2, .int (z3.1 ||| r9)), (0, .ref (h 0)), (1, .int a0)]) hx hb dX5_may_50 hl (k := 3) rfl rfl (by decide) rfl (fun ls hl => ?_)
          refine lv_goto (tgt := 13) hx hb dX5_may_53 (by decide) ?_
          have z : some (Sum.inr ((z3.1 ||| r9), (z3.2 + (1 : Int32)))) = some o3 := hb3
          cases z
          exact hk3 _ _ _ (lv_sub hl [2, 3, 1, 0] rfl) hw
  · have hf := cd_ite_t c2 hf
    refine lv_iconst (v := (-1 : Int32)) hx hb dX5_may_7 (by decide) ?_
    have z : some (-1 : Int32) = some o := hf
    cases z
    rw [hQ]
    exact cd_reti C0 hw dX5_may_8
abbrev rm_X5_partOf : Room := { frames := 0, cells := 0, slots := 0, locals := 0 }
set_option maxHeartbeats 4000000 in
set_option maxRecDepth 100000 in
theorem c_X5_partOf (l : Launch) (G : va_G) (cI cZ : ClassId) (sa sb : Nat) (a0 : Int64) (a1 : Int64) (a2 : Int32) (o : Int64) (hf : f_X5_partOf a0 a1 a2 = some o) : cd_Ct l G cI cZ sa sb yX5_partOf wsX5_partOf rm_X5_partOf [.long a0, .long a1, .int a2] (([] : va_W)) (([] : va_W)) (some (.long o)) := by
  refine cd_of (cc := cX5_partOf) (maxL := 12) (ret := (some .long)) (by decide) rfl (Nat.le_of_ble_eq_true rfl) ?_
  intro p e s m ag below meth c A ls Q C0 hl hw hQ
  have C0 : cd_CX G cI cZ sa sb p s m ag meth c cX5_partOf 12 (some .long) wsX5_partOf RX5 A := C0
  obtain ⟨⟨hx, hb, hml, hown, hts⟩, hr, hlocks, hA, hE⟩ := id C0
  have hK := hE.1
  have hl : lv_has ls 12 [(0, .long a0), (2, .long a1), (4, .int a2)] := hl
  unfold f_X5_partOf at hf
  refine lv_lload_n hx hb dX5_partOf_0 rfl (lv_at hl 1 rfl) ?_
  refine lv_lstore (lv' := [(5, .long a1), (0, .long a0), (2, .long a1), (4, .int a2)]) hx hb dX5_partOf_1 hl (by decide) rfl (fun ls hl => ?_)
  refine lv_lload_n hx hb dX5_partOf_3 rfl (lv_at hl 1 rfl) ?_
  refine lv_lstore (lv' := [(7, .long a0), (5, .long a1), (0, .long a0), (2, .long a1), (4, .int a2)]) hx hb dX5_partOf_4 hl (by decide) rfl (fun ls hl => ?_)
  refine lv_iconst (v := (0 : Int32)) hx hb dX5_partOf_6 (by decide) ?_
  refine lv_istore (lv' := [(9, .int (0 : Int32)), (7, .long a0), (5, .long a1), (0, .long a0), (2, .long a1), (4, .int a2)]) hx hb dX5_partOf_7 hl (by decide) rfl (fun ls hl => ?_)
  obtain ⟨x1, e1, hf⟩ := cd_bind_some hf
  have K1 : ∀ (t1 : Int64), t1 = x1 → ∀ (ls : Array Slot) (H : Heap) (locs : List Loc), lv_has ls 12 [(0, .long a0), (2, .long a1), (4, .int a2), (5, .long t1)] → cd_WS G A s.heap H locs (([] : va_W)) → W p l e rm_X5_partOf s m ag below meth c H locs 0 0 Q (F0 m 44 ls []) := by
    intro t1 hs_1
    subst hs_1
    intro ls H locs hl hw
    refine lv_lload hx hb dX5_partOf_44 (lv_at hl 3 rfl) ?_
    refine lv_lconst (v := 1) hx hb dX5_partOf_46 (by decide) ?_
    refine W.lcmp hx hb dX5_partOf_47 ?_
    refine lv_if_ge (tgt := 62) hx hb dX5_partOf_48 (by decide) (fun c5 => ?_) (fun c5 => ?_)
    · have hf := cd_ite_t c5 hf
      refine lv_iload hx hb dX5_partOf_62 (lv_at hl 2 rfl) ?_
      obtain ⟨x6, e6, hf⟩ := cd_bind_some hf
      have K6 : ∀ (ls : Array Slot) (H : Heap) (locs : List Loc), lv_has ls 12 [] → cd_WS G A s.heap H locs (([] : va_W)) → W p l e rm_X5_partOf s m ag below meth c H locs 0 0 Q (F0 m 78 ls [.long x6]) := by
        intro ls H locs hl hw
        have z : some x6 = some o := hf
        cases z
        rw [hQ]
        exact cd_retl C0 hw dX5_partOf_78
      refine lv_if_ne (tgt := 74) hx hb dX5_partOf_64 (by decide) (fun c6 => ?_) (fun c6 => ?_)
      · have e6 := cd_ite_f c6 e6
        refine lv_lload_n hx hb dX5_partOf_74 rfl (lv_at hl 1 rfl) ?_
        refine lv_lload hx hb dX5_partOf_75 (lv_at hl 3 rfl) ?_
        obtain ⟨u8, e8, e6⟩ := cd_bind_some e6
        refine lv_ldiv hx hb dX5_partOf_77 (cd_nzl_eq e8) ?_
        have z : some (a1 / t1) = some x6 := e6
        cases z
        exact K6 _ _ _ (lv_sub hl [] rfl) hw
      · have e6 := cd_ite_t c6 e6
        refine lv_lload_n hx hb dX5_partOf_67 rfl (lv_at hl 0 rfl) ?_
        refine lv_lload hx hb dX5_partOf_68 (lv_at hl 3 rfl) ?_
        obtain ⟨u7, e7, e6⟩ := cd_bind_some e6
        refine lv_ldiv hx hb dX5_partOf_70 (cd_nzl_eq e7) ?_
        refine lv_goto (tgt := 78) hx hb dX5_partOf_71 (by decide) ?_
        have z : some (a0 / t1) = some x6 := e6
        cases z
        exact K6 _ _ _ (lv_sub hl [] rfl) hw
    · have hf := cd_ite_f c5 hf
      refine lv_iload hx hb dX5_partOf_51 (lv_at hl 2 rfl) ?_
      obtain ⟨x9, e9, hf⟩ := cd_bind_some hf
      have K9 : ∀ (ls : Array Slot) (H : Heap) (locs : List Loc), lv_has ls 12 [] → cd_WS G A s.heap H locs (([] : va_W)) → W p l e rm_X5_partOf s m ag below meth c H locs 0 0 Q (F0 m 61 ls [.long x9]) := by
        intro ls H locs hl hw
        have z : some x9 = some o := hf
        cases z
        rw [hQ]
        exact cd_retl C0 hw dX5_partOf_61
      refine lv_if_ne (tgt := 60) hx hb dX5_partOf_53 (by decide) (fun c9 => ?_) (fun c9 => ?_)
      · have e9 := cd_ite_f c9 e9
        refine lv_lload_n hx hb dX5_partOf_60 rfl (lv_at hl 1 rfl) ?_
        have z : some a1 = some x9 := e9
        cases z
        exact K9 _ _ _ (lv_sub hl [] rfl) hw
      · have e9 := cd_ite_t c9 e9
        refine lv_lload_n hx hb dX5_partOf_56 rfl (lv_at hl 0 rfl) ?_
        refine lv_goto (tgt := 61) hx hb dX5_partOf_57 (by decide) ?_
        have z : some a0 = some x9 := e9
        cases z
        exact K9 _ _ _ (lv_sub hl [] rfl) hw
  refine cd_iter_ind (body := f_X5_partOf_b9) (K := fun r => r = x1) (P := fun (z1 : Int64 × Int64 × Int32) => ∀ (ls : Array Slot) (H : Heap) (locs : List Loc), lv_has ls 12 [(0, .long a0), (2, .long a1), (4, .int a2), (5, .long z1.1), (7, .long z1.2.1), (9, .int z1.2.2)] → cd_WS G A s.heap H locs (([] : va_W)) → W p l e rm_X5_partOf s m ag below meth c H locs 0 0 Q (F0 m 9 ls [])) ?_ cd_N (a1, a0, (0 : Int32)) x1 e1 rfl _ _ _ (lv_sub hl [3, 4, 5, 2, 1, 0] rfl) hw
  intro z1 o1 hb1 hk1 ls H locs hl hw
  unfold f_X5_partOf_b9 at hb1
  refine lv_iload hx hb dX5_partOf_9 (lv_at hl 5 rfl) ?_
  refine lv_bipush (v := (100 : Int32)) hx hb dX5_partOf_11 (by decide) ?_
  refine lv_icmp_ge (tgt := 44) hx hb dX5_partOf_13 (by decide) (fun c2 => ?_) (fun c2 => ?_)
  · have hb1 := cd_ite_t c2 hb1
    have z : some (Sum.inl z1.1) = some o1 := hb1
    cases z
    exact K1 _ hk1 _ _ _ (lv_sub hl [0, 1, 2, 3] rfl) hw
  · have hb1 := cd_ite_f c2 hb1
    refine lv_lload hx hb dX5_partOf_16 (lv_at hl 4 rfl) ?_
    refine lv_lconst (v := 0) hx hb dX5_partOf_18 (by decide) ?_
    refine W.lcmp hx hb dX5_partOf_19 ?_
    refine lv_if_le (tgt := 44) hx hb dX5_partOf_20 (by decide) (fun c3 => ?_) (fun c3 => ?_)
    · have hb1 := cd_ite_t c3 hb1
      have z : some (Sum.inl z1.1) = some o1 := hb1
      cases z
      exact K1 _ hk1 _ _ _ (lv_sub hl [0, 1, 2, 3] rfl) hw
    · have hb1 := cd_ite_f c3 hb1
      refine lv_lload hx hb dX5_partOf_23 (lv_at hl 3 rfl) ?_
      refine lv_lload hx hb dX5_partOf_25 (lv_at hl 4 rfl) ?_
      obtain ⟨u4, e4, hb1⟩ := cd_bind_some hb1
      refine lv_lrem hx hb dX5_partOf_27 (cd_nzl_eq e4) ?_
      refine lv_lstore (lv' := [(10, .long (z1.1 - z1.1 / z1.2.1 * z1.2.1)), (0, .long a0), (2, .long a1), (4, .int a2), (5, .long z1.1), (7, .long z1.2.1), (9, .int z1.2.2)]) hx hb dX5_partOf_28 hl (by decide) rfl (fun ls hl => ?_)
      refine lv_lload hx hb dX5_partOf_30 (lv_at hl 5 rfl) ?_
      refine lv_lstore (lv' := [(5, .long z1.2.1), (10, .long (z1.1 - z1.1 / z1.2.1 * z1.2.1)), (0, .long a0), (2, .long a1), (4, .int a2), (7, .long z1.2.1), (9, .int z1.2.2)]) hx hb dX5_partOf_32 hl (by decide) rfl (fun ls hl => ?_)
      refine lv_lload hx hb dX5_partOf_34 (lv_at hl 1 rfl) ?_
      refine lv_lstore (lv' := [(7, .long (z1.1 - z1.1 / z1.2.1 * z1.2.1)), (5, .long z1.2.1), (10, .long (z1.1 - z1.1 / z1.2.1 * z1.2.1)), (0, .long a0), (2, .long a1), (4, .int a2), (9, .int z1.2.2)]) hx hb dX5_partOf_36 hl (by decide) rfl (fun ls hl => ?_)
      refine lv_iinc (v := (z1.2.2 + (1 : Int32))) (lv' := [(9, .int (z1.2.2 + (1 : Int32))), (7, .long (z1.1 - z1.1 / z1.2.1 * z1.2.1)), (5, .long z1.2.1), (10, .long (z1.1 - z1.1 / z1.2.1 * z1.2.1)), (0, .long a0), (2, .long a1), (4, .int a2)]) hx hb dX5_partOf_38 hl (k := 6) rfl rfl (by decide) rfl (fun ls hl => ?_)
      refine lv_goto (tgt := 9) hx hb dX5_partOf_41 (by decide) ?_
      have z : some (Sum.inr (z1.2.1, (z1.1 - z1.1 / z1.2.1 * z1.2.1), (z1.2.2 + (1 : Int32)))) = some o1 := hb1
      cases z
      exact hk1 _ _ _ (lv_sub hl [4, 5, 6, 2, 1, 0] rfl) hw
