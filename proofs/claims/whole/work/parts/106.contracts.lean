abbrev rm_X5_snuff : Room := { frames := 3, cells := 0, slots := 0, locals := 66 }
theorem nw_X5_snuff_X3 : ∀ w ∈ u_ws RX3 TX3 14, w ∈ wsX5_snuff := by decide +kernel
theorem nw_X5_snuff_X5 : ∀ w ∈ u_ws RX5 TX5 8, w ∈ wsX5_snuff := by decide +kernel
set_option maxHeartbeats 4000000 in
set_option maxRecDepth 100000 in
theorem c_X5_snuff (l : Launch) (G : va_G) (cI cZ : ClassId) (sa sb : Nat) (h ht h1 h2 hp hy hs hv hz : Nat → Nat) (K T : Nat → Nat → Int32) (a0 : Int32) (o : Int32) (hf : f_X5_snuff a0 K T = some o) : cd_Ct l G cI cZ sa sb yX5_snuff wsX5_snuff rm_X5_snuff [.ref (h 0), .int a0] ((pc_top cZ h ht h1 h2 hp hy hv hz K) ++ (pc_town cI ht T)) ((pc_top cZ h ht h1 h2 hp hy hv hz K) ++ (pc_town cI ht T)) (some (.int o)) := by
  refine cd_of (cc := cX5_snuff) (maxL := 3) (ret := (some .int)) (by decide) rfl (Nat.le_of_ble_eq_true rfl) ?_
  intro p e s m ag below meth c A ls Q C0 hl hw hQ
  have C0 : cd_CX G cI cZ sa sb p s m ag meth c cX5_snuff 3 (some .int) wsX5_snuff RX5 A := C0
  obtain ⟨⟨hx, hb, hml, hown, hts⟩, hr, hlocks, hA, hE⟩ := id C0
  have hK := hE.1
  have hL0 := hts (.fieldLink RX5 12 "CandleDebts" "town" "LCandleDebts$Town;") (by decide +kernel)
  have hL1 := hts (.fieldLink RX5 123 "CandleDebts$Town" "lit" "I") (by decide +kernel)
  have hl : lv_has ls 3 [(0, .ref (h 0)), (1, .int a0)] := hl
  unfold f_X5_snuff at hf
  refine lv_iload_n hx hb dX5_snuff_0 rfl (lv_at hl 1 rfl) ?_
  refine lv_iconst (v := (0 : Int32)) hx hb dX5_snuff_1 (by decide) ?_
  refine lv_iconst (v := (1 : Int32)) hx hb dX5_snuff_2 (by decide) ?_
  obtain ⟨r1, e1, hf⟩ := cd_bind_some hf
  refine cd_callS (As := [.int a0, .int (0 : Int32), .int (1 : Int32)]) (rest := []) C0 hw (c_X5_within l G cI cZ sa sb a0 (0 : Int32) (1 : Int32) r1 e1) [] rfl rfl (va_cwS 3 hts gX5_snuff_X5_within rfl rfl rfl (by decide +kernel) ⟨Nat.le_of_ble_eq_true rfl, Nat.le_of_ble_eq_true rfl⟩) rfl hl.1 (lv_room (Nat.le_of_ble_eq_true rfl)) dX5_snuff_3 (fun H locs hw => ?_)
  refine lv_if_ne (tgt := 12) hx hb dX5_snuff_6 (by decide) (fun c2 => ?_) (fun c2 => ?_)
  · have hf := cd_ite_f c2 hf
    refine lv_aload_n hx hb dX5_snuff_12 rfl (lv_at hl 0 rfl) ?_
    refine va_get (D := G) (ci := 5) (v := .ref (ht 0)) (C := RX5) (T := TX5) (N := 8) hx hb hts nw_X5_snuff_X5 hown hK hw.1 0 rfl rfl 0 (by decide) hL0 (fun _ h9 => h9) rfl dX5_snuff_13 ?_
    refine va_get (D := G) (ci := 3) (v := .int (T 11 0)) (C := RX3) (T := TX3) (N := 14) hx hb hts nw_X5_snuff_X3 hown hK hw.1 2 rfl rfl 11 (by decide) hL1 (fun _ h9 => h9) rfl dX5_snuff_16 ?_
    obtain ⟨r3, e3, hf⟩ := cd_bind_some hf
    refine cd_callS (As := [.int (T 11 0)]) (rest := []) C0 hw (c_X5_winningSnuff l G cI cZ sa sb (T 11 0) r3 e3) [] rfl rfl (va_cwS 1 hts gX5_snuff_X5_winningSnuff rfl rfl rfl (by decide +kernel) ⟨Nat.le_of_ble_eq_true rfl, Nat.le_of_ble_eq_true rfl⟩) rfl hl.1 (lv_room (Nat.le_of_ble_eq_true rfl)) dX5_snuff_19 (fun H locs hw => ?_)
    refine lv_istore_n (lv' := [(2, .int r3), (0, .ref (h 0)), (1, .int a0)]) hx hb dX5_snuff_22 rfl hl (by decide) rfl (fun ls hl => ?_)
    refine lv_iload_n hx hb dX5_snuff_23 rfl (lv_at hl 2 rfl) ?_
    refine lv_iconst (v := (1 : Int32)) hx hb dX5_snuff_24 (by decide) ?_
    refine lv_icmp_ne (tgt := 30) hx hb dX5_snuff_25 (by decide) (fun c4 => ?_) (fun c4 => ?_)
    · have hf := cd_ite_f c4 hf
      refine lv_iload_n hx hb dX5_snuff_30 rfl (lv_at hl 0 rfl) ?_
      refine lv_bipush (v := (-6 : Int32)) hx hb dX5_snuff_31 (by decide) ?_
      obtain ⟨x5, e5, hf⟩ := cd_bind_some hf
      have K5 : ∀ (ls : Array Slot) (H : Heap) (locs : List Loc), lv_has ls 3 [] → cd_WS G A s.heap H locs ((pc_top cZ h ht h1 h2 hp hy hv hz K) ++ (pc_town cI ht T)) → W p l e rm_X5_snuff s m ag below meth c H locs 0 0 Q (F0 m 41 ls [.int x5]) := by
        intro ls H locs hl hw
        have z : some x5 = some o := hf
        cases z
        rw [hQ]
        exact cd_reti C0 hw dX5_snuff_41
      refine lv_icmp_ne (tgt := 40) hx hb dX5_snuff_33 (by decide) (fun c5 => ?_) (fun c5 => ?_)
      · have e5 := cd_ite_f c5 e5
        refine lv_iconst (v := (1 : Int32)) hx hb dX5_snuff_40 (by decide) ?_
        have z : some (1 : Int32) = some x5 := e5
        cases z
        exact K5 _ _ _ (lv_sub hl [] rfl) hw
      · have e5 := cd_ite_t c5 e5
        refine lv_iconst (v := (0 : Int32)) hx hb dX5_snuff_36 (by decide) ?_
        refine lv_goto (tgt := 41) hx hb dX5_snuff_37 (by decide) ?_
        have z : some (0 : Int32) = some x5 := e5
        cases z
        exact K5 _ _ _ (lv_sub hl [] rfl) hw
    · have hf := cd_ite_t c4 hf
      refine lv_iload_n hx hb dX5_snuff_28 rfl (lv_at hl 0 rfl) ?_
      have z : some r3 = some o := hf
      cases z
      rw [hQ]
      exact cd_reti C0 hw dX5_snuff_29
  · have hf := cd_ite_t c2 hf
    refine lv_bipush (v := (-2 : Int32)) hx hb dX5_snuff_9 (by decide) ?_
    have z : some (-2 : Int32) = some o := hf
    cases z
    rw [hQ]
    exact cd_reti C0 hw dX5_snuff_11
abbrev rm_X5_then : Room := { frames := 6, cells := 0, slots := 0, locals := 134 }
theorem nw_X5_then_X1 : ∀ w ∈ u_ws RX1 TX1 6, w ∈ wsX5_then := by decide +kernel
theorem nw_X5_then_X3 : ∀ w ∈ u_ws RX3 TX3 14, w ∈ wsX5_then := by decide +kernel
theorem nw_X5_then_X5 : ∀ w ∈ u_ws RX5 TX5 8, w ∈ wsX5_then := by decide +kernel
set_option maxHeartbeats 4000000 in
set_option maxRecDepth 100000 in
theorem c_X5_then (l : Launch) (G : va_G) (cI cZ : ClassId) (sa sb : Nat) (h ht h1 h2 hp hy hs hv hz : Nat → Nat) (K T P Y S : Nat → Nat → Int32) (a0 : Int32) (o : Int32 × (Nat → Nat → Int32) × (Nat → Nat → Int32) × (Nat → Nat → Int32)) (hf : f_X5_then a0 K T P Y S = some o) : cd_Ct l G cI cZ sa sb yX5_then wsX5_then rm_X5_then [.ref (h 0), .int a0] ((pc_top cZ h ht h1 h2 hp hy hv hz K) ++ (pc_town cI ht T) ++ (pc_pad cI hp P) ++ (pc_play hy hs Y) ++ (pc_town cI hs S)) ((pc_top cZ h ht h1 h2 hp hy hv hz K) ++ (pc_town cI ht T) ++ (pc_pad cI hp o.2.1) ++ (pc_play hy hs o.2.2.1) ++ (pc_town cI hs o.2.2.2)) (some (.int o.1)) := by
  refine cd_of (cc := cX5_then) (maxL := 2) (ret := (some .int)) (by decide) rfl (Nat.le_of_ble_eq_true rfl) ?_
  intro p e s m ag below meth c A ls Q C0 hl hw hQ
  have C0 : cd_CX G cI cZ sa sb p s m ag meth c cX5_then 2 (some .int) wsX5_then RX5 A := C0
  obtain ⟨⟨hx, hb, hml, hown, hts⟩, hr, hlocks, hA, hE⟩ := id C0
  have hK := hE.1
  have hL0 := hts (.fieldLink RX5 36 "CandleDebts" "play" "LCandleDebts$Play;") (by decide +kernel)
  have hL1 := hts (.fieldLink RX5 107 "CandleDebts$Play" "scene" "LCandleDebts$Town;") (by decide +kernel)
  have hL2 := hts (.fieldLink RX5 123 "CandleDebts$Town" "lit" "I") (by decide +kernel)
  have hL3 := hts (.fieldLink RX5 79 "CandleDebts$Town" "matchesLeft" "I") (by decide +kernel)
  have hL4 := hts (.fieldLink RX5 126 "CandleDebts$Town" "minute" "I") (by decide +kernel)
  have hL5 := hts (.fieldLink RX5 129 "CandleDebts$Play" "paid" "I") (by decide +kernel)
  have hL6 := hts (.fieldLink RX5 132 "CandleDebts$Play" "outAct" "I") (by decide +kernel)
  have hL7 := hts (.fieldLink RX5 135 "CandleDebts$Play" "outCandle" "I") (by decide +kernel)
  have hl : lv_has ls 2 [(0, .ref (h 0)), (1, .int a0)] := hl
  unfold f_X5_then at hf
  refine lv_iload_n hx hb dX5_then_0 rfl (lv_at hl 1 rfl) ?_
  refine lv_iconst (v := (0 : Int32)) hx hb dX5_then_1 (by decide) ?_
  refine lv_iconst (v := (5 : Int32)) hx hb dX5_then_2 (by decide) ?_
  obtain ⟨r1, e1, hf⟩ := cd_bind_some hf
  refine cd_callS (As := [.int a0, .int (0 : Int32), .int (5 : Int32)]) (rest := []) C0 hw (c_X5_within l G cI cZ sa sb a0 (0 : Int32) (5 : Int32) r1 e1) [] rfl rfl (va_cwS 3 hts gX5_then_X5_within rfl rfl rfl (by decide +kernel) ⟨Nat.le_of_ble_eq_true rfl, Nat.le_of_ble_eq_true rfl⟩) rfl hl.1 (lv_room (Nat.le_of_ble_eq_true rfl)) dX5_then_3 (fun H locs hw => ?_)
  refine lv_if_ne (tgt := 12) hx hb dX5_then_6 (by decide) (fun c2 => ?_) (fun c2 => ?_)
  · have hf := cd_ite_f c2 hf
    refine lv_aload_n hx hb dX5_then_12 rfl (lv_at hl 0 rfl) ?_
    obtain ⟨r3, e3, hf⟩ := cd_bind_some hf
    refine cd_callVw (As := []) (rest := []) (wr := ([] : va_W)) (wn := (pc_top cZ h ht h1 h2 hp hy hv hz K) ++ (pc_town cI ht T) ++ (pc_pad cI hp r3.2.1) ++ (pc_play hy hs r3.2.2.1) ++ (pc_town cI hs r3.2.2.2)) C0 hw (c_X5_nightCanBe l G cI cZ sa sb h ht h1 h2 hp hy hs hv hz K T P Y S r3 e3) [0, 1, 2, 3, 4, 5, 6, 7, 8, 9, 10, 11, 12, 13, 14, 15, 16, 17, 18, 19, 20, 21, 22, 23, 24, 25, 26] [] [0, 1, 2, 3, 4, 5, 6, 7, 8, 9, 10, 11, 12, 13, 14, 15, 16, 17, 18, 19, 20, 21, 22, 23, 24, 25, 26] rfl rfl rfl rfl (by decide) rfl rfl 0 5 rfl rfl rfl (cwV 0 hts gX5_then_X5_nightCanBe rfl rfl rfl (by decide +kernel) ⟨Nat.le_of_ble_eq_true rfl, Nat.le_of_ble_eq_true rfl⟩) rfl hl.1 (lv_room (Nat.le_of_ble_eq_true rfl)) dX5_then_13 (fun H locs hw => ?_)
    refine lv_if_ne (tgt := 22) hx hb dX5_then_16 (by decide) (fun c4 => ?_) (fun c4 => ?_)
    · have hf := cd_ite_f c4 hf
      refine lv_iload_n hx hb dX5_then_22 rfl (lv_at hl 1 rfl) ?_
      by_cases c5_0 : a0 = (0 : Int32)
      · have hf := cd_ite_t c5_0 hf
        refine lv_tableIn (off := 33) (tgt := 56) hx hb dX5_then_23 (by rw [c5_0]; decide) (by rw [c5_0]; decide) (by rw [c5_0]; rfl) (by decide) ?_
        refine lv_aload_n hx hb dX5_then_56 rfl (lv_at hl 0 rfl) ?_
        refine va_get (D := G) (ci := 5) (v := .ref (hy 0)) (C := RX5) (T := TX5) (N := 8) hx hb hts nw_X5_then_X5 hown hK hw.1 0 rfl rfl 5 (by decide) hL0 (fun _ h9 => h9) rfl dX5_then_57 ?_
        refine va_get (D := G) (ci := 1) (v := .ref (hs 0)) (C := RX1) (T := TX1) (N := 6) hx hb hts nw_X5_then_X1 hown hK hw.1 15 rfl rfl 0 (by decide) hL1 (fun _ h9 => h9) rfl dX5_then_60 ?_
        refine va_get (D := G) (ci := 3) (v := .int (r3.2.2.2 11 0)) (C := RX3) (T := TX3) (N := 14) hx hb hts nw_X5_then_X3 hown hK hw.1 16 rfl rfl 11 (by decide) hL2 (fun _ h9 => h9) rfl dX5_then_63 ?_
        have z : some ((r3.2.2.2 11 0), r3.2.1, r3.2.2.1, r3.2.2.2) = some o := hf
        cases z
        rw [hQ]
        exact cd_reti C0 hw dX5_then_66
      · have hf := cd_ite_f c5_0 hf
        by_cases c5_1 : a0 = (1 : Int32)
        · have hf := cd_ite_t c5_1 hf
          refine lv_tableIn (off := 44) (tgt := 67) hx hb dX5_then_23 (by rw [c5_1]; decide) (by rw [c5_1]; decide) (by rw [c5_1]; rfl) (by decide) ?_
          refine lv_aload_n hx hb dX5_then_67 rfl (lv_at hl 0 rfl) ?_
          refine va_get (D := G) (ci := 5) (v := .ref (hy 0)) (C := RX5) (T := TX5) (N := 8) hx hb hts nw_X5_then_X5 hown hK hw.1 0 rfl rfl 5 (by decide) hL0 (fun _ h9 => h9) rfl dX5_then_68 ?_
          refine va_get (D := G) (ci := 1) (v := .ref (hs 0)) (C := RX1) (T := TX1) (N := 6) hx hb hts nw_X5_then_X1 hown hK hw.1 15 rfl rfl 0 (by decide) hL1 (fun _ h9 => h9) rfl dX5_then_71 ?_
          refine va_get (D := G) (ci := 3) (v := .int (r3.2.2.2 12 0)) (C := RX3) (T := TX3) (N := 14) hx hb hts nw_X5_then_X3 hown hK hw.1 16 rfl rfl 12 (by decide) hL3 (fun _ h9 => h9) rfl dX5_then_74 ?_
          have z : some ((r3.2.2.2 12 0), r3.2.1, r3.2.2.1, r3.2.2.2) = some o := hf
          cases z
          rw [hQ]
          exact cd_reti C0 hw dX5_then_77
        · have hf := cd_ite_f c5_1 hf
          by_cases c5_2 : a0 = (2 : Int32)
          · have hf := cd_ite_t c5_2 hf
            refine lv_tableIn (off := 55) (tgt := 78) hx hb dX5_then_23 (by rw [c5_2]; decide) (by rw [c5_2]; decide) (by rw [c5_2]; rfl) (by decide) ?_
            refine lv_aload_n hx hb dX5_then_78 rfl (lv_at hl 0 rfl) ?_
            refine va_get (D := G) (ci := 5) (v := .ref (hy 0)) (C := RX5) (T := TX5) (N := 8) hx hb hts nw_X5_then_X5 hown hK hw.1 0 rfl rfl 5 (by decide) hL0 (fun _ h9 => h9) rfl dX5_then_79 ?_
            refine va_get (D := G) (ci := 1) (v := .ref (hs 0)) (C := RX1) (T := TX1) (N := 6) hx hb hts nw_X5_then_X1 hown hK hw.1 15 rfl rfl 0 (by decide) hL1 (fun _ h9 => h9) rfl dX5_then_82 ?_
            refine va_get (D := G) (ci := 3) (v := .int (r3.2.2.2 13 0)) (C := RX3) (T := TX3) (N := 14) hx hb hts nw_X5_then_X3 hown hK hw.1 16 rfl rfl 13 (by decide) hL4 (fun _ h9 => h9) rfl dX5_then_85 ?_
            have z : some ((r3.2.2.2 13 0), r3.2.1, r3.2.2.1, r3.2.2.2) = some o := hf
            cases z
            rw [hQ]
            exact cd_reti C0 hw dX5_then_88
          · have hf := cd_ite_f c5_2 hf
            by_cases c5_3 : a0 = (3 : Int32)
            · have hf := cd_ite_t c5_3 hf
              refine lv_tableIn (off := 66) (tgt := 89) hx hb dX5_then_23 (by rw [c5_3]; decide) (by rw [c5_3]; decide) (by rw [c5_3]; rfl) (by decide) ?_
              refine lv_aload_n hx hb dX5_then_89 rfl (lv_at hl 0 rfl) ?_
              refine va_get (D := G) (ci := 5) (v := .ref (hy 0)) (C := RX5) (T := TX5) (N := 8) hx hb hts nw_X5_then_X5 hown hK hw.1 0 rfl rfl 5 (by decide) hL0 (fun _ h9 => h9) rfl dX5_then_90 ?_
              refine va_get (D := G) (ci := 1) (v := .int (r3.2.2.1 3 0)) (C := RX1) (T := TX1) (N := 6) hx hb hts nw_X5_then_X1 hown hK hw.1 15 rfl rfl 3 (by decide) hL5 (fun _ h9 => h9) rfl dX5_then_93 ?_
              have z : some ((r3.2.2.1 3 0), r3.2.1, r3.2.2.1, r3.2.2.2) = some o := hf
              cases z
              rw [hQ]
              exact cd_reti C0 hw dX5_then_96
            · have hf := cd_ite_f c5_3 hf
              by_cases c5_4 : a0 = (4 : Int32)
              · have hf := cd_ite_t c5_4 hf
                refine lv_tableIn (off := 74) (tgt := 97) hx hb dX5_then_23 (by rw [c5_4]; decide) (by rw [c5_4]; decide) (by rw [c5_4]; rfl) (by decide) ?_
                refine lv_aload_n hx hb dX5_then_97 rfl (lv_at hl 0 rfl) ?_
                refine va_get (D := G) (ci := 5) (v := .ref (hy 0)) (C := RX5) (T := TX5) (N := 8) hx hb hts nw_X5_then_X5 hown hK hw.1 0 rfl rfl 5 (by decide) hL0 (fun _ h9 => h9) rfl dX5_then_98 ?_
                refine va_get (D := G) (ci := 1) (v := .int (r3.2.2.1 4 0)) (C := RX1) (T := TX1) (N := 6) hx hb hts nw_X5_then_X1 hown hK hw.1 15 rfl rfl 4 (by decide) hL6 (fun _ h9 => h9) rfl dX5_then_101 ?_
                have z : some ((r3.2.2.1 4 0), r3.2.1, r3.2.2.1, r3.2.2.2) = some o := hf
                cases z
                rw [hQ]
                exact cd_reti C0 hw dX5_then_104
              · have hf := cd_ite_f c5_4 hf
                refine lv_tableOut (tgt := 105) hx hb dX5_then_23 (by have q0 : a0.toInt ≠ 0 := cd_ne c5_0; have q1 : a0.toInt ≠ 1 := cd_ne c5_1; have q2 : a0.toInt ≠ 2 := cd_ne c5_2; have q3 : a0.toInt ≠ 3 := cd_ne c5_3; have q4 : a0.toInt ≠ 4 := cd_ne c5_4; omega) (by decide) ?_
                refine lv_aload_n hx hb dX5_then_105 rfl (lv_at hl 0 rfl) ?_
                refine va_get (D := G) (ci := 5) (v := .ref (hy 0)) (C := RX5) (T := TX5) (N := 8) hx hb hts nw_X5_then_X5 hown hK hw.1 0 rfl rfl 5 (by decide) hL0 (fun _ h9 => h9) rfl dX5_then_106 ?_
                refine va_get (D := G) (ci := 1) (v := .int (r3.2.2.1 5 0)) (C := RX1) (T := TX1) (N := 6) hx hb hts nw_X5_then_X1 hown hK hw.1 15 rfl rfl 5 (by decide) hL7 (fun _ h9 => h9) rfl dX5_then_109 ?_
                have z : some ((r3.2.2.1 5 0), r3.2.1, r3.2.2.1, r3.2.2.2) = some o := hf
                cases z
                rw [hQ]
                exact cd_reti C0 hw dX5_then_112
    · have hf := cd_ite_t c4 hf
      refine lv_bipush (v := (-5 : Int32)) hx hb dX5_then_19 (by decide) ?_
      have z : some ((-5 : Int32), r3.2.1, r3.2.2.1, r3.2.2.2) = some o := hf
      cases z
      rw [hQ]
      exact cd_reti C0 hw dX5_then_21
  · have hf := cd_ite_t c2 hf
    refine lv_bipush (v := (-2 : Int32)) hx hb dX5_then_9 (by decide) ?_
    have z : some ((-2 : Int32), P, Y, S) = some o := hf
    cases z
    rw [hQ]
    exact cd_reti C0 hw dX5_then_11
abbrev rm_X5_toldOfCandle : Room := { frames := 2, cells := 0, slots := 0, locals := 44 }
theorem nw_X5_toldOfCandle_X3 : ∀ w ∈ u_ws RX3 TX3 14, w ∈ wsX5_toldOfCandle := by decide +kernel
theorem nw_X5_toldOfCandle_X5 : ∀ w ∈ u_ws RX5 TX5 8, w ∈ wsX5_toldOfCandle := by decide +kernel
set_option maxHeartbeats 4000000 in
set_option maxRecDepth 100000 in
theorem c_X5_toldOfCandle (l : Launch) (G : va_G) (cI cZ : ClassId) (sa sb : Nat) (h ht h1 h2 hp hy hs hv hz : Nat → Nat) (K T : Nat → Nat → Int32) (a0 : Int32) (a1 : Int32) (o : Int32) (hf : f_X5_toldOfCandle a0 a1 K T = some o) : cd_Ct l G cI cZ sa sb yX5_toldOfCandle wsX5_toldOfCandle rm_X5_toldOfCandle [.ref (h 0), .int a0, .int a1] ((pc_top cZ h ht h1 h2 hp hy hv hz K) ++ (pc_town cI ht T)) ((pc_top cZ h ht h1 h2 hp hy hv hz K) ++ (pc_town cI ht T)) (some (.int o)) := by
  refine cd_of (cc := cX5_toldOfCandle) (maxL := 3) (ret := (some .int)) (by decide) rfl (Nat.le_of_ble_eq_true rfl) ?_
  intro p e s m ag below meth c A ls Q C0 hl hw hQ
  have C0 : cd_CX G cI cZ sa sb p s m ag meth c cX5_toldOfCandle 3 (some .int) wsX5_toldOfCandle RX5 A := C0
  obtain ⟨⟨hx, hb, hml, hown, hts⟩, hr, hlocks, hA, hE⟩ := id C0
  have hK := hE.1
  have hL0 := hts (.fieldLink RX5 12 "CandleDebts" "town" "LCandleDebts$Town;") (by decide +kernel)
  have hL1 := hts (.fieldLink RX5 65 "CandleDebts$Town" "wax" "[I") (by decide +kernel)
  have hL2 := hts (.fieldLink RX5 120 "CandleDebts$Town" "trimmed" "[I") (by decide +kernel)
  have hL3 := hts (.fieldLink RX5 73 "CandleDebts$Town" "draughts" "[I") (by decide +kernel)
  have hL4 := hts (.fieldLink RX5 151 "CandleDebts$Town" "creditors" "[I") (by decide +kernel)
  have hL5 := hts (.fieldLink RX5 155 "CandleDebts$Town" "debtors" "[I") (by decide +kernel)
  have hL6 := hts (.fieldLink RX5 117 "CandleDebts$Town" "sums" "[I") (by decide +kernel)
  have hl : lv_has ls 3 [(0, .ref (h 0)), (1, .int a0), (2, .int a1)] := hl
  unfold f_X5_toldOfCandle at hf
  refine lv_iload_n hx hb dX5_toldOfCandle_0 rfl (lv_at hl 2 rfl) ?_
  by_cases c1_0 : a1 = (0 : Int32)
  · have hf := cd_ite_t c1_0 hf
    refine lv_tableIn (off := 47) (tgt := 48) hx hb dX5_toldOfCandle_1 (by rw [c1_0]; decide) (by rw [c1_0]; decide) (by rw [c1_0]; rfl) (by decide) ?_
    refine lv_aload_n hx hb dX5_toldOfCandle_48 rfl (lv_at hl 0 rfl) ?_
    refine va_get (D := G) (ci := 5) (v := .ref (ht 0)) (C := RX5) (T := TX5) (N := 8) hx hb hts nw_X5_toldOfCandle_X5 hown hK hw.1 0 rfl rfl 0 (by decide) hL0 (fun _ h9 => h9) rfl dX5_toldOfCandle_49 ?_
    refine va_get (D := G) (ci := 3) (v := .ref (ht 1)) (C := RX3) (T := TX3) (N := 14) hx hb hts nw_X5_toldOfCandle_X3 hown hK hw.1 2 rfl rfl 0 (by decide) hL1 (fun _ h9 => h9) rfl dX5_toldOfCandle_52 ?_
    refine lv_iload_n hx hb dX5_toldOfCandle_55 rfl (lv_at hl 1 rfl) ?_
    obtain ⟨v2, e2, hf⟩ := cd_bind_some hf
    refine cd_iald hx hb hK hw 3 rfl e2 dX5_toldOfCandle_56 ?_
    have z : some v2 = some o := hf
    cases z
    rw [hQ]
    exact cd_reti C0 hw dX5_toldOfCandle_57
  · have hf := cd_ite_f c1_0 hf
    by_cases c1_1 : a1 = (1 : Int32)
    · have hf := cd_ite_t c1_1 hf
      refine lv_tableIn (off := 57) (tgt := 58) hx hb dX5_toldOfCandle_1 (by rw [c1_1]; decide) (by rw [c1_1]; decide) (by rw [c1_1]; rfl) (by decide) ?_
      refine lv_aload_n hx hb dX5_toldOfCandle_58 rfl (lv_at hl 0 rfl) ?_
      refine va_get (D := G) (ci := 5) (v := .ref (ht 0)) (C := RX5) (T := TX5) (N := 8) hx hb hts nw_X5_toldOfCandle_X5 hown hK hw.1 0 rfl rfl 0 (by decide) hL0 (fun _ h9 => h9) rfl dX5_toldOfCandle_59 ?_
      refine lv_iload_n hx hb dX5_toldOfCandle_62 rfl (lv_at hl 1 rfl) ?_
      obtain ⟨r3, e3, hf⟩ := cd_bind_some hf
      refine cd_callV (As := [.int a0]) (rest := []) C0 hw (c_X3_isLit l G cI cZ sa sb ht T a0 r3 e3) [2, 3, 4, 5, 6, 7, 8, 9, 10, 11, 12] rfl rfl 0 3 rfl rfl rfl (cwV 1 hts gX5_toldOfCandle_X3_isLit rfl rfl rfl (by decide +kernel) ⟨Nat.le_of_ble_eq_true rfl, Nat.le_of_ble_eq_true rfl⟩) rfl hl.1 (lv_room (Nat.le_of_ble_eq_true rfl)) dX5_toldOfCandle_63 (fun H locs hw => ?_)
      obtain ⟨x4, e4, hf⟩ := cd_bind_some hf
      have K4 : ∀ (ls : Array Slot) (H : Heap) (locs : List Loc), lv_has ls 3 [] → cd_WS G A s.heap H locs ((pc_top cZ h ht h1 h2 hp hy hv hz K) ++ (pc_town cI ht T)) → W p l e rm_X5_toldOfCandle s m ag below meth c H locs 0 0 Q (F0 m 74 ls [.int x4]) := by
        intro ls H locs hl hw
        have z : some x4 = some o := hf
        cases z
        rw [hQ]
        exact cd_reti C0 hw dX5_toldOfCandle_74
      refine lv_if_eq (tgt := 73) hx hb dX5_toldOfCandle_66 (by decide) (fun c4 => ?_) (fun c4 => ?_)
      · have e4 := cd_ite_t c4 e4
        refine lv_iconst (v := (0 : Int32)) hx hb dX5_toldOfCandle_73 (by decide) ?_
        have z : some (0 : Int32) = some x4 := e4
        cases z
        exact K4 _ _ _ (lv_sub hl [] rfl) hw
      · have e4 := cd_ite_f c4 e4
        refine lv_iconst (v := (1 : Int32)) hx hb dX5_toldOfCandle_69 (by decide) ?_
        refine lv_goto (tgt := 74) hx hb dX5_toldOfCandle_70 (by decide) ?_
        have z : some (1 : Int32) = some x4 := e4
        cases z
        exact K4 _ _ _ (lv_sub hl [] rfl) hw
    · have hf := cd_ite_f c1_1 hf
      by_cases c1_2 : a1 = (2 : Int32)
      · have hf := cd_ite_t c1_2 hf
        refine lv_tableIn (off := 74) (tgt := 75) hx hb dX5_toldOfCandle_1 (by rw [c1_2]; decide) (by rw [c1_2]; decide) (by rw [c1_2]; rfl) (by decide) ?_
        refine lv_aload_n hx hb dX5_toldOfCandle_75 rfl (lv_at hl 0 rfl) ?_
        refine va_get (D := G) (ci := 5) (v := .ref (ht 0)) (C := RX5) (T := TX5) (N := 8) hx hb hts nw_X5_toldOfCandle_X5 hown hK hw.1 0 rfl rfl 0 (by decide) hL0 (fun _ h9 => h9) rfl dX5_toldOfCandle_76 ?_
        refine va_get (D := G) (ci := 3) (v := .ref (ht 2)) (C := RX3) (T := TX3) (N := 14) hx hb hts nw_X5_toldOfCandle_X3 hown hK hw.1 2 rfl rfl 1 (by decide) hL2 (fun _ h9 => h9) rfl dX5_toldOfCandle_79 ?_
        refine lv_iload_n hx hb dX5_toldOfCandle_82 rfl (lv_at hl 1 rfl) ?_
        obtain ⟨v5, e5, hf⟩ := cd_bind_some hf
        refine cd_iald hx hb hK hw 4 rfl e5 dX5_toldOfCandle_83 ?_
        have z : some v5 = some o := hf
        cases z
        rw [hQ]
        exact cd_reti C0 hw dX5_toldOfCandle_84
      · have hf := cd_ite_f c1_2 hf
        by_cases c1_3 : a1 = (3 : Int32)
        · have hf := cd_ite_t c1_3 hf
          refine lv_tableIn (off := 84) (tgt := 85) hx hb dX5_toldOfCandle_1 (by rw [c1_3]; decide) (by rw [c1_3]; decide) (by rw [c1_3]; rfl) (by decide) ?_
          refine lv_aload_n hx hb dX5_toldOfCandle_85 rfl (lv_at hl 0 rfl) ?_
          refine va_get (D := G) (ci := 5) (v := .ref (ht 0)) (C := RX5) (T := TX5) (N := 8) hx hb hts nw_X5_toldOfCandle_X5 hown hK hw.1 0 rfl rfl 0 (by decide) hL0 (fun _ h9 => h9) rfl dX5_toldOfCandle_86 ?_
          refine va_get (D := G) (ci := 3) (v := .ref (ht 3)) (C := RX3) (T := TX3) (N := 14) hx hb hts nw_X5_toldOfCandle_X3 hown hK hw.1 2 rfl rfl 2 (by decide) hL3 (fun _ h9 => h9) rfl dX5_toldOfCandle_89 ?_
          refine lv_iload_n hx hb dX5_toldOfCandle_92 rfl (lv_at hl 1 rfl) ?_
          obtain ⟨v6, e6, hf⟩ := cd_bind_some hf
          refine cd_iald hx hb hK hw 5 rfl e6 dX5_toldOfCandle_93 ?_
          have z : some v6 = some o := hf
          cases z
          rw [hQ]
          exact cd_reti C0 hw dX5_toldOfCandle_94
        · have hf := cd_ite_f c1_3 hf
          by_cases c1_4 : a1 = (4 : Int32)
          · have hf := cd_ite_t c1_4 hf
            refine lv_tableIn (off := 94) (tgt := 95) hx hb dX5_toldOfCandle_1 (by rw [c1_4]; decide) (by rw [c1_4]; decide) (by rw [c1_4]; rfl) (by decide) ?_
            refine lv_aload_n hx hb dX5_toldOfCandle_95 rfl (lv_at hl 0 rfl) ?_
            refine va_get (D := G) (ci := 5) (v := .ref (ht 0)) (C := RX5) (T := TX5) (N := 8) hx hb hts nw_X5_toldOfCandle_X5 hown hK hw.1 0 rfl rfl 0 (by decide) hL0 (fun _ h9 => h9) rfl dX5_toldOfCandle_96 ?_
            refine va_get (D := G) (ci := 3) (v := .ref (ht 4)) (C := RX3) (T := TX3) (N := 14) hx hb hts nw_X5_toldOfCandle_X3 hown hK hw.1 2 rfl rfl 3 (by decide) hL4 (fun _ h9 => h9) rfl dX5_toldOfCandle_99 ?_
            refine lv_iload_n hx hb dX5_toldOfCandle_102 rfl (lv_at hl 1 rfl) ?_
            obtain ⟨v7, e7, hf⟩ := cd_bind_some hf
            refine cd_iald hx hb hK hw 6 rfl e7 dX5_toldOfCandle_103 ?_
            have z : some v7 = some o := hf
            cases z
            rw [hQ]
            exact cd_reti C0 hw dX5_toldOfCandle_104
          · have hf := cd_ite_f c1_4 hf
            by_cases c1_5 : a1 = (5 : Int32)
            · have hf := cd_ite_t c1_5 hf
              refine lv_tableIn (off := 104) (tgt := 105) hx hb dX5_toldOfCandle_1 (by rw [c1_5]; decide) (by rw [c1_5]; decide) (by rw [c1_5]; rfl) (by decide) ?_
              refine lv_aload_n hx hb dX5_toldOfCandle_105 rfl (lv_at hl 0 rfl) ?_
              refine va_get (D := G) (ci := 5) (v := .ref (ht 0)) (C := RX5) (T := TX5) (N := 8) hx hb hts nw_X5_toldOfCandle_X5 hown hK hw.1 0 rfl rfl 0 (by decide) hL0 (fun _ h9 => h9) rfl dX5_toldOfCandle_106 ?_
              refine va_get (D := G) (ci := 3) (v := .ref (ht 5)) (C := RX3) (T := TX3) (N := 14) hx hb hts nw_X5_toldOfCandle_X3 hown hK hw.1 2 rfl rfl 4 (by decide) hL5 (fun _ h9 => h9) rfl dX5_toldOfCandle_109 ?_
              refine lv_iload_n hx hb dX5_toldOfCandle_112 rfl (lv_at hl 1 rfl) ?_
              obtain ⟨v8, e8, hf⟩ := cd_bind_some hf
              refine cd_iald hx hb hK hw 7 rfl e8 dX5_toldOfCandle_113 ?_
              have z : some v8 = some o := hf
              cases z
              rw [hQ]
              exact cd_reti C0 hw dX5_toldOfCandle_114
            · have hf := cd_ite_f c1_5 hf
              by_cases c1_6 : a1 = (6 : Int32)
              · have hf := cd_ite_t c1_6 hf
                refine lv_tableIn (off := 114) (tgt := 115) hx hb dX5_toldOfCandle_1 (by rw [c1_6]; decide) (by rw [c1_6]; decide) (by rw [c1_6]; rfl) (by decide) ?_
                refine lv_aload_n hx hb dX5_toldOfCandle_115 rfl (lv_at hl 0 rfl) ?_
                refine va_get (D := G) (ci := 5) (v := .ref (ht 0)) (C := RX5) (T := TX5) (N := 8) hx hb hts nw_X5_toldOfCandle_X5 hown hK hw.1 0 rfl rfl 0 (by decide) hL0 (fun _ h9 => h9) rfl dX5_toldOfCandle_116 ?_
                refine va_get (D := G) (ci := 3) (v := .ref (ht 6)) (C := RX3) (T := TX3) (N := 14) hx hb hts nw_X5_toldOfCandle_X3 hown hK hw.1 2 rfl rfl 5 (by decide) hL6 (fun _ h9 => h9) rfl dX5_toldOfCandle_119 ?_
                refine lv_iload_n hx hb dX5_toldOfCandle_122 rfl (lv_at hl 1 rfl) ?_
                obtain ⟨v9, e9, hf⟩ := cd_bind_some hf
                refine cd_iald hx hb hK hw 8 rfl e9 dX5_toldOfCandle_123 ?_
                have z : some v9 = some o := hf
                cases z
                rw [hQ]
                exact cd_reti C0 hw dX5_toldOfCandle_124
              · have hf := cd_ite_f c1_6 hf
                by_cases c1_7 : a1 = (7 : Int32)
                · have hf := cd_ite_t c1_7 hf
                  refine lv_tableIn (off := 124) (tgt := 125) hx hb dX5_toldOfCandle_1 (by rw [c1_7]; decide) (by rw [c1_7]; decide) (by rw [c1_7]; rfl) (by decide) ?_
                  refine lv_aload_n hx hb dX5_toldOfCandle_125 rfl (lv_at hl 0 rfl) ?_
                  refine va_get (D := G) (ci := 5) (v := .ref (ht 0)) (C := RX5) (T := TX5) (N := 8) hx hb hts nw_X5_toldOfCandle_X5 hown hK hw.1 0 rfl rfl 0 (by decide) hL0 (fun _ h9 => h9) rfl dX5_toldOfCandle_126 ?_
                  refine lv_iload_n hx hb dX5_toldOfCandle_129 rfl (lv_at hl 1 rfl) ?_
                  obtain ⟨r10, e10, hf⟩ := cd_bind_some hf
                  refine cd_callV (As := [.int a0]) (rest := []) C0 hw (c_X3_burnOf l G cI cZ sa sb ht T a0 r10 e10) [2, 3, 4, 5, 6, 7, 8, 9, 10, 11, 12] rfl rfl 0 3 rfl rfl rfl (cwV 1 hts gX5_toldOfCandle_X3_burnOf rfl rfl rfl (by decide +kernel) ⟨Nat.le_of_ble_eq_true rfl, Nat.le_of_ble_eq_true rfl⟩) rfl hl.1 (lv_room (Nat.le_of_ble_eq_true rfl)) dX5_toldOfCandle_130 (fun H locs hw => ?_)
                  have z : some r10 = some o := hf
                  cases z
                  rw [hQ]
                  exact cd_reti C0 hw dX5_toldOfCandle_133
                · have hf := cd_ite_f c1_7 hf
                  refine lv_tableOut (tgt := 134) hx hb dX5_toldOfCandle_1 (by have q0 : a1.toInt ≠ 0 := cd_ne c1_0; have q1 : a1.toInt ≠ 1 := cd_ne c1_1; have q2 : a1.toInt ≠ 2 := cd_ne c1_2; have q3 : a1.toInt ≠ 3 := cd_ne c1_3; have q4 : a1.toInt ≠ 4 := cd_ne c1_4; have q5 : a1.toInt ≠ 5 := cd_ne c1_5; have q6 : a1.toInt ≠ 6 := cd_ne c1_6; have q7 : a1.toInt ≠ 7 := cd_ne c1_7; omega) (by decide) ?_
                  refine lv_bipush (v := (-2 : Int32)) hx hb dX5_toldOfCandle_134 (by decide) ?_
                  have z : some (-2 : Int32) = some o := hf
                  cases z
                  rw [hQ]
                  exact cd_reti C0 hw dX5_toldOfCandle_136
abbrev rm_X5_told : Room := { frames := 3, cells := 0, slots := 0, locals := 66 }
theorem nw_X5_told_X0 : ∀ w ∈ u_ws RX0 TX0 6, w ∈ wsX5_told := by decide +kernel
theorem nw_X5_told_X3 : ∀ w ∈ u_ws RX3 TX3 14, w ∈ wsX5_told := by decide +kernel
theorem nw_X5_told_X5 : ∀ w ∈ u_ws RX5 TX5 8, w ∈ wsX5_told := by decide +kernel
set_option maxHeartbeats 4000000 in
set_option maxRecDepth 100000 in
theorem c_X5_told (l : Launch) (G : va_G) (cI cZ : ClassId) (sa sb : Nat) (h ht h1 h2 hp hy hs hv hz : Nat → Nat) (K T P : Nat → Nat → Int32) (a0 : Int32) (o : Int32) (hf : f_X5_told a0 K T P = some o) : cd_Ct l G cI cZ sa sb yX5_told wsX5_told rm_X5_told [.ref (h 0), .int a0] ((pc_top cZ h ht h1 h2 hp hy hv hz K) ++ (pc_town cI ht T) ++ (pc_pad cI hp P)) ((pc_top cZ h ht h1 h2 hp hy hv hz K) ++ (pc_town cI ht T) ++ (pc_pad cI hp P)) (some (.int o)) := by
  refine cd_of (cc := cX5_told) (maxL := 2) (ret := (some .int)) (by decide) rfl (Nat.le_of_ble_eq_true rfl) ?_
  intro p e s m ag below meth c A ls Q C0 hl hw hQ
  have C0 : cd_CX G cI cZ sa sb p s m ag meth c cX5_told 2 (some .int) wsX5_told RX5 A := C0
  obtain ⟨⟨hx, hb, hml, hown, hts⟩, hr, hlocks, hA, hE⟩ := id C0
  have hK := hE.1
  have hL0 := hts (.fieldLink RX5 29 "CandleDebts" "pad" "LCandleDebts$Pad;") (by decide +kernel)
  have hL1 := hts (.fieldLink RX5 86 "CandleDebts$Pad" "count" "I") (by decide +kernel)
  have hL2 := hts (.fieldLink RX5 12 "CandleDebts" "town" "LCandleDebts$Town;") (by decide +kernel)
  have hL3 := hts (.fieldLink RX5 123 "CandleDebts$Town" "lit" "I") (by decide +kernel)
  have hL4 := hts (.fieldLink RX5 79 "CandleDebts$Town" "matchesLeft" "I") (by decide +kernel)
  have hL5 := hts (.fieldLink RX5 126 "CandleDebts$Town" "minute" "I") (by decide +kernel)
  have hL6 := hts (.fieldLink RX5 193 "CandleDebts$Town" "sights" "I") (by decide +kernel)
  have hL7 := hts (.fieldLink RX5 76 "CandleDebts$Town" "purses" "[I") (by decide +kernel)
  have hl : lv_has ls 2 [(0, .ref (h 0)), (1, .int a0)] := hl
  unfold f_X5_told at hf
  refine lv_iload_n hx hb dX5_told_0 rfl (lv_at hl 1 rfl) ?_
  refine lv_bipush (v := (10 : Int32)) hx hb dX5_told_1 (by decide) ?_
  refine lv_bipush (v := (15 : Int32)) hx hb dX5_told_3 (by decide) ?_
  obtain ⟨r1, e1, hf⟩ := cd_bind_some hf
  refine cd_callS (As := [.int a0, .int (10 : Int32), .int (15 : Int32)]) (rest := []) C0 hw (c_X5_within l G cI cZ sa sb a0 (10 : Int32) (15 : Int32) r1 e1) [] rfl rfl (va_cwS 3 hts gX5_told_X5_within rfl rfl rfl (by decide +kernel) ⟨Nat.le_of_ble_eq_true rfl, Nat.le_of_ble_eq_true rfl⟩) rfl hl.1 (lv_room (Nat.le_of_ble_eq_true rfl)) dX5_told_5 (fun H locs hw => ?_)
  refine lv_if_eq (tgt := 24) hx hb dX5_told_8 (by decide) (fun c2 => ?_) (fun c2 => ?_)
  · have hf := cd_ite_t c2 hf
    refine lv_iload_n hx hb dX5_told_24 rfl (lv_at hl 1 rfl) ?_
    refine lv_bipush (v := (100 : Int32)) hx hb dX5_told_25 (by decide) ?_
    refine lv_sipush (v := (219 : Int32)) hx hb dX5_told_27 (by decide) ?_
    obtain ⟨r3, e3, hf⟩ := cd_bind_some hf
    refine cd_callS (As := [.int a0, .int (100 : Int32), .int (219 : Int32)]) (rest := []) C0 hw (c_X5_within l G cI cZ sa sb a0 (100 : Int32) (219 : Int32) r3 e3) [] rfl rfl (va_cwS 3 hts gX5_told_X5_within rfl rfl rfl (by decide +kernel) ⟨Nat.le_of_ble_eq_true rfl, Nat.le_of_ble_eq_true rfl⟩) rfl hl.1 (lv_room (Nat.le_of_ble_eq_true rfl)) dX5_told_30 (fun H locs hw => ?_)
    refine lv_if_eq (tgt := 52) hx hb dX5_told_33 (by decide) (fun c4 => ?_) (fun c4 => ?_)
    · have hf := cd_ite_t c4 hf
      refine lv_iload_n hx hb dX5_told_52 rfl (lv_at hl 1 rfl) ?_
      by_cases c5_0 : a0 = (0 : Int32)
      · have hf := cd_ite_t c5_0 hf
        refine lv_tableIn (off := 35) (tgt := 88) hx hb dX5_told_53 (by rw [c5_0]; decide) (by rw [c5_0]; decide) (by rw [c5_0]; rfl) (by decide) ?_
        refine lv_aload_n hx hb dX5_told_88 rfl (lv_at hl 0 rfl) ?_
        refine va_get (D := G) (ci := 5) (v := .ref (hp 0)) (C := RX5) (T := TX5) (N := 8) hx hb hts nw_X5_told_X5 hown hK hw.1 0 rfl rfl 4 (by decide) hL0 (fun _ h9 => h9) rfl dX5_told_89 ?_
        refine va_get (D := G) (ci := 0) (v := .int (P 1 0)) (C := RX0) (T := TX0) (N := 6) hx hb hts nw_X5_told_X0 hown hK hw.1 13 rfl rfl 1 (by decide) hL1 (fun _ h9 => h9) rfl dX5_told_92 ?_
        have z : some (P 1 0) = some o := hf
        cases z
        rw [hQ]
        exact cd_reti C0 hw dX5_told_95
      · have hf := cd_ite_f c5_0 hf
        by_cases c5_1 : a0 = (1 : Int32)
        · have hf := cd_ite_t c5_1 hf
          refine lv_tableIn (off := 43) (tgt := 96) hx hb dX5_told_53 (by rw [c5_1]; decide) (by rw [c5_1]; decide) (by rw [c5_1]; rfl) (by decide) ?_
          refine lv_aload_n hx hb dX5_told_96 rfl (lv_at hl 0 rfl) ?_
          refine va_get (D := G) (ci := 5) (v := .ref (ht 0)) (C := RX5) (T := TX5) (N := 8) hx hb hts nw_X5_told_X5 hown hK hw.1 0 rfl rfl 0 (by decide) hL2 (fun _ h9 => h9) rfl dX5_told_97 ?_
          refine va_get (D := G) (ci := 3) (v := .int (T 11 0)) (C := RX3) (T := TX3) (N := 14) hx hb hts nw_X5_told_X3 hown hK hw.1 2 rfl rfl 11 (by decide) hL3 (fun _ h9 => h9) rfl dX5_told_100 ?_
          have z : some (T 11 0) = some o := hf
          cases z
          rw [hQ]
          exact cd_reti C0 hw dX5_told_103
        · have hf := cd_ite_f c5_1 hf
          by_cases c5_2 : a0 = (2 : Int32)
          · have hf := cd_ite_t c5_2 hf
            refine lv_tableIn (off := 51) (tgt := 104) hx hb dX5_told_53 (by rw [c5_2]; decide) (by rw [c5_2]; decide) (by rw [c5_2]; rfl) (by decide) ?_
            refine lv_aload_n hx hb dX5_told_104 rfl (lv_at hl 0 rfl) ?_
            refine va_get (D := G) (ci := 5) (v := .ref (ht 0)) (C := RX5) (T := TX5) (N := 8) hx hb hts nw_X5_told_X5 hown hK hw.1 0 rfl rfl 0 (by decide) hL2 (fun _ h9 => h9) rfl dX5_told_105 ?_
            refine va_get (D := G) (ci := 3) (v := .int (T 12 0)) (C := RX3) (T := TX3) (N := 14) hx hb hts nw_X5_told_X3 hown hK hw.1 2 rfl rfl 12 (by decide) hL4 (fun _ h9 => h9) rfl dX5_told_108 ?_
            have z : some (T 12 0) = some o := hf
            cases z
            rw [hQ]
            exact cd_reti C0 hw dX5_told_111
          · have hf := cd_ite_f c5_2 hf
            by_cases c5_3 : a0 = (3 : Int32)
            · have hf := cd_ite_t c5_3 hf
              refine lv_tableIn (off := 59) (tgt := 112) hx hb dX5_told_53 (by rw [c5_3]; decide) (by rw [c5_3]; decide) (by rw [c5_3]; rfl) (by decide) ?_
              refine lv_aload_n hx hb dX5_told_112 rfl (lv_at hl 0 rfl) ?_
              refine va_get (D := G) (ci := 5) (v := .ref (ht 0)) (C := RX5) (T := TX5) (N := 8) hx hb hts nw_X5_told_X5 hown hK hw.1 0 rfl rfl 0 (by decide) hL2 (fun _ h9 => h9) rfl dX5_told_113 ?_
              refine va_get (D := G) (ci := 3) (v := .int (T 13 0)) (C := RX3) (T := TX3) (N := 14) hx hb hts nw_X5_told_X3 hown hK hw.1 2 rfl rfl 13 (by decide) hL5 (fun _ h9 => h9) rfl dX5_told_116 ?_
              have z : some (T 13 0) = some o := hf
              cases z
              rw [hQ]
              exact cd_reti C0 hw dX5_told_119
            · have hf := cd_ite_f c5_3 hf
              by_cases c5_4 : a0 = (4 : Int32)
              · have hf := cd_ite_t c5_4 hf
                refine lv_tableIn (off := 67) (tgt := 120) hx hb dX5_told_53 (by rw [c5_4]; decide) (by rw [c5_4]; decide) (by rw [c5_4]; rfl) (by decide) ?_
                refine lv_aload_n hx hb dX5_told_120 rfl (lv_at hl 0 rfl) ?_
                refine va_get (D := G) (ci := 5) (v := .ref (ht 0)) (C := RX5) (T := TX5) (N := 8) hx hb hts nw_X5_told_X5 hown hK hw.1 0 rfl rfl 0 (by decide) hL2 (fun _ h9 => h9) rfl dX5_told_121 ?_
                refine va_get (D := G) (ci := 3) (v := .int (T 10 0)) (C := RX3) (T := TX3) (N := 14) hx hb hts nw_X5_told_X3 hown hK hw.1 2 rfl rfl 10 (by decide) hL6 (fun _ h9 => h9) rfl dX5_told_124 ?_
                have z : some (T 10 0) = some o := hf
                cases z
                rw [hQ]
                exact cd_reti C0 hw dX5_told_127
              · have hf := cd_ite_f c5_4 hf
                refine lv_tableOut (tgt := 128) hx hb dX5_told_53 (by have q0 : a0.toInt ≠ 0 := cd_ne c5_0; have q1 : a0.toInt ≠ 1 := cd_ne c5_1; have q2 : a0.toInt ≠ 2 := cd_ne c5_2; have q3 : a0.toInt ≠ 3 := cd_ne c5_3; have q4 : a0.toInt ≠ 4 := cd_ne c5_4; omega) (by decide) ?_
                refine lv_bipush (v := (-2 : Int32)) hx hb dX5_told_128 (by decide) ?_
                have z : some (-2 : Int32) = some o := hf
                cases z
                rw [hQ]
                exact cd_reti C0 hw dX5_told_130
    · have hf := cd_ite_f c4 hf
      refine lv_aload_n hx hb dX5_told_36 rfl (lv_at hl 0 rfl) ?_
      refine lv_iload_n hx hb dX5_told_37 rfl (lv_at hl 1 rfl) ?_
      refine lv_bipush (v := (100 : Int32)) hx hb dX5_told_38 (by decide) ?_
      refine lv_isub hx hb dX5_told_40 ?_
      refine lv_bipush (v := (10 : Int32)) hx hb dX5_told_41 (by decide) ?_
      refine lv_idiv hx hb dX5_told_43 (by decide) ?_
      refine lv_iload_n hx hb dX5_told_44 rfl (lv_at hl 1 rfl) ?_
      refine lv_bipush (v := (10 : Int32)) hx hb dX5_told_45 (by decide) ?_
      refine lv_irem hx hb dX5_told_47 (by decide) ?_
      obtain ⟨r6, e6, hf⟩ := cd_bind_some hf
      refine cd_callV (As := [.int ((a0 - (100 : Int32)) / (10 : Int32)), .int (a0 - a0 / (10 : Int32) * (10 : Int32))]) (rest := []) C0 hw (c_X5_toldOfCandle l G cI cZ sa sb h ht h1 h2 hp hy hs hv hz K T ((a0 - (100 : Int32)) / (10 : Int32)) (a0 - a0 / (10 : Int32) * (10 : Int32)) r6 e6) [0, 1, 2, 3, 4, 5, 6, 7, 8, 9, 10, 11, 12] rfl rfl 0 5 rfl rfl rfl (cwV 2 hts gX5_told_X5_toldOfCandle rfl rfl rfl (by decide +kernel) ⟨Nat.le_of_ble_eq_true rfl, Nat.le_of_ble_eq_true rfl⟩) rfl hl.1 (lv_room (Nat.le_of_ble_eq_true rfl)) dX5_told_48 (fun H locs hw => ?_)
      have z : some r6 = some o := hf
      cases z
      rw [hQ]
      exact cd_reti C0 hw dX5_told_51
  · have hf := cd_ite_f c2 hf
    refine lv_aload_n hx hb dX5_told_11 rfl (lv_at hl 0 rfl) ?_
    refine va_get (D := G) (ci := 5) (v := .ref (ht 0)) (C := RX5) (T := TX5) (N := 8) hx hb hts nw_X5_told_X5 hown hK hw.1 0 rfl rfl 0 (by decide) hL2 (fun _ h9 => h9) rfl dX5_told_12 ?_
    refine va_get (D := G) (ci := 3) (v := .ref (ht 8)) (C := RX3) (T := TX3) (N := 14) hx hb hts nw_X5_told_X3 hown hK hw.1 2 rfl rfl 7 (by decide) hL7 (fun _ h9 => h9) rfl dX5_told_15 ?_
    refine lv_iload_n hx hb dX5_told_18 rfl (lv_at hl 1 rfl) ?_
    refine lv_bipush (v := (10 : Int32)) hx hb dX5_told_19 (by decide) ?_
    refine lv_isub hx hb dX5_told_21 ?_
    obtain ⟨v7, e7, hf⟩ := cd_bind_some hf
    refine cd_iald hx hb hK hw 10 rfl e7 dX5_told_22 ?_
    have z : some v7 = some o := hf
    cases z
    rw [hQ]
    exact cd_reti C0 hw dX5_told_23
abbrev rm_X5_trims : Room := { frames := 2, cells := 0, slots := 0, locals := 46 }
theorem nw_X5_trims_X3 : ∀ w ∈ u_ws RX3 TX3 14, w ∈ wsX5_trims := by decide +kernel
theorem nw_X5_trims_X5 : ∀ w ∈ u_ws RX5 TX5 8, w ∈ wsX5_trims := by decide +kernel
set_option maxHeartbeats 4000000 in
set_option maxRecDepth 100000 in
theorem c_X5_trims (l : Launch) (G : va_G) (cI cZ : ClassId) (sa sb : Nat) (h ht h1 h2 hp hy hs hv hz : Nat → Nat) (K T : Nat → Nat → Int32) (a0 : Int32) (a1 : Int32) (o : Int32) (hf : f_X5_trims a0 a1 K T = some o) : cd_Ct l G cI cZ sa sb yX5_trims wsX5_trims rm_X5_trims [.ref (h 0), .int a0, .int a1] ((pc_top cZ h ht h1 h2 hp hy hv hz K) ++ (pc_town cI ht T)) ((pc_top cZ h ht h1 h2 hp hy hv hz K) ++ (pc_town cI ht T)) (some (.int o)) := by
  refine cd_of (cc := cX5_trims) (maxL := 5) (ret := (some .int)) (by decide) rfl (Nat.le_of_ble_eq_true rfl) ?_
  intro p e s m ag below meth c A ls Q C0 hl hw hQ
  have C0 : cd_CX G cI cZ sa sb p s m ag meth c cX5_trims 5 (some .int) wsX5_trims RX5 A := C0
  obtain ⟨⟨hx, hb, hml, hown, hts⟩, hr, hlocks, hA, hE⟩ := id C0
  have hK := hE.1
  have hL0 := hts (.fieldLink RX5 12 "CandleDebts" "town" "LCandleDebts$Town;") (by decide +kernel)
  have hL1 := hts (.fieldLink RX5 120 "CandleDebts$Town" "trimmed" "[I") (by decide +kernel)
  have hl : lv_has ls 5 [(0, .ref (h 0)), (1, .int a0), (2, .int a1)] := hl
  unfold f_X5_trims at hf
  refine lv_iload_n hx hb dX5_trims_0 rfl (lv_at hl 1 rfl) ?_
  obtain ⟨r1, e1, hf⟩ := cd_bind_some hf
  refine cd_callS (As := [.int a0]) (rest := []) C0 hw (c_X5_isCandle l G cI cZ sa sb a0 r1 e1) [] rfl rfl (va_cwS 1 hts gX5_trims_X5_isCandle rfl rfl rfl (by decide +kernel) ⟨Nat.le_of_ble_eq_true rfl, Nat.le_of_ble_eq_true rfl⟩) rfl hl.1 (lv_room (Nat.le_of_ble_eq_true rfl)) dX5_trims_1 (fun H locs hw => ?_)
  refine lv_if_ne (tgt := 9) hx hb dX5_trims_4 (by decide) (fun c2 => ?_) (fun c2 => ?_)
  · have hf := cd_ite_f c2 hf
    refine lv_iload_n hx hb dX5_trims_9 rfl (lv_at hl 2 rfl) ?_
    refine lv_iconst (v := (1 : Int32)) hx hb dX5_trims_10 (by decide) ?_
    refine lv_sipush (v := (999 : Int32)) hx hb dX5_trims_11 (by decide) ?_
    obtain ⟨r3, e3, hf⟩ := cd_bind_some hf
    refine cd_callS (As := [.int a1, .int (1 : Int32), .int (999 : Int32)]) (rest := []) C0 hw (c_X5_within l G cI cZ sa sb a1 (1 : Int32) (999 : Int32) r3 e3) [] rfl rfl (va_cwS 3 hts gX5_trims_X5_within rfl rfl rfl (by decide +kernel) ⟨Nat.le_of_ble_eq_true rfl, Nat.le_of_ble_eq_true rfl⟩) rfl hl.1 (lv_room (Nat.le_of_ble_eq_true rfl)) dX5_trims_14 (fun H locs hw => ?_)
    refine lv_if_ne (tgt := 23) hx hb dX5_trims_17 (by decide) (fun c4 => ?_) (fun c4 => ?_)
    · have hf := cd_ite_f c4 hf
      refine lv_aload_n hx hb dX5_trims_23 rfl (lv_at hl 0 rfl) ?_
      refine va_get (D := G) (ci := 5) (v := .ref (ht 0)) (C := RX5) (T := TX5) (N := 8) hx hb hts nw_X5_trims_X5 hown hK hw.1 0 rfl rfl 0 (by decide) hL0 (fun _ h9 => h9) rfl dX5_trims_24 ?_
      refine va_get (D := G) (ci := 3) (v := .ref (ht 2)) (C := RX3) (T := TX3) (N := 14) hx hb hts nw_X5_trims_X3 hown hK hw.1 2 rfl rfl 1 (by decide) hL1 (fun _ h9 => h9) rfl dX5_trims_27 ?_
      refine lv_iload_n hx hb dX5_trims_30 rfl (lv_at hl 1 rfl) ?_
      obtain ⟨v5, e5, hf⟩ := cd_bind_some hf
      refine cd_iald hx hb hK hw 4 rfl e5 dX5_trims_31 ?_
      refine lv_istore_n (lv' := [(3, .int v5), (0, .ref (h 0)), (1, .int a0), (2, .int a1)]) hx hb dX5_trims_32 rfl hl (by decide) rfl (fun ls hl => ?_)
      refine lv_iconst (v := (0 : Int32)) hx hb dX5_trims_33 (by decide) ?_
      refine lv_istore (lv' := [(4, .int (0 : Int32)), (3, .int v5), (0, .ref (h 0)), (1, .int a0), (2, .int a1)]) hx hb dX5_trims_34 hl (by decide) rfl (fun ls hl => ?_)
      obtain ⟨x6, e6, hf⟩ := cd_bind_some hf
      have K6 : ∀ (t6 : Unit), Sum.inr t6 = x6 → ∀ (ls : Array Slot) (H : Heap) (locs : List Loc), lv_has ls 5 [] → cd_WS G A s.heap H locs ((pc_top cZ h ht h1 h2 hp hy hv hz K) ++ (pc_town cI ht T)) → W p l e rm_X5_trims s m ag below meth c H locs 0 0 Q (F0 m 70 ls []) := by
        intro t6 hs_6
        subst hs_6
        intro ls H locs hl hw
        refine lv_bipush (v := (-6 : Int32)) hx hb dX5_trims_70 (by decide) ?_
        have z : some (-6 : Int32) = some o := hf
        cases z
        rw [hQ]
        exact cd_reti C0 hw dX5_trims_72
      refine cd_iter_ind (body := (f_X5_trims_b36 a0 a1 T v5)) (K := fun r => r = x6) (P := fun (z6 : Int32) => ∀ (ls : Array Slot) (H : Heap) (locs : List Loc), lv_has ls 5 [(0, .ref (h 0)), (1, .int a0), (2, .int a1), (3, .int v5), (4, .int z6)] → cd_WS G A s.heap H locs ((pc_top cZ h ht h1 h2 hp hy hv hz K) ++ (pc_town cI ht T)) → W p l e rm_X5_trims s m ag below meth c H locs 0 0 Q (F0 m 36 ls [])) ?_ cd_N (0 : Int32) x6 e6 rfl _ _ _ (lv_sub hl [2, 3, 4, 1, 0] rfl) hw
      intro z6 o6 hb6 hk6 ls H locs hl hw
      unfold f_X5_trims_b36 at hb6
      refine lv_iload_n hx hb dX5_trims_36 rfl (lv_at hl 3 rfl) ?_
      refine lv_iload hx hb dX5_trims_37 (lv_at hl 4 rfl) ?_
      refine lv_iadd hx hb dX5_trims_39 ?_
      refine lv_bipush (v := (9 : Int32)) hx hb dX5_trims_40 (by decide) ?_
      refine lv_icmp_gt (tgt := 70) hx hb dX5_trims_42 (by decide) (fun c7 => ?_) (fun c7 => ?_)
      · have hb6 := cd_ite_t c7 hb6
        have z : some (Sum.inl (Sum.inr ())) = some o6 := hb6
        cases z
        exact K6 _ hk6 _ _ _ (lv_sub hl [] rfl) hw
      · have hb6 := cd_ite_f c7 hb6
        refine lv_aload_n hx hb dX5_trims_45 rfl (lv_at hl 0 rfl) ?_
        refine va_get (D := G) (ci := 5) (v := .ref (ht 0)) (C := RX5) (T := TX5) (N := 8) hx hb hts nw_X5_trims_X5 hown hK hw.1 0 rfl rfl 0 (by decide) hL0 (fun _ h9 => h9) rfl dX5_trims_46 ?_
        refine lv_iload_n hx hb dX5_trims_49 rfl (lv_at hl 1 rfl) ?_
        refine lv_iload_n hx hb dX5_trims_50 rfl (lv_at hl 3 rfl) ?_
        refine lv_iload hx hb dX5_trims_51 (lv_at hl 4 rfl) ?_
        refine lv_iadd hx hb dX5_trims_53 ?_
        obtain ⟨r8, e8, hb6⟩ := cd_bind_some hb6
        refine cd_callV (As := [.int a0, .int (v5 + z6)]) (rest := []) C0 hw (c_X3_minutesLeftTrimmed l G cI cZ sa sb ht T a0 (v5 + z6) r8 e8) [2, 3, 4, 5, 6, 7, 8, 9, 10, 11, 12] rfl rfl 0 3 rfl rfl rfl (cwV 2 hts gX5_trims_X3_minutesLeftTrimmed rfl rfl rfl (by decide +kernel) ⟨Nat.le_of_ble_eq_true rfl, Nat.le_of_ble_eq_true rfl⟩) rfl hl.1 (lv_room (Nat.le_of_ble_eq_true rfl)) dX5_trims_54 (fun H locs hw => ?_)
        refine lv_iload_n hx hb dX5_trims_57 rfl (lv_at hl 2 rfl) ?_
        refine lv_icmp_lt (tgt := 64) hx hb dX5_trims_58 (by decide) (fun c9 => ?_) (fun c9 => ?_)
        · have hb6 := cd_ite_t c9 hb6
          refine lv_iinc (v := (z6 + (1 : Int32))) (lv' := [(4, .int (z6 + (1 : Int32))), (0, .ref (h 0)), (1, .int a0), (2, .int a1), (3, .int v5)]) hx hb dX5_trims_64 hl (k := 4) rfl rfl (by decide) rfl (fun ls hl => ?_)
          refine lv_goto (tgt := 36) hx hb dX5_trims_67 (by decide) ?_
          have z : some (Sum.inr (z6 + (1 : Int32))) = some o6 := hb6
          cases z
          exact hk6 _ _ _ (lv_sub hl [1, 2, 3, 4, 0] rfl) hw
        · have hb6 := cd_ite_f c9 hb6
          refine lv_iload hx hb dX5_trims_61 (lv_at hl 4 rfl) ?_
          have z : some (Sum.inl (Sum.inl z6)) = some o6 := hb6
          cases z
          have y6 : Sum.inl z6 = x6 := hk6
          subst y6
          have z : some z6 = some o := hf
          cases z
          rw [hQ]
          exact cd_reti C0 hw dX5_trims_63
    · have hf := cd_ite_t c4 hf
      refine lv_bipush (v := (-2 : Int32)) hx hb dX5_trims_20 (by decide) ?_
      have z : some (-2 : Int32) = some o := hf
      cases z
      rw [hQ]
      exact cd_reti C0 hw dX5_trims_22
  · have hf := cd_ite_t c2 hf
    refine lv_iconst (v := (-1 : Int32)) hx hb dX5_trims_7 (by decide) ?_
    have z : some (-1 : Int32) = some o := hf
    cases z
    rw [hQ]
    exact cd_reti C0 hw dX5_trims_8
abbrev rm_X5_wipe : Room := { frames := 0, cells := 0, slots := 0, locals := 0 }
theorem nw_X5_wipe_X0 : ∀ w ∈ u_ws RX0 TX0 6, w ∈ wsX5_wipe := by decide +kernel
theorem nw_X5_wipe_X5 : ∀ w ∈ u_ws RX5 TX5 8, w ∈ wsX5_wipe := by decide +kernel
set_option maxHeartbeats 4000000 in
set_option maxRecDepth 100000 in
theorem c_X5_wipe (l : Launch) (G : va_G) (cI cZ : ClassId) (sa sb : Nat) (h ht h1 h2 hp hy hs hv hz : Nat → Nat) (K P : Nat → Nat → Int32) (o : Int32 × (Nat → Nat → Int32)) (hf : f_X5_wipe K P = some o) : cd_Ct l G cI cZ sa sb yX5_wipe wsX5_wipe rm_X5_wipe [.ref (h 0)] ((pc_top cZ h ht h1 h2 hp hy hv hz K) ++ (pc_pad cI hp P)) ((pc_top cZ h ht h1 h2 hp hy hv hz K) ++ (pc_pad cI hp o.2)) (some (.int o.1)) := by
  refine cd_of (cc := cX5_wipe) (maxL := 2) (ret := (some .int)) (by decide) rfl (Nat.le_of_ble_eq_true rfl) ?_
  intro p e s m ag below meth c A ls Q C0 hl hw hQ
  have C0 : cd_CX G cI cZ sa sb p s m ag meth c cX5_wipe 2 (some .int) wsX5_wipe RX5 A := C0
  obtain ⟨⟨hx, hb, hml, hown, hts⟩, hr, hlocks, hA, hE⟩ := id C0
  have hK := hE.1
  have hL0 := hts (.fieldLink RX5 29 "CandleDebts" "pad" "LCandleDebts$Pad;") (by decide +kernel)
  have hL1 := hts (.fieldLink RX5 86 "CandleDebts$Pad" "count" "I") (by decide +kernel)
  have hl : lv_has ls 2 [(0, .ref (h 0))] := hl
  unfold f_X5_wipe at hf
  refine lv_aload_n hx hb dX5_wipe_0 rfl (lv_at hl 0 rfl) ?_
  refine va_get (D := G) (ci := 5) (v := .ref (hp 0)) (C := RX5) (T := TX5) (N := 8) hx hb hts nw_X5_wipe_X5 hown hK hw.1 0 rfl rfl 4 (by decide) hL0 (fun _ h9 => h9) rfl dX5_wipe_1 ?_
  refine va_get (D := G) (ci := 0) (v := .int (P 1 0)) (C := RX0) (T := TX0) (N := 6) hx hb hts nw_X5_wipe_X0 hown hK hw.1 2 rfl rfl 1 (by decide) hL1 (fun _ h9 => h9) rfl dX5_wipe_4 ?_
  refine lv_istore_n (lv' := [(1, .int (P 1 0)), (0, .ref (h 0))]) hx hb dX5_wipe_7 rfl hl (by decide) rfl (fun ls hl => ?_)
  refine lv_aload_n hx hb dX5_wipe_8 rfl (lv_at hl 1 rfl) ?_
  refine va_get (D := G) (ci := 5) (v := .ref (hp 0)) (C := RX5) (T := TX5) (N := 8) hx hb hts nw_X5_wipe_X5 hown hK hw.1 0 rfl rfl 4 (by decide) hL0 (fun _ h9 => h9) rfl dX5_wipe_9 ?_
  refine lv_iconst (v := (0 : Int32)) hx hb dX5_wipe_12 (by decide) ?_
  refine va_put (D := G) (ci := 0) (v := .int (0 : Int32)) (ty := .int) (C := RX0) (T := TX0) (N := 6) hx hb hts nw_X5_wipe_X0 tyX0 tyX0_ok nmX0 hown hK hw.1 hw.2.1 hw.2.2 2 rfl rfl 1 (by decide) hL1 (fun _ h9 => h9) rfl (by decide +kernel) rfl rfl (Nat.le_of_ble_eq_true rfl) dX5_wipe_13 (fun H locs hP hD hS => ?_)
  have hw : cd_WS G A s.heap H locs ((pc_top cZ h ht h1 h2 hp hy hv hz K) ++ (pc_pad cI hp (cd_fld P 1 (0 : Int32)))) := ⟨hP, hD, hS⟩
  refine lv_iload_n hx hb dX5_wipe_16 rfl (lv_at hl 0 rfl) ?_
  have z : some ((P 1 0), (cd_fld P 1 (0 : Int32))) = some o := hf
  cases z
  rw [hQ]
  exact cd_reti C0 hw dX5_wipe_17
abbrev rm_X5_year : Room := { frames := 5, cells := 0, slots := 0, locals := 118 }
theorem nw_X5_year_X1 : ∀ w ∈ u_ws RX1 TX1 6, w ∈ wsX5_year := by decide +kernel
theorem nw_X5_year_X3 : ∀ w ∈ u_ws RX3 TX3 14, w ∈ wsX5_year := by decide +kernel
theorem nw_X5_year_X5 : ∀ w ∈ u_ws RX5 TX5 8, w ∈ wsX5_year := by decide +kernel
set_option maxHeartbeats 4000000 in
set_option maxRecDepth 100000 in
theorem c_X5_year (l : Launch) (G : va_G) (cI cZ : ClassId) (sa sb : Nat) (h ht h1 h2 hp hy hs hv hz : Nat → Nat) (K T Y S : Nat → Nat → Int32) (a0 : Int32) (a1 : Int32) (a2 : Int32) (o : Int32 × (Nat → Nat → Int32) × (Nat → Nat → Int32)) (hf : f_X5_year a0 a1 a2 K T Y S = some o) : cd_Ct l G cI cZ sa sb yX5_year wsX5_year rm_X5_year [.ref (h 0), .int a0, .int a1, .int a2] ((pc_top cZ h ht h1 h2 hp hy hv hz K) ++ (pc_town cI ht T) ++ (pc_play hy hs Y) ++ (pc_town cI hs S)) ((pc_top cZ h ht h1 h2 hp hy hv hz K) ++ (pc_town cI ht T) ++ (pc_play hy hs o.2.1) ++ (pc_town cI hs o.2.2)) (some (.int o.1)) := by
  refine cd_of (cc := cX5_year) (maxL := 4) (ret := (some .int)) (by decide) rfl (Nat.le_of_ble_eq_true rfl) ?_
  intro p e s m ag below meth c A ls Q C0 hl hw hQ
  have C0 : cd_CX G cI cZ sa sb p s m ag meth c cX5_year 4 (some .int) wsX5_year RX5 A := C0
  obtain ⟨⟨hx, hb, hml, hown, hts⟩, hr, hlocks, hA, hE⟩ := id C0
  have hK := hE.1
  have hL0 := hts (.fieldLink RX5 36 "CandleDebts" "play" "LCandleDebts$Play;") (by decide +kernel)
  have hL1 := hts (.fieldLink RX5 12 "CandleDebts" "town" "LCandleDebts$Town;") (by decide +kernel)
  have hL2 := hts (.fieldLink RX5 129 "CandleDebts$Play" "paid" "I") (by decide +kernel)
  have hL3 := hts (.fieldLink RX5 107 "CandleDebts$Play" "scene" "LCandleDebts$Town;") (by decide +kernel)
  have hL4 := hts (.fieldLink RX5 123 "CandleDebts$Town" "lit" "I") (by decide +kernel)
  have hl : lv_has ls 4 [(0, .ref (h 0)), (1, .int a0), (2, .int a1), (3, .int a2)] := hl
  unfold f_X5_year at hf
  refine lv_iload_n hx hb dX5_year_0 rfl (lv_at hl 1 rfl) ?_
  refine lv_iconst (v := (0 : Int32)) hx hb dX5_year_1 (by decide) ?_
  refine lv_sipush (v := (9999 : Int32)) hx hb dX5_year_2 (by decide) ?_
  obtain ⟨r1, e1, hf⟩ := cd_bind_some hf
  refine cd_callS (As := [.int a0, .int (0 : Int32), .int (9999 : Int32)]) (rest := []) C0 hw (c_X5_within l G cI cZ sa sb a0 (0 : Int32) (9999 : Int32) r1 e1) [] rfl rfl (va_cwS 3 hts gX5_year_X5_within rfl rfl rfl (by decide +kernel) ⟨Nat.le_of_ble_eq_true rfl, Nat.le_of_ble_eq_true rfl⟩) rfl hl.1 (lv_room (Nat.le_of_ble_eq_true rfl)) dX5_year_5 (fun H locs hw => ?_)
  refine lv_if_eq (tgt := 30) hx hb dX5_year_8 (by decide) (fun c2 => ?_) (fun c2 => ?_)
  · have hf := cd_ite_t c2 hf
    refine lv_bipush (v := (-2 : Int32)) hx hb dX5_year_30 (by decide) ?_
    have z : some ((-2 : Int32), Y, S) = some o := hf
    cases z
    rw [hQ]
    exact cd_reti C0 hw dX5_year_32
  · have hf := cd_ite_f c2 hf
    refine lv_iload_n hx hb dX5_year_11 rfl (lv_at hl 2 rfl) ?_
    refine lv_iconst (v := (1 : Int32)) hx hb dX5_year_12 (by decide) ?_
    refine lv_bipush (v := (99 : Int32)) hx hb dX5_year_13 (by decide) ?_
    obtain ⟨r3, e3, hf⟩ := cd_bind_some hf
    refine cd_callS (As := [.int a1, .int (1 : Int32), .int (99 : Int32)]) (rest := []) C0 hw (c_X5_within l G cI cZ sa sb a1 (1 : Int32) (99 : Int32) r3 e3) [] rfl rfl (va_cwS 3 hts gX5_year_X5_within rfl rfl rfl (by decide +kernel) ⟨Nat.le_of_ble_eq_true rfl, Nat.le_of_ble_eq_true rfl⟩) rfl hl.1 (lv_room (Nat.le_of_ble_eq_true rfl)) dX5_year_15 (fun H locs hw => ?_)
    refine lv_if_eq (tgt := 30) hx hb dX5_year_18 (by decide) (fun c4 => ?_) (fun c4 => ?_)
    · have hf := cd_ite_t c4 hf
      refine lv_bipush (v := (-2 : Int32)) hx hb dX5_year_30 (by decide) ?_
      have z : some ((-2 : Int32), Y, S) = some o := hf
      cases z
      rw [hQ]
      exact cd_reti C0 hw dX5_year_32
    · have hf := cd_ite_f c4 hf
      refine lv_iload_n hx hb dX5_year_21 rfl (lv_at hl 3 rfl) ?_
      refine lv_iconst (v := (0 : Int32)) hx hb dX5_year_22 (by decide) ?_
      refine lv_iconst (v := (2 : Int32)) hx hb dX5_year_23 (by decide) ?_
      obtain ⟨r5, e5, hf⟩ := cd_bind_some hf
      refine cd_callS (As := [.int a2, .int (0 : Int32), .int (2 : Int32)]) (rest := []) C0 hw (c_X5_within l G cI cZ sa sb a2 (0 : Int32) (2 : Int32) r5 e5) [] rfl rfl (va_cwS 3 hts gX5_year_X5_within rfl rfl rfl (by decide +kernel) ⟨Nat.le_of_ble_eq_true rfl, Nat.le_of_ble_eq_true rfl⟩) rfl hl.1 (lv_room (Nat.le_of_ble_eq_true rfl)) dX5_year_24 (fun H locs hw => ?_)
      refine lv_if_ne (tgt := 33) hx hb dX5_year_27 (by decide) (fun c6 => ?_) (fun c6 => ?_)
      · have hf := cd_ite_f c6 hf
        refine lv_aload_n hx hb dX5_year_33 rfl (lv_at hl 0 rfl) ?_
        refine va_get (D := G) (ci := 5) (v := .ref (hy 0)) (C := RX5) (T := TX5) (N := 8) hx hb hts nw_X5_year_X5 hown hK hw.1 0 rfl rfl 5 (by decide) hL0 (fun _ h9 => h9) rfl dX5_year_34 ?_
        refine lv_aload_n hx hb dX5_year_37 rfl (lv_at hl 0 rfl) ?_
        refine va_get (D := G) (ci := 5) (v := .ref (ht 0)) (C := RX5) (T := TX5) (N := 8) hx hb hts nw_X5_year_X5 hown hK hw.1 0 rfl rfl 0 (by decide) hL1 (fun _ h9 => h9) rfl dX5_year_38 ?_
        refine lv_iload_n hx hb dX5_year_41 rfl (lv_at hl 1 rfl) ?_
        refine lv_iload_n hx hb dX5_year_42 rfl (lv_at hl 2 rfl) ?_
        obtain ⟨r7, e7, hf⟩ := cd_bind_some hf
        refine cd_callVw (As := [.ref (ht 0), .int a0, .int a1]) (rest := []) (wr := (pc_top cZ h ht h1 h2 hp hy hv hz K)) (wn := (pc_top cZ h ht h1 h2 hp hy hv hz K) ++ (pc_town cI ht T) ++ (pc_play hy hs r7.1) ++ (pc_town cI hs r7.2)) C0 hw (c_X1_draws l G cI cZ sa sb hy hs ht Y S T a0 a1 r7 e7) [13, 14, 15, 16, 17, 18, 19, 20, 21, 22, 23, 24, 2, 3, 4, 5, 6, 7, 8, 9, 10, 11, 12] [0, 1] [0, 1, 14, 15, 16, 17, 18, 19, 20, 21, 22, 23, 24, 2, 3, 4, 5, 6, 7, 8, 9, 10, 11, 12, 13] rfl rfl rfl rfl (by decide) rfl rfl 0 1 rfl rfl rfl (cwV 3 hts gX5_year_X1_draws rfl rfl rfl (by decide +kernel) ⟨Nat.le_of_ble_eq_true rfl, Nat.le_of_ble_eq_true rfl⟩) rfl hl.1 (lv_room (Nat.le_of_ble_eq_true rfl)) dX5_year_43 (fun H locs hw => ?_)
        refine lv_iload_n hx hb dX5_year_46 rfl (lv_at hl 3 rfl) ?_
        by_cases c8_0 : a2 = (0 : Int32)
        · have hf := cd_ite_t c8_0 hf
          refine lv_lookup (off := 25) (tgt := 72) hx hb dX5_year_47 (by decide) (by rw [c8_0]; decide) (by decide) ?_
          refine lv_aload_n hx hb dX5_year_72 rfl (lv_at hl 0 rfl) ?_
          refine va_get (D := G) (ci := 5) (v := .ref (hy 0)) (C := RX5) (T := TX5) (N := 8) hx hb hts nw_X5_year_X5 hown hK hw.1 0 rfl rfl 5 (by decide) hL0 (fun _ h9 => h9) rfl dX5_year_73 ?_
          refine va_get (D := G) (ci := 1) (v := .int (r7.1 3 0)) (C := RX1) (T := TX1) (N := 6) hx hb hts nw_X5_year_X1 hown hK hw.1 13 rfl rfl 3 (by decide) hL2 (fun _ h9 => h9) rfl dX5_year_76 ?_
          have z : some ((r7.1 3 0), r7.1, r7.2) = some o := hf
          cases z
          rw [hQ]
          exact cd_reti C0 hw dX5_year_79
        · have hf := cd_ite_f c8_0 hf
          by_cases c8_1 : a2 = (1 : Int32)
          · have hf := cd_ite_t c8_1 hf
            refine lv_lookup (off := 33) (tgt := 80) hx hb dX5_year_47 (by decide) (by rw [c8_1]; decide) (by decide) ?_
            refine lv_aload_n hx hb dX5_year_80 rfl (lv_at hl 0 rfl) ?_
            refine va_get (D := G) (ci := 5) (v := .ref (hy 0)) (C := RX5) (T := TX5) (N := 8) hx hb hts nw_X5_year_X5 hown hK hw.1 0 rfl rfl 5 (by decide) hL0 (fun _ h9 => h9) rfl dX5_year_81 ?_
            refine va_get (D := G) (ci := 1) (v := .ref (hs 0)) (C := RX1) (T := TX1) (N := 6) hx hb hts nw_X5_year_X1 hown hK hw.1 13 rfl rfl 0 (by decide) hL3 (fun _ h9 => h9) rfl dX5_year_84 ?_
            obtain ⟨r9, e9, hf⟩ := cd_bind_some hf
            refine cd_callV (As := []) (rest := []) C0 hw (c_X3_waxOfAll l G cI cZ sa sb hs r7.2 r9 e9) [14, 15, 16, 17, 18, 19, 20, 21, 22, 23, 24] rfl rfl 0 3 rfl rfl rfl (cwV 0 hts gX5_year_X3_waxOfAll rfl rfl rfl (by decide +kernel) ⟨Nat.le_of_ble_eq_true rfl, Nat.le_of_ble_eq_true rfl⟩) rfl hl.1 (lv_room (Nat.le_of_ble_eq_true rfl)) dX5_year_87 (fun H locs hw => ?_)
            have z : some (r9, r7.1, r7.2) = some o := hf
            cases z
            rw [hQ]
            exact cd_reti C0 hw dX5_year_90
          · have hf := cd_ite_f c8_1 hf
            refine lv_lookup (off := 44) (tgt := 91) hx hb dX5_year_47 (by decide) (by have q0 : a2.toInt ≠ 0 := cd_ne c8_0; have q1 : a2.toInt ≠ 1 := cd_ne c8_1; simp [Op.lookupswitch.offset, Ne.symm q0, Ne.symm q1]) (by decide) ?_
            refine lv_aload_n hx hb dX5_year_91 rfl (lv_at hl 0 rfl) ?_
            refine va_get (D := G) (ci := 5) (v := .ref (hy 0)) (C := RX5) (T := TX5) (N := 8) hx hb hts nw_X5_year_X5 hown hK hw.1 0 rfl rfl 5 (by decide) hL0 (fun _ h9 => h9) rfl dX5_year_92 ?_
            refine va_get (D := G) (ci := 1) (v := .ref (hs 0)) (C := RX1) (T := TX1) (N := 6) hx hb hts nw_X5_year_X1 hown hK hw.1 13 rfl rfl 0 (by decide) hL3 (fun _ h9 => h9) rfl dX5_year_95 ?_
            refine va_get (D := G) (ci := 3) (v := .int (r7.2 11 0)) (C := RX3) (T := TX3) (N := 14) hx hb hts nw_X5_year_X3 hown hK hw.1 14 rfl rfl 11 (by decide) hL4 (fun _ h9 => h9) rfl dX5_year_98 ?_
            obtain ⟨r10, e10, hf⟩ := cd_bind_some hf
            refine cd_callS (As := [.int (r7.2 11 0)]) (rest := []) C0 hw (c_J6_bitCount l G cI cZ sa sb (r7.2 11 0) r10 e10) [] rfl rfl (va_cwS 1 hts gX5_year_J6_bitCount_0f7a4 rfl rfl rfl (by decide +kernel) ⟨Nat.le_of_ble_eq_true rfl, Nat.le_of_ble_eq_true rfl⟩) rfl hl.1 (lv_room (Nat.le_of_ble_eq_true rfl)) dX5_year_101 (fun H locs hw => ?_)
            have z : some (r10, r7.1, r7.2) = some o := hf
            cases z
            rw [hQ]
            exact cd_reti C0 hw dX5_year_104
      · have hf := cd_ite_t c6 hf
        refine lv_bipush (v := (-2 : Int32)) hx hb dX5_year_30 (by decide) ?_
        have z : some ((-2 : Int32), Y, S) = some o := hf
        cases z
        rw [hQ]
        exact cd_reti C0 hw dX5_year_32
abbrev rm_X6_in : Room := { frames := 0, cells := 0, slots := 0, locals := 0 }
set_option maxHeartbeats 4000000 in
set_option maxRecDepth 100000 in
theorem c_X6_in (l : Launch) (G : va_G) (cI cZ : ClassId) (sa sb : Nat) (a0 : Int32) (a1 : Int32) (a2 : Int32) (o : Int32) (hf : f_X6_in a0 a1 a2 = some o) : cd_Ct l G cI cZ sa sb yX6_in wsX6_in rm_X6_in [.int a0, .int a1, .int a2] (([] : va_W)) (([] : va_W)) (some (.int o)) := by
  refine cd_of (cc := cX6_in) (maxL := 3) (ret := (some .boolean)) (by decide) rfl (Nat.le_of_ble_eq_true rfl) ?_
  intro p e s m ag below meth c A ls Q C0 hl hw hQ
  have C0 : cd_CX G cI cZ sa sb p s m ag meth c cX6_in 3 (some .boolean) wsX6_in RX6 A := C0
  obtain ⟨⟨hx, hb, hml, hown, hts⟩, hr, hlocks, hA, hE⟩ := id C0
  have hK := hE.1
  have hl : lv_has ls 3 [(0, .int a0), (1, .int a1), (2, .int a2)] := hl
  unfold f_X6_in at hf
  refine lv_iload_n hx hb dX6_in_0 rfl (lv_at hl 0 rfl) ?_
  refine lv_iload_n hx hb dX6_in_1 rfl (lv_at hl 1 rfl) ?_
  obtain ⟨x1, e1, hf⟩ := cd_bind_some hf
  have K1 : ∀ (ls : Array Slot) (H : Heap) (locs : List Loc), lv_has ls 3 [] → cd_WS G A s.heap H locs (([] : va_W)) → W p l e rm_X6_in s m ag below meth c H locs 0 0 Q (F0 m 15 ls [.int x1]) := by
    intro ls H locs hl hw
    obtain ⟨u2, e2, hf⟩ := cd_bind_some hf
    have z : some x1 = some o := hf
    cases z
    rw [hQ]
    exact cd_retz C0 hw (cd_zb_eq e2) dX6_in_15
  refine lv_icmp_lt (tgt := 14) hx hb dX6_in_2 (by decide) (fun c1 => ?_) (fun c1 => ?_)
  · have e1 := cd_ite_t c1 e1
    refine lv_iconst (v := (0 : Int32)) hx hb dX6_in_14 (by decide) ?_
    have z : some (0 : Int32) = some x1 := e1
    cases z
    exact K1 _ _ _ (lv_sub hl [] rfl) hw
  · have e1 := cd_ite_f c1 e1
    refine lv_iload_n hx hb dX6_in_5 rfl (lv_at hl 0 rfl) ?_
    refine lv_iload_n hx hb dX6_in_6 rfl (lv_at hl 2 rfl) ?_
    refine lv_icmp_gt (tgt := 14) hx hb dX6_in_7 (by decide) (fun c3 => ?_) (fun c3 => ?_)
    · have e1 := cd_ite_t c3 e1
      refine lv_iconst (v := (0 : Int32)) hx hb dX6_in_14 (by decide) ?_
      have z : some (0 : Int32) = some x1 := e1
      cases z
      exact K1 _ _ _ (lv_sub hl [] rfl) hw
    · have e1 := cd_ite_f c3 e1
      refine lv_iconst (v := (1 : Int32)) hx hb dX6_in_10 (by decide) ?_
      refine lv_goto (tgt := 15) hx hb dX6_in_11 (by decide) ?_
      have z : some (1 : Int32) = some x1 := e1
      cases z
      exact K1 _ _ _ (lv_sub hl [] rfl) hw
abbrev rm_X6_asNow : Room := { frames := 0, cells := 0, slots := 0, locals := 0 }
theorem nw_X6_asNow_X6 : ∀ w ∈ u_ws RX6 TX6 22, w ∈ wsX6_asNow := by decide +kernel
set_option maxHeartbeats 4000000 in
set_option maxRecDepth 100000 in
theorem c_X6_asNow (l : Launch) (G : va_G) (cI cZ : ClassId) (sa sb : Nat) (h : Nat → Nat) (M : Nat → Nat → Int32) (o : (Nat → Nat → Int32)) (hf : f_X6_asNow M = some o) : cd_Ct l G cI cZ sa sb yX6_asNow wsX6_asNow rm_X6_asNow [.ref (h 0)] ((pc_mod cI cZ h M)) ((pc_mod cI cZ h o)) none := by
  refine cd_of (cc := cX6_asNow) (maxL := 2) (ret := none) (by decide) rfl (Nat.le_of_ble_eq_true rfl) ?_
  intro p e s m ag below meth c A ls Q C0 hl hw hQ
  have C0 : cd_CX G cI cZ sa sb p s m ag meth c cX6_asNow 2 none wsX6_asNow RX6 A := C0
  obtain ⟨⟨hx, hb, hml, hown, hts⟩, hr, hlocks, hA, hE⟩ := id C0
  have hK := hE.1
  have hL0 := hts (.fieldLink RX6 13 "CandleDebtsModel" "now" "[I") (by decide +kernel)
  have hL1 := hts (.fieldLink RX6 7 "CandleDebtsModel" "book" "[I") (by decide +kernel)
  have hL2 := hts (.fieldLink RX6 82 "CandleDebtsModel" "paid" "I") (by decide +kernel)
  have hL3 := hts (.fieldLink RX6 85 "CandleDebtsModel" "outAt" "I") (by decide +kernel)
  have hL4 := hts (.fieldLink RX6 88 "CandleDebtsModel" "outWho" "I") (by decide +kernel)
  have hl : lv_has ls 2 [(0, .ref (h 0))] := hl
  unfold f_X6_asNow at hf
  refine lv_iconst (v := (0 : Int32)) hx hb dX6_asNow_0 (by decide) ?_
  refine lv_istore_n (lv' := [(1, .int (0 : Int32)), (0, .ref (h 0))]) hx hb dX6_asNow_1 rfl hl (by decide) rfl (fun ls hl => ?_)
  obtain ⟨x1, e1, hf⟩ := cd_bind_some hf
  have K1 : ∀ (t1 : (Nat → Nat → Int32)), t1 = x1 → ∀ (ls : Array Slot) (H : Heap) (locs : List Loc), lv_has ls 2 [(0, .ref (h 0))] → cd_WS G A s.heap H locs ((pc_mod cI cZ h t1)) → W p l e rm_X6_asNow s m ag below meth c H locs 0 0 Q (F0 m 26 ls []) := by
    intro t1 hs_1
    subst hs_1
    intro ls H locs hl hw
    refine lv_aload_n hx hb dX6_asNow_26 rfl (lv_at hl 0 rfl) ?_
    refine lv_iconst (v := (0 : Int32)) hx hb dX6_asNow_27 (by decide) ?_
    refine va_put (D := G) (ci := 6) (v := .int (0 : Int32)) (ty := .int) (C := RX6) (T := TX6) (N := 22) hx hb hts nw_X6_asNow_X6 tyX6 tyX6_ok nmX6 hown hK hw.1 hw.2.1 hw.2.2 0 rfl rfl 8 (by decide) hL2 (fun _ h9 => h9) rfl (by decide +kernel) rfl rfl (Nat.le_of_ble_eq_true rfl) dX6_asNow_28 (fun H locs hP hD hS => ?_)
    have hw : cd_WS G A s.heap H locs ((pc_mod cI cZ h (cd_fld t1 8 (0 : Int32)))) := ⟨hP, hD, hS⟩
    refine lv_aload_n hx hb dX6_asNow_31 rfl (lv_at hl 0 rfl) ?_
    refine lv_bipush (v := (-6 : Int32)) hx hb dX6_asNow_32 (by decide) ?_
    refine va_put (D := G) (ci := 6) (v := .int (-6 : Int32)) (ty := .int) (C := RX6) (T := TX6) (N := 22) hx hb hts nw_X6_asNow_X6 tyX6 tyX6_ok nmX6 hown hK hw.1 hw.2.1 hw.2.2 0 rfl rfl 9 (by decide) hL3 (fun _ h9 => h9) rfl (by decide +kernel) rfl rfl (Nat.le_of_ble_eq_true rfl) dX6_asNow_34 (fun H locs hP hD hS => ?_)
    have hw : cd_WS G A s.heap H locs ((pc_mod cI cZ h (cd_fld (cd_fld t1 8 (0 : Int32)) 9 (-6 : Int32)))) := ⟨hP, hD, hS⟩
    refine lv_aload_n hx hb dX6_asNow_37 rfl (lv_at hl 0 rfl) ?_
    refine lv_bipush (v := (-6 : Int32)) hx hb dX6_asNow_38 (by decide) ?_
    refine va_put (D := G) (ci := 6) (v := .int (-6 : Int32)) (ty := .int) (C := RX6) (T := TX6) (N := 22) hx hb hts nw_X6_asNow_X6 tyX6 tyX6_ok nmX6 hown hK hw.1 hw.2.1 hw.2.2 0 rfl rfl 10 (by decide) hL4 (fun _ h9 => h9) rfl (by decide +kernel) rfl rfl (Nat.le_of_ble_eq_true rfl) dX6_asNow_40 (fun H locs hP hD hS => ?_)
    have hw : cd_WS G A s.heap H locs ((pc_mod cI cZ h (cd_fld (cd_fld (cd_fld t1 8 (0 : Int32)) 9 (-6 : Int32)) 10 (-6 : Int32)))) := ⟨hP, hD, hS⟩
    have z : some (cd_fld (cd_fld (cd_fld t1 8 (0 : Int32)) 9 (-6 : Int32)) 10 (-6 : Int32)) = some o := hf
    cases z
    rw [hQ]
    exact cd_retv C0 hw dX6_asNow_43
  refine cd_iter_ind (body := f_X6_asNow_b2) (K := fun r => r = x1) (P := fun (z1 : Int32 × (Nat → Nat → Int32)) => ∀ (ls : Array Slot) (H : Heap) (locs : List Loc), lv_has ls 2 [(0, .ref (h 0)), (1, .int z1.1)] → cd_WS G A s.heap H locs ((pc_mod cI cZ h z1.2)) → W p l e rm_X6_asNow s m ag below meth c H locs 0 0 Q (F0 m 2 ls [])) ?_ cd_N ((0 : Int32), M) x1 e1 rfl _ _ _ (lv_sub hl [1, 0] rfl) hw
  intro z1 o1 hb1 hk1 ls H locs hl hw
  unfold f_X6_asNow_b2 at hb1
  refine lv_iload_n hx hb dX6_asNow_2 rfl (lv_at hl 1 rfl) ?_
  refine lv_bipush (v := (69 : Int32)) hx hb dX6_asNow_3 (by decide) ?_
  refine lv_icmp_ge (tgt := 26) hx hb dX6_asNow_5 (by decide) (fun c2 => ?_) (fun c2 => ?_)
  · have hb1 := cd_ite_t c2 hb1
    have z : some (Sum.inl z1.2) = some o1 := hb1
    cases z
    exact K1 _ hk1 _ _ _ (lv_sub hl [0] rfl) hw
  · have hb1 := cd_ite_f c2 hb1
    refine lv_aload_n hx hb dX6_asNow_8 rfl (lv_at hl 0 rfl) ?_
    refine va_get (D := G) (ci := 6) (v := .ref (h 2)) (C := RX6) (T := TX6) (N := 22) hx hb hts nw_X6_asNow_X6 hown hK hw.1 0 rfl rfl 1 (by decide) hL0 (fun _ h9 => h9) rfl dX6_asNow_9 ?_
    refine lv_iload_n hx hb dX6_asNow_12 rfl (lv_at hl 1 rfl) ?_
    refine lv_aload_n hx hb dX6_asNow_13 rfl (lv_at hl 0 rfl) ?_
    refine va_get (D := G) (ci := 6) (v := .ref (h 1)) (C := RX6) (T := TX6) (N := 22) hx hb hts nw_X6_asNow_X6 hown hK hw.1 0 rfl rfl 0 (by decide) hL1 (fun _ h9 => h9) rfl dX6_asNow_14 ?_
    refine lv_iload_n hx hb dX6_asNow_17 rfl (lv_at hl 1 rfl) ?_
    obtain ⟨v3, e3, hb1⟩ := cd_bind_some hb1
    refine cd_iald hx hb hK hw 1 rfl e3 dX6_asNow_18 ?_
    obtain ⟨j4, e4, hb1⟩ := cd_bind_some hb1
    refine cd_iast (f := z1.2 1) hx hb hK hw 2 rfl e4 dX6_asNow_19 (fun H locs hw => ?_)
    have hw : cd_WS G A s.heap H locs ((pc_mod cI cZ h (cd_set z1.2 1 j4 v3))) := (show ∀ (s9 : Nat → Nat → Int32) (y9 : Int32), cd_WS G A s.heap H locs (((pc_mod cI cZ h s9)).set 2 (h 2, .inl (cI, 69, .inl (upd (s9 1) j4 y9)))) → cd_WS G A s.heap H locs ((pc_mod cI cZ h (cd_set s9 1 j4 y9))) from fun _ _ hh => hh) z1.2 v3 hw
    refine lv_iinc (v := (z1.1 + (1 : Int32))) (lv' := [(1, .int (z1.1 + (1 : Int32))), (0, .ref (h 0))]) hx hb dX6_asNow_20 hl (k := 1) rfl rfl (by decide) rfl (fun ls hl => ?_)
    refine lv_goto (tgt := 2) hx hb dX6_asNow_23 (by decide) ?_
    have z : some (Sum.inr ((z1.1 + (1 : Int32)), (cd_set z1.2 1 j4 v3))) = some o1 := hb1
    cases z
    exact hk1 _ _ _ (lv_sub hl [1, 0] rfl) hw
abbrev rm_X6_burnOf : Room := { frames := 0, cells := 0, slots := 0, locals := 0 }
theorem nw_X6_burnOf_X6 : ∀ w ∈ u_ws RX6 TX6 22, w ∈ wsX6_burnOf := by decide +kernel
set_option maxHeartbeats 4000000 in
set_option maxRecDepth 100000 in
theorem c_X6_burnOf (l : Launch) (G : va_G) (cI cZ : ClassId) (sa sb : Nat) (h : Nat → Nat) (M : Nat → Nat → Int32) (a0 : Int32) (o : Int32) (hf : f_X6_burnOf a0 M = some o) : cd_Ct l G cI cZ sa sb yX6_burnOf wsX6_burnOf rm_X6_burnOf [.ref (h 0), .int a0] ((pc_mod cI cZ h M)) ((pc_mod cI cZ h M)) (some (.int o)) := by
  refine cd_of (cc := cX6_burnOf) (maxL := 3) (ret := (some .int)) (by decide) rfl (Nat.le_of_ble_eq_true rfl) ?_
  intro p e s m ag below meth c A ls Q C0 hl hw hQ
  have C0 : cd_CX G cI cZ sa sb p s m ag meth c cX6_burnOf 3 (some .int) wsX6_burnOf RX6 A := C0
  obtain ⟨⟨hx, hb, hml, hown, hts⟩, hr, hlocks, hA, hE⟩ := id C0
  have hK := hE.1
  have hL0 := hts (.fieldLink RX6 13 "CandleDebtsModel" "now" "[I") (by decide +kernel)
  have hl : lv_has ls 3 [(0, .ref (h 0)), (1, .int a0)] := hl
  unfold f_X6_burnOf at hf
  refine lv_iconst (v := (1 : Int32)) hx hb dX6_burnOf_0 (by decide) ?_
  refine lv_aload_n hx hb dX6_burnOf_1 rfl (lv_at hl 0 rfl) ?_
  refine va_get (D := G) (ci := 6) (v := .ref (h 2)) (C := RX6) (T := TX6) (N := 22) hx hb hts nw_X6_burnOf_X6 hown hK hw.1 0 rfl rfl 1 (by decide) hL0 (fun _ h9 => h9) rfl dX6_burnOf_2 ?_
  refine lv_bipush (v := (36 : Int32)) hx hb dX6_burnOf_5 (by decide) ?_
  refine lv_iload_n hx hb dX6_burnOf_7 rfl (lv_at hl 1 rfl) ?_
  refine lv_iadd hx hb dX6_burnOf_8 ?_
  obtain ⟨v1, e1, hf⟩ := cd_bind_some hf
  refine cd_iald hx hb hK hw 2 rfl e1 dX6_burnOf_9 ?_
  refine lv_iadd hx hb dX6_burnOf_10 ?_
  refine lv_aload_n hx hb dX6_burnOf_11 rfl (lv_at hl 0 rfl) ?_
  refine va_get (D := G) (ci := 6) (v := .ref (h 2)) (C := RX6) (T := TX6) (N := 22) hx hb hts nw_X6_burnOf_X6 hown hK hw.1 0 rfl rfl 1 (by decide) hL0 (fun _ h9 => h9) rfl dX6_burnOf_12 ?_
  refine lv_bipush (v := (24 : Int32)) hx hb dX6_burnOf_15 (by decide) ?_
  refine lv_iload_n hx hb dX6_burnOf_17 rfl (lv_at hl 1 rfl) ?_
  refine lv_iadd hx hb dX6_burnOf_18 ?_
  obtain ⟨v2, e2, hf⟩ := cd_bind_some hf
  refine cd_iald hx hb hK hw 2 rfl e2 dX6_burnOf_19 ?_
  refine lv_isub hx hb dX6_burnOf_20 ?_
  refine lv_istore_n (lv' := [(2, .int (((1 : Int32) + v1) - v2)), (0, .ref (h 0)), (1, .int a0)]) hx hb dX6_burnOf_21 rfl hl (by decide) rfl (fun ls hl => ?_)
  refine lv_iload_n hx hb dX6_burnOf_22 rfl (lv_at hl 0 rfl) ?_
  refine lv_iconst (v := (1 : Int32)) hx hb dX6_burnOf_23 (by decide) ?_
  obtain ⟨x3, e3, hf⟩ := cd_bind_some hf
  have K3 : ∀ (ls : Array Slot) (H : Heap) (locs : List Loc), lv_has ls 3 [] → cd_WS G A s.heap H locs ((pc_mod cI cZ h M)) → W p l e rm_X6_burnOf s m ag below meth c H locs 0 0 Q (F0 m 32 ls [.int x3]) := by
    intro ls H locs hl hw
    have z : some x3 = some o := hf
    cases z
    rw [hQ]
    exact cd_reti C0 hw dX6_burnOf_32
  refine lv_icmp_ge (tgt := 31) hx hb dX6_burnOf_24 (by decide) (fun c3 => ?_) (fun c3 => ?_)
  · have e3 := cd_ite_t c3 e3
    refine lv_iload_n hx hb dX6_burnOf_31 rfl (lv_at hl 0 rfl) ?_
    have z : some (((1 : Int32) + v1) - v2) = some x3 := e3
    cases z
    exact K3 _ _ _ (lv_sub hl [] rfl) hw
  · have e3 := cd_ite_f c3 e3
    refine lv_iconst (v := (1 : Int32)) hx hb dX6_burnOf_27 (by decide) ?_
    refine lv_goto (tgt := 32) hx hb dX6_burnOf_28 (by decide) ?_
    have z : some (1 : Int32) = some x3 := e3
    cases z
    exact K3 _ _ _ (lv_sub hl [] rfl) hw
abbrev rm_X6_lastsOf : Room := { frames := 1, cells := 0, slots := 0, locals := 22 }
theorem nw_X6_lastsOf_X6 : ∀ w ∈ u_ws RX6 TX6 22, w ∈ wsX6_lastsOf := by decide +kernel
set_option maxHeartbeats 4000000 in
set_option maxRecDepth 100000 in
theorem c_X6_lastsOf (l : Launch) (G : va_G) (cI cZ : ClassId) (sa sb : Nat) (h : Nat → Nat) (M : Nat → Nat → Int32) (a0 : Int32) (o : Int32 × (Nat → Nat → Int32)) (hf : f_X6_lastsOf a0 M = some o) : cd_Ct l G cI cZ sa sb yX6_lastsOf wsX6_lastsOf rm_X6_lastsOf [.ref (h 0), .int a0] ((pc_mod cI cZ h M)) ((pc_mod cI cZ h o.2)) (some (.int o.1)) := by
  refine cd_of (cc := cX6_lastsOf) (maxL := 3) (ret := (some .int)) (by decide) rfl (Nat.le_of_ble_eq_true rfl) ?_
  intro p e s m ag below meth c A ls Q C0 hl hw hQ
  have C0 : cd_CX G cI cZ sa sb p s m ag meth c cX6_lastsOf 3 (some .int) wsX6_lastsOf RX6 A := C0
  obtain ⟨⟨hx, hb, hml, hown, hts⟩, hr, hlocks, hA, hE⟩ := id C0
  have hK := hE.1
  have hL0 := hts (.fieldLink RX6 7 "CandleDebtsModel" "book" "[I") (by decide +kernel)
  have hl : lv_has ls 3 [(0, .ref (h 0)), (1, .int a0)] := hl
  unfold f_X6_lastsOf at hf
  refine lv_aload_n hx hb dX6_lastsOf_0 rfl (lv_at hl 0 rfl) ?_
  obtain ⟨r1, e1, hf⟩ := cd_bind_some hf
  refine cd_callVw (As := []) (rest := []) (wr := ([] : va_W)) (wn := (pc_mod cI cZ h r1)) C0 hw (c_X6_asNow l G cI cZ sa sb h M r1 e1) [0, 1, 2, 3, 4, 5, 6, 7, 8, 9, 10, 11, 12, 13, 14] [] [0, 1, 2, 3, 4, 5, 6, 7, 8, 9, 10, 11, 12, 13, 14] rfl rfl rfl rfl (by decide) rfl rfl 0 6 rfl rfl rfl (cwV 0 hts gX6_lastsOf_X6_asNow rfl rfl rfl (by decide +kernel) ⟨Nat.le_of_ble_eq_true rfl, Nat.le_of_ble_eq_true rfl⟩) rfl hl.1 (lv_room (Nat.le_of_ble_eq_true rfl)) dX6_lastsOf_1 (fun H locs hw => ?_)
  refine lv_aload_n hx hb dX6_lastsOf_4 rfl (lv_at hl 0 rfl) ?_
  refine lv_iload_n hx hb dX6_lastsOf_5 rfl (lv_at hl 1 rfl) ?_
  obtain ⟨r2, e2, hf⟩ := cd_bind_some hf
  refine cd_callV (As := [.int a0]) (rest := []) C0 hw (c_X6_burnOf l G cI cZ sa sb h r1 a0 r2 e2) [0, 1, 2, 3, 4, 5, 6, 7, 8, 9, 10, 11, 12, 13, 14] rfl rfl 0 6 rfl rfl rfl (cwV 1 hts gX6_lastsOf_X6_burnOf rfl rfl rfl (by decide +kernel) ⟨Nat.le_of_ble_eq_true rfl, Nat.le_of_ble_eq_true rfl⟩) rfl hl.1 (lv_room (Nat.le_of_ble_eq_true rfl)) dX6_lastsOf_6 (fun H locs hw => ?_)
  refine lv_istore_n (lv' := [(2, .int r2), (0, .ref (h 0)), (1, .int a0)]) hx hb dX6_lastsOf_9 rfl hl (by decide) rfl (fun ls hl => ?_)
  refine lv_aload_n hx hb dX6_lastsOf_10 rfl (lv_at hl 1 rfl) ?_
  refine va_get (D := G) (ci := 6) (v := .ref (h 1)) (C := RX6) (T := TX6) (N := 22) hx hb hts nw_X6_lastsOf_X6 hown hK hw.1 0 rfl rfl 0 (by decide) hL0 (fun _ h9 => h9) rfl dX6_lastsOf_11 ?_
  refine lv_iload_n hx hb dX6_lastsOf_14 rfl (lv_at hl 2 rfl) ?_
  obtain ⟨v3, e3, hf⟩ := cd_bind_some hf
  refine cd_iald hx hb hK hw 1 rfl e3 dX6_lastsOf_15 ?_
  refine lv_iload_n hx hb dX6_lastsOf_16 rfl (lv_at hl 0 rfl) ?_
  refine lv_iadd hx hb dX6_lastsOf_17 ?_
  refine lv_iconst (v := (1 : Int32)) hx hb dX6_lastsOf_18 (by decide) ?_
  refine lv_isub hx hb dX6_lastsOf_19 ?_
  refine lv_iload_n hx hb dX6_lastsOf_20 rfl (lv_at hl 0 rfl) ?_
  obtain ⟨u4, e4, hf⟩ := cd_bind_some hf
  refine lv_idiv hx hb dX6_lastsOf_21 (cd_nz_eq e4) ?_
  have z : some ((((v3 + r2) - (1 : Int32)) / r2), r1) = some o := hf
  cases z
  rw [hQ]
  exact cd_reti C0 hw dX6_lastsOf_22
abbrev rm_X6_bits : Room := { frames := 0, cells := 0, slots := 0, locals := 0 }
set_option maxHeartbeats 4000000 in
set_option maxRecDepth 100000 in
theorem c_X6_bits (l : Launch) (G : va_G) (cI cZ : ClassId) (sa sb : Nat) (a0 : Int32) (o : Int32) (hf : f_X6_bits a0 = some o) : cd_Ct l G cI cZ sa sb yX6_bits wsX6_bits rm_X6_bits [.int a0] (([] : va_W)) (([] : va_W)) (some (.int o)) := by
  refine cd_of (cc := cX6_bits) (maxL := 3) (ret := (some .int)) (by decide) rfl (Nat.le_of_ble_eq_true rfl) ?_
  intro p e s m ag below meth c A ls Q C0 hl hw hQ
  have C0 : cd_CX G cI cZ sa sb p s m ag meth c cX6_bits 3 (some .int) wsX6_bits RX6 A := C0
  obtain ⟨⟨hx, hb, hml, hown, hts⟩, hr, hlocks, hA, hE⟩ := id C0
  have hK := hE.1
  have hl : lv_has ls 3 [(0, .int a0)] := hl
  unfold f_X6_bits at hf
  refine lv_iconst (v := (0 : Int32)) hx hb dX6_bits_0 (by decide) ?_
  refine lv_istore_n (lv' := [(1, .int (0 : Int32)), (0, .int a0)]) hx hb dX6_bits_1 rfl hl (by decide) rfl (fun ls hl => ?_)
  refine lv_iconst (v := (0 : Int32)) hx hb dX6_bits_2 (by decide) ?_
  refine lv_istore_n (lv' := [(2, .int (0 : Int32)), (1, .int (0 : Int32)), (0, .int a0)]) hx hb dX6_bits_3 rfl hl (by decide) rfl (fun ls hl => ?_)
  obtain ⟨x1, e1, hf⟩ := cd_bind_some hf
  have K1 : ∀ (t1 : Int32), t1 = x1 → ∀ (ls : Array Slot) (H : Heap) (locs : List Loc), lv_has ls 3 [(1, .int t1)] → cd_WS G A s.heap H locs (([] : va_W)) → W p l e rm_X6_bits s m ag below meth c H locs 0 0 Q (F0 m 24 ls []) := by
    intro t1 hs_1
    subst hs_1
    intro ls H locs hl hw
    refine lv_iload_n hx hb dX6_bits_24 rfl (lv_at hl 0 rfl) ?_
    have z : some t1 = some o := hf
    cases z
    rw [hQ]
    exact cd_reti C0 hw dX6_bits_25
  refine cd_iter_ind (body := (f_X6_bits_b4 a0)) (K := fun r => r = x1) (P := fun (z1 : Int32 × Int32) => ∀ (ls : Array Slot) (H : Heap) (locs : List Loc), lv_has ls 3 [(0, .int a0), (1, .int z1.1), (2, .int z1.2)] → cd_WS G A s.heap H locs (([] : va_W)) → W p l e rm_X6_bits s m ag below meth c H locs 0 0 Q (F0 m 4 ls [])) ?_ cd_N ((0 : Int32), (0 : Int32)) x1 e1 rfl _ _ _ (lv_sub hl [2, 1, 0] rfl) hw
  intro z1 o1 hb1 hk1 ls H locs hl hw
  unfold f_X6_bits_b4 at hb1
  refine lv_iload_n hx hb dX6_bits_4 rfl (lv_at hl 2 rfl) ?_
  refine lv_bipush (v := (12 : Int32)) hx hb dX6_bits_5 (by decide) ?_
  refine lv_icmp_ge (tgt := 24) hx hb dX6_bits_7 (by decide) (fun c2 => ?_) (fun c2 => ?_)
  · have hb1 := cd_ite_t c2 hb1
    have z : some (Sum.inl z1.1) = some o1 := hb1
    cases z
    exact K1 _ hk1 _ _ _ (lv_sub hl [1] rfl) hw
  · have hb1 := cd_ite_f c2 hb1
    refine lv_iload_n hx hb dX6_bits_10 rfl (lv_at hl 1 rfl) ?_
    refine lv_iload_n hx hb dX6_bits_11 rfl (lv_at hl 0 rfl) ?_
    refine lv_iload_n hx hb dX6_bits_12 rfl (lv_at hl 2 rfl) ?_
    refine lv_ishr hx hb dX6_bits_13 ?_
    refine lv_iconst (v := (1 : Int32)) hx hb dX6_bits_14 (by decide) ?_
    refine lv_iand hx hb dX6_bits_15 ?_
    refine lv_iadd hx hb dX6_bits_16 ?_
    refine lv_istore_n (lv' := [(1, .int (z1.1 + ((a0 >>> (z1.2 &&& 31)) &&& (1 : Int32)))), (0, .int a0), (2, .int z1.2)]) hx hb dX6_bits_17 rfl hl (by decide) rfl (fun ls hl => ?_)
    refine lv_iinc (v := (z1.2 + (1 : Int32))) (lv' := [(2, .int (z1.2 + (1 : Int32))), (1, .int (z1.1 + ((a0 >>> (z1.2 &&& 31)) &&& (1 : Int32)))), (0, .int a0)]) hx hb dX6_bits_18 hl (k := 2) rfl rfl (by decide) rfl (fun ls hl => ?_)
    refine lv_goto (tgt := 4) hx hb dX6_bits_21 (by decide) ?_
    have z : some (Sum.inr ((z1.1 + ((a0 >>> (z1.2 &&& 31)) &&& (1 : Int32))), (z1.2 + (1 : Int32)))) = some o1 := hb1
    cases z
    exact hk1 _ _ _ (lv_sub hl [2, 1, 0] rfl) hw
abbrev rm_X6_isIn : Room := { frames := 0, cells := 0, slots := 0, locals := 0 }
set_option maxHeartbeats 4000000 in
set_option maxRecDepth 100000 in
theorem c_X6_isIn (l : Launch) (G : va_G) (cI cZ : ClassId) (sa sb : Nat) (a0 : Int32) (a1 : Int32) (o : Int32) (hf : f_X6_isIn a0 a1 = some o) : cd_Ct l G cI cZ sa sb yX6_isIn wsX6_isIn rm_X6_isIn [.int a0, .int a1] (([] : va_W)) (([] : va_W)) (some (.int o)) := by
  refine cd_of (cc := cX6_isIn) (maxL := 2) (ret := (some .boolean)) (by decide) rfl (Nat.le_of_ble_eq_true rfl) ?_
  intro p e s m ag below meth c A ls Q C0 hl hw hQ
  have C0 : cd_CX G cI cZ sa sb p s m ag meth c cX6_isIn 2 (some .boolean) wsX6_isIn RX6 A := C0
  obtain ⟨⟨hx, hb, hml, hown, hts⟩, hr, hlocks, hA, hE⟩ := id C0
  have hK := hE.1
  have hl : lv_has ls 2 [(0, .int a0), (1, .int a1)] := hl
  unfold f_X6_isIn at hf
  refine lv_iload_n hx hb dX6_isIn_0 rfl (lv_at hl 0 rfl) ?_
  refine lv_iload_n hx hb dX6_isIn_1 rfl (lv_at hl 1 rfl) ?_
  refine lv_ishr hx hb dX6_isIn_2 ?_
  refine lv_iconst (v := (1 : Int32)) hx hb dX6_isIn_3 (by decide) ?_
  refine lv_iand hx hb dX6_isIn_4 ?_
  refine lv_iconst (v := (1 : Int32)) hx hb dX6_isIn_5 (by decide) ?_
  obtain ⟨x1, e1, hf⟩ := cd_bind_some hf
  have K1 : ∀ (ls : Array Slot) (H : Heap) (locs : List Loc), lv_has ls 2 [] → cd_WS G A s.heap H locs (([] : va_W)) → W p l e rm_X6_isIn s m ag below meth c H locs 0 0 Q (F0 m 14 ls [.int x1]) := by
    intro ls H locs hl hw
    obtain ⟨u2, e2, hf⟩ := cd_bind_some hf
    have z : some x1 = some o := hf
    cases z
    rw [hQ]
    exact cd_retz C0 hw (cd_zb_eq e2) dX6_isIn_14
  refine lv_icmp_ne (tgt := 13) hx hb dX6_isIn_6 (by decide) (fun c1 => ?_) (fun c1 => ?_)
  · have e1 := cd_ite_f c1 e1
    refine lv_iconst (v := (0 : Int32)) hx hb dX6_isIn_13 (by decide) ?_
    have z : some (0 : Int32) = some x1 := e1
    cases z
    exact K1 _ _ _ (lv_sub hl [] rfl) hw
  · have e1 := cd_ite_t c1 e1
    refine lv_iconst (v := (1 : Int32)) hx hb dX6_isIn_9 (by decide) ?_
    refine lv_goto (tgt := 14) hx hb dX6_isIn_10 (by decide) ?_
    have z : some (1 : Int32) = some x1 := e1
    cases z
    exact K1 _ _ _ (lv_sub hl [] rfl) hw
abbrev rm_X6_canRead : Room := { frames := 1, cells := 0, slots := 0, locals := 21 }
theorem nw_X6_canRead_X6 : ∀ w ∈ u_ws RX6 TX6 22, w ∈ wsX6_canRead := by decide +kernel
set_option maxHeartbeats 4000000 in
set_option maxRecDepth 100000 in
theorem c_X6_canRead (l : Launch) (G : va_G) (cI cZ : ClassId) (sa sb : Nat) (h : Nat → Nat) (M : Nat → Nat → Int32) (a0 : Int32) (a1 : Int32) (o : Int32) (hf : f_X6_canRead a0 a1 M = some o) : cd_Ct l G cI cZ sa sb yX6_canRead wsX6_canRead rm_X6_canRead [.ref (h 0), .int a0, .int a1] ((pc_mod cI cZ h M)) ((pc_mod cI cZ h M)) (some (.int o)) := by
  refine cd_of (cc := cX6_canRead) (maxL := 7) (ret := (some .boolean)) (by decide) rfl (Nat.le_of_ble_eq_true rfl) ?_
  intro p e s m ag below meth c A ls Q C0 hl hw hQ
  have C0 : cd_CX G cI cZ sa sb p s m ag meth c cX6_canRead 7 (some .boolean) wsX6_canRead RX6 A := C0
  obtain ⟨⟨hx, hb, hml, hown, hts⟩, hr, hlocks, hA, hE⟩ := id C0
  have hK := hE.1
  have hL0 := hts (.fieldLink RX6 31 "CandleDebtsModel" "last" "[I") (by decide +kernel)
  have hL1 := hts (.fieldLink RX6 7 "CandleDebtsModel" "book" "[I") (by decide +kernel)
  have hl : lv_has ls 7 [(0, .ref (h 0)), (1, .int a0), (2, .int a1)] := hl
  unfold f_X6_canRead at hf
  refine lv_iconst (v := (1 : Int32)) hx hb dX6_canRead_0 (by decide) ?_
  refine lv_istore_n (lv' := [(3, .int (1 : Int32)), (0, .ref (h 0)), (1, .int a0), (2, .int a1)]) hx hb dX6_canRead_1 rfl hl (by decide) rfl (fun ls hl => ?_)
  refine lv_iconst (v := (0 : Int32)) hx hb dX6_canRead_2 (by decide) ?_
  refine lv_istore (lv' := [(4, .int (0 : Int32)), (3, .int (1 : Int32)), (0, .ref (h 0)), (1, .int a0), (2, .int a1)]) hx hb dX6_canRead_3 hl (by decide) rfl (fun ls hl => ?_)
  obtain ⟨x1, e1, hf⟩ := cd_bind_some hf
  have K1 : ∀ (t1 : Int32), t1 = x1 → ∀ (ls : Array Slot) (H : Heap) (locs : List Loc), lv_has ls 7 [(3, .int t1)] → cd_WS G A s.heap H locs ((pc_mod cI cZ h M)) → W p l e rm_X6_canRead s m ag below meth c H locs 0 0 Q (F0 m 121 ls []) := by
    intro t1 hs_1
    subst hs_1
    intro ls H locs hl hw
    refine lv_iload_n hx hb dX6_canRead_121 rfl (lv_at hl 0 rfl) ?_
    obtain ⟨u18, e18, hf⟩ := cd_bind_some hf
    have z : some t1 = some o := hf
    cases z
    rw [hQ]
    exact cd_retz C0 hw (cd_zb_eq e18) dX6_canRead_122
  refine cd_iter_ind (body := (f_X6_canRead_b5 a0 a1 M)) (K := fun r => r = x1) (P := fun (z1 : Int32 × Int32) => ∀ (ls : Array Slot) (H : Heap) (locs : List Loc), lv_has ls 7 [(0, .ref (h 0)), (1, .int a0), (2, .int a1), (3, .int z1.1), (4, .int z1.2)] → cd_WS G A s.heap H locs ((pc_mod cI cZ h M)) → W p l e rm_X6_canRead s m ag below meth c H locs 0 0 Q (F0 m 5 ls [])) ?_ cd_N ((1 : Int32), (0 : Int32)) x1 e1 rfl _ _ _ (lv_sub hl [2, 3, 4, 1, 0] rfl) hw
  intro z1 o1 hb1 hk1 ls H locs hl hw
  unfold f_X6_canRead_b5 at hb1
  refine lv_iload hx hb dX6_canRead_5 (lv_at hl 4 rfl) ?_
  refine lv_bipush (v := (12 : Int32)) hx hb dX6_canRead_7 (by decide) ?_
  refine lv_icmp_ge (tgt := 121) hx hb dX6_canRead_9 (by decide) (fun c2 => ?_) (fun c2 => ?_)
  · have hb1 := cd_ite_t c2 hb1
    have z : some (Sum.inl z1.1) = some o1 := hb1
    cases z
    exact K1 _ hk1 _ _ _ (lv_sub hl [3] rfl) hw
  · have hb1 := cd_ite_f c2 hb1
    refine lv_iconst (v := (0 : Int32)) hx hb dX6_canRead_12 (by decide) ?_
    refine lv_istore (lv' := [(5, .int (0 : Int32)), (0, .ref (h 0)), (1, .int a0), (2, .int a1), (3, .int z1.1), (4, .int z1.2)]) hx hb dX6_canRead_13 hl (by decide) rfl (fun ls hl => ?_)
    refine lv_iconst (v := (0 : Int32)) hx hb dX6_canRead_15 (by decide) ?_
    refine lv_istore (lv' := [(6, .int (0 : Int32)), (5, .int (0 : Int32)), (0, .ref (h 0)), (1, .int a0), (2, .int a1), (3, .int z1.1), (4, .int z1.2)]) hx hb dX6_canRead_16 hl (by decide) rfl (fun ls hl => ?_)
    obtain ⟨x3, e3, hb1⟩ := cd_bind_some hb1
    have K3 : ∀ (t3 : Int32), t3 = x3 → ∀ (ls : Array Slot) (H : Heap) (locs : List Loc), lv_has ls 7 [(0, .ref (h 0)), (1, .int a0), (2, .int a1), (3, .int z1.1), (4, .int z1.2), (5, .int t3)] → cd_WS G A s.heap H locs ((pc_mod cI cZ h M)) → W p l e rm_X6_canRead s m ag below meth c H locs 0 0 Q (F0 m 67 ls []) := by
      intro t3 hs_3
      subst hs_3
      intro ls H locs hl hw
      refine lv_iload_n hx hb dX6_canRead_67 rfl (lv_at hl 3 rfl) ?_
      refine lv_if_eq (tgt := 113) hx hb dX6_canRead_68 (by decide) (fun c10 => ?_) (fun c10 => ?_)
      · have hb1 := cd_ite_t c10 hb1
        refine lv_iconst (v := (0 : Int32)) hx hb dX6_canRead_113 (by decide) ?_
        refine lv_istore_n (lv' := [(3, .int (0 : Int32)), (0, .ref (h 0)), (1, .int a0), (2, .int a1), (4, .int z1.2), (5, .int t3)]) hx hb dX6_canRead_114 rfl hl (by decide) rfl (fun ls hl => ?_)
        refine lv_iinc (v := (z1.2 + (1 : Int32))) (lv' := [(4, .int (z1.2 + (1 : Int32))), (3, .int (0 : Int32)), (0, .ref (h 0)), (1, .int a0), (2, .int a1), (5, .int t3)]) hx hb dX6_canRead_115 hl (k := 4) rfl rfl (by decide) rfl (fun ls hl => ?_)
        refine lv_goto (tgt := 5) hx hb dX6_canRead_118 (by decide) ?_
        have z : some (Sum.inr ((0 : Int32), (z1.2 + (1 : Int32)))) = some o1 := hb1
        cases z
        exact hk1 _ _ _ (lv_sub hl [2, 3, 4, 1, 0] rfl) hw
      · have hb1 := cd_ite_f c10 hb1
        refine lv_iload_n hx hb dX6_canRead_71 rfl (lv_at hl 1 rfl) ?_
        refine lv_iload hx hb dX6_canRead_72 (lv_at hl 4 rfl) ?_
        obtain ⟨r11, e11, hb1⟩ := cd_bind_some hb1
        refine cd_callS (As := [.int a0, .int z1.2]) (rest := []) C0 hw (c_X6_isIn l G cI cZ sa sb a0 z1.2 r11 e11) [] rfl rfl (va_cwS 2 hts gX6_canRead_X6_isIn rfl rfl rfl (by decide +kernel) ⟨Nat.le_of_ble_eq_true rfl, Nat.le_of_ble_eq_true rfl⟩) rfl hl.1 (lv_room (Nat.le_of_ble_eq_true rfl)) dX6_canRead_74 (fun H locs hw => ?_)
        refine lv_if_eq (tgt := 109) hx hb dX6_canRead_77 (by decide) (fun c12 => ?_) (fun c12 => ?_)
        · have hb1 := cd_ite_t c12 hb1
          refine lv_iconst (v := (1 : Int32)) hx hb dX6_canRead_109 (by decide) ?_
          refine lv_goto (tgt := 114) hx hb dX6_canRead_110 (by decide) ?_
          refine lv_istore_n (lv' := [(3, .int (1 : Int32)), (0, .ref (h 0)), (1, .int a0), (2, .int a1), (4, .int z1.2), (5, .int t3)]) hx hb dX6_canRead_114 rfl hl (by decide) rfl (fun ls hl => ?_)
          refine lv_iinc (v := (z1.2 + (1 : Int32))) (lv' := [(4, .int (z1.2 + (1 : Int32))), (3, .int (1 : Int32)), (0, .ref (h 0)), (1, .int a0), (2, .int a1), (5, .int t3)]) hx hb dX6_canRead_115 hl (k := 4) rfl rfl (by decide) rfl (fun ls hl => ?_)
          refine lv_goto (tgt := 5) hx hb dX6_canRead_118 (by decide) ?_
          have z : some (Sum.inr ((1 : Int32), (z1.2 + (1 : Int32)))) = some o1 := hb1
          cases z
          exact hk1 _ _ _ (lv_sub hl [2, 3, 4, 1, 0] rfl) hw
        · have hb1 := cd_ite_f c12 hb1
          refine lv_aload_n hx hb dX6_canRead_80 rfl (lv_at hl 0 rfl) ?_
          refine va_get (D := G) (ci := 6) (v := .ref (h 1)) (C := RX6) (T := TX6) (N := 22) hx hb hts nw_X6_canRead_X6 hown hK hw.1 0 rfl rfl 0 (by decide) hL1 (fun _ h9 => h9) rfl dX6_canRead_81 ?_
          refine lv_bipush (v := (66 : Int32)) hx hb dX6_canRead_84 (by decide) ?_
          obtain ⟨v13, e13, hb1⟩ := cd_bind_some hb1
          refine cd_iald hx hb hK hw 1 rfl e13 dX6_canRead_86 ?_
          refine lv_iload hx hb dX6_canRead_87 (lv_at hl 4 rfl) ?_
          obtain ⟨r14, e14, hb1⟩ := cd_bind_some hb1
          refine cd_callS (As := [.int v13, .int z1.2]) (rest := []) C0 hw (c_X6_isIn l G cI cZ sa sb v13 z1.2 r14 e14) [] rfl rfl (va_cwS 2 hts gX6_canRead_X6_isIn rfl rfl rfl (by decide +kernel) ⟨Nat.le_of_ble_eq_true rfl, Nat.le_of_ble_eq_true rfl⟩) rfl hl.1 (lv_room (Nat.le_of_ble_eq_true rfl)) dX6_canRead_89 (fun H locs hw => ?_)
          refine lv_if_eq (tgt := 113) hx hb dX6_canRead_92 (by decide) (fun c15 => ?_) (fun c15 => ?_)
          · have hb1 := cd_ite_t c15 hb1
            refine lv_iconst (v := (0 : Int32)) hx hb dX6_canRead_113 (by decide) ?_
            refine lv_istore_n (lv' := [(3, .int (0 : Int32)), (0, .ref (h 0)), (1, .int a0), (2, .int a1), (4, .int z1.2), (5, .int t3)]) hx hb dX6_canRead_114 rfl hl (by decide) rfl (fun ls hl => ?_)
            refine lv_iinc (v := (z1.2 + (1 : Int32))) (lv' := [(4, .int (z1.2 + (1 : Int32))), (3, .int (0 : Int32)), (0, .ref (h 0)), (1, .int a0), (2, .int a1), (5, .int t3)]) hx hb dX6_canRead_115 hl (k := 4) rfl rfl (by decide) rfl (fun ls hl => ?_)
            refine lv_goto (tgt := 5) hx hb dX6_canRead_118 (by decide) ?_
            have z : some (Sum.inr ((0 : Int32), (z1.2 + (1 : Int32)))) = some o1 := hb1
            cases z
            exact hk1 _ _ _ (lv_sub hl [2, 3, 4, 1, 0] rfl) hw
          · have hb1 := cd_ite_f c15 hb1
            refine lv_iload hx hb dX6_canRead_95 (lv_at hl 5 rfl) ?_
            refine lv_iload_n hx hb dX6_canRead_97 rfl (lv_at hl 2 rfl) ?_
            refine lv_imul hx hb dX6_canRead_98 ?_
            refine lv_aload_n hx hb dX6_canRead_99 rfl (lv_at hl 0 rfl) ?_
            refine va_get (D := G) (ci := 6) (v := .ref (h 8)) (C := RX6) (T := TX6) (N := 22) hx hb hts nw_X6_canRead_X6 hown hK hw.1 0 rfl rfl 15 (by decide) hL0 (fun _ h9 => h9) rfl dX6_canRead_100 ?_
            refine lv_iload hx hb dX6_canRead_103 (lv_at hl 4 rfl) ?_
            obtain ⟨v16, e16, hb1⟩ := cd_bind_some hb1
            refine cd_iald hx hb hK hw 8 rfl e16 dX6_canRead_105 ?_
            refine lv_icmp_gt (tgt := 113) hx hb dX6_canRead_106 (by decide) (fun c17 => ?_) (fun c17 => ?_)
            · have hb1 := cd_ite_t c17 hb1
              refine lv_iconst (v := (0 : Int32)) hx hb dX6_canRead_113 (by decide) ?_
              refine lv_istore_n (lv' := [(3, .int (0 : Int32)), (0, .ref (h 0)), (1, .int a0), (2, .int a1), (4, .int z1.2), (5, .int t3)]) hx hb dX6_canRead_114 rfl hl (by decide) rfl (fun ls hl => ?_)
              refine lv_iinc (v := (z1.2 + (1 : Int32))) (lv' := [(4, .int (z1.2 + (1 : Int32))), (3, .int (0 : Int32)), (0, .ref (h 0)), (1, .int a0), (2, .int a1), (5, .int t3)]) hx hb dX6_canRead_115 hl (k := 4) rfl rfl (by decide) rfl (fun ls hl => ?_)
              refine lv_goto (tgt := 5) hx hb dX6_canRead_118 (by decide) ?_
              have z : some (Sum.inr ((0 : Int32), (z1.2 + (1 : Int32)))) = some o1 := hb1
              cases z
              exact hk1 _ _ _ (lv_sub hl [2, 3, 4, 1, 0] rfl) hw
            · have hb1 := cd_ite_f c17 hb1
              refine lv_iconst (v := (1 : Int32)) hx hb dX6_canRead_109 (by decide) ?_
              refine lv_goto (tgt := 114) hx hb dX6_canRead_110 (by decide) ?_
              refine lv_istore_n (lv' := [(3, .int (1 : Int32)), (0, .ref (h 0)), (1, .int a0), (2, .int a1), (4, .int z1.2), (5, .int t3)]) hx hb dX6_canRead_114 rfl hl (by decide) rfl (fun ls hl => ?_)
              refine lv_iinc (v := (z1.2 + (1 : Int32))) (lv' := [(4, .int (z1.2 + (1 : Int32))), (3, .int (1 : Int32)), (0, .ref (h 0)), (1, .int a0), (2, .int a1), (5, .int t3)]) hx hb dX6_canRead_115 hl (k := 4) rfl rfl (by decide) rfl (fun ls hl => ?_)
              refine lv_goto (tgt := 5) hx hb dX6_canRead_118 (by decide) ?_
              have z : some (Sum.inr ((1 : Int32), (z1.2 + (1 : Int32)))) = some o1 := hb1
              cases z
              exact hk1 _ _ _ (lv_sub hl [2, 3, 4, 1, 0] rfl) hw
    refine cd_iter_ind (body := (f_X6_canRead_b18 a0 M z1)) (K := fun r => r = x3) (P := fun (z3 : Int32 × Int32) => ∀ (ls : Array Slot) (H : Heap) (locs : List Loc), lv_has ls 7 [(0, .ref (h 0)), (1, .int a0), (2, .int a1), (3, .int z1.1), (4, .int z1.2), (5, .int z3.1), (6, .int z3.2)] → cd_WS G A s.heap H locs ((pc_mod cI cZ h M)) → W p l e rm_X6_canRead s m ag below meth c H locs 0 0 Q (F0 m 18 ls [])) ?_ cd_N ((0 : Int32), (0 : Int32)) x3 e3 rfl _ _ _ (lv_sub hl [2, 3, 4, 5, 6, 1, 0] rfl) hw
    intro z3 o3 hb3 hk3 ls H locs hl hw
    unfold f_X6_canRead_b18 at hb3
    refine lv_iload hx hb dX6_canRead_18 (lv_at hl 6 rfl) ?_
    refine lv_bipush (v := (12 : Int32)) hx hb dX6_canRead_20 (by decide) ?_
    refine lv_icmp_ge (tgt := 67) hx hb dX6_canRead_22 (by decide) (fun c4 => ?_) (fun c4 => ?_)
    · have hb3 := cd_ite_t c4 hb3
      have z : some (Sum.inl z3.1) = some o3 := hb3
      cases z
      exact K3 _ hk3 _ _ _ (lv_sub hl [0, 1, 2, 3, 4, 5] rfl) hw
    · have hb3 := cd_ite_f c4 hb3
      refine lv_iload hx hb dX6_canRead_25 (lv_at hl 5 rfl) ?_
      refine lv_iload_n hx hb dX6_canRead_27 rfl (lv_at hl 1 rfl) ?_
      refine lv_iload hx hb dX6_canRead_28 (lv_at hl 6 rfl) ?_
      obtain ⟨r5, e5, hb3⟩ := cd_bind_some hb3
      refine cd_callS (As := [.int a0, .int z3.2]) (rest := [.int z3.1]) C0 hw (c_X6_isIn l G cI cZ sa sb a0 z3.2 r5 e5) [] rfl rfl (va_cwS 2 hts gX6_canRead_X6_isIn rfl rfl rfl (by decide +kernel) ⟨Nat.le_of_ble_eq_true rfl, Nat.le_of_ble_eq_true rfl⟩) rfl hl.1 (lv_room (Nat.le_of_ble_eq_true rfl)) dX6_canRead_30 (fun H locs hw => ?_)
      obtain ⟨x6, e6, hb3⟩ := cd_bind_some hb3
      have K6 : ∀ (ls : Array Slot) (H : Heap) (locs : List Loc), lv_has ls 7 [(0, .ref (h 0)), (1, .int a0), (2, .int a1), (3, .int z1.1), (4, .int z1.2), (6, .int z3.2)] → cd_WS G A s.heap H locs ((pc_mod cI cZ h M)) → W p l e rm_X6_canRead s m ag below meth c H locs 0 0 Q (F0 m 58 ls [.int x6, .int z3.1]) := by
        intro ls H locs hl hw
        refine lv_iadd hx hb dX6_canRead_58 ?_
        refine lv_istore (lv' := [(5, .int (z3.1 + x6)), (0, .ref (h 0)), (1, .int a0), (2, .int a1), (3, .int z1.1), (4, .int z1.2), (6, .int z3.2)]) hx hb dX6_canRead_59 hl (by decide) rfl (fun ls hl => ?_)
        refine lv_iinc (v := (z3.2 + (1 : Int32))) (lv' := [(6, .int (z3.2 + (1 : Int32))), (5, .int (z3.1 + x6)), (0, .ref (h 0)), (1, .int a0), (2, .int a1), (3, .int z1.1), (4, .int z1.2)]) hx hb dX6_canRead_61 hl (k := 6) rfl rfl (by decide) rfl (fun ls hl => ?_)
        refine lv_goto (tgt := 18) hx hb dX6_canRead_64 (by decide) ?_
        have z : some (Sum.inr ((z3.1 + x6), (z3.2 + (1 : Int32)))) = some o3 := hb3
        cases z
        exact hk3 _ _ _ (lv_sub hl [2, 3, 4, 5, 6, 1, 0] rfl) hw
      refine lv_if_eq (tgt := 57) hx hb dX6_canRead_33 (by decide) (fun c6 => ?_) (fun c6 => ?_)
      · have e6 := cd_ite_t c6 e6
        refine lv_iconst (v := (0 : Int32)) hx hb dX6_canRead_57 (by decide) ?_
        have z : some (0 : Int32) = some x6 := e6
        cases z
        exact K6 _ _ _ (lv_sub hl [0, 1, 2, 3, 4, 6] rfl) hw
      · have e6 := cd_ite_f c6 e6
        refine lv_aload_n hx hb dX6_canRead_36 rfl (lv_at hl 0 rfl) ?_
        refine va_get (D := G) (ci := 6) (v := .ref (h 8)) (C := RX6) (T := TX6) (N := 22) hx hb hts nw_X6_canRead_X6 hown hK hw.1 0 rfl rfl 15 (by decide) hL0 (fun _ h9 => h9) rfl dX6_canRead_37 ?_
        refine lv_iload hx hb dX6_canRead_40 (lv_at hl 6 rfl) ?_
        obtain ⟨v7, e7, e6⟩ := cd_bind_some e6
        refine cd_iald hx hb hK hw 8 rfl e7 dX6_canRead_42 ?_
        refine lv_aload_n hx hb dX6_canRead_43 rfl (lv_at hl 0 rfl) ?_
        refine va_get (D := G) (ci := 6) (v := .ref (h 8)) (C := RX6) (T := TX6) (N := 22) hx hb hts nw_X6_canRead_X6 hown hK hw.1 0 rfl rfl 15 (by decide) hL0 (fun _ h9 => h9) rfl dX6_canRead_44 ?_
        refine lv_iload hx hb dX6_canRead_47 (lv_at hl 4 rfl) ?_
        obtain ⟨v8, e8, e6⟩ := cd_bind_some e6
        refine cd_iald hx hb hK hw 8 rfl e8 dX6_canRead_49 ?_
        refine lv_icmp_gt (tgt := 57) hx hb dX6_canRead_50 (by decide) (fun c9 => ?_) (fun c9 => ?_)
        · have e6 := cd_ite_t c9 e6
          refine lv_iconst (v := (0 : Int32)) hx hb dX6_canRead_57 (by decide) ?_
          have z : some (0 : Int32) = some x6 := e6
          cases z
          exact K6 _ _ _ (lv_sub hl [0, 1, 2, 3, 4, 6] rfl) hw
        · have e6 := cd_ite_f c9 e6
          refine lv_iconst (v := (1 : Int32)) hx hb dX6_canRead_53 (by decide) ?_
          refine lv_goto (tgt := 58) hx hb dX6_canRead_54 (by decide) ?_
          have z : some (1 : Int32) = some x6 := e6
          cases z
          exact K6 _ _ _ (lv_sub hl [0, 1, 2, 3, 4, 6] rfl) hw
