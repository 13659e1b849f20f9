abbrev rm_X5_moths : Room := { frames := 5, cells := 0, slots := 0, locals := 112 }
theorem nw_X5_moths_X5 : ∀ w ∈ u_ws RX5 TX5 8, w ∈ wsX5_moths := by decide +kernel
set_option maxHeartbeats 4000000 in
set_option maxRecDepth 100000 in
theorem c_X5_moths (l : Launch) (G : va_G) (cI cZ : ClassId) (sa sb : Nat) (h ht h1 h2 hp hy hs hv hz : Nat → Nat) (K T : Nat → Nat → Int32) (a0 : Int32) (a1 : Int32) (a2 : Int32) (a3 : Int32) (o : Int64) (hf : f_X5_moths a0 a1 a2 a3 K T = some o) : cd_Ct l G cI cZ sa sb yX5_moths wsX5_moths rm_X5_moths [.ref (h 0), .int a0, .int a1, .int a2, .int a3] ((pc_top cZ h ht h1 h2 hp hy hv hz K) ++ (pc_town cI ht T)) ((pc_top cZ h ht h1 h2 hp hy hv hz K) ++ (pc_town cI ht T)) (some (.long o)) := by
  refine cd_of (cc := cX5_moths) (maxL := 10) (ret := (some .long)) (by decide) rfl (Nat.le_of_ble_eq_true rfl) ?_
  intro p e s m ag below meth c A ls Q C0 hl hw hQ
  have C0 : cd_CX G cI cZ sa sb p s m ag meth c cX5_moths 10 (some .long) wsX5_moths RX5 A := C0
  obtain ⟨⟨hx, hb, hml, hown, hts⟩, hr, hlocks, hA, hE⟩ := id C0
  have hK := hE.1
  have hL0 := hts (.constantLong RX5 214 (-1000000000000000002)) (by decide +kernel)
  have hL1 := hts (.fieldLink RX5 12 "CandleDebts" "town" "LCandleDebts$Town;") (by decide +kernel)
  have hL2 := hts (.constantLong RX5 222 (10)) (by decide +kernel)
  have hL3 := hts (.constantLong RX5 212 (-1000000000000000001)) (by decide +kernel)
  have hl : lv_has ls 10 [(0, .ref (h 0)), (1, .int a0), (2, .int a1), (3, .int a2), (4, .int a3)] := hl
  unfold f_X5_moths at hf
  refine lv_iload_n hx hb dX5_moths_0 rfl (lv_at hl 1 rfl) ?_
  refine lv_iconst (v := (-1 : Int32)) hx hb dX5_moths_1 (by decide) ?_
  refine lv_icmp_eq (tgt := 27) hx hb dX5_moths_2 (by decide) (fun c1 => ?_) (fun c1 => ?_)
  · have hf := cd_ite_t c1 hf
    refine lv_iload_n hx hb dX5_moths_27 rfl (lv_at hl 2 rfl) ?_
    refine lv_iconst (v := (0 : Int32)) hx hb dX5_moths_28 (by decide) ?_
    refine lv_bipush (v := (10 : Int32)) hx hb dX5_moths_29 (by decide) ?_
    obtain ⟨r2, e2, hf⟩ := cd_bind_some hf
    refine cd_callS (As := [.int a1, .int (0 : Int32), .int (10 : Int32)]) (rest := []) C0 hw (c_X5_within l G cI cZ sa sb a1 (0 : Int32) (10 : Int32) r2 e2) [] rfl rfl (va_cwS 3 hts gX5_moths_X5_within rfl rfl rfl (by decide +kernel) ⟨Nat.le_of_ble_eq_true rfl, Nat.le_of_ble_eq_true rfl⟩) rfl hl.1 (lv_room (Nat.le_of_ble_eq_true rfl)) dX5_moths_31 (fun H locs hw => ?_)
    refine lv_if_eq (tgt := 57) hx hb dX5_moths_34 (by decide) (fun c3 => ?_) (fun c3 => ?_)
    · have hf := cd_ite_t c3 hf
      refine lv_ldc2 (v := (-1000000000000000002 : Int64)) hx hb hown hL0 dX5_moths_57 ?_
      have z : some (-1000000000000000002 : Int64) = some o := hf
      cases z
      rw [hQ]
      exact cd_retl C0 hw dX5_moths_60
    · have hf := cd_ite_f c3 hf
      refine lv_iload_n hx hb dX5_moths_37 rfl (lv_at hl 3 rfl) ?_
      refine lv_iconst (v := (0 : Int32)) hx hb dX5_moths_38 (by decide) ?_
      refine lv_bipush (v := (15 : Int32)) hx hb dX5_moths_39 (by decide) ?_
      obtain ⟨r4, e4, hf⟩ := cd_bind_some hf
      refine cd_callS (As := [.int a2, .int (0 : Int32), .int (15 : Int32)]) (rest := []) C0 hw (c_X5_within l G cI cZ sa sb a2 (0 : Int32) (15 : Int32) r4 e4) [] rfl rfl (va_cwS 3 hts gX5_moths_X5_within rfl rfl rfl (by decide +kernel) ⟨Nat.le_of_ble_eq_true rfl, Nat.le_of_ble_eq_true rfl⟩) rfl hl.1 (lv_room (Nat.le_of_ble_eq_true rfl)) dX5_moths_41 (fun H locs hw => ?_)
      refine lv_if_eq (tgt := 57) hx hb dX5_moths_44 (by decide) (fun c5 => ?_) (fun c5 => ?_)
      · have hf := cd_ite_t c5 hf
        refine lv_ldc2 (v := (-1000000000000000002 : Int64)) hx hb hown hL0 dX5_moths_57 ?_
        have z : some (-1000000000000000002 : Int64) = some o := hf
        cases z
        rw [hQ]
        exact cd_retl C0 hw dX5_moths_60
      · have hf := cd_ite_f c5 hf
        refine lv_iload hx hb dX5_moths_47 (lv_at hl 4 rfl) ?_
        refine lv_iconst (v := (0 : Int32)) hx hb dX5_moths_49 (by decide) ?_
        refine lv_iconst (v := (1 : Int32)) hx hb dX5_moths_50 (by decide) ?_
        obtain ⟨r6, e6, hf⟩ := cd_bind_some hf
        refine cd_callS (As := [.int a3, .int (0 : Int32), .int (1 : Int32)]) (rest := []) C0 hw (c_X5_within l G cI cZ sa sb a3 (0 : Int32) (1 : Int32) r6 e6) [] rfl rfl (va_cwS 3 hts gX5_moths_X5_within rfl rfl rfl (by decide +kernel) ⟨Nat.le_of_ble_eq_true rfl, Nat.le_of_ble_eq_true rfl⟩) rfl hl.1 (lv_room (Nat.le_of_ble_eq_true rfl)) dX5_moths_51 (fun H locs hw => ?_)
        refine lv_if_ne (tgt := 61) hx hb dX5_moths_54 (by decide) (fun c7 => ?_) (fun c7 => ?_)
        · have hf := cd_ite_f c7 hf
          refine lv_iload_n hx hb dX5_moths_61 rfl (lv_at hl 1 rfl) ?_
          refine lv_iconst (v := (-1 : Int32)) hx hb dX5_moths_62 (by decide) ?_
          obtain ⟨x8, e8, hf⟩ := cd_bind_some hf
          have K8 : ∀ (ls : Array Slot) (H : Heap) (locs : List Loc), lv_has ls 10 [(2, .int a1), (3, .int a2), (4, .int a3)] → cd_WS G A s.heap H locs ((pc_top cZ h ht h1 h2 hp hy hv hz K) ++ (pc_town cI ht T)) → W p l e rm_X5_moths s m ag below meth c H locs 0 0 Q (F0 m 95 ls [.long x8]) := by
            intro ls H locs hl hw
            refine lv_lstore (lv' := [(5, .long x8), (2, .int a1), (3, .int a2), (4, .int a3)]) hx hb dX5_moths_95 hl (by decide) rfl (fun ls hl => ?_)
            refine lv_lconst (v := 1) hx hb dX5_moths_97 (by decide) ?_
            refine lv_lstore (lv' := [(7, .long (1 : Int64)), (5, .long x8), (2, .int a1), (3, .int a2), (4, .int a3)]) hx hb dX5_moths_98 hl (by decide) rfl (fun ls hl => ?_)
            refine lv_iconst (v := (0 : Int32)) hx hb dX5_moths_100 (by decide) ?_
            refine lv_istore (lv' := [(9, .int (0 : Int32)), (7, .long (1 : Int64)), (5, .long x8), (2, .int a1), (3, .int a2), (4, .int a3)]) hx hb dX5_moths_101 hl (by decide) rfl (fun ls hl => ?_)
            obtain ⟨x9, e9, hf⟩ := cd_bind_some hf
            have K9 : ∀ (t9 : Int64 × Int64), t9 = x9 → ∀ (ls : Array Slot) (H : Heap) (locs : List Loc), lv_has ls 10 [(4, .int a3), (5, .long t9.1), (7, .long t9.2)] → cd_WS G A s.heap H locs ((pc_top cZ h ht h1 h2 hp hy hv hz K) ++ (pc_town cI ht T)) → W p l e rm_X5_moths s m ag below meth c H locs 0 0 Q (F0 m 133 ls []) := by
              intro t9 hs_9
              subst hs_9
              intro ls H locs hl hw
              refine lv_lload hx hb dX5_moths_133 (lv_at hl 1 rfl) ?_
              refine lv_lload hx hb dX5_moths_135 (lv_at hl 2 rfl) ?_
              refine lv_iload hx hb dX5_moths_137 (lv_at hl 0 rfl) ?_
              obtain ⟨r11, e11, hf⟩ := cd_bind_some hf
              refine cd_callS (As := [.long t9.1, .long t9.2, .int a3]) (rest := []) C0 hw (c_X5_partOf l G cI cZ sa sb t9.1 t9.2 a3 r11 e11) [] rfl rfl (va_cwS 3 hts gX5_moths_X5_partOf rfl rfl rfl (by decide +kernel) ⟨Nat.le_of_ble_eq_true rfl, Nat.le_of_ble_eq_true rfl⟩) rfl hl.1 (lv_room (Nat.le_of_ble_eq_true rfl)) dX5_moths_139 (fun H locs hw => ?_)
              have z : some r11 = some o := hf
              cases z
              rw [hQ]
              exact cd_retl C0 hw dX5_moths_142
            refine cd_iter_ind (body := (f_X5_moths_b103 a1 a2)) (K := fun r => r = x9) (P := fun (z9 : Int64 × Int64 × Int32) => ∀ (ls : Array Slot) (H : Heap) (locs : List Loc), lv_has ls 10 [(2, .int a1), (3, .int a2), (4, .int a3), (5, .long z9.1), (7, .long z9.2.1), (9, .int z9.2.2)] → cd_WS G A s.heap H locs ((pc_top cZ h ht h1 h2 hp hy hv hz K) ++ (pc_town cI ht T)) → W p l e rm_X5_moths s m ag below meth c H locs 0 0 Q (F0 m 103 ls [])) ?_ cd_N (x8, (1 : Int64), (0 : Int32)) x9 e9 rfl _ _ _ (lv_sub hl [3, 4, 5, 2, 1, 0] rfl) hw
            intro z9 o9 hb9 hk9 ls H locs hl hw
            unfold f_X5_moths_b103 at hb9
            refine lv_iload hx hb dX5_moths_103 (lv_at hl 5 rfl) ?_
            refine lv_iload_n hx hb dX5_moths_105 rfl (lv_at hl 1 rfl) ?_
            refine lv_icmp_ge (tgt := 133) hx hb dX5_moths_106 (by decide) (fun c10 => ?_) (fun c10 => ?_)
            · have hb9 := cd_ite_t c10 hb9
              have z : some (Sum.inl (z9.1, z9.2.1)) = some o9 := hb9
              cases z
              exact K9 _ hk9 _ _ _ (lv_sub hl [2, 3, 4] rfl) hw
            · have hb9 := cd_ite_f c10 hb9
              refine lv_lload hx hb dX5_moths_109 (lv_at hl 3 rfl) ?_
              refine lv_bipush (v := (10 : Int32)) hx hb dX5_moths_111 (by decide) ?_
              refine lv_iload_n hx hb dX5_moths_113 rfl (lv_at hl 0 rfl) ?_
              refine lv_isub hx hb dX5_moths_114 ?_
              refine lv_i2l hx hb dX5_moths_115 rfl ?_
              refine lv_lmul hx hb dX5_moths_116 ?_
              refine lv_lstore (lv' := [(5, .long (z9.1 * (((10 : Int32) - a1).toInt64))), (2, .int a1), (3, .int a2), (4, .int a3), (7, .long z9.2.1), (9, .int z9.2.2)]) hx hb dX5_moths_117 hl (by decide) rfl (fun ls hl => ?_)
              refine lv_lload hx hb dX5_moths_119 (lv_at hl 4 rfl) ?_
              refine lv_ldc2 (v := (10 : Int64)) hx hb hown hL2 dX5_moths_121 ?_
              refine lv_lmul hx hb dX5_moths_124 ?_
              refine lv_lstore (lv' := [(7, .long (z9.2.1 * (10 : Int64))), (5, .long (z9.1 * (((10 : Int32) - a1).toInt64))), (2, .int a1), (3, .int a2), (4, .int a3), (9, .int z9.2.2)]) hx hb dX5_moths_125 hl (by decide) rfl (fun ls hl => ?_)
              refine lv_iinc (v := (z9.2.2 + (1 : Int32))) (lv' := [(9, .int (z9.2.2 + (1 : Int32))), (7, .long (z9.2.1 * (10 : Int64))), (5, .long (z9.1 * (((10 : Int32) - a1).toInt64))), (2, .int a1), (3, .int a2), (4, .int a3)]) hx hb dX5_moths_127 hl (k := 5) rfl rfl (by decide) rfl (fun ls hl => ?_)
              refine lv_goto (tgt := 103) hx hb dX5_moths_130 (by decide) ?_
              have z : some (Sum.inr ((z9.1 * (((10 : Int32) - a1).toInt64)), (z9.2.1 * (10 : Int64)), (z9.2.2 + (1 : Int32)))) = some o9 := hb9
              cases z
              exact hk9 _ _ _ (lv_sub hl [3, 4, 5, 2, 1, 0] rfl) hw
          refine lv_icmp_ne (tgt := 78) hx hb dX5_moths_63 (by decide) (fun c8 => ?_) (fun c8 => ?_)
          · have e8 := cd_ite_f c8 e8
            refine lv_aload_n hx hb dX5_moths_78 rfl (lv_at hl 0 rfl) ?_
            refine va_get (D := G) (ci := 5) (v := .ref (ht 0)) (C := RX5) (T := TX5) (N := 8) hx hb hts nw_X5_moths_X5 hown hK hw.1 0 rfl rfl 0 (by decide) hL1 (fun _ h9 => h9) rfl dX5_moths_79 ?_
            refine lv_iload_n hx hb dX5_moths_82 rfl (lv_at hl 1 rfl) ?_
            refine lv_iload_n hx hb dX5_moths_83 rfl (lv_at hl 3 rfl) ?_
            obtain ⟨r13, e13, e8⟩ := cd_bind_some e8
            refine cd_callV (As := [.int a0, .int a2]) (rest := []) C0 hw (c_X3_outlasts l G cI cZ sa sb ht T a0 a2 r13 e13) [2, 3, 4, 5, 6, 7, 8, 9, 10, 11, 12] rfl rfl 0 3 rfl rfl rfl (cwV 2 hts gX5_moths_X3_outlasts rfl rfl rfl (by decide +kernel) ⟨Nat.le_of_ble_eq_true rfl, Nat.le_of_ble_eq_true rfl⟩) rfl hl.1 (lv_room (Nat.le_of_ble_eq_true rfl)) dX5_moths_84 (fun H locs hw => ?_)
            refine lv_if_eq (tgt := 94) hx hb dX5_moths_87 (by decide) (fun c14 => ?_) (fun c14 => ?_)
            · have e8 := cd_ite_t c14 e8
              refine lv_lconst (v := 0) hx hb dX5_moths_94 (by decide) ?_
              have z : some (0 : Int64) = some x8 := e8
              cases z
              exact K8 _ _ _ (lv_sub hl [2, 3, 4] rfl) hw
            · have e8 := cd_ite_f c14 e8
              refine lv_lconst (v := 1) hx hb dX5_moths_90 (by decide) ?_
              refine lv_goto (tgt := 95) hx hb dX5_moths_91 (by decide) ?_
              have z : some (1 : Int64) = some x8 := e8
              cases z
              exact K8 _ _ _ (lv_sub hl [2, 3, 4] rfl) hw
          · have e8 := cd_ite_t c8 e8
            refine lv_aload_n hx hb dX5_moths_66 rfl (lv_at hl 0 rfl) ?_
            refine va_get (D := G) (ci := 5) (v := .ref (ht 0)) (C := RX5) (T := TX5) (N := 8) hx hb hts nw_X5_moths_X5 hown hK hw.1 0 rfl rfl 0 (by decide) hL1 (fun _ h9 => h9) rfl dX5_moths_67 ?_
            refine lv_iload_n hx hb dX5_moths_70 rfl (lv_at hl 3 rfl) ?_
            obtain ⟨r12, e12, e8⟩ := cd_bind_some e8
            refine cd_callV (As := [.int a2]) (rest := []) C0 hw (c_X3_howManyOutlast l G cI cZ sa sb ht T a2 r12 e12) [2, 3, 4, 5, 6, 7, 8, 9, 10, 11, 12] rfl rfl 0 3 rfl rfl rfl (cwV 1 hts gX5_moths_X3_howManyOutlast rfl rfl rfl (by decide +kernel) ⟨Nat.le_of_ble_eq_true rfl, Nat.le_of_ble_eq_true rfl⟩) rfl hl.1 (lv_room (Nat.le_of_ble_eq_true rfl)) dX5_moths_71 (fun H locs hw => ?_)
            refine lv_i2l hx hb dX5_moths_74 rfl ?_
            refine lv_goto (tgt := 95) hx hb dX5_moths_75 (by decide) ?_
            have z : some (r12.toInt64) = some x8 := e8
            cases z
            exact K8 _ _ _ (lv_sub hl [2, 3, 4] rfl) hw
        · have hf := cd_ite_t c7 hf
          refine lv_ldc2 (v := (-1000000000000000002 : Int64)) hx hb hown hL0 dX5_moths_57 ?_
          have z : some (-1000000000000000002 : Int64) = some o := hf
          cases z
          rw [hQ]
          exact cd_retl C0 hw dX5_moths_60
  · have hf := cd_ite_f c1 hf
    refine lv_iload_n hx hb dX5_moths_5 rfl (lv_at hl 1 rfl) ?_
    obtain ⟨r15, e15, hf⟩ := cd_bind_some hf
    refine cd_callS (As := [.int a0]) (rest := []) C0 hw (c_X5_isCandle l G cI cZ sa sb a0 r15 e15) [] rfl rfl (va_cwS 1 hts gX5_moths_X5_isCandle rfl rfl rfl (by decide +kernel) ⟨Nat.le_of_ble_eq_true rfl, Nat.le_of_ble_eq_true rfl⟩) rfl hl.1 (lv_room (Nat.le_of_ble_eq_true rfl)) dX5_moths_6 (fun H locs hw => ?_)
    refine lv_if_eq (tgt := 23) hx hb dX5_moths_9 (by decide) (fun c16 => ?_) (fun c16 => ?_)
    · have hf := cd_ite_t c16 hf
      refine lv_ldc2 (v := (-1000000000000000001 : Int64)) hx hb hown hL3 dX5_moths_23 ?_
      have z : some (-1000000000000000001 : Int64) = some o := hf
      cases z
      rw [hQ]
      exact cd_retl C0 hw dX5_moths_26
    · have hf := cd_ite_f c16 hf
      refine lv_aload_n hx hb dX5_moths_12 rfl (lv_at hl 0 rfl) ?_
      refine va_get (D := G) (ci := 5) (v := .ref (ht 0)) (C := RX5) (T := TX5) (N := 8) hx hb hts nw_X5_moths_X5 hown hK hw.1 0 rfl rfl 0 (by decide) hL1 (fun _ h9 => h9) rfl dX5_moths_13 ?_
      refine lv_iload_n hx hb dX5_moths_16 rfl (lv_at hl 1 rfl) ?_
      obtain ⟨r17, e17, hf⟩ := cd_bind_some hf
      refine cd_callV (As := [.int a0]) (rest := []) C0 hw (c_X3_isLit l G cI cZ sa sb ht T a0 r17 e17) [2, 3, 4, 5, 6, 7, 8, 9, 10, 11, 12] rfl rfl 0 3 rfl rfl rfl (cwV 1 hts gX5_moths_X3_isLit rfl rfl rfl (by decide +kernel) ⟨Nat.le_of_ble_eq_true rfl, Nat.le_of_ble_eq_true rfl⟩) rfl hl.1 (lv_room (Nat.le_of_ble_eq_true rfl)) dX5_moths_17 (fun H locs hw => ?_)
      refine lv_if_ne (tgt := 27) hx hb dX5_moths_20 (by decide) (fun c18 => ?_) (fun c18 => ?_)
      · have hf := cd_ite_f c18 hf
        refine lv_iload_n hx hb dX5_moths_27 rfl (lv_at hl 2 rfl) ?_
        refine lv_iconst (v := (0 : Int32)) hx hb dX5_moths_28 (by decide) ?_
        refine lv_bipush (v := (10 : Int32)) hx hb dX5_moths_29 (by decide) ?_
        obtain ⟨r19, e19, hf⟩ := cd_bind_some hf
        refine cd_callS (As := [.int a1, .int (0 : Int32), .int (10 : Int32)]) (rest := []) C0 hw (c_X5_within l G cI cZ sa sb a1 (0 : Int32) (10 : Int32) r19 e19) [] rfl rfl (va_cwS 3 hts gX5_moths_X5_within rfl rfl rfl (by decide +kernel) ⟨Nat.le_of_ble_eq_true rfl, Nat.le_of_ble_eq_true rfl⟩) rfl hl.1 (lv_room (Nat.le_of_ble_eq_true rfl)) dX5_moths_31 (fun H locs hw => ?_)
        refine lv_if_eq (tgt := 57) hx hb dX5_moths_34 (by decide) (fun c20 => ?_) (fun c20 => ?_)
        · have hf := cd_ite_t c20 hf
          refine lv_ldc2 (v := (-1000000000000000002 : Int64)) hx hb hown hL0 dX5_moths_57 ?_
          have z : some (-1000000000000000002 : Int64) = some o := hf
          cases z
          rw [hQ]
          exact cd_retl C0 hw dX5_moths_60
        · have hf := cd_ite_f c20 hf
          refine lv_iload_n hx hb dX5_moths_37 rfl (lv_at hl 3 rfl) ?_
          refine lv_iconst (v := (0 : Int32)) hx hb dX5_moths_38 (by decide) ?_
          refine lv_bipush (v := (15 : Int32)) hx hb dX5_moths_39 (by decide) ?_
          obtain ⟨r21, e21, hf⟩ := cd_bind_some hf
          refine cd_callS (As := [.int a2, .int (0 : Int32), .int (15 : Int32)]) (rest := []) C0 hw (c_X5_within l G cI cZ sa sb a2 (0 : Int32) (15 : Int32) r21 e21) [] rfl rfl (va_cwS 3 hts gX5_moths_X5_within rfl rfl rfl (by decide +kernel) ⟨Nat.le_of_ble_eq_true rfl, Nat.le_of_ble_eq_true rfl⟩) rfl hl.1 (lv_room (Nat.le_of_ble_eq_true rfl)) dX5_moths_41 (fun H locs hw => ?_)
          refine lv_if_eq (tgt := 57) hx hb dX5_moths_44 (by decide) (fun c22 => ?_) (fun c22 => ?_)
          · have hf := cd_ite_t c22 hf
            refine lv_ldc2 (v := (-1000000000000000002 : Int64)) hx hb hown hL0 dX5_moths_57 ?_
            have z : some (-1000000000000000002 : Int64) = some o := hf
            cases z
            rw [hQ]
            exact cd_retl C0 hw dX5_moths_60
          · have hf := cd_ite_f c22 hf
            refine lv_iload hx hb dX5_moths_47 (lv_at hl 4 rfl) ?_
            refine lv_iconst (v := (0 : Int32)) hx hb dX5_moths_49 (by decide) ?_
            refine lv_iconst (v := (1 : Int32)) hx hb dX5_moths_50 (by decide) ?_
            obtain ⟨r23, e23, hf⟩ := cd_bind_some hf
            refine cd_callS (As := [.int a3, .int (0 : Int32), .int (1 : Int32)]) (rest := []) C0 hw (c_X5_within l G cI cZ sa sb a3 (0 : Int32) (1 : Int32) r23 e23) [] rfl rfl (va_cwS 3 hts gX5_moths_X5_within rfl rfl rfl (by decide +kernel) ⟨Nat.le_of_ble_eq_true rfl, Nat.le_of_ble_eq_true rfl⟩) rfl hl.1 (lv_room (Nat.le_of_ble_eq_true rfl)) dX5_moths_51 (fun H locs hw => ?_)
            refine lv_if_ne (tgt := 61) hx hb dX5_moths_54 (by decide) (fun c24 => ?_) (fun c24 => ?_)
            · have hf := cd_ite_f c24 hf
              refine lv_iload_n hx hb dX5_moths_61 rfl (lv_at hl 1 rfl) ?_
              refine lv_iconst (v := (-1 : Int32)) hx hb dX5_moths_62 (by decide) ?_
              obtain ⟨x25, e25, hf⟩ := cd_bind_some hf
              have K25 : ∀ (ls : Array Slot) (H : Heap) (locs : List Loc), lv_has ls 10 [(2, .int a1), (3, .int a2), (4, .int a3)] → cd_WS G A s.heap H locs ((pc_top cZ h ht h1 h2 hp hy hv hz K) ++ (pc_town cI ht T)) → W p l e rm_X5_moths s m ag below meth c H locs 0 0 Q (F0 m 95 ls [.long x25]) := by
                intro ls H locs hl hw
                refine lv_lstore (lv' := [(5, .long x25), (2, .int a1), (3, .int a2), (4, .int a3)]) hx hb dX5_moths_95 hl (by decide) rfl (fun ls hl => ?_)
                refine lv_lconst (v := 1) hx hb dX5_moths_97 (by decide) ?_
                refine lv_lstore (lv' := [(7, .long (1 : Int64)), (5, .long x25), (2, .int a1), (3, .int a2), (4, .int a3)]) hx hb dX5_moths_98 hl (by decide) rfl (fun ls hl => ?_)
                refine lv_iconst (v := (0 : Int32)) hx hb dX5_moths_100 (by decide) ?_
                refine lv_istore (lv' := [(9, .int (0 : Int32)), (7, .long (1 : Int64)), (5, .long x25), (2, .int a1), (3, .int a2), (4, .int a3)]) hx hb dX5_moths_101 hl (by decide) rfl (fun ls hl => ?_)
                obtain ⟨x26, e26, hf⟩ := cd_bind_some hf
                have K26 : ∀ (t26 : Int64 × Int64), t26 = x26 → ∀ (ls : Array Slot) (H : Heap) (locs : List Loc), lv_has ls 10 [(4, .int a3), (5, .long t26.1), (7, .long t26.2)] → cd_WS G A s.heap H locs ((pc_top cZ h ht h1 h2 hp hy hv hz K) ++ (pc_town cI ht T)) → W p l e rm_X5_moths s m ag below meth c H locs 0 0 Q (F0 m 133 ls []) := by
                  intro t26 hs_26
                  subst hs_26
                  intro ls H locs hl hw
                  refine lv_lload hx hb dX5_moths_133 (lv_at hl 1 rfl) ?_
                  refine lv_lload hx hb dX5_moths_135 (lv_at hl 2 rfl) ?_
                  refine lv_iload hx hb dX5_moths_137 (lv_at hl 0 rfl) ?_
                  obtain ⟨r28, e28, hf⟩ := cd_bind_some hf
                  refine cd_callS (As := [.long t26.1, .long t26.2, .int a3]) (rest := []) C0 hw (c_X5_partOf l G cI cZ sa sb t26.1 t26.2 a3 r28 e28) [] rfl rfl (va_cwS 3 hts gX5_moths_X5_partOf rfl rfl rfl (by decide +kernel) ⟨Nat.le_of_ble_eq_true rfl, Nat.le_of_ble_eq_true rfl⟩) rfl hl.1 (lv_room (Nat.le_of_ble_eq_true rfl)) dX5_moths_139 (fun H locs hw => ?_)
                  have z : some r28 = some o := hf
                  cases z
                  rw [hQ]
                  exact cd_retl C0 hw dX5_moths_142
                refine cd_iter_ind (body := (f_X5_moths_b103_26 a1 a2)) (K := fun r => r = x26) (P := fun (z26 : Int64 × Int64 × Int32) => ∀ (ls : Array Slot) (H : Heap) (locs : List Loc), lv_has ls 10 [(2, .int a1), (3, .int a2), (4, .int a3), (5, .long z26.1), (7, .long z26.2.1), (9, .int z26.2.2)] → cd_WS G A s.heap H locs ((pc_top cZ h ht h1 h2 hp hy hv hz K) ++ (pc_town cI ht T)) → W p l e rm_X5_moths s m ag below meth c H locs 0 0 Q (F0 m 103 ls [])) ?_ cd_N (x25, (1 : Int64), (0 : Int32)) x26 e26 rfl _ _ _ (lv_sub hl [3, 4, 5, 2, 1, 0] rfl) hw
                intro z26 o26 hb26 hk26 ls H locs hl hw
                unfold f_X5_moths_b103_26 at hb26
                refine lv_iload hx hb dX5_moths_103 (lv_at hl 5 rfl) ?_
                refine lv_iload_n hx hb dX5_moths_105 rfl (lv_at hl 1 rfl) ?_
                refine lv_icmp_ge (tgt := 133) hx hb dX5_moths_106 (by decide) (fun c27 => ?_) (fun c27 => ?_)
                · have hb26 := cd_ite_t c27 hb26
                  have z : some (Sum.inl (z26.1, z26.2.1)) = some o26 := hb26
                  cases z
                  exact K26 _ hk26 _ _ _ (lv_sub hl [2, 3, 4] rfl) hw
                · have hb26 := cd_ite_f c27 hb26
                  refine lv_lload hx hb dX5_moths_109 (lv_at hl 3 rfl) ?_
                  refine lv_bipush (v := (10 : Int32)) hx hb dX5_moths_111 (by decide) ?_
                  refine lv_iload_n hx hb dX5_moths_113 rfl (lv_at hl 0 rfl) ?_
                  refine lv_isub hx hb dX5_moths_114 ?_
                  refine lv_i2l hx hb dX5_moths_115 rfl ?_
                  refine lv_lmul hx hb dX5_moths_116 ?_
                  refine lv_lstore (lv' := [(5, .long (z26.1 * (((10 : Int32) - a1).toInt64))), (2, .int a1), (3, .int a2), (4, .int a3), (7, .long z26.2.1), (9, .int z26.2.2)]) hx hb dX5_moths_117 hl (by decide) rfl (fun ls hl => ?_)
                  refine lv_lload hx hb dX5_moths_119 (lv_at hl 4 rfl) ?_
                  refine lv_ldc2 (v := (10 : Int64)) hx hb hown hL2 dX5_moths_121 ?_
                  refine lv_lmul hx hb dX5_moths_124 ?_
                  refine lv_lstore (lv' := [(7, .long (z26.2.1 * (10 : Int64))), (5, .long (z26.1 * (((10 : Int32) - a1).toInt64))), (2, .int a1), (3, .int a2), (4, .int a3), (9, .int z26.2.2)]) hx hb dX5_moths_125 hl (by decide) rfl (fun ls hl => ?_)
                  refine lv_iinc (v := (z26.2.2 + (1 : Int32))) (lv' := [(9, .int (z26.2.2 + (1 : Int32))), (7, .long (z26.2.1 * (10 : Int64))), (5, .long (z26.1 * (((10 : Int32) - a1).toInt64))), (2, .int a1), (3, .int a2), (4, .int a3)]) hx hb dX5_moths_127 hl (k := 5) rfl rfl (by decide) rfl (fun ls hl => ?_)
                  refine lv_goto (tgt := 103) hx hb dX5_moths_130 (by decide) ?_
                  have z : some (Sum.inr ((z26.1 * (((10 : Int32) - a1).toInt64)), (z26.2.1 * (10 : Int64)), (z26.2.2 + (1 : Int32)))) = some o26 := hb26
                  cases z
                  exact hk26 _ _ _ (lv_sub hl [3, 4, 5, 2, 1, 0] rfl) hw
              refine lv_icmp_ne (tgt := 78) hx hb dX5_moths_63 (by decide) (fun c25 => ?_) (fun c25 => ?_)
              · have e25 := cd_ite_f c25 e25
                refine lv_aload_n hx hb dX5_moths_78 rfl (lv_at hl 0 rfl) ?_
                refine va_get (D := G) (ci := 5) (v := .ref (ht 0)) (C := RX5) (T := TX5) (N := 8) hx hb hts nw_X5_moths_X5 hown hK hw.1 0 rfl rfl 0 (by decide) hL1 (fun _ h9 => h9) rfl dX5_moths_79 ?_
                refine lv_iload_n hx hb dX5_moths_82 rfl (lv_at hl 1 rfl) ?_
                refine lv_iload_n hx hb dX5_moths_83 rfl (lv_at hl 3 rfl) ?_
                obtain ⟨r30, e30, e25⟩ := cd_bind_some e25
                refine cd_callV (As := [.int a0, .int a2]) (rest := []) C0 hw (c_X3_outlasts l G cI cZ sa sb ht T a0 a2 r30 e30) [2, 3, 4, 5, 6, 7, 8, 9, 10, 11, 12] rfl rfl 0 3 rfl rfl rfl (cwV 2 hts gX5_moths_X3_outlasts rfl rfl rfl (by decide +kernel) ⟨Nat.le_of_ble_eq_true rfl, Nat.le_of_ble_eq_true rfl⟩) rfl hl.1 (lv_room (Nat.le_of_ble_eq_true rfl)) dX5_moths_84 (fun H locs hw => ?_)
                refine lv_if_eq (tgt := 94) hx hb dX5_moths_87 (by decide) (fun c31 => ?_) (fun c31 => ?_)
                · have e25 := cd_ite_t c31 e25
                  refine lv_lconst (v := 0) hx hb dX5_moths_94 (by decide) ?_
                  have z : some (0 : Int64) = some x25 := e25
                  cases z
                  exact K25 _ _ _ (lv_sub hl [2, 3, 4] rfl) hw
                · have e25 := cd_ite_f c31 e25
                  refine lv_lconst (v := 1) hx hb dX5_moths_90 (by decide) ?_
                  refine lv_goto (tgt := 95) hx hb dX5_moths_91 (by decide) ?_
                  have z : some (1 : Int64) = some x25 := e25
                  cases z
                  exact K25 _ _ _ (lv_sub hl [2, 3, 4] rfl) hw
              · have e25 := cd_ite_t c25 e25
                refine lv_aload_n hx hb dX5_moths_66 rfl (lv_at hl 0 rfl) ?_
                refine va_get (D := G) (ci := 5) (v := .ref (ht 0)) (C := RX5) (T := TX5) (N := 8) hx hb hts nw_X5_moths_X5 hown hK hw.1 0 rfl rfl 0 (by decide) hL1 (fun _ h9 => h9) rfl dX5_moths_67 ?_
                refine lv_iload_n hx hb dX5_moths_70 rfl (lv_at hl 3 rfl) ?_
                obtain ⟨r29, e29, e25⟩ := cd_bind_some e25
                refine cd_callV (As := [.int a2]) (rest := []) C0 hw (c_X3_howManyOutlast l G cI cZ sa sb ht T a2 r29 e29) [2, 3, 4, 5, 6, 7, 8, 9, 10, 11, 12] rfl rfl 0 3 rfl rfl rfl (cwV 1 hts gX5_moths_X3_howManyOutlast rfl rfl rfl (by decide +kernel) ⟨Nat.le_of_ble_eq_true rfl, Nat.le_of_ble_eq_true rfl⟩) rfl hl.1 (lv_room (Nat.le_of_ble_eq_true rfl)) dX5_moths_71 (fun H locs hw => ?_)
                refine lv_i2l hx hb dX5_moths_74 rfl ?_
                refine lv_goto (tgt := 95) hx hb dX5_moths_75 (by decide) ?_
                have z : some (r29.toInt64) = some x25 := e25
                cases z
                exact K25 _ _ _ (lv_sub hl [2, 3, 4] rfl) hw
            · have hf := cd_ite_t c24 hf
              refine lv_ldc2 (v := (-1000000000000000002 : Int64)) hx hb hown hL0 dX5_moths_57 ?_
              have z : some (-1000000000000000002 : Int64) = some o := hf
              cases z
              rw [hQ]
              exact cd_retl C0 hw dX5_moths_60
      · have hf := cd_ite_t c18 hf
        refine lv_ldc2 (v := (-1000000000000000001 : Int64)) hx hb hown hL3 dX5_moths_23 ?_
        have z : some (-1000000000000000001 : Int64) = some o := hf
        cases z
        rw [hQ]
        exact cd_retl C0 hw dX5_moths_26
abbrev rm_X5_net : Room := { frames := 2, cells := 0, slots := 0, locals := 42 }
theorem nw_X5_net_X3 : ∀ w ∈ u_ws RX3 TX3 14, w ∈ wsX5_net := by decide +kernel
theorem nw_X5_net_X5 : ∀ w ∈ u_ws RX5 TX5 8, w ∈ wsX5_net := by decide +kernel
set_option maxHeartbeats 4000000 in
set_option maxRecDepth 100000 in
theorem c_X5_net (l : Launch) (G : va_G) (cI cZ : ClassId) (sa sb : Nat) (h ht h1 h2 hp hy hs hv hz : Nat → Nat) (K T : Nat → Nat → Int32) (a0 : Int32) (o : Int32) (hf : f_X5_net a0 K T = some o) : cd_Ct l G cI cZ sa sb yX5_net wsX5_net rm_X5_net [.ref (h 0), .int a0] ((pc_top cZ h ht h1 h2 hp hy hv hz K) ++ (pc_town cI ht T)) ((pc_top cZ h ht h1 h2 hp hy hv hz K) ++ (pc_town cI ht T)) (some (.int o)) := by
  refine cd_of (cc := cX5_net) (maxL := 4) (ret := (some .int)) (by decide) rfl (Nat.le_of_ble_eq_true rfl) ?_
  intro p e s m ag below meth c A ls Q C0 hl hw hQ
  have C0 : cd_CX G cI cZ sa sb p s m ag meth c cX5_net 4 (some .int) wsX5_net RX5 A := C0
  obtain ⟨⟨hx, hb, hml, hown, hts⟩, hr, hlocks, hA, hE⟩ := id C0
  have hK := hE.1
  have hL0 := hts (.constant RX5 154 (100000)) (by decide +kernel)
  have hL1 := hts (.fieldLink RX5 12 "CandleDebts" "town" "LCandleDebts$Town;") (by decide +kernel)
  have hL2 := hts (.fieldLink RX5 151 "CandleDebts$Town" "creditors" "[I") (by decide +kernel)
  have hL3 := hts (.fieldLink RX5 117 "CandleDebts$Town" "sums" "[I") (by decide +kernel)
  have hL4 := hts (.fieldLink RX5 155 "CandleDebts$Town" "debtors" "[I") (by decide +kernel)
  have hl : lv_has ls 4 [(0, .ref (h 0)), (1, .int a0)] := hl
  unfold f_X5_net at hf
  refine lv_iload_n hx hb dX5_net_0 rfl (lv_at hl 1 rfl) ?_
  obtain ⟨r1, e1, hf⟩ := cd_bind_some hf
  refine cd_callS (As := [.int a0]) (rest := []) C0 hw (c_X5_isOne l G cI cZ sa sb a0 r1 e1) [] rfl rfl (va_cwS 1 hts gX5_net_X5_isOne rfl rfl rfl (by decide +kernel) ⟨Nat.le_of_ble_eq_true rfl, Nat.le_of_ble_eq_true rfl⟩) rfl hl.1 (lv_room (Nat.le_of_ble_eq_true rfl)) dX5_net_1 (fun H locs hw => ?_)
  refine lv_if_ne (tgt := 9) hx hb dX5_net_4 (by decide) (fun c2 => ?_) (fun c2 => ?_)
  · have hf := cd_ite_f c2 hf
    refine lv_ldc (v := (100000 : Int32)) hx hb hown hL0 dX5_net_9 ?_
    refine lv_istore_n (lv' := [(2, .int (100000 : Int32)), (0, .ref (h 0)), (1, .int a0)]) hx hb dX5_net_11 rfl hl (by decide) rfl (fun ls hl => ?_)
    refine lv_iconst (v := (0 : Int32)) hx hb dX5_net_12 (by decide) ?_
    refine lv_istore_n (lv' := [(3, .int (0 : Int32)), (2, .int (100000 : Int32)), (0, .ref (h 0)), (1, .int a0)]) hx hb dX5_net_13 rfl hl (by decide) rfl (fun ls hl => ?_)
    obtain ⟨x3, e3, hf⟩ := cd_bind_some hf
    have K3 : ∀ (t3 : Int32), t3 = x3 → ∀ (ls : Array Slot) (H : Heap) (locs : List Loc), lv_has ls 4 [(2, .int t3)] → cd_WS G A s.heap H locs ((pc_top cZ h ht h1 h2 hp hy hv hz K) ++ (pc_town cI ht T)) → W p l e rm_X5_net s m ag below meth c H locs 0 0 Q (F0 m 98 ls []) := by
      intro t3 hs_3
      subst hs_3
      intro ls H locs hl hw
      refine lv_iload_n hx hb dX5_net_98 rfl (lv_at hl 0 rfl) ?_
      have z : some t3 = some o := hf
      cases z
      rw [hQ]
      exact cd_reti C0 hw dX5_net_99
    refine cd_iter_ind (body := (f_X5_net_b14 a0 T)) (K := fun r => r = x3) (P := fun (z3 : Int32 × Int32) => ∀ (ls : Array Slot) (H : Heap) (locs : List Loc), lv_has ls 4 [(0, .ref (h 0)), (1, .int a0), (2, .int z3.1), (3, .int z3.2)] → cd_WS G A s.heap H locs ((pc_top cZ h ht h1 h2 hp hy hv hz K) ++ (pc_town cI ht T)) → W p l e rm_X5_net s m ag below meth c H locs 0 0 Q (F0 m 14 ls [])) ?_ cd_N ((100000 : Int32), (0 : Int32)) x3 e3 rfl _ _ _ (lv_sub hl [2, 3, 1, 0] rfl) hw
    intro z3 o3 hb3 hk3 ls H locs hl hw
    unfold f_X5_net_b14 at hb3
    refine lv_iload_n hx hb dX5_net_14 rfl (lv_at hl 3 rfl) ?_
    refine lv_bipush (v := (12 : Int32)) hx hb dX5_net_15 (by decide) ?_
    refine lv_icmp_ge (tgt := 98) hx hb dX5_net_17 (by decide) (fun c4 => ?_) (fun c4 => ?_)
    · have hb3 := cd_ite_t c4 hb3
      have z : some (Sum.inl z3.1) = some o3 := hb3
      cases z
      exact K3 _ hk3 _ _ _ (lv_sub hl [2] rfl) hw
    · have hb3 := cd_ite_f c4 hb3
      refine lv_aload_n hx hb dX5_net_20 rfl (lv_at hl 0 rfl) ?_
      refine va_get (D := G) (ci := 5) (v := .ref (ht 0)) (C := RX5) (T := TX5) (N := 8) hx hb hts nw_X5_net_X5 hown hK hw.1 0 rfl rfl 0 (by decide) hL1 (fun _ h9 => h9) rfl dX5_net_21 ?_
      refine lv_iload_n hx hb dX5_net_24 rfl (lv_at hl 3 rfl) ?_
      obtain ⟨r5, e5, hb3⟩ := cd_bind_some hb3
      refine cd_callV (As := [.int z3.2]) (rest := []) C0 hw (c_X3_isLit l G cI cZ sa sb ht T z3.2 r5 e5) [2, 3, 4, 5, 6, 7, 8, 9, 10, 11, 12] rfl rfl 0 3 rfl rfl rfl (cwV 1 hts gX5_net_X3_isLit rfl rfl rfl (by decide +kernel) ⟨Nat.le_of_ble_eq_true rfl, Nat.le_of_ble_eq_true rfl⟩) rfl hl.1 (lv_room (Nat.le_of_ble_eq_true rfl)) dX5_net_25 (fun H locs hw => ?_)
      obtain ⟨x6, e6, hb3⟩ := cd_bind_some hb3
      have K6 : ∀ (ls : Array Slot) (H : Heap) (locs : List Loc), lv_has ls 4 [(0, .ref (h 0)), (1, .int a0), (2, .int x6), (3, .int z3.2)] → cd_WS G A s.heap H locs ((pc_top cZ h ht h1 h2 hp hy hv hz K) ++ (pc_town cI ht T)) → W p l e rm_X5_net s m ag below meth c H locs 0 0 Q (F0 m 56 ls []) := by
        intro ls H locs hl hw
        refine lv_aload_n hx hb dX5_net_56 rfl (lv_at hl 0 rfl) ?_
        refine va_get (D := G) (ci := 5) (v := .ref (ht 0)) (C := RX5) (T := TX5) (N := 8) hx hb hts nw_X5_net_X5 hown hK hw.1 0 rfl rfl 0 (by decide) hL1 (fun _ h9 => h9) rfl dX5_net_57 ?_
        refine lv_iload_n hx hb dX5_net_60 rfl (lv_at hl 3 rfl) ?_
        obtain ⟨r7, e7, hb3⟩ := cd_bind_some hb3
        refine cd_callV (As := [.int z3.2]) (rest := []) C0 hw (c_X3_isLit l G cI cZ sa sb ht T z3.2 r7 e7) [2, 3, 4, 5, 6, 7, 8, 9, 10, 11, 12] rfl rfl 0 3 rfl rfl rfl (cwV 1 hts gX5_net_X3_isLit rfl rfl rfl (by decide +kernel) ⟨Nat.le_of_ble_eq_true rfl, Nat.le_of_ble_eq_true rfl⟩) rfl hl.1 (lv_room (Nat.le_of_ble_eq_true rfl)) dX5_net_61 (fun H locs hw => ?_)
        refine lv_if_eq (tgt := 92) hx hb dX5_net_64 (by decide) (fun c8 => ?_) (fun c8 => ?_)
        · have hb3 := cd_ite_t c8 hb3
          refine lv_iinc (v := (z3.2 + (1 : Int32))) (lv' := [(3, .int (z3.2 + (1 : Int32))), (0, .ref (h 0)), (1, .int a0), (2, .int x6)]) hx hb dX5_net_92 hl (k := 3) rfl rfl (by decide) rfl (fun ls hl => ?_)
          refine lv_goto (tgt := 14) hx hb dX5_net_95 (by decide) ?_
          have z : some (Sum.inr (x6, (z3.2 + (1 : Int32)))) = some o3 := hb3
          cases z
          exact hk3 _ _ _ (lv_sub hl [1, 2, 3, 0] rfl) hw
        · have hb3 := cd_ite_f c8 hb3
          refine lv_aload_n hx hb dX5_net_67 rfl (lv_at hl 0 rfl) ?_
          refine va_get (D := G) (ci := 5) (v := .ref (ht 0)) (C := RX5) (T := TX5) (N := 8) hx hb hts nw_X5_net_X5 hown hK hw.1 0 rfl rfl 0 (by decide) hL1 (fun _ h9 => h9) rfl dX5_net_68 ?_
          refine va_get (D := G) (ci := 3) (v := .ref (ht 5)) (C := RX3) (T := TX3) (N := 14) hx hb hts nw_X5_net_X3 hown hK hw.1 2 rfl rfl 4 (by decide) hL4 (fun _ h9 => h9) rfl dX5_net_71 ?_
          refine lv_iload_n hx hb dX5_net_74 rfl (lv_at hl 3 rfl) ?_
          obtain ⟨v9, e9, hb3⟩ := cd_bind_some hb3
          refine cd_iald hx hb hK hw 7 rfl e9 dX5_net_75 ?_
          refine lv_iload_n hx hb dX5_net_76 rfl (lv_at hl 1 rfl) ?_
          refine lv_icmp_ne (tgt := 92) hx hb dX5_net_77 (by decide) (fun c10 => ?_) (fun c10 => ?_)
          · have hb3 := cd_ite_f c10 hb3
            refine lv_iinc (v := (z3.2 + (1 : Int32))) (lv' := [(3, .int (z3.2 + (1 : Int32))), (0, .ref (h 0)), (1, .int a0), (2, .int x6)]) hx hb dX5_net_92 hl (k := 3) rfl rfl (by decide) rfl (fun ls hl => ?_)
            refine lv_goto (tgt := 14) hx hb dX5_net_95 (by decide) ?_
            have z : some (Sum.inr (x6, (z3.2 + (1 : Int32)))) = some o3 := hb3
            cases z
            exact hk3 _ _ _ (lv_sub hl [1, 2, 3, 0] rfl) hw
          · have hb3 := cd_ite_t c10 hb3
            refine lv_iload_n hx hb dX5_net_80 rfl (lv_at hl 2 rfl) ?_
            refine lv_aload_n hx hb dX5_net_81 rfl (lv_at hl 0 rfl) ?_
            refine va_get (D := G) (ci := 5) (v := .ref (ht 0)) (C := RX5) (T := TX5) (N := 8) hx hb hts nw_X5_net_X5 hown hK hw.1 0 rfl rfl 0 (by decide) hL1 (fun _ h9 => h9) rfl dX5_net_82 ?_
            refine va_get (D := G) (ci := 3) (v := .ref (ht 6)) (C := RX3) (T := TX3) (N := 14) hx hb hts nw_X5_net_X3 hown hK hw.1 2 rfl rfl 5 (by decide) hL3 (fun _ h9 => h9) rfl dX5_net_85 ?_
            refine lv_iload_n hx hb dX5_net_88 rfl (lv_at hl 3 rfl) ?_
            obtain ⟨v11, e11, hb3⟩ := cd_bind_some hb3
            refine cd_iald hx hb hK hw 8 rfl e11 dX5_net_89 ?_
            refine lv_isub hx hb dX5_net_90 ?_
            refine lv_istore_n (lv' := [(2, .int (x6 - v11)), (0, .ref (h 0)), (1, .int a0), (3, .int z3.2)]) hx hb dX5_net_91 rfl hl (by decide) rfl (fun ls hl => ?_)
            refine lv_iinc (v := (z3.2 + (1 : Int32))) (lv' := [(3, .int (z3.2 + (1 : Int32))), (2, .int (x6 - v11)), (0, .ref (h 0)), (1, .int a0)]) hx hb dX5_net_92 hl (k := 3) rfl rfl (by decide) rfl (fun ls hl => ?_)
            refine lv_goto (tgt := 14) hx hb dX5_net_95 (by decide) ?_
            have z : some (Sum.inr ((x6 - v11), (z3.2 + (1 : Int32)))) = some o3 := hb3
            cases z
            exact hk3 _ _ _ (lv_sub hl [2, 3, 1, 0] rfl) hw
      refine lv_if_eq (tgt := 56) hx hb dX5_net_28 (by decide) (fun c6 => ?_) (fun c6 => ?_)
      · have e6 := cd_ite_t c6 e6
        have z : some z3.1 = some x6 := e6
        cases z
        exact K6 _ _ _ (lv_sub hl [0, 1, 2, 3] rfl) hw
      · have e6 := cd_ite_f c6 e6
        refine lv_aload_n hx hb dX5_net_31 rfl (lv_at hl 0 rfl) ?_
        refine va_get (D := G) (ci := 5) (v := .ref (ht 0)) (C := RX5) (T := TX5) (N := 8) hx hb hts nw_X5_net_X5 hown hK hw.1 0 rfl rfl 0 (by decide) hL1 (fun _ h9 => h9) rfl dX5_net_32 ?_
        refine va_get (D := G) (ci := 3) (v := .ref (ht 4)) (C := RX3) (T := TX3) (N := 14) hx hb hts nw_X5_net_X3 hown hK hw.1 2 rfl rfl 3 (by decide) hL2 (fun _ h9 => h9) rfl dX5_net_35 ?_
        refine lv_iload_n hx hb dX5_net_38 rfl (lv_at hl 3 rfl) ?_
        obtain ⟨v12, e12, e6⟩ := cd_bind_some e6
        refine cd_iald hx hb hK hw 6 rfl e12 dX5_net_39 ?_
        refine lv_iload_n hx hb dX5_net_40 rfl (lv_at hl 1 rfl) ?_
        refine lv_icmp_ne (tgt := 56) hx hb dX5_net_41 (by decide) (fun c13 => ?_) (fun c13 => ?_)
        · have e6 := cd_ite_f c13 e6
          have z : some z3.1 = some x6 := e6
          cases z
          exact K6 _ _ _ (lv_sub hl [0, 1, 2, 3] rfl) hw
        · have e6 := cd_ite_t c13 e6
          refine lv_iload_n hx hb dX5_net_44 rfl (lv_at hl 2 rfl) ?_
          refine lv_aload_n hx hb dX5_net_45 rfl (lv_at hl 0 rfl) ?_
          refine va_get (D := G) (ci := 5) (v := .ref (ht 0)) (C := RX5) (T := TX5) (N := 8) hx hb hts nw_X5_net_X5 hown hK hw.1 0 rfl rfl 0 (by decide) hL1 (fun _ h9 => h9) rfl dX5_net_46 ?_
          refine va_get (D := G) (ci := 3) (v := .ref (ht 6)) (C := RX3) (T := TX3) (N := 14) hx hb hts nw_X5_net_X3 hown hK hw.1 2 rfl rfl 5 (by decide) hL3 (fun _ h9 => h9) rfl dX5_net_49 ?_
          refine lv_iload_n hx hb dX5_net_52 rfl (lv_at hl 3 rfl) ?_
          obtain ⟨v14, e14, e6⟩ := cd_bind_some e6
          refine cd_iald hx hb hK hw 8 rfl e14 dX5_net_53 ?_
          refine lv_iadd hx hb dX5_net_54 ?_
          refine lv_istore_n (lv' := [(2, .int (z3.1 + v14)), (0, .ref (h 0)), (1, .int a0), (3, .int z3.2)]) hx hb dX5_net_55 rfl hl (by decide) rfl (fun ls hl => ?_)
          have z : some (z3.1 + v14) = some x6 := e6
          cases z
          exact K6 _ _ _ (lv_sub hl [1, 2, 0, 3] rfl) hw
  · have hf := cd_ite_t c2 hf
    refine lv_iconst (v := (-1 : Int32)) hx hb dX5_net_7 (by decide) ?_
    have z : some (-1 : Int32) = some o := hf
    cases z
    rw [hQ]
    exact cd_reti C0 hw dX5_net_8
abbrev rm_X5_purse : Room := { frames := 2, cells := 0, slots := 0, locals := 42 }
theorem nw_X5_purse_X3 : ∀ w ∈ u_ws RX3 TX3 14, w ∈ wsX5_purse := by decide +kernel
theorem nw_X5_purse_X5 : ∀ w ∈ u_ws RX5 TX5 8, w ∈ wsX5_purse := by decide +kernel
set_option maxHeartbeats 4000000 in
set_option maxRecDepth 100000 in
theorem c_X5_purse (l : Launch) (G : va_G) (cI cZ : ClassId) (sa sb : Nat) (h ht h1 h2 hp hy hs hv hz : Nat → Nat) (K T : Nat → Nat → Int32) (a0 : Int32) (a1 : Int32) (o : Int32 × (Nat → Nat → Int32)) (hf : f_X5_purse a0 a1 K T = some o) : cd_Ct l G cI cZ sa sb yX5_purse wsX5_purse rm_X5_purse [.ref (h 0), .int a0, .int a1] ((pc_top cZ h ht h1 h2 hp hy hv hz K) ++ (pc_town cI ht T)) ((pc_top cZ h ht h1 h2 hp hy hv hz K) ++ (pc_town cI ht o.2)) (some (.int o.1)) := by
  refine cd_of (cc := cX5_purse) (maxL := 4) (ret := (some .int)) (by decide) rfl (Nat.le_of_ble_eq_true rfl) ?_
  intro p e s m ag below meth c A ls Q C0 hl hw hQ
  have C0 : cd_CX G cI cZ sa sb p s m ag meth c cX5_purse 4 (some .int) wsX5_purse RX5 A := C0
  obtain ⟨⟨hx, hb, hml, hown, hts⟩, hr, hlocks, hA, hE⟩ := id C0
  have hK := hE.1
  have hL0 := hts (.fieldLink RX5 12 "CandleDebts" "town" "LCandleDebts$Town;") (by decide +kernel)
  have hL1 := hts (.fieldLink RX5 76 "CandleDebts$Town" "purses" "[I") (by decide +kernel)
  have hl : lv_has ls 4 [(0, .ref (h 0)), (1, .int a0), (2, .int a1)] := hl
  unfold f_X5_purse at hf
  refine lv_iload_n hx hb dX5_purse_0 rfl (lv_at hl 1 rfl) ?_
  obtain ⟨r1, e1, hf⟩ := cd_bind_some hf
  refine cd_callS (As := [.int a0]) (rest := []) C0 hw (c_X5_isOne l G cI cZ sa sb a0 r1 e1) [] rfl rfl (va_cwS 1 hts gX5_purse_X5_isOne rfl rfl rfl (by decide +kernel) ⟨Nat.le_of_ble_eq_true rfl, Nat.le_of_ble_eq_true rfl⟩) rfl hl.1 (lv_room (Nat.le_of_ble_eq_true rfl)) dX5_purse_1 (fun H locs hw => ?_)
  refine lv_if_ne (tgt := 9) hx hb dX5_purse_4 (by decide) (fun c2 => ?_) (fun c2 => ?_)
  · have hf := cd_ite_f c2 hf
    refine lv_iload_n hx hb dX5_purse_9 rfl (lv_at hl 2 rfl) ?_
    refine lv_iconst (v := (0 : Int32)) hx hb dX5_purse_10 (by decide) ?_
    refine lv_sipush (v := (9999 : Int32)) hx hb dX5_purse_11 (by decide) ?_
    obtain ⟨r3, e3, hf⟩ := cd_bind_some hf
    refine cd_callS (As := [.int a1, .int (0 : Int32), .int (9999 : Int32)]) (rest := []) C0 hw (c_X5_within l G cI cZ sa sb a1 (0 : Int32) (9999 : Int32) r3 e3) [] rfl rfl (va_cwS 3 hts gX5_purse_X5_within rfl rfl rfl (by decide +kernel) ⟨Nat.le_of_ble_eq_true rfl, Nat.le_of_ble_eq_true rfl⟩) rfl hl.1 (lv_room (Nat.le_of_ble_eq_true rfl)) dX5_purse_14 (fun H locs hw => ?_)
    refine lv_if_ne (tgt := 23) hx hb dX5_purse_17 (by decide) (fun c4 => ?_) (fun c4 => ?_)
    · have hf := cd_ite_f c4 hf
      refine lv_aload_n hx hb dX5_purse_23 rfl (lv_at hl 0 rfl) ?_
      refine va_get (D := G) (ci := 5) (v := .ref (ht 0)) (C := RX5) (T := TX5) (N := 8) hx hb hts nw_X5_purse_X5 hown hK hw.1 0 rfl rfl 0 (by decide) hL0 (fun _ h9 => h9) rfl dX5_purse_24 ?_
      refine va_get (D := G) (ci := 3) (v := .ref (ht 8)) (C := RX3) (T := TX3) (N := 14) hx hb hts nw_X5_purse_X3 hown hK hw.1 2 rfl rfl 7 (by decide) hL1 (fun _ h9 => h9) rfl dX5_purse_27 ?_
      refine lv_iload_n hx hb dX5_purse_30 rfl (lv_at hl 1 rfl) ?_
      obtain ⟨v5, e5, hf⟩ := cd_bind_some hf
      refine cd_iald hx hb hK hw 10 rfl e5 dX5_purse_31 ?_
      refine lv_istore_n (lv' := [(3, .int v5), (0, .ref (h 0)), (1, .int a0), (2, .int a1)]) hx hb dX5_purse_32 rfl hl (by decide) rfl (fun ls hl => ?_)
      refine lv_aload_n hx hb dX5_purse_33 rfl (lv_at hl 1 rfl) ?_
      refine va_get (D := G) (ci := 5) (v := .ref (ht 0)) (C := RX5) (T := TX5) (N := 8) hx hb hts nw_X5_purse_X5 hown hK hw.1 0 rfl rfl 0 (by decide) hL0 (fun _ h9 => h9) rfl dX5_purse_34 ?_
      refine va_get (D := G) (ci := 3) (v := .ref (ht 8)) (C := RX3) (T := TX3) (N := 14) hx hb hts nw_X5_purse_X3 hown hK hw.1 2 rfl rfl 7 (by decide) hL1 (fun _ h9 => h9) rfl dX5_purse_37 ?_
      refine lv_iload_n hx hb dX5_purse_40 rfl (lv_at hl 2 rfl) ?_
      refine lv_iload_n hx hb dX5_purse_41 rfl (lv_at hl 3 rfl) ?_
      obtain ⟨j6, e6, hf⟩ := cd_bind_some hf
      refine cd_iast (f := T 7) hx hb hK hw 10 rfl e6 dX5_purse_42 (fun H locs hw => ?_)
      have hw : cd_WS G A s.heap H locs ((pc_top cZ h ht h1 h2 hp hy hv hz K) ++ (pc_town cI ht (cd_set T 7 j6 a1))) := (show ∀ (s9 : Nat → Nat → Int32) (y9 : Int32), cd_WS G A s.heap H locs (((pc_top cZ h ht h1 h2 hp hy hv hz K) ++ (pc_town cI ht s9)).set 10 (ht 8, .inl (cI, 6, .inl (upd (s9 7) j6 y9)))) → cd_WS G A s.heap H locs ((pc_top cZ h ht h1 h2 hp hy hv hz K) ++ (pc_town cI ht (cd_set s9 7 j6 y9))) from fun _ _ hh => hh) T a1 hw
      refine lv_iload_n hx hb dX5_purse_43 rfl (lv_at hl 0 rfl) ?_
      have z : some (v5, (cd_set T 7 j6 a1)) = some o := hf
      cases z
      rw [hQ]
      exact cd_reti C0 hw dX5_purse_44
    · have hf := cd_ite_t c4 hf
      refine lv_bipush (v := (-2 : Int32)) hx hb dX5_purse_20 (by decide) ?_
      have z : some ((-2 : Int32), T) = some o := hf
      cases z
      rw [hQ]
      exact cd_reti C0 hw dX5_purse_22
  · have hf := cd_ite_t c2 hf
    refine lv_iconst (v := (-1 : Int32)) hx hb dX5_purse_7 (by decide) ?_
    have z : some ((-1 : Int32), T) = some o := hf
    cases z
    rw [hQ]
    exact cd_reti C0 hw dX5_purse_8
abbrev rm_X5_restore : Room := { frames := 2, cells := 0, slots := 0, locals := 39 }
theorem nw_X5_restore_X5 : ∀ w ∈ u_ws RX5 TX5 8, w ∈ wsX5_restore := by decide +kernel
set_option maxHeartbeats 4000000 in
set_option maxRecDepth 100000 in
theorem c_X5_restore (l : Launch) (G : va_G) (cI cZ : ClassId) (sa sb : Nat) (h ht h1 h2 hp hy hs hv hz : Nat → Nat) (K T T1 T2 : Nat → Nat → Int32) (a0 : Int32) (o : Int32 × (Nat → Nat → Int32)) (hf : f_X5_restore a0 K T T1 T2 = some o) : cd_Ct l G cI cZ sa sb yX5_restore wsX5_restore rm_X5_restore [.ref (h 0), .int a0] ((pc_top cZ h ht h1 h2 hp hy hv hz K) ++ (pc_town cI ht T) ++ (pc_town cI h1 T1) ++ (pc_town cI h2 T2)) ((pc_top cZ h ht h1 h2 hp hy hv hz K) ++ (pc_town cI ht o.2) ++ (pc_town cI h1 T1) ++ (pc_town cI h2 T2)) (some (.int o.1)) := by
  refine cd_of (cc := cX5_restore) (maxL := 2) (ret := (some .int)) (by decide) rfl (Nat.le_of_ble_eq_true rfl) ?_
  intro p e s m ag below meth c A ls Q C0 hl hw hQ
  have C0 : cd_CX G cI cZ sa sb p s m ag meth c cX5_restore 2 (some .int) wsX5_restore RX5 A := C0
  obtain ⟨⟨hx, hb, hml, hown, hts⟩, hr, hlocks, hA, hE⟩ := id C0
  have hK := hE.1
  have hL0 := hts (.fieldLink RX5 22 "CandleDebts" "kept" "[Z") (by decide +kernel)
  have hL1 := hts (.fieldLink RX5 12 "CandleDebts" "town" "LCandleDebts$Town;") (by decide +kernel)
  have hl : lv_has ls 2 [(0, .ref (h 0)), (1, .int a0)] := hl
  unfold f_X5_restore at hf
  refine lv_iload_n hx hb dX5_restore_0 rfl (lv_at hl 1 rfl) ?_
  refine lv_iconst (v := (0 : Int32)) hx hb dX5_restore_1 (by decide) ?_
  refine lv_iconst (v := (1 : Int32)) hx hb dX5_restore_2 (by decide) ?_
  obtain ⟨r1, e1, hf⟩ := cd_bind_some hf
  refine cd_callS (As := [.int a0, .int (0 : Int32), .int (1 : Int32)]) (rest := []) C0 hw (c_X5_within l G cI cZ sa sb a0 (0 : Int32) (1 : Int32) r1 e1) [] rfl rfl (va_cwS 3 hts gX5_restore_X5_within rfl rfl rfl (by decide +kernel) ⟨Nat.le_of_ble_eq_true rfl, Nat.le_of_ble_eq_true rfl⟩) rfl hl.1 (lv_room (Nat.le_of_ble_eq_true rfl)) dX5_restore_3 (fun H locs hw => ?_)
  refine lv_if_ne (tgt := 12) hx hb dX5_restore_6 (by decide) (fun c2 => ?_) (fun c2 => ?_)
  · have hf := cd_ite_f c2 hf
    refine lv_aload_n hx hb dX5_restore_12 rfl (lv_at hl 0 rfl) ?_
    refine va_get (D := G) (ci := 5) (v := .ref (h 1)) (C := RX5) (T := TX5) (N := 8) hx hb hts nw_X5_restore_X5 hown hK hw.1 0 rfl rfl 3 (by decide) hL0 (fun _ h9 => h9) rfl dX5_restore_13 ?_
    refine lv_iload_n hx hb dX5_restore_16 rfl (lv_at hl 1 rfl) ?_
    obtain ⟨v3, e3, hf⟩ := cd_bind_some hf
    refine cd_zald hx hb hK hw 1 rfl e3 dX5_restore_17 ?_
    refine lv_if_ne (tgt := 24) hx hb dX5_restore_18 (by decide) (fun c4 => ?_) (fun c4 => ?_)
    · have hf := cd_ite_f c4 hf
      refine lv_aload_n hx hb dX5_restore_24 rfl (lv_at hl 0 rfl) ?_
      refine va_get (D := G) (ci := 5) (v := .ref (ht 0)) (C := RX5) (T := TX5) (N := 8) hx hb hts nw_X5_restore_X5 hown hK hw.1 0 rfl rfl 0 (by decide) hL1 (fun _ h9 => h9) rfl dX5_restore_25 ?_
      refine lv_aload_n hx hb dX5_restore_28 rfl (lv_at hl 0 rfl) ?_
      refine lv_iload_n hx hb dX5_restore_29 rfl (lv_at hl 1 rfl) ?_
      by_cases c5 : a0 = 0
      · have hf := cd_ite_t c5 hf
        refine cd_callV (As := [.int a0]) (rest := [.ref (ht 0)]) C0 hw (c_X5_imageOf_0 l G cI cZ sa sb h ht h1 h2 hp hy hs hv hz K a0 c5) [0, 1] rfl rfl 0 5 rfl rfl rfl (cwV 1 hts gX5_restore_X5_imageOf rfl rfl rfl (by decide +kernel) ⟨Nat.le_of_ble_eq_true rfl, Nat.le_of_ble_eq_true rfl⟩) rfl hl.1 (lv_room (Nat.le_of_ble_eq_true rfl)) dX5_restore_30 (fun H locs hw => ?_)
        obtain ⟨r6, e6, hf⟩ := cd_bind_some hf
        refine cd_callVw (As := [.ref (h1 0)]) (rest := []) (wr := (pc_top cZ h ht h1 h2 hp hy hv hz K) ++ (pc_town cI h2 T2)) (wn := (pc_top cZ h ht h1 h2 hp hy hv hz K) ++ (pc_town cI ht r6) ++ (pc_town cI h1 T1) ++ (pc_town cI h2 T2)) C0 hw (c_X3_copyFrom l G cI cZ sa sb ht h1 T T1 r6 e6) [2, 3, 4, 5, 6, 7, 8, 9, 10, 11, 12, 13, 14, 15, 16, 17, 18, 19, 20, 21, 22, 23] [0, 1, 24, 25, 26, 27, 28, 29, 30, 31, 32, 33, 34] [0, 1, 13, 14, 15, 16, 17, 18, 19, 20, 21, 22, 23, 24, 25, 26, 27, 28, 29, 30, 31, 32, 33, 34, 2, 3, 4, 5, 6, 7, 8, 9, 10, 11, 12] rfl rfl rfl rfl (by decide) rfl rfl 0 3 rfl rfl rfl (cwV 1 hts gX5_restore_X3_copyFrom rfl rfl rfl (by decide +kernel) ⟨Nat.le_of_ble_eq_true rfl, Nat.le_of_ble_eq_true rfl⟩) rfl hl.1 (lv_room (Nat.le_of_ble_eq_true rfl)) dX5_restore_33 (fun H locs hw => ?_)
        refine lv_iconst (v := (1 : Int32)) hx hb dX5_restore_36 (by decide) ?_
        have z : some ((1 : Int32), r6) = some o := hf
        cases z
        rw [hQ]
        exact cd_reti C0 hw dX5_restore_37
      · have hf := cd_ite_f c5 hf
        refine cd_callV (As := [.int a0]) (rest := [.ref (ht 0)]) C0 hw (c_X5_imageOf_1 l G cI cZ sa sb h ht h1 h2 hp hy hs hv hz K a0 c5) [0, 1] rfl rfl 0 5 rfl rfl rfl (cwV 1 hts gX5_restore_X5_imageOf rfl rfl rfl (by decide +kernel) ⟨Nat.le_of_ble_eq_true rfl, Nat.le_of_ble_eq_true rfl⟩) rfl hl.1 (lv_room (Nat.le_of_ble_eq_true rfl)) dX5_restore_30 (fun H locs hw => ?_)
        obtain ⟨r7, e7, hf⟩ := cd_bind_some hf
        refine cd_callVw (As := [.ref (h2 0)]) (rest := []) (wr := (pc_top cZ h ht h1 h2 hp hy hv hz K) ++ (pc_town cI h1 T1)) (wn := (pc_top cZ h ht h1 h2 hp hy hv hz K) ++ (pc_town cI ht r7) ++ (pc_town cI h1 T1) ++ (pc_town cI h2 T2)) C0 hw (c_X3_copyFrom l G cI cZ sa sb ht h2 T T2 r7 e7) [2, 3, 4, 5, 6, 7, 8, 9, 10, 11, 12, 24, 25, 26, 27, 28, 29, 30, 31, 32, 33, 34] [0, 1, 13, 14, 15, 16, 17, 18, 19, 20, 21, 22, 23] [0, 1, 13, 14, 15, 16, 17, 18, 19, 20, 21, 22, 23, 2, 3, 4, 5, 6, 7, 8, 9, 10, 11, 12, 24, 25, 26, 27, 28, 29, 30, 31, 32, 33, 34] rfl rfl rfl rfl (by decide) rfl rfl 0 3 rfl rfl rfl (cwV 1 hts gX5_restore_X3_copyFrom rfl rfl rfl (by decide +kernel) ⟨Nat.le_of_ble_eq_true rfl, Nat.le_of_ble_eq_true rfl⟩) rfl hl.1 (lv_room (Nat.le_of_ble_eq_true rfl)) dX5_restore_33 (fun H locs hw => ?_)
        refine lv_iconst (v := (1 : Int32)) hx hb dX5_restore_36 (by decide) ?_
        have z : some ((1 : Int32), r7) = some o := hf
        cases z
        rw [hQ]
        exact cd_reti C0 hw dX5_restore_37
    · have hf := cd_ite_t c4 hf
      refine lv_bipush (v := (-3 : Int32)) hx hb dX5_restore_21 (by decide) ?_
      have z : some ((-3 : Int32), T) = some o := hf
      cases z
      rw [hQ]
      exact cd_reti C0 hw dX5_restore_23
  · have hf := cd_ite_t c2 hf
    refine lv_bipush (v := (-2 : Int32)) hx hb dX5_restore_9 (by decide) ?_
    have z : some ((-2 : Int32), T) = some o := hf
    cases z
    rw [hQ]
    exact cd_reti C0 hw dX5_restore_11
abbrev rm_X5_round : Room := { frames := 4, cells := 0, slots := 0, locals := 91 }
theorem nw_X5_round_X5 : ∀ w ∈ u_ws RX5 TX5 8, w ∈ wsX5_round := by decide +kernel
set_option maxHeartbeats 4000000 in
set_option maxRecDepth 100000 in
theorem c_X5_round (l : Launch) (G : va_G) (cI cZ : ClassId) (sa sb : Nat) (h ht h1 h2 hp hy hs hv hz : Nat → Nat) (K T V : Nat → Nat → Int32) (a0 : Int32) (a1 : Int32) (o : Int32 × (Nat → Nat → Int32)) (hf : f_X5_round a0 a1 K T V = some o) : cd_Ct l G cI cZ sa sb yX5_round wsX5_round rm_X5_round [.ref (h 0), .int a0, .int a1] ((pc_top cZ h ht h1 h2 hp hy hv hz K) ++ (pc_town cI ht T) ++ (pc_walk cI hv V)) ((pc_top cZ h ht h1 h2 hp hy hv hz K) ++ (pc_town cI ht T) ++ (pc_walk cI hv o.2)) (some (.int o.1)) := by
  refine cd_of (cc := cX5_round) (maxL := 6) (ret := (some .int)) (by decide) rfl (Nat.le_of_ble_eq_true rfl) ?_
  intro p e s m ag below meth c A ls Q C0 hl hw hQ
  have C0 : cd_CX G cI cZ sa sb p s m ag meth c cX5_round 6 (some .int) wsX5_round RX5 A := C0
  obtain ⟨⟨hx, hb, hml, hown, hts⟩, hr, hlocks, hA, hE⟩ := id C0
  have hK := hE.1
  have hL0 := hts (.fieldLink RX5 43 "CandleDebts" "walk" "LCandleDebts$Walk;") (by decide +kernel)
  have hL1 := hts (.fieldLink RX5 12 "CandleDebts" "town" "LCandleDebts$Town;") (by decide +kernel)
  have hL2 := hts (.methodLink RX5 166 Lib.Math.min.name) (by decide +kernel)
  have hL3 := hts (.static Lib.Math.min.name) (by decide +kernel)
  have hL4 := hts (.initialized "java/lang/Math") (by decide +kernel)
  have hL5 := hts (.code Lib.Math.min.name Lib.Math.min.code 2 (some .int)) (by decide +kernel)
  have hL6 := hts (.constant RX5 171 (1000000)) (by decide +kernel)
  have hl : lv_has ls 6 [(0, .ref (h 0)), (1, .int a0), (2, .int a1)] := hl
  unfold f_X5_round at hf
  refine lv_iload_n hx hb dX5_round_0 rfl (lv_at hl 1 rfl) ?_
  obtain ⟨r1, e1, hf⟩ := cd_bind_some hf
  refine cd_callS (As := [.int a0]) (rest := []) C0 hw (c_X5_isCandle l G cI cZ sa sb a0 r1 e1) [] rfl rfl (va_cwS 1 hts gX5_round_X5_isCandle rfl rfl rfl (by decide +kernel) ⟨Nat.le_of_ble_eq_true rfl, Nat.le_of_ble_eq_true rfl⟩) rfl hl.1 (lv_room (Nat.le_of_ble_eq_true rfl)) dX5_round_1 (fun H locs hw => ?_)
  refine lv_if_ne (tgt := 9) hx hb dX5_round_4 (by decide) (fun c2 => ?_) (fun c2 => ?_)
  · have hf := cd_ite_f c2 hf
    refine lv_iload_n hx hb dX5_round_9 rfl (lv_at hl 2 rfl) ?_
    refine lv_iconst (v := (0 : Int32)) hx hb dX5_round_10 (by decide) ?_
    refine lv_iconst (v := (1 : Int32)) hx hb dX5_round_11 (by decide) ?_
    obtain ⟨r3, e3, hf⟩ := cd_bind_some hf
    refine cd_callS (As := [.int a1, .int (0 : Int32), .int (1 : Int32)]) (rest := []) C0 hw (c_X5_within l G cI cZ sa sb a1 (0 : Int32) (1 : Int32) r3 e3) [] rfl rfl (va_cwS 3 hts gX5_round_X5_within rfl rfl rfl (by decide +kernel) ⟨Nat.le_of_ble_eq_true rfl, Nat.le_of_ble_eq_true rfl⟩) rfl hl.1 (lv_room (Nat.le_of_ble_eq_true rfl)) dX5_round_12 (fun H locs hw => ?_)
    refine lv_if_ne (tgt := 21) hx hb dX5_round_15 (by decide) (fun c4 => ?_) (fun c4 => ?_)
    · have hf := cd_ite_f c4 hf
      refine lv_aload_n hx hb dX5_round_21 rfl (lv_at hl 0 rfl) ?_
      refine va_get (D := G) (ci := 5) (v := .ref (hv 0)) (C := RX5) (T := TX5) (N := 8) hx hb hts nw_X5_round_X5 hown hK hw.1 0 rfl rfl 6 (by decide) hL0 (fun _ h9 => h9) rfl dX5_round_22 ?_
      refine lv_aload_n hx hb dX5_round_25 rfl (lv_at hl 0 rfl) ?_
      refine va_get (D := G) (ci := 5) (v := .ref (ht 0)) (C := RX5) (T := TX5) (N := 8) hx hb hts nw_X5_round_X5 hown hK hw.1 0 rfl rfl 0 (by decide) hL1 (fun _ h9 => h9) rfl dX5_round_26 ?_
      refine lv_iload_n hx hb dX5_round_29 rfl (lv_at hl 1 rfl) ?_
      obtain ⟨r5, e5, hf⟩ := cd_bind_some hf
      refine cd_callVw (As := [.ref (ht 0), .int a0]) (rest := []) (wr := (pc_top cZ h ht h1 h2 hp hy hv hz K)) (wn := (pc_top cZ h ht h1 h2 hp hy hv hz K) ++ (pc_town cI ht T) ++ (pc_walk cI hv r5.2)) C0 hw (c_X4_isNeeded l G cI cZ sa sb hv ht V T a0 r5 e5) [13, 14, 15, 16, 2, 3, 4, 5, 6, 7, 8, 9, 10, 11, 12] [0, 1] [0, 1, 6, 7, 8, 9, 10, 11, 12, 13, 14, 15, 16, 2, 3, 4, 5] rfl rfl rfl rfl (by decide) rfl rfl 0 4 rfl rfl rfl (cwV 2 hts gX5_round_X4_isNeeded rfl rfl rfl (by decide +kernel) ⟨Nat.le_of_ble_eq_true rfl, Nat.le_of_ble_eq_true rfl⟩) rfl hl.1 (lv_room (Nat.le_of_ble_eq_true rfl)) dX5_round_30 (fun H locs hw => ?_)
      refine lv_if_ne (tgt := 47) hx hb dX5_round_33 (by decide) (fun c6 => ?_) (fun c6 => ?_)
      · have hf := cd_ite_f c6 hf
        refine lv_aload_n hx hb dX5_round_47 rfl (lv_at hl 0 rfl) ?_
        refine va_get (D := G) (ci := 5) (v := .ref (hv 0)) (C := RX5) (T := TX5) (N := 8) hx hb hts nw_X5_round_X5 hown hK hw.1 0 rfl rfl 6 (by decide) hL0 (fun _ h9 => h9) rfl dX5_round_48 ?_
        refine lv_iload_n hx hb dX5_round_51 rfl (lv_at hl 1 rfl) ?_
        refine lv_iconst (v := (-1 : Int32)) hx hb dX5_round_52 (by decide) ?_
        obtain ⟨r8, e8, hf⟩ := cd_bind_some hf
        refine cd_callVw (As := [.int a0, .int (-1 : Int32)]) (rest := []) (wr := (pc_top cZ h ht h1 h2 hp hy hv hz K) ++ (pc_town cI ht T)) (wn := (pc_top cZ h ht h1 h2 hp hy hv hz K) ++ (pc_town cI ht T) ++ (pc_walk cI hv r8.2)) C0 hw (c_X4_fewestMinutes l G cI cZ sa sb hv r5.2 a0 (-1 : Int32) r8 e8) [13, 14, 15, 16] [0, 1, 2, 3, 4, 5, 6, 7, 8, 9, 10, 11, 12] [0, 1, 2, 3, 4, 5, 6, 7, 8, 9, 10, 11, 12, 13, 14, 15, 16] rfl rfl rfl rfl (by decide) rfl rfl 0 4 rfl rfl rfl (cwV 2 hts gX5_round_X4_fewestMinutes rfl rfl rfl (by decide +kernel) ⟨Nat.le_of_ble_eq_true rfl, Nat.le_of_ble_eq_true rfl⟩) rfl hl.1 (lv_room (Nat.le_of_ble_eq_true rfl)) dX5_round_53 (fun H locs hw => ?_)
        refine lv_istore_n (lv' := [(3, .int r8.1), (0, .ref (h 0)), (1, .int a0), (2, .int a1)]) hx hb dX5_round_56 rfl hl (by decide) rfl (fun ls hl => ?_)
        refine lv_aload_n hx hb dX5_round_57 rfl (lv_at hl 1 rfl) ?_
        refine va_get (D := G) (ci := 5) (v := .ref (hv 0)) (C := RX5) (T := TX5) (N := 8) hx hb hts nw_X5_round_X5 hown hK hw.1 0 rfl rfl 6 (by decide) hL0 (fun _ h9 => h9) rfl dX5_round_58 ?_
        refine lv_iload_n hx hb dX5_round_61 rfl (lv_at hl 2 rfl) ?_
        refine lv_iconst (v := (1 : Int32)) hx hb dX5_round_62 (by decide) ?_
        obtain ⟨r9, e9, hf⟩ := cd_bind_some hf
        refine cd_callVw (As := [.int a0, .int (1 : Int32)]) (rest := []) (wr := (pc_top cZ h ht h1 h2 hp hy hv hz K) ++ (pc_town cI ht T)) (wn := (pc_top cZ h ht h1 h2 hp hy hv hz K) ++ (pc_town cI ht T) ++ (pc_walk cI hv r9.2)) C0 hw (c_X4_fewestMinutes l G cI cZ sa sb hv r8.2 a0 (1 : Int32) r9 e9) [13, 14, 15, 16] [0, 1, 2, 3, 4, 5, 6, 7, 8, 9, 10, 11, 12] [0, 1, 2, 3, 4, 5, 6, 7, 8, 9, 10, 11, 12, 13, 14, 15, 16] rfl rfl rfl rfl (by decide) rfl rfl 0 4 rfl rfl rfl (cwV 2 hts gX5_round_X4_fewestMinutes rfl rfl rfl (by decide +kernel) ⟨Nat.le_of_ble_eq_true rfl, Nat.le_of_ble_eq_true rfl⟩) rfl hl.1 (lv_room (Nat.le_of_ble_eq_true rfl)) dX5_round_63 (fun H locs hw => ?_)
        refine lv_istore (lv' := [(4, .int r9.1), (3, .int r8.1), (0, .ref (h 0)), (1, .int a0), (2, .int a1)]) hx hb dX5_round_66 hl (by decide) rfl (fun ls hl => ?_)
        refine lv_iload_n hx hb dX5_round_68 rfl (lv_at hl 1 rfl) ?_
        refine lv_iload hx hb dX5_round_69 (lv_at hl 0 rfl) ?_
        refine cd_mmin hx hb (hml.trans hl.1.symm) hown hL2 hL3 hL4 hL5 (Nat.le_of_ble_eq_true rfl) (Nat.le_of_ble_eq_true rfl) dX5_round_71 ?_
        refine lv_istore (lv' := [(5, .int (cd_min r8.1 r9.1)), (4, .int r9.1), (3, .int r8.1), (0, .ref (h 0)), (1, .int a0), (2, .int a1)]) hx hb dX5_round_74 hl (by decide) rfl (fun ls hl => ?_)
        refine lv_iload hx hb dX5_round_76 (lv_at hl 0 rfl) ?_
        refine lv_ldc (v := (1000000 : Int32)) hx hb hown hL6 dX5_round_78 ?_
        refine lv_icmp_lt (tgt := 86) hx hb dX5_round_80 (by decide) (fun c10 => ?_) (fun c10 => ?_)
        · have hf := cd_ite_t c10 hf
          refine lv_iload_n hx hb dX5_round_86 rfl (lv_at hl 5 rfl) ?_
          refine lv_if_ne (tgt := 93) hx hb dX5_round_87 (by decide) (fun c11 => ?_) (fun c11 => ?_)
          · have hf := cd_ite_f c11 hf
            refine lv_iload_n hx hb dX5_round_93 rfl (lv_at hl 2 rfl) ?_
            refine lv_iload hx hb dX5_round_94 (lv_at hl 0 rfl) ?_
            obtain ⟨x12, e12, hf⟩ := cd_bind_some hf
            have K12 : ∀ (ls : Array Slot) (H : Heap) (locs : List Loc), lv_has ls 6 [] → cd_WS G A s.heap H locs ((pc_top cZ h ht h1 h2 hp hy hv hz K) ++ (pc_town cI ht T) ++ (pc_walk cI hv r9.2)) → W p l e rm_X5_round s m ag below meth c H locs 0 0 Q (F0 m 104 ls [.int x12]) := by
              intro ls H locs hl hw
              have z : some (x12, r9.2) = some o := hf
              cases z
              rw [hQ]
              exact cd_reti C0 hw dX5_round_104
            refine lv_icmp_ne (tgt := 103) hx hb dX5_round_96 (by decide) (fun c12 => ?_) (fun c12 => ?_)
            · have e12 := cd_ite_f c12 e12
              refine lv_iconst (v := (1 : Int32)) hx hb dX5_round_103 (by decide) ?_
              have z : some (1 : Int32) = some x12 := e12
              cases z
              exact K12 _ _ _ (lv_sub hl [] rfl) hw
            · have e12 := cd_ite_t c12 e12
              refine lv_iconst (v := (0 : Int32)) hx hb dX5_round_99 (by decide) ?_
              refine lv_goto (tgt := 104) hx hb dX5_round_100 (by decide) ?_
              have z : some (0 : Int32) = some x12 := e12
              cases z
              exact K12 _ _ _ (lv_sub hl [] rfl) hw
          · have hf := cd_ite_t c11 hf
            refine lv_iload hx hb dX5_round_90 (lv_at hl 0 rfl) ?_
            have z : some ((cd_min r8.1 r9.1), r9.2) = some o := hf
            cases z
            rw [hQ]
            exact cd_reti C0 hw dX5_round_92
        · have hf := cd_ite_f c10 hf
          refine lv_bipush (v := (-6 : Int32)) hx hb dX5_round_83 (by decide) ?_
          have z : some ((-6 : Int32), r9.2) = some o := hf
          cases z
          rw [hQ]
          exact cd_reti C0 hw dX5_round_85
      · have hf := cd_ite_t c6 hf
        refine lv_iload_n hx hb dX5_round_36 rfl (lv_at hl 2 rfl) ?_
        obtain ⟨x7, e7, hf⟩ := cd_bind_some hf
        have K7 : ∀ (ls : Array Slot) (H : Heap) (locs : List Loc), lv_has ls 6 [] → cd_WS G A s.heap H locs ((pc_top cZ h ht h1 h2 hp hy hv hz K) ++ (pc_town cI ht T) ++ (pc_walk cI hv r5.2)) → W p l e rm_X5_round s m ag below meth c H locs 0 0 Q (F0 m 46 ls [.int x7]) := by
          intro ls H locs hl hw
          have z : some (x7, r5.2) = some o := hf
          cases z
          rw [hQ]
          exact cd_reti C0 hw dX5_round_46
        refine lv_if_ne (tgt := 44) hx hb dX5_round_37 (by decide) (fun c7 => ?_) (fun c7 => ?_)
        · have e7 := cd_ite_f c7 e7
          refine lv_bipush (v := (-6 : Int32)) hx hb dX5_round_44 (by decide) ?_
          have z : some (-6 : Int32) = some x7 := e7
          cases z
          exact K7 _ _ _ (lv_sub hl [] rfl) hw
        · have e7 := cd_ite_t c7 e7
          refine lv_iconst (v := (0 : Int32)) hx hb dX5_round_40 (by decide) ?_
          refine lv_goto (tgt := 46) hx hb dX5_round_41 (by decide) ?_
          have z : some (0 : Int32) = some x7 := e7
          cases z
          exact K7 _ _ _ (lv_sub hl [] rfl) hw
    · have hf := cd_ite_t c4 hf
      refine lv_bipush (v := (-2 : Int32)) hx hb dX5_round_18 (by decide) ?_
      have z : some ((-2 : Int32), V) = some o := hf
      cases z
      rw [hQ]
      exact cd_reti C0 hw dX5_round_20
  · have hf := cd_ite_t c2 hf
    refine lv_iconst (v := (-1 : Int32)) hx hb dX5_round_7 (by decide) ?_
    have z : some ((-1 : Int32), V) = some o := hf
    cases z
    rw [hQ]
    exact cd_reti C0 hw dX5_round_8
abbrev rm_X5_say : Room := { frames := 1, cells := 0, slots := 0, locals := 22 }
theorem nw_X5_say_X0 : ∀ w ∈ u_ws RX0 TX0 6, w ∈ wsX5_say := by decide +kernel
theorem nw_X5_say_X5 : ∀ w ∈ u_ws RX5 TX5 8, w ∈ wsX5_say := by decide +kernel
set_option maxHeartbeats 4000000 in
set_option maxRecDepth 100000 in
theorem c_X5_say (l : Launch) (G : va_G) (cI cZ : ClassId) (sa sb : Nat) (h ht h1 h2 hp hy hs hv hz : Nat → Nat) (K P : Nat → Nat → Int32) (a0 : Int32) (o : Int32 × (Nat → Nat → Int32)) (hf : f_X5_say a0 K P = some o) : cd_Ct l G cI cZ sa sb yX5_say wsX5_say rm_X5_say [.ref (h 0), .int a0] ((pc_top cZ h ht h1 h2 hp hy hv hz K) ++ (pc_pad cI hp P)) ((pc_top cZ h ht h1 h2 hp hy hv hz K) ++ (pc_pad cI hp o.2)) (some (.int o.1)) := by
  refine cd_of (cc := cX5_say) (maxL := 2) (ret := (some .int)) (by decide) rfl (Nat.le_of_ble_eq_true rfl) ?_
  intro p e s m ag below meth c A ls Q C0 hl hw hQ
  have C0 : cd_CX G cI cZ sa sb p s m ag meth c cX5_say 2 (some .int) wsX5_say RX5 A := C0
  obtain ⟨⟨hx, hb, hml, hown, hts⟩, hr, hlocks, hA, hE⟩ := id C0
  have hK := hE.1
  have hL0 := hts (.fieldLink RX5 29 "CandleDebts" "pad" "LCandleDebts$Pad;") (by decide +kernel)
  have hL1 := hts (.fieldLink RX5 86 "CandleDebts$Pad" "count" "I") (by decide +kernel)
  have hl : lv_has ls 2 [(0, .ref (h 0)), (1, .int a0)] := hl
  unfold f_X5_say at hf
  refine lv_iload_n hx hb dX5_say_0 rfl (lv_at hl 1 rfl) ?_
  refine lv_bipush (v := (33 : Int32)) hx hb dX5_say_1 (by decide) ?_
  refine lv_bipush (v := (126 : Int32)) hx hb dX5_say_3 (by decide) ?_
  obtain ⟨r1, e1, hf⟩ := cd_bind_some hf
  refine cd_callS (As := [.int a0, .int (33 : Int32), .int (126 : Int32)]) (rest := []) C0 hw (c_X5_within l G cI cZ sa sb a0 (33 : Int32) (126 : Int32) r1 e1) [] rfl rfl (va_cwS 3 hts gX5_say_X5_within rfl rfl rfl (by decide +kernel) ⟨Nat.le_of_ble_eq_true rfl, Nat.le_of_ble_eq_true rfl⟩) rfl hl.1 (lv_room (Nat.le_of_ble_eq_true rfl)) dX5_say_5 (fun H locs hw => ?_)
  refine lv_if_ne (tgt := 14) hx hb dX5_say_8 (by decide) (fun c2 => ?_) (fun c2 => ?_)
  · have hf := cd_ite_f c2 hf
    refine lv_aload_n hx hb dX5_say_14 rfl (lv_at hl 0 rfl) ?_
    refine va_get (D := G) (ci := 5) (v := .ref (hp 0)) (C := RX5) (T := TX5) (N := 8) hx hb hts nw_X5_say_X5 hown hK hw.1 0 rfl rfl 4 (by decide) hL0 (fun _ h9 => h9) rfl dX5_say_15 ?_
    refine lv_iload_n hx hb dX5_say_18 rfl (lv_at hl 1 rfl) ?_
    obtain ⟨r3, e3, hf⟩ := cd_bind_some hf
    refine cd_callVw (As := [.int a0]) (rest := []) (wr := (pc_top cZ h ht h1 h2 hp hy hv hz K)) (wn := (pc_top cZ h ht h1 h2 hp hy hv hz K) ++ (pc_pad cI hp r3.2)) C0 hw (c_X0_write l G cI cZ sa sb hp P a0 r3 e3) [2, 3] [0, 1] [0, 1, 2, 3] rfl rfl rfl rfl (by decide) rfl rfl 0 0 rfl rfl rfl (cwV 1 hts gX5_say_X0_write rfl rfl rfl (by decide +kernel) ⟨Nat.le_of_ble_eq_true rfl, Nat.le_of_ble_eq_true rfl⟩) rfl hl.1 (lv_room (Nat.le_of_ble_eq_true rfl)) dX5_say_19 (fun H locs hw => ?_)
    obtain ⟨x4, e4, hf⟩ := cd_bind_some hf
    have K4 : ∀ (ls : Array Slot) (H : Heap) (locs : List Loc), lv_has ls 2 [] → cd_WS G A s.heap H locs ((pc_top cZ h ht h1 h2 hp hy hv hz K) ++ (pc_pad cI hp r3.2)) → W p l e rm_X5_say s m ag below meth c H locs 0 0 Q (F0 m 37 ls [.int x4]) := by
      intro ls H locs hl hw
      have z : some (x4, r3.2) = some o := hf
      cases z
      rw [hQ]
      exact cd_reti C0 hw dX5_say_37
    refine lv_if_eq (tgt := 35) hx hb dX5_say_22 (by decide) (fun c4 => ?_) (fun c4 => ?_)
    · have e4 := cd_ite_t c4 e4
      refine lv_bipush (v := (-4 : Int32)) hx hb dX5_say_35 (by decide) ?_
      have z : some (-4 : Int32) = some x4 := e4
      cases z
      exact K4 _ _ _ (lv_sub hl [] rfl) hw
    · have e4 := cd_ite_f c4 e4
      refine lv_aload_n hx hb dX5_say_25 rfl (lv_at hl 0 rfl) ?_
      refine va_get (D := G) (ci := 5) (v := .ref (hp 0)) (C := RX5) (T := TX5) (N := 8) hx hb hts nw_X5_say_X5 hown hK hw.1 0 rfl rfl 4 (by decide) hL0 (fun _ h9 => h9) rfl dX5_say_26 ?_
      refine va_get (D := G) (ci := 0) (v := .int (r3.2 1 0)) (C := RX0) (T := TX0) (N := 6) hx hb hts nw_X5_say_X0 hown hK hw.1 2 rfl rfl 1 (by decide) hL1 (fun _ h9 => h9) rfl dX5_say_29 ?_
      refine lv_goto (tgt := 37) hx hb dX5_say_32 (by decide) ?_
      have z : some (r3.2 1 0) = some x4 := e4
      cases z
      exact K4 _ _ _ (lv_sub hl [] rfl) hw
  · have hf := cd_ite_t c2 hf
    refine lv_bipush (v := (-2 : Int32)) hx hb dX5_say_11 (by decide) ?_
    have z : some ((-2 : Int32), P) = some o := hf
    cases z
    rw [hQ]
    exact cd_reti C0 hw dX5_say_13
abbrev rm_X5_seen : Room := { frames := 2, cells := 0, slots := 0, locals := 42 }
theorem nw_X5_seen_X3 : ∀ w ∈ u_ws RX3 TX3 14, w ∈ wsX5_seen := by decide +kernel
theorem nw_X5_seen_X5 : ∀ w ∈ u_ws RX5 TX5 8, w ∈ wsX5_seen := by decide +kernel
set_option maxHeartbeats 4000000 in
set_option maxRecDepth 100000 in
theorem c_X5_seen (l : Launch) (G : va_G) (cI cZ : ClassId) (sa sb : Nat) (h ht h1 h2 hp hy hs hv hz : Nat → Nat) (K T : Nat → Nat → Int32) (a0 : Int32) (a1 : Int32) (o : Int32 × (Nat → Nat → Int32)) (hf : f_X5_seen a0 a1 K T = some o) : cd_Ct l G cI cZ sa sb yX5_seen wsX5_seen rm_X5_seen [.ref (h 0), .int a0, .int a1] ((pc_top cZ h ht h1 h2 hp hy hv hz K) ++ (pc_town cI ht T)) ((pc_top cZ h ht h1 h2 hp hy hv hz K) ++ (pc_town cI ht o.2)) (some (.int o.1)) := by
  refine cd_of (cc := cX5_seen) (maxL := 3) (ret := (some .int)) (by decide) rfl (Nat.le_of_ble_eq_true rfl) ?_
  intro p e s m ag below meth c A ls Q C0 hl hw hQ
  have C0 : cd_CX G cI cZ sa sb p s m ag meth c cX5_seen 3 (some .int) wsX5_seen RX5 A := C0
  obtain ⟨⟨hx, hb, hml, hown, hts⟩, hr, hlocks, hA, hE⟩ := id C0
  have hK := hE.1
  have hL0 := hts (.fieldLink RX5 12 "CandleDebts" "town" "LCandleDebts$Town;") (by decide +kernel)
  have hL1 := hts (.fieldLink RX5 193 "CandleDebts$Town" "sights" "I") (by decide +kernel)
  have hl : lv_has ls 3 [(0, .ref (h 0)), (1, .int a0), (2, .int a1)] := hl
  unfold f_X5_seen at hf
  refine lv_iload_n hx hb dX5_seen_0 rfl (lv_at hl 1 rfl) ?_
  obtain ⟨r1, e1, hf⟩ := cd_bind_some hf
  refine cd_callS (As := [.int a0]) (rest := []) C0 hw (c_X5_isCandle l G cI cZ sa sb a0 r1 e1) [] rfl rfl (va_cwS 1 hts gX5_seen_X5_isCandle rfl rfl rfl (by decide +kernel) ⟨Nat.le_of_ble_eq_true rfl, Nat.le_of_ble_eq_true rfl⟩) rfl hl.1 (lv_room (Nat.le_of_ble_eq_true rfl)) dX5_seen_1 (fun H locs hw => ?_)
  refine lv_if_ne (tgt := 9) hx hb dX5_seen_4 (by decide) (fun c2 => ?_) (fun c2 => ?_)
  · have hf := cd_ite_f c2 hf
    refine lv_iload_n hx hb dX5_seen_9 rfl (lv_at hl 2 rfl) ?_
    refine lv_iconst (v := (0 : Int32)) hx hb dX5_seen_10 (by decide) ?_
    refine lv_sipush (v := (999 : Int32)) hx hb dX5_seen_11 (by decide) ?_
    obtain ⟨r3, e3, hf⟩ := cd_bind_some hf
    refine cd_callS (As := [.int a1, .int (0 : Int32), .int (999 : Int32)]) (rest := []) C0 hw (c_X5_within l G cI cZ sa sb a1 (0 : Int32) (999 : Int32) r3 e3) [] rfl rfl (va_cwS 3 hts gX5_seen_X5_within rfl rfl rfl (by decide +kernel) ⟨Nat.le_of_ble_eq_true rfl, Nat.le_of_ble_eq_true rfl⟩) rfl hl.1 (lv_room (Nat.le_of_ble_eq_true rfl)) dX5_seen_14 (fun H locs hw => ?_)
    refine lv_if_ne (tgt := 23) hx hb dX5_seen_17 (by decide) (fun c4 => ?_) (fun c4 => ?_)
    · have hf := cd_ite_f c4 hf
      refine lv_aload_n hx hb dX5_seen_23 rfl (lv_at hl 0 rfl) ?_
      refine va_get (D := G) (ci := 5) (v := .ref (ht 0)) (C := RX5) (T := TX5) (N := 8) hx hb hts nw_X5_seen_X5 hown hK hw.1 0 rfl rfl 0 (by decide) hL0 (fun _ h9 => h9) rfl dX5_seen_24 ?_
      refine lv_iload_n hx hb dX5_seen_27 rfl (lv_at hl 1 rfl) ?_
      refine lv_iload_n hx hb dX5_seen_28 rfl (lv_at hl 2 rfl) ?_
      obtain ⟨r5, e5, hf⟩ := cd_bind_some hf
      refine cd_callVw (As := [.int a0, .int a1]) (rest := []) (wr := (pc_top cZ h ht h1 h2 hp hy hv hz K)) (wn := (pc_top cZ h ht h1 h2 hp hy hv hz K) ++ (pc_town cI ht r5.2)) C0 hw (c_X3_addSight l G cI cZ sa sb ht T a0 a1 r5 e5) [2, 3, 4, 5, 6, 7, 8, 9, 10, 11, 12] [0, 1] [0, 1, 2, 3, 4, 5, 6, 7, 8, 9, 10, 11, 12] rfl rfl rfl rfl (by decide) rfl rfl 0 3 rfl rfl rfl (cwV 2 hts gX5_seen_X3_addSight rfl rfl rfl (by decide +kernel) ⟨Nat.le_of_ble_eq_true rfl, Nat.le_of_ble_eq_true rfl⟩) rfl hl.1 (lv_room (Nat.le_of_ble_eq_true rfl)) dX5_seen_29 (fun H locs hw => ?_)
      obtain ⟨x6, e6, hf⟩ := cd_bind_some hf
      have K6 : ∀ (ls : Array Slot) (H : Heap) (locs : List Loc), lv_has ls 3 [] → cd_WS G A s.heap H locs ((pc_top cZ h ht h1 h2 hp hy hv hz K) ++ (pc_town cI ht r5.2)) → W p l e rm_X5_seen s m ag below meth c H locs 0 0 Q (F0 m 47 ls [.int x6]) := by
        intro ls H locs hl hw
        have z : some (x6, r5.2) = some o := hf
        cases z
        rw [hQ]
        exact cd_reti C0 hw dX5_seen_47
      refine lv_if_eq (tgt := 45) hx hb dX5_seen_32 (by decide) (fun c6 => ?_) (fun c6 => ?_)
      · have e6 := cd_ite_t c6 e6
        refine lv_bipush (v := (-4 : Int32)) hx hb dX5_seen_45 (by decide) ?_
        have z : some (-4 : Int32) = some x6 := e6
        cases z
        exact K6 _ _ _ (lv_sub hl [] rfl) hw
      · have e6 := cd_ite_f c6 e6
        refine lv_aload_n hx hb dX5_seen_35 rfl (lv_at hl 0 rfl) ?_
        refine va_get (D := G) (ci := 5) (v := .ref (ht 0)) (C := RX5) (T := TX5) (N := 8) hx hb hts nw_X5_seen_X5 hown hK hw.1 0 rfl rfl 0 (by decide) hL0 (fun _ h9 => h9) rfl dX5_seen_36 ?_
        refine va_get (D := G) (ci := 3) (v := .int (r5.2 10 0)) (C := RX3) (T := TX3) (N := 14) hx hb hts nw_X5_seen_X3 hown hK hw.1 2 rfl rfl 10 (by decide) hL1 (fun _ h9 => h9) rfl dX5_seen_39 ?_
        refine lv_goto (tgt := 47) hx hb dX5_seen_42 (by decide) ?_
        have z : some (r5.2 10 0) = some x6 := e6
        cases z
        exact K6 _ _ _ (lv_sub hl [] rfl) hw
    · have hf := cd_ite_t c4 hf
      refine lv_bipush (v := (-2 : Int32)) hx hb dX5_seen_20 (by decide) ?_
      have z : some ((-2 : Int32), T) = some o := hf
      cases z
      rw [hQ]
      exact cd_reti C0 hw dX5_seen_22
  · have hf := cd_ite_t c2 hf
    refine lv_iconst (v := (-1 : Int32)) hx hb dX5_seen_7 (by decide) ?_
    have z : some ((-1 : Int32), T) = some o := hf
    cases z
    rw [hQ]
    exact cd_reti C0 hw dX5_seen_8
abbrev rm_X5_ship : Room := { frames := 1, cells := 0, slots := 0, locals := 31 }
set_option maxHeartbeats 4000000 in
set_option maxRecDepth 100000 in
theorem c_X5_ship (l : Launch) (G : va_G) (cI cZ : ClassId) (sa sb : Nat) (h ht h1 h2 hp hy hs hv hz : Nat → Nat) (K : Nat → Nat → Int32) (a0 : Int32) (a1 : Int32) (a2 : Int32) (a3 : Int32) (o : Int64) (hf : f_X5_ship a0 a1 a2 a3 K = some o) : cd_Ct l G cI cZ sa sb yX5_ship wsX5_ship rm_X5_ship [.ref (h 0), .int a0, .int a1, .int a2, .int a3] ((pc_top cZ h ht h1 h2 hp hy hv hz K)) ((pc_top cZ h ht h1 h2 hp hy hv hz K)) (some (.long o)) := by
  refine cd_of (cc := cX5_ship) (maxL := 7) (ret := (some .long)) (by decide) rfl (Nat.le_of_ble_eq_true rfl) ?_
  intro p e s m ag below meth c A ls Q C0 hl hw hQ
  have C0 : cd_CX G cI cZ sa sb p s m ag meth c cX5_ship 7 (some .long) wsX5_ship RX5 A := C0
  obtain ⟨⟨hx, hb, hml, hown, hts⟩, hr, hlocks, hA, hE⟩ := id C0
  have hK := hE.1
  have hL0 := hts (.constantLong RX5 214 (-1000000000000000002)) (by decide +kernel)
  have hL1 := hts (.methodLink RX5 228 Lib.Math.max.name) (by decide +kernel)
  have hL2 := hts (.static Lib.Math.max.name) (by decide +kernel)
  have hL3 := hts (.initialized "java/lang/Math") (by decide +kernel)
  have hL4 := hts (.code Lib.Math.max.name Lib.Math.max.code 2 (some .int)) (by decide +kernel)
  have hl : lv_has ls 7 [(0, .ref (h 0)), (1, .int a0), (2, .int a1), (3, .int a2), (4, .int a3)] := hl
  unfold f_X5_ship at hf
  refine lv_iload_n hx hb dX5_ship_0 rfl (lv_at hl 1 rfl) ?_
  refine lv_iconst (v := (1 : Int32)) hx hb dX5_ship_1 (by decide) ?_
  refine lv_bipush (v := (9 : Int32)) hx hb dX5_ship_2 (by decide) ?_
  obtain ⟨r1, e1, hf⟩ := cd_bind_some hf
  refine cd_callS (As := [.int a0, .int (1 : Int32), .int (9 : Int32)]) (rest := []) C0 hw (c_X5_within l G cI cZ sa sb a0 (1 : Int32) (9 : Int32) r1 e1) [] rfl rfl (va_cwS 3 hts gX5_ship_X5_within rfl rfl rfl (by decide +kernel) ⟨Nat.le_of_ble_eq_true rfl, Nat.le_of_ble_eq_true rfl⟩) rfl hl.1 (lv_room (Nat.le_of_ble_eq_true rfl)) dX5_ship_4 (fun H locs hw => ?_)
  refine lv_if_eq (tgt := 40) hx hb dX5_ship_7 (by decide) (fun c2 => ?_) (fun c2 => ?_)
  · have hf := cd_ite_t c2 hf
    refine lv_ldc2 (v := (-1000000000000000002 : Int64)) hx hb hown hL0 dX5_ship_40 ?_
    have z : some (-1000000000000000002 : Int64) = some o := hf
    cases z
    rw [hQ]
    exact cd_retl C0 hw dX5_ship_43
  · have hf := cd_ite_f c2 hf
    refine lv_iload_n hx hb dX5_ship_10 rfl (lv_at hl 2 rfl) ?_
    refine lv_iconst (v := (0 : Int32)) hx hb dX5_ship_11 (by decide) ?_
    refine lv_bipush (v := (99 : Int32)) hx hb dX5_ship_12 (by decide) ?_
    obtain ⟨r3, e3, hf⟩ := cd_bind_some hf
    refine cd_callS (As := [.int a1, .int (0 : Int32), .int (99 : Int32)]) (rest := []) C0 hw (c_X5_within l G cI cZ sa sb a1 (0 : Int32) (99 : Int32) r3 e3) [] rfl rfl (va_cwS 3 hts gX5_ship_X5_within rfl rfl rfl (by decide +kernel) ⟨Nat.le_of_ble_eq_true rfl, Nat.le_of_ble_eq_true rfl⟩) rfl hl.1 (lv_room (Nat.le_of_ble_eq_true rfl)) dX5_ship_14 (fun H locs hw => ?_)
    refine lv_if_eq (tgt := 40) hx hb dX5_ship_17 (by decide) (fun c4 => ?_) (fun c4 => ?_)
    · have hf := cd_ite_t c4 hf
      refine lv_ldc2 (v := (-1000000000000000002 : Int64)) hx hb hown hL0 dX5_ship_40 ?_
      have z : some (-1000000000000000002 : Int64) = some o := hf
      cases z
      rw [hQ]
      exact cd_retl C0 hw dX5_ship_43
    · have hf := cd_ite_f c4 hf
      refine lv_iload_n hx hb dX5_ship_20 rfl (lv_at hl 3 rfl) ?_
      refine lv_iconst (v := (0 : Int32)) hx hb dX5_ship_21 (by decide) ?_
      refine lv_bipush (v := (99 : Int32)) hx hb dX5_ship_22 (by decide) ?_
      obtain ⟨r5, e5, hf⟩ := cd_bind_some hf
      refine cd_callS (As := [.int a2, .int (0 : Int32), .int (99 : Int32)]) (rest := []) C0 hw (c_X5_within l G cI cZ sa sb a2 (0 : Int32) (99 : Int32) r5 e5) [] rfl rfl (va_cwS 3 hts gX5_ship_X5_within rfl rfl rfl (by decide +kernel) ⟨Nat.le_of_ble_eq_true rfl, Nat.le_of_ble_eq_true rfl⟩) rfl hl.1 (lv_room (Nat.le_of_ble_eq_true rfl)) dX5_ship_24 (fun H locs hw => ?_)
      refine lv_if_eq (tgt := 40) hx hb dX5_ship_27 (by decide) (fun c6 => ?_) (fun c6 => ?_)
      · have hf := cd_ite_t c6 hf
        refine lv_ldc2 (v := (-1000000000000000002 : Int64)) hx hb hown hL0 dX5_ship_40 ?_
        have z : some (-1000000000000000002 : Int64) = some o := hf
        cases z
        rw [hQ]
        exact cd_retl C0 hw dX5_ship_43
      · have hf := cd_ite_f c6 hf
        refine lv_iload hx hb dX5_ship_30 (lv_at hl 4 rfl) ?_
        refine lv_iconst (v := (0 : Int32)) hx hb dX5_ship_32 (by decide) ?_
        refine lv_iconst (v := (1 : Int32)) hx hb dX5_ship_33 (by decide) ?_
        obtain ⟨r7, e7, hf⟩ := cd_bind_some hf
        refine cd_callS (As := [.int a3, .int (0 : Int32), .int (1 : Int32)]) (rest := []) C0 hw (c_X5_within l G cI cZ sa sb a3 (0 : Int32) (1 : Int32) r7 e7) [] rfl rfl (va_cwS 3 hts gX5_ship_X5_within rfl rfl rfl (by decide +kernel) ⟨Nat.le_of_ble_eq_true rfl, Nat.le_of_ble_eq_true rfl⟩) rfl hl.1 (lv_room (Nat.le_of_ble_eq_true rfl)) dX5_ship_34 (fun H locs hw => ?_)
        refine lv_if_ne (tgt := 44) hx hb dX5_ship_37 (by decide) (fun c8 => ?_) (fun c8 => ?_)
        · have hf := cd_ite_f c8 hf
          refine lv_iconst (v := (0 : Int32)) hx hb dX5_ship_44 (by decide) ?_
          refine lv_sipush (v := (200 : Int32)) hx hb dX5_ship_45 (by decide) ?_
          refine lv_iload_n hx hb dX5_ship_48 rfl (lv_at hl 1 rfl) ?_
          refine lv_iload_n hx hb dX5_ship_49 rfl (lv_at hl 2 rfl) ?_
          refine lv_imul hx hb dX5_ship_50 ?_
          refine lv_isub hx hb dX5_ship_51 ?_
          refine cd_mmax hx hb (hml.trans hl.1.symm) hown hL1 hL2 hL3 hL4 (Nat.le_of_ble_eq_true rfl) (Nat.le_of_ble_eq_true rfl) dX5_ship_52 ?_
          refine lv_istore (lv' := [(5, .int (cd_max (0 : Int32) ((200 : Int32) - (a0 * a1)))), (0, .ref (h 0)), (1, .int a0), (2, .int a1), (3, .int a2), (4, .int a3)]) hx hb dX5_ship_55 hl (by decide) rfl (fun ls hl => ?_)
          refine lv_iconst (v := (0 : Int32)) hx hb dX5_ship_57 (by decide) ?_
          refine lv_sipush (v := (200 : Int32)) hx hb dX5_ship_58 (by decide) ?_
          refine lv_iload_n hx hb dX5_ship_61 rfl (lv_at hl 2 rfl) ?_
          refine lv_iload_n hx hb dX5_ship_62 rfl (lv_at hl 3 rfl) ?_
          refine lv_iload_n hx hb dX5_ship_63 rfl (lv_at hl 4 rfl) ?_
          refine lv_iadd hx hb dX5_ship_64 ?_
          refine lv_imul hx hb dX5_ship_65 ?_
          refine lv_isub hx hb dX5_ship_66 ?_
          refine cd_mmax hx hb (hml.trans hl.1.symm) hown hL1 hL2 hL3 hL4 (Nat.le_of_ble_eq_true rfl) (Nat.le_of_ble_eq_true rfl) dX5_ship_67 ?_
          refine lv_istore (lv' := [(6, .int (cd_max (0 : Int32) ((200 : Int32) - (a0 * (a1 + a2))))), (5, .int (cd_max (0 : Int32) ((200 : Int32) - (a0 * a1)))), (0, .ref (h 0)), (1, .int a0), (2, .int a1), (3, .int a2), (4, .int a3)]) hx hb dX5_ship_70 hl (by decide) rfl (fun ls hl => ?_)
          refine lv_iload hx hb dX5_ship_72 (lv_at hl 1 rfl) ?_
          obtain ⟨x9, e9, hf⟩ := cd_bind_some hf
          have K9 : ∀ (ls : Array Slot) (H : Heap) (locs : List Loc), lv_has ls 7 [] → cd_WS G A s.heap H locs ((pc_top cZ h ht h1 h2 hp hy hv hz K)) → W p l e rm_X5_ship s m ag below meth c H locs 0 0 Q (F0 m 98 ls [.long x9]) := by
            intro ls H locs hl hw
            have z : some x9 = some o := hf
            cases z
            rw [hQ]
            exact cd_retl C0 hw dX5_ship_98
          refine lv_if_ne (tgt := 87) hx hb dX5_ship_74 (by decide) (fun c9 => ?_) (fun c9 => ?_)
          · have e9 := cd_ite_f c9 e9
            refine lv_iload hx hb dX5_ship_87 (lv_at hl 0 rfl) ?_
            refine lv_i2l hx hb dX5_ship_89 rfl ?_
            refine lv_iload hx hb dX5_ship_90 (lv_at hl 1 rfl) ?_
            refine lv_i2l hx hb dX5_ship_92 rfl ?_
            refine lv_iload hx hb dX5_ship_93 (lv_at hl 6 rfl) ?_
            obtain ⟨r11, e11, e9⟩ := cd_bind_some e9
            refine cd_callS (As := [.long ((cd_max (0 : Int32) ((200 : Int32) - (a0 * (a1 + a2)))).toInt64), .long ((cd_max (0 : Int32) ((200 : Int32) - (a0 * a1))).toInt64), .int a3]) (rest := []) C0 hw (c_X5_partOf l G cI cZ sa sb ((cd_max (0 : Int32) ((200 : Int32) - (a0 * (a1 + a2)))).toInt64) ((cd_max (0 : Int32) ((200 : Int32) - (a0 * a1))).toInt64) a3 r11 e11) [] rfl rfl (va_cwS 3 hts gX5_ship_X5_partOf rfl rfl rfl (by decide +kernel) ⟨Nat.le_of_ble_eq_true rfl, Nat.le_of_ble_eq_true rfl⟩) rfl hl.1 (lv_room (Nat.le_of_ble_eq_true rfl)) dX5_ship_95 (fun H locs hw => ?_)
            have z : some r11 = some x9 := e9
            cases z
            exact K9 _ _ _ (lv_sub hl [] rfl) hw
          · have e9 := cd_ite_t c9 e9
            refine lv_lconst (v := 0) hx hb dX5_ship_77 (by decide) ?_
            refine lv_lconst (v := 1) hx hb dX5_ship_78 (by decide) ?_
            refine lv_iload hx hb dX5_ship_79 (lv_at hl 6 rfl) ?_
            obtain ⟨r10, e10, e9⟩ := cd_bind_some e9
            refine cd_callS (As := [.long (0 : Int64), .long (1 : Int64), .int a3]) (rest := []) C0 hw (c_X5_partOf l G cI cZ sa sb (0 : Int64) (1 : Int64) a3 r10 e10) [] rfl rfl (va_cwS 3 hts gX5_ship_X5_partOf rfl rfl rfl (by decide +kernel) ⟨Nat.le_of_ble_eq_true rfl, Nat.le_of_ble_eq_true rfl⟩) rfl hl.1 (lv_room (Nat.le_of_ble_eq_true rfl)) dX5_ship_81 (fun H locs hw => ?_)
            refine lv_goto (tgt := 98) hx hb dX5_ship_84 (by decide) ?_
            have z : some r10 = some x9 := e9
            cases z
            exact K9 _ _ _ (lv_sub hl [] rfl) hw
        · have hf := cd_ite_t c8 hf
          refine lv_ldc2 (v := (-1000000000000000002 : Int64)) hx hb hown hL0 dX5_ship_40 ?_
          have z : some (-1000000000000000002 : Int64) = some o := hf
          cases z
          rw [hQ]
          exact cd_retl C0 hw dX5_ship_43
abbrev rm_X5_sneezes : Room := { frames := 6, cells := 0, slots := 0, locals := 140 }
theorem nw_X5_sneezes_X5 : ∀ w ∈ u_ws RX5 TX5 8, w ∈ wsX5_sneezes := by decide +kernel
set_option maxHeartbeats 4000000 in
set_option maxRecDepth 100000 in
theorem c_X5_sneezes (l : Launch) (G : va_G) (cI cZ : ClassId) (sa sb : Nat) (h ht h1 h2 hp hy hs hv hz : Nat → Nat) (K T Z : Nat → Nat → Int32) (a0 : Int32) (o : Int32 × (Nat → Nat → Int32)) (hf : f_X5_sneezes a0 K T Z = some o) : cd_Ct l G cI cZ sa sb yX5_sneezes wsX5_sneezes rm_X5_sneezes [.ref (h 0), .int a0] ((pc_top cZ h ht h1 h2 hp hy hv hz K) ++ (pc_town cI ht T) ++ (pc_snz cI hz Z)) ((pc_top cZ h ht h1 h2 hp hy hv hz K) ++ (pc_town cI ht T) ++ (pc_snz cI hz o.2)) (some (.int o.1)) := by
  refine cd_of (cc := cX5_sneezes) (maxL := 2) (ret := (some .int)) (by decide) rfl (Nat.le_of_ble_eq_true rfl) ?_
  intro p e s m ag below meth c A ls Q C0 hl hw hQ
  have C0 : cd_CX G cI cZ sa sb p s m ag meth c cX5_sneezes 2 (some .int) wsX5_sneezes RX5 A := C0
  obtain ⟨⟨hx, hb, hml, hown, hts⟩, hr, hlocks, hA, hE⟩ := id C0
  have hK := hE.1
  have hL0 := hts (.fieldLink RX5 50 "CandleDebts" "sneezing" "LCandleDebts$Sneezing;") (by decide +kernel)
  have hL1 := hts (.fieldLink RX5 12 "CandleDebts" "town" "LCandleDebts$Town;") (by decide +kernel)
  have hl : lv_has ls 2 [(0, .ref (h 0)), (1, .int a0)] := hl
  unfold f_X5_sneezes at hf
  refine lv_aload_n hx hb dX5_sneezes_0 rfl (lv_at hl 0 rfl) ?_
  refine va_get (D := G) (ci := 5) (v := .ref (hz 0)) (C := RX5) (T := TX5) (N := 8) hx hb hts nw_X5_sneezes_X5 hown hK hw.1 0 rfl rfl 7 (by decide) hL0 (fun _ h9 => h9) rfl dX5_sneezes_1 ?_
  refine lv_aload_n hx hb dX5_sneezes_4 rfl (lv_at hl 0 rfl) ?_
  refine va_get (D := G) (ci := 5) (v := .ref (ht 0)) (C := RX5) (T := TX5) (N := 8) hx hb hts nw_X5_sneezes_X5 hown hK hw.1 0 rfl rfl 0 (by decide) hL1 (fun _ h9 => h9) rfl dX5_sneezes_5 ?_
  obtain ⟨r1, e1, hf⟩ := cd_bind_some hf
  refine cd_callVw (As := [.ref (ht 0)]) (rest := []) (wr := (pc_top cZ h ht h1 h2 hp hy hv hz K)) (wn := (pc_top cZ h ht h1 h2 hp hy hv hz K) ++ (pc_town cI ht T) ++ (pc_snz cI hz r1)) C0 hw (c_X2_fit l G cI cZ sa sb hz ht Z T r1 e1) [13, 14, 15, 16, 2, 3, 4, 5, 6, 7, 8, 9, 10, 11, 12] [0, 1] [0, 1, 6, 7, 8, 9, 10, 11, 12, 13, 14, 15, 16, 2, 3, 4, 5] rfl rfl rfl rfl (by decide) rfl rfl 0 2 rfl rfl rfl (cwV 1 hts gX5_sneezes_X2_fit rfl rfl rfl (by decide +kernel) ⟨Nat.le_of_ble_eq_true rfl, Nat.le_of_ble_eq_true rfl⟩) rfl hl.1 (lv_room (Nat.le_of_ble_eq_true rfl)) dX5_sneezes_8 (fun H locs hw => ?_)
  refine lv_iload_n hx hb dX5_sneezes_11 rfl (lv_at hl 1 rfl) ?_
  refine lv_iconst (v := (-1 : Int32)) hx hb dX5_sneezes_12 (by decide) ?_
  obtain ⟨x2, e2, hf⟩ := cd_bind_some hf
  have K2 : ∀ (ls : Array Slot) (H : Heap) (locs : List Loc), lv_has ls 2 [] → cd_WS G A s.heap H locs ((pc_top cZ h ht h1 h2 hp hy hv hz K) ++ (pc_town cI ht T) ++ (pc_snz cI hz r1)) → W p l e rm_X5_sneezes s m ag below meth c H locs 0 0 Q (F0 m 34 ls [.int x2]) := by
    intro ls H locs hl hw
    have z : some (x2, r1) = some o := hf
    cases z
    rw [hQ]
    exact cd_reti C0 hw dX5_sneezes_34
  refine lv_icmp_ne (tgt := 26) hx hb dX5_sneezes_13 (by decide) (fun c2 => ?_) (fun c2 => ?_)
  · have e2 := cd_ite_f c2 e2
    refine lv_aload_n hx hb dX5_sneezes_26 rfl (lv_at hl 0 rfl) ?_
    refine va_get (D := G) (ci := 5) (v := .ref (hz 0)) (C := RX5) (T := TX5) (N := 8) hx hb hts nw_X5_sneezes_X5 hown hK hw.1 0 rfl rfl 7 (by decide) hL0 (fun _ h9 => h9) rfl dX5_sneezes_27 ?_
    refine lv_iload_n hx hb dX5_sneezes_30 rfl (lv_at hl 1 rfl) ?_
    obtain ⟨r4, e4, e2⟩ := cd_bind_some e2
    refine cd_callV (As := [.int a0]) (rest := []) C0 hw (c_X2_at l G cI cZ sa sb hz r1 a0 r4 e4) [13, 14, 15, 16] rfl rfl 0 2 rfl rfl rfl (cwV 1 hts gX5_sneezes_X2_at rfl rfl rfl (by decide +kernel) ⟨Nat.le_of_ble_eq_true rfl, Nat.le_of_ble_eq_true rfl⟩) rfl hl.1 (lv_room (Nat.le_of_ble_eq_true rfl)) dX5_sneezes_31 (fun H locs hw => ?_)
    have z : some r4 = some x2 := e2
    cases z
    exact K2 _ _ _ (lv_sub hl [] rfl) hw
  · have e2 := cd_ite_t c2 e2
    refine lv_aload_n hx hb dX5_sneezes_16 rfl (lv_at hl 0 rfl) ?_
    refine va_get (D := G) (ci := 5) (v := .ref (hz 0)) (C := RX5) (T := TX5) (N := 8) hx hb hts nw_X5_sneezes_X5 hown hK hw.1 0 rfl rfl 7 (by decide) hL0 (fun _ h9 => h9) rfl dX5_sneezes_17 ?_
    obtain ⟨r3, e3, e2⟩ := cd_bind_some e2
    refine cd_callV (As := []) (rest := []) C0 hw (c_X2_howMany l G cI cZ sa sb hz r1 r3 e3) [13, 14, 15, 16] rfl rfl 0 2 rfl rfl rfl (cwV 0 hts gX5_sneezes_X2_howMany rfl rfl rfl (by decide +kernel) ⟨Nat.le_of_ble_eq_true rfl, Nat.le_of_ble_eq_true rfl⟩) rfl hl.1 (lv_room (Nat.le_of_ble_eq_true rfl)) dX5_sneezes_20 (fun H locs hw => ?_)
    refine lv_goto (tgt := 34) hx hb dX5_sneezes_23 (by decide) ?_
    have z : some r3 = some x2 := e2
    cases z
    exact K2 _ _ _ (lv_sub hl [] rfl) hw
abbrev rm_X5_worthOf : Room := { frames := 1, cells := 0, slots := 0, locals := 21 }
set_option maxHeartbeats 4000000 in
set_option maxRecDepth 100000 in
theorem c_X5_worthOf (l : Launch) (G : va_G) (cI cZ : ClassId) (sa sb : Nat) (a0 : Int32) (o : Int32) (hf : f_X5_worthOf a0 = some o) : cd_Ct l G cI cZ sa sb yX5_worthOf wsX5_worthOf rm_X5_worthOf [.int a0] (([] : va_W)) (([] : va_W)) (some (.int o)) := by
  refine cd_of (cc := cX5_worthOf) (maxL := 4) (ret := (some .int)) (by decide) rfl (Nat.le_of_ble_eq_true rfl) ?_
  intro p e s m ag below meth c A ls Q C0 hl hw hQ
  have C0 : cd_CX G cI cZ sa sb p s m ag meth c cX5_worthOf 4 (some .int) wsX5_worthOf RX5 A := C0
  obtain ⟨⟨hx, hb, hml, hown, hts⟩, hr, hlocks, hA, hE⟩ := id C0
  have hK := hE.1
  have hL0 := hts (.fieldLink RX5 254 "CandleDebts" "ROW_WORTH" "[I") (by decide +kernel)
  have hl : lv_has ls 4 [(0, .int a0)] := hl
  unfold f_X5_worthOf at hf
  refine lv_iconst (v := (0 : Int32)) hx hb dX5_worthOf_0 (by decide) ?_
  refine lv_istore_n (lv' := [(1, .int (0 : Int32)), (0, .int a0)]) hx hb dX5_worthOf_1 rfl hl (by decide) rfl (fun ls hl => ?_)
  refine lv_iconst (v := (0 : Int32)) hx hb dX5_worthOf_2 (by decide) ?_
  refine lv_istore_n (lv' := [(2, .int (0 : Int32)), (1, .int (0 : Int32)), (0, .int a0)]) hx hb dX5_worthOf_3 rfl hl (by decide) rfl (fun ls hl => ?_)
  refine lv_iconst (v := (0 : Int32)) hx hb dX5_worthOf_4 (by decide) ?_
  refine lv_istore_n (lv' := [(3, .int (0 : Int32)), (2, .int (0 : Int32)), (1, .int (0 : Int32)), (0, .int a0)]) hx hb dX5_worthOf_5 rfl hl (by decide) rfl (fun ls hl => ?_)
  obtain ⟨x1, e1, hf⟩ := cd_bind_some hf
  have K1 : ∀ (t1 : Int32 × Int32), t1 = x1 → ∀ (ls : Array Slot) (H : Heap) (locs : List Loc), lv_has ls 4 [(1, .int t1.1), (2, .int t1.2)] → cd_WS G A s.heap H locs (([] : va_W)) → W p l e rm_X5_worthOf s m ag below meth c H locs 0 0 Q (F0 m 42 ls []) := by
    intro t1 hs_1
    subst hs_1
    intro ls H locs hl hw
    refine lv_iload_n hx hb dX5_worthOf_42 rfl (lv_at hl 0 rfl) ?_
    refine va_gets (v := .ref sa) hx hb hE.2.2.1 hw.2.2 hown hL0 (fun _ h9 => h9) dX5_worthOf_43 ?_
    refine lv_iload_n hx hb dX5_worthOf_46 rfl (lv_at hl 1 rfl) ?_
    obtain ⟨v6, e6, hf⟩ := cd_bind_some hf
    refine cd_siald hx hb hw hE.2.2.2.1 e6 dX5_worthOf_47 ?_
    refine lv_ixor hx hb dX5_worthOf_48 ?_
    have z : some (t1.1 ^^^ v6) = some o := hf
    cases z
    rw [hQ]
    exact cd_reti C0 hw dX5_worthOf_49
  refine cd_iter_ind (body := (f_X5_worthOf_b6 a0)) (K := fun r => r = x1) (P := fun (z1 : Int32 × Int32 × Int32) => ∀ (ls : Array Slot) (H : Heap) (locs : List Loc), lv_has ls 4 [(0, .int a0), (1, .int z1.1), (2, .int z1.2.1), (3, .int z1.2.2)] → cd_WS G A s.heap H locs (([] : va_W)) → W p l e rm_X5_worthOf s m ag below meth c H locs 0 0 Q (F0 m 6 ls [])) ?_ cd_N ((0 : Int32), (0 : Int32), (0 : Int32)) x1 e1 rfl _ _ _ (lv_sub hl [3, 2, 1, 0] rfl) hw
  intro z1 o1 hb1 hk1 ls H locs hl hw
  unfold f_X5_worthOf_b6 at hb1
  refine lv_iload_n hx hb dX5_worthOf_6 rfl (lv_at hl 3 rfl) ?_
  refine lv_bipush (v := (12 : Int32)) hx hb dX5_worthOf_7 (by decide) ?_
  refine lv_icmp_ge (tgt := 42) hx hb dX5_worthOf_9 (by decide) (fun c2 => ?_) (fun c2 => ?_)
  · have hb1 := cd_ite_t c2 hb1
    have z : some (Sum.inl (z1.1, z1.2.1)) = some o1 := hb1
    cases z
    exact K1 _ hk1 _ _ _ (lv_sub hl [1, 2] rfl) hw
  · have hb1 := cd_ite_f c2 hb1
    refine lv_iload_n hx hb dX5_worthOf_12 rfl (lv_at hl 0 rfl) ?_
    refine lv_iload_n hx hb dX5_worthOf_13 rfl (lv_at hl 3 rfl) ?_
    obtain ⟨r3, e3, hb1⟩ := cd_bind_some hb1
    refine cd_callS (As := [.int a0, .int z1.2.2]) (rest := []) C0 hw (c_X5_holds l G cI cZ sa sb a0 z1.2.2 r3 e3) [] rfl rfl (va_cwS 2 hts gX5_worthOf_X5_holds rfl rfl rfl (by decide +kernel) ⟨Nat.le_of_ble_eq_true rfl, Nat.le_of_ble_eq_true rfl⟩) rfl hl.1 (lv_room (Nat.le_of_ble_eq_true rfl)) dX5_worthOf_14 (fun H locs hw => ?_)
    refine lv_if_eq (tgt := 26) hx hb dX5_worthOf_17 (by decide) (fun c4 => ?_) (fun c4 => ?_)
    · have hb1 := cd_ite_t c4 hb1
      refine lv_iload_n hx hb dX5_worthOf_26 rfl (lv_at hl 1 rfl) ?_
      refine va_gets (v := .ref sa) hx hb hE.2.2.1 hw.2.2 hown hL0 (fun _ h9 => h9) dX5_worthOf_27 ?_
      refine lv_iload_n hx hb dX5_worthOf_30 rfl (lv_at hl 2 rfl) ?_
      obtain ⟨v5, e5, hb1⟩ := cd_bind_some hb1
      refine cd_siald hx hb hw hE.2.2.2.1 e5 dX5_worthOf_31 ?_
      refine lv_ixor hx hb dX5_worthOf_32 ?_
      refine lv_istore_n (lv' := [(1, .int (z1.1 ^^^ v5)), (0, .int a0), (2, .int z1.2.1), (3, .int z1.2.2)]) hx hb dX5_worthOf_33 rfl hl (by decide) rfl (fun ls hl => ?_)
      refine lv_iconst (v := (0 : Int32)) hx hb dX5_worthOf_34 (by decide) ?_
      refine lv_istore_n (lv' := [(2, .int (0 : Int32)), (1, .int (z1.1 ^^^ v5)), (0, .int a0), (3, .int z1.2.2)]) hx hb dX5_worthOf_35 rfl hl (by decide) rfl (fun ls hl => ?_)
      refine lv_iinc (v := (z1.2.2 + (1 : Int32))) (lv' := [(3, .int (z1.2.2 + (1 : Int32))), (2, .int (0 : Int32)), (1, .int (z1.1 ^^^ v5)), (0, .int a0)]) hx hb dX5_worthOf_36 hl (k := 3) rfl rfl (by decide) rfl (fun ls hl => ?_)
      refine lv_goto (tgt := 6) hx hb dX5_worthOf_39 (by decide) ?_
      have z : some (Sum.inr ((z1.1 ^^^ v5), (0 : Int32), (z1.2.2 + (1 : Int32)))) = some o1 := hb1
      cases z
      exact hk1 _ _ _ (lv_sub hl [3, 2, 1, 0] rfl) hw
    · have hb1 := cd_ite_f c4 hb1
      refine lv_iinc (v := (z1.2.1 + (1 : Int32))) (lv' := [(2, .int (z1.2.1 + (1 : Int32))), (0, .int a0), (1, .int z1.1), (3, .int z1.2.2)]) hx hb dX5_worthOf_20 hl (k := 2) rfl rfl (by decide) rfl (fun ls hl => ?_)
      refine lv_goto (tgt := 36) hx hb dX5_worthOf_23 (by decide) ?_
      refine lv_iinc (v := (z1.2.2 + (1 : Int32))) (lv' := [(3, .int (z1.2.2 + (1 : Int32))), (2, .int (z1.2.1 + (1 : Int32))), (0, .int a0), (1, .int z1.1)]) hx hb dX5_worthOf_36 hl (k := 3) rfl rfl (by decide) rfl (fun ls hl => ?_)
      refine lv_goto (tgt := 6) hx hb dX5_worthOf_39 (by decide) ?_
      have z : some (Sum.inr (z1.1, (z1.2.1 + (1 : Int32)), (z1.2.2 + (1 : Int32)))) = some o1 := hb1
      cases z
      exact hk1 _ _ _ (lv_sub hl [2, 3, 1, 0] rfl) hw
abbrev rm_X5_winningSnuff : Room := { frames := 2, cells := 0, slots := 0, locals := 44 }
set_option maxHeartbeats 4000000 in
set_option maxRecDepth 100000 in
theorem c_X5_winningSnuff (l : Launch) (G : va_G) (cI cZ : ClassId) (sa sb : Nat) (a0 : Int32) (o : Int32) (hf : f_X5_winningSnuff a0 = some o) : cd_Ct l G cI cZ sa sb yX5_winningSnuff wsX5_winningSnuff rm_X5_winningSnuff [.int a0] (([] : va_W)) (([] : va_W)) (some (.int o)) := by
  refine cd_of (cc := cX5_winningSnuff) (maxL := 3) (ret := (some .int)) (by decide) rfl (Nat.le_of_ble_eq_true rfl) ?_
  intro p e s m ag below meth c A ls Q C0 hl hw hQ
  have C0 : cd_CX G cI cZ sa sb p s m ag meth c cX5_winningSnuff 3 (some .int) wsX5_winningSnuff RX5 A := C0
  obtain ⟨⟨hx, hb, hml, hown, hts⟩, hr, hlocks, hA, hE⟩ := id C0
  have hK := hE.1
  have hl : lv_has ls 3 [(0, .int a0)] := hl
  unfold f_X5_winningSnuff at hf
  refine lv_iconst (v := (0 : Int32)) hx hb dX5_winningSnuff_0 (by decide) ?_
  refine lv_istore_n (lv' := [(1, .int (0 : Int32)), (0, .int a0)]) hx hb dX5_winningSnuff_1 rfl hl (by decide) rfl (fun ls hl => ?_)
  obtain ⟨x1, e1, hf⟩ := cd_bind_some hf
  have K1 : ∀ (t1 : Unit), Sum.inr t1 = x1 → ∀ (ls : Array Slot) (H : Heap) (locs : List Loc), lv_has ls 3 [] → cd_WS G A s.heap H locs (([] : va_W)) → W p l e rm_X5_winningSnuff s m ag below meth c H locs 0 0 Q (F0 m 54 ls []) := by
    intro t1 hs_1
    subst hs_1
    intro ls H locs hl hw
    refine lv_bipush (v := (-6 : Int32)) hx hb dX5_winningSnuff_54 (by decide) ?_
    have z : some (-6 : Int32) = some o := hf
    cases z
    rw [hQ]
    exact cd_reti C0 hw dX5_winningSnuff_56
  refine cd_iter_ind (body := (f_X5_winningSnuff_b2 a0)) (K := fun r => r = x1) (P := fun (z1 : Int32) => ∀ (ls : Array Slot) (H : Heap) (locs : List Loc), lv_has ls 3 [(0, .int a0), (1, .int z1)] → cd_WS G A s.heap H locs (([] : va_W)) → W p l e rm_X5_winningSnuff s m ag below meth c H locs 0 0 Q (F0 m 2 ls [])) ?_ cd_N (0 : Int32) x1 e1 rfl _ _ _ (lv_sub hl [1, 0] rfl) hw
  intro z1 o1 hb1 hk1 ls H locs hl hw
  unfold f_X5_winningSnuff_b2 at hb1
  refine lv_iload_n hx hb dX5_winningSnuff_2 rfl (lv_at hl 1 rfl) ?_
  refine lv_bipush (v := (12 : Int32)) hx hb dX5_winningSnuff_3 (by decide) ?_
  refine lv_icmp_ge (tgt := 54) hx hb dX5_winningSnuff_5 (by decide) (fun c2 => ?_) (fun c2 => ?_)
  · have hb1 := cd_ite_t c2 hb1
    have z : some (Sum.inl (Sum.inr ())) = some o1 := hb1
    cases z
    exact K1 _ hk1 _ _ _ (lv_sub hl [] rfl) hw
  · have hb1 := cd_ite_f c2 hb1
    refine lv_iload_n hx hb dX5_winningSnuff_8 rfl (lv_at hl 1 rfl) ?_
    obtain ⟨r3, e3, hb1⟩ := cd_bind_some hb1
    refine cd_callS (As := [.int z1]) (rest := []) C0 hw (c_X5_bit l G cI cZ sa sb z1 r3 e3) [] rfl rfl (va_cwS 1 hts gX5_winningSnuff_X5_bit rfl rfl rfl (by decide +kernel) ⟨Nat.le_of_ble_eq_true rfl, Nat.le_of_ble_eq_true rfl⟩) rfl hl.1 (lv_room (Nat.le_of_ble_eq_true rfl)) dX5_winningSnuff_9 (fun H locs hw => ?_)
    refine lv_iload_n hx hb dX5_winningSnuff_12 rfl (lv_at hl 1 rfl) ?_
    refine lv_iconst (v := (1 : Int32)) hx hb dX5_winningSnuff_13 (by decide) ?_
    refine lv_iadd hx hb dX5_winningSnuff_14 ?_
    obtain ⟨r4, e4, hb1⟩ := cd_bind_some hb1
    refine cd_callS (As := [.int (z1 + (1 : Int32))]) (rest := [.int r3]) C0 hw (c_X5_bit l G cI cZ sa sb (z1 + (1 : Int32)) r4 e4) [] rfl rfl (va_cwS 1 hts gX5_winningSnuff_X5_bit rfl rfl rfl (by decide +kernel) ⟨Nat.le_of_ble_eq_true rfl, Nat.le_of_ble_eq_true rfl⟩) rfl hl.1 (lv_room (Nat.le_of_ble_eq_true rfl)) dX5_winningSnuff_15 (fun H locs hw => ?_)
    refine lv_ior hx hb dX5_winningSnuff_18 ?_
    refine lv_iload_n hx hb dX5_winningSnuff_19 rfl (lv_at hl 1 rfl) ?_
    obtain ⟨r5, e5, hb1⟩ := cd_bind_some hb1
    refine cd_callS (As := [.int z1]) (rest := [.int (r3 ||| r4)]) C0 hw (c_X5_bit l G cI cZ sa sb z1 r5 e5) [] rfl rfl (va_cwS 1 hts gX5_winningSnuff_X5_bit rfl rfl rfl (by decide +kernel) ⟨Nat.le_of_ble_eq_true rfl, Nat.le_of_ble_eq_true rfl⟩) rfl hl.1 (lv_room (Nat.le_of_ble_eq_true rfl)) dX5_winningSnuff_20 (fun H locs hw => ?_)
    refine lv_iconst (v := (1 : Int32)) hx hb dX5_winningSnuff_23 (by decide) ?_
    refine lv_ishr hx hb dX5_winningSnuff_24 ?_
    refine lv_ior hx hb dX5_winningSnuff_25 ?_
    refine lv_istore_n (lv' := [(2, .int ((r3 ||| r4) ||| (r5 >>> ((1 : Int32) &&& 31)))), (0, .int a0), (1, .int z1)]) hx hb dX5_winningSnuff_26 rfl hl (by decide) rfl (fun ls hl => ?_)
    refine lv_iload_n hx hb dX5_winningSnuff_27 rfl (lv_at hl 1 rfl) ?_
    refine lv_iload_n hx hb dX5_winningSnuff_28 rfl (lv_at hl 2 rfl) ?_
    obtain ⟨r6, e6, hb1⟩ := cd_bind_some hb1
    refine cd_callS (As := [.int a0, .int z1]) (rest := []) C0 hw (c_X5_holds l G cI cZ sa sb a0 z1 r6 e6) [] rfl rfl (va_cwS 2 hts gX5_winningSnuff_X5_holds rfl rfl rfl (by decide +kernel) ⟨Nat.le_of_ble_eq_true rfl, Nat.le_of_ble_eq_true rfl⟩) rfl hl.1 (lv_room (Nat.le_of_ble_eq_true rfl)) dX5_winningSnuff_29 (fun H locs hw => ?_)
    refine lv_if_eq (tgt := 48) hx hb dX5_winningSnuff_32 (by decide) (fun c7 => ?_) (fun c7 => ?_)
    · have hb1 := cd_ite_t c7 hb1
      refine lv_iinc (v := (z1 + (1 : Int32))) (lv' := [(1, .int (z1 + (1 : Int32))), (2, .int ((r3 ||| r4) ||| (r5 >>> ((1 : Int32) &&& 31)))), (0, .int a0)]) hx hb dX5_winningSnuff_48 hl (k := 2) rfl rfl (by decide) rfl (fun ls hl => ?_)
      refine lv_goto (tgt := 2) hx hb dX5_winningSnuff_51 (by decide) ?_
      have z : some (Sum.inr (z1 + (1 : Int32))) = some o1 := hb1
      cases z
      exact hk1 _ _ _ (lv_sub hl [2, 0] rfl) hw
    · have hb1 := cd_ite_f c7 hb1
      refine lv_iload_n hx hb dX5_winningSnuff_35 rfl (lv_at hl 1 rfl) ?_
      refine lv_iload_n hx hb dX5_winningSnuff_36 rfl (lv_at hl 0 rfl) ?_
      refine lv_iconst (v := (-1 : Int32)) hx hb dX5_winningSnuff_37 (by decide) ?_
      refine lv_ixor hx hb dX5_winningSnuff_38 ?_
      refine lv_iand hx hb dX5_winningSnuff_39 ?_
      obtain ⟨r8, e8, hb1⟩ := cd_bind_some hb1
      refine cd_callS (As := [.int (a0 &&& (((r3 ||| r4) ||| (r5 >>> ((1 : Int32) &&& 31))) ^^^ (-1 : Int32)))]) (rest := []) C0 hw (c_X5_worthOf l G cI cZ sa sb (a0 &&& (((r3 ||| r4) ||| (r5 >>> ((1 : Int32) &&& 31))) ^^^ (-1 : Int32))) r8 e8) [] rfl rfl (va_cwS 1 hts gX5_winningSnuff_X5_worthOf rfl rfl rfl (by decide +kernel) ⟨Nat.le_of_ble_eq_true rfl, Nat.le_of_ble_eq_true rfl⟩) rfl hl.1 (lv_room (Nat.le_of_ble_eq_true rfl)) dX5_winningSnuff_40 (fun H locs hw => ?_)
      refine lv_if_ne (tgt := 48) hx hb dX5_winningSnuff_43 (by decide) (fun c9 => ?_) (fun c9 => ?_)
      · have hb1 := cd_ite_f c9 hb1
        refine lv_iinc (v := (z1 + (1 : Int32))) (lv' := [(1, .int (z1 + (1 : Int32))), (2, .int ((r3 ||| r4) ||| (r5 >>> ((1 : Int32) &&& 31)))), (0, .int a0)]) hx hb dX5_winningSnuff_48 hl (k := 2) rfl rfl (by decide) rfl (fun ls hl => ?_)
        refine lv_goto (tgt := 2) hx hb dX5_winningSnuff_51 (by decide) ?_
        have z : some (Sum.inr (z1 + (1 : Int32))) = some o1 := hb1
        cases z
        exact hk1 _ _ _ (lv_sub hl [2, 0] rfl) hw
      · have hb1 := cd_ite_t c9 hb1
        refine lv_iload_n hx hb dX5_winningSnuff_46 rfl (lv_at hl 2 rfl) ?_
        have z : some (Sum.inl (Sum.inl z1)) = some o1 := hb1
        cases z
        have y1 : Sum.inl z1 = x1 := hk1
        subst y1
        have z : some z1 = some o := hf
        cases z
        rw [hQ]
        exact cd_reti C0 hw dX5_winningSnuff_47
