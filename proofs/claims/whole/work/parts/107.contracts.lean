abbrev rm_X6_accounts : Room := { frames := 2, cells := 0, slots := 0, locals := 47 }
theorem nw_X6_accounts_X6 : ∀ w ∈ u_ws RX6 TX6 22, w ∈ wsX6_accounts := by decide +kernel
set_option maxHeartbeats 4000000 in
set_option maxRecDepth 100000 in
theorem c_X6_accounts (l : Launch) (G : va_G) (cI cZ : ClassId) (sa sb : Nat) (h : Nat → Nat) (M : Nat → Nat → Int32) (a0 : Int32) (a1 : Int32) (o : Int32 × (Nat → Nat → Int32)) (hf : f_X6_accounts a0 a1 M = some o) : cd_Ct l G cI cZ sa sb yX6_accounts wsX6_accounts rm_X6_accounts [.ref (h 0), .int a0, .int a1] ((pc_mod cI cZ h M)) ((pc_mod cI cZ h o.2)) (some (.int o.1)) := by
  refine cd_of (cc := cX6_accounts) (maxL := 5) (ret := (some .int)) (by decide) rfl (Nat.le_of_ble_eq_true rfl) ?_
  intro p e s m ag below meth c A ls Q C0 hl hw hQ
  have C0 : cd_CX G cI cZ sa sb p s m ag meth c cX6_accounts 5 (some .int) wsX6_accounts RX6 A := C0
  obtain ⟨⟨hx, hb, hml, hown, hts⟩, hr, hlocks, hA, hE⟩ := id C0
  have hK := hE.1
  have hL0 := hts (.fieldLink RX6 31 "CandleDebtsModel" "last" "[I") (by decide +kernel)
  have hl : lv_has ls 5 [(0, .ref (h 0)), (1, .int a0), (2, .int a1)] := hl
  unfold f_X6_accounts at hf
  refine lv_iload_n hx hb dX6_accounts_0 rfl (lv_at hl 1 rfl) ?_
  refine lv_iconst (v := (1 : Int32)) hx hb dX6_accounts_1 (by decide) ?_
  refine lv_bipush (v := (99 : Int32)) hx hb dX6_accounts_2 (by decide) ?_
  obtain ⟨r1, e1, hf⟩ := cd_bind_some hf
  refine cd_callS (As := [.int a0, .int (1 : Int32), .int (99 : Int32)]) (rest := []) C0 hw (c_X6_in l G cI cZ sa sb a0 (1 : Int32) (99 : Int32) r1 e1) [] rfl rfl (va_cwS 3 hts gX6_accounts_X6_in rfl rfl rfl (by decide +kernel) ⟨Nat.le_of_ble_eq_true rfl, Nat.le_of_ble_eq_true rfl⟩) rfl hl.1 (lv_room (Nat.le_of_ble_eq_true rfl)) dX6_accounts_4 (fun H locs hw => ?_)
  refine lv_if_eq (tgt := 19) hx hb dX6_accounts_7 (by decide) (fun c2 => ?_) (fun c2 => ?_)
  · have hf := cd_ite_t c2 hf
    refine lv_bipush (v := (-2 : Int32)) hx hb dX6_accounts_19 (by decide) ?_
    have z : some ((-2 : Int32), M) = some o := hf
    cases z
    rw [hQ]
    exact cd_reti C0 hw dX6_accounts_21
  · have hf := cd_ite_f c2 hf
    refine lv_iload_n hx hb dX6_accounts_10 rfl (lv_at hl 2 rfl) ?_
    refine lv_iconst (v := (0 : Int32)) hx hb dX6_accounts_11 (by decide) ?_
    refine lv_iconst (v := (1 : Int32)) hx hb dX6_accounts_12 (by decide) ?_
    obtain ⟨r3, e3, hf⟩ := cd_bind_some hf
    refine cd_callS (As := [.int a1, .int (0 : Int32), .int (1 : Int32)]) (rest := []) C0 hw (c_X6_in l G cI cZ sa sb a1 (0 : Int32) (1 : Int32) r3 e3) [] rfl rfl (va_cwS 3 hts gX6_accounts_X6_in rfl rfl rfl (by decide +kernel) ⟨Nat.le_of_ble_eq_true rfl, Nat.le_of_ble_eq_true rfl⟩) rfl hl.1 (lv_room (Nat.le_of_ble_eq_true rfl)) dX6_accounts_13 (fun H locs hw => ?_)
    refine lv_if_ne (tgt := 22) hx hb dX6_accounts_16 (by decide) (fun c4 => ?_) (fun c4 => ?_)
    · have hf := cd_ite_f c4 hf
      refine lv_iconst (v := (0 : Int32)) hx hb dX6_accounts_22 (by decide) ?_
      refine lv_istore_n (lv' := [(3, .int (0 : Int32)), (0, .ref (h 0)), (1, .int a0), (2, .int a1)]) hx hb dX6_accounts_23 rfl hl (by decide) rfl (fun ls hl => ?_)
      obtain ⟨x5, e5, hf⟩ := cd_bind_some hf
      have K5 : ∀ (t5 : (Nat → Nat → Int32)), t5 = x5 → ∀ (ls : Array Slot) (H : Heap) (locs : List Loc), lv_has ls 5 [(0, .ref (h 0)), (1, .int a0), (2, .int a1)] → cd_WS G A s.heap H locs ((pc_mod cI cZ h t5)) → W p l e rm_X6_accounts s m ag below meth c H locs 0 0 Q (F0 m 47 ls []) := by
        intro t5 hs_5
        subst hs_5
        intro ls H locs hl hw
        refine lv_iconst (v := (0 : Int32)) hx hb dX6_accounts_47 (by decide) ?_
        refine lv_istore_n (lv' := [(3, .int (0 : Int32)), (0, .ref (h 0)), (1, .int a0), (2, .int a1)]) hx hb dX6_accounts_48 rfl hl (by decide) rfl (fun ls hl => ?_)
        refine lv_iconst (v := (0 : Int32)) hx hb dX6_accounts_49 (by decide) ?_
        refine lv_istore (lv' := [(4, .int (0 : Int32)), (3, .int (0 : Int32)), (0, .ref (h 0)), (1, .int a0), (2, .int a1)]) hx hb dX6_accounts_50 hl (by decide) rfl (fun ls hl => ?_)
        obtain ⟨x9, e9, hf⟩ := cd_bind_some hf
        have K9 : ∀ (t9 : Int32), t9 = x9 → ∀ (ls : Array Slot) (H : Heap) (locs : List Loc), lv_has ls 5 [(2, .int a1), (3, .int t9)] → cd_WS G A s.heap H locs ((pc_mod cI cZ h t5)) → W p l e rm_X6_accounts s m ag below meth c H locs 0 0 Q (F0 m 95 ls []) := by
          intro t9 hs_9
          subst hs_9
          intro ls H locs hl hw
          refine lv_iload_n hx hb dX6_accounts_95 rfl (lv_at hl 0 rfl) ?_
          refine lv_iconst (v := (1 : Int32)) hx hb dX6_accounts_96 (by decide) ?_
          obtain ⟨x16, e16, hf⟩ := cd_bind_some hf
          have K16 : ∀ (ls : Array Slot) (H : Heap) (locs : List Loc), lv_has ls 5 [] → cd_WS G A s.heap H locs ((pc_mod cI cZ h t5)) → W p l e rm_X6_accounts s m ag below meth c H locs 0 0 Q (F0 m 108 ls [.int x16]) := by
            intro ls H locs hl hw
            have z : some (x16, t5) = some o := hf
            cases z
            rw [hQ]
            exact cd_reti C0 hw dX6_accounts_108
          refine lv_icmp_ne (tgt := 104) hx hb dX6_accounts_97 (by decide) (fun c16 => ?_) (fun c16 => ?_)
          · have e16 := cd_ite_f c16 e16
            refine lv_iload_n hx hb dX6_accounts_104 rfl (lv_at hl 1 rfl) ?_
            obtain ⟨r17, e17, e16⟩ := cd_bind_some e16
            refine cd_callS (As := [.int t9]) (rest := []) C0 hw (c_X6_bits l G cI cZ sa sb t9 r17 e17) [] rfl rfl (va_cwS 1 hts gX6_accounts_X6_bits rfl rfl rfl (by decide +kernel) ⟨Nat.le_of_ble_eq_true rfl, Nat.le_of_ble_eq_true rfl⟩) rfl hl.1 (lv_room (Nat.le_of_ble_eq_true rfl)) dX6_accounts_105 (fun H locs hw => ?_)
            have z : some r17 = some x16 := e16
            cases z
            exact K16 _ _ _ (lv_sub hl [] rfl) hw
          · have e16 := cd_ite_t c16 e16
            refine lv_iload_n hx hb dX6_accounts_100 rfl (lv_at hl 1 rfl) ?_
            refine lv_goto (tgt := 108) hx hb dX6_accounts_101 (by decide) ?_
            have z : some t9 = some x16 := e16
            cases z
            exact K16 _ _ _ (lv_sub hl [] rfl) hw
        refine cd_iter_ind (body := (f_X6_accounts_b52 a0 t5)) (K := fun r => r = x9) (P := fun (z9 : Int32 × Int32) => ∀ (ls : Array Slot) (H : Heap) (locs : List Loc), lv_has ls 5 [(0, .ref (h 0)), (1, .int a0), (2, .int a1), (3, .int z9.1), (4, .int z9.2)] → cd_WS G A s.heap H locs ((pc_mod cI cZ h t5)) → W p l e rm_X6_accounts s m ag below meth c H locs 0 0 Q (F0 m 52 ls [])) ?_ cd_N ((0 : Int32), (0 : Int32)) x9 e9 rfl _ _ _ (lv_sub hl [2, 3, 4, 1, 0] rfl) hw
        intro z9 o9 hb9 hk9 ls H locs hl hw
        unfold f_X6_accounts_b52 at hb9
        refine lv_iload hx hb dX6_accounts_52 (lv_at hl 4 rfl) ?_
        refine lv_sipush (v := (4096 : Int32)) hx hb dX6_accounts_54 (by decide) ?_
        refine lv_icmp_ge (tgt := 95) hx hb dX6_accounts_57 (by decide) (fun c10 => ?_) (fun c10 => ?_)
        · have hb9 := cd_ite_t c10 hb9
          have z : some (Sum.inl z9.1) = some o9 := hb9
          cases z
          exact K9 _ hk9 _ _ _ (lv_sub hl [2, 3] rfl) hw
        · have hb9 := cd_ite_f c10 hb9
          refine lv_iload hx hb dX6_accounts_60 (lv_at hl 4 rfl) ?_
          obtain ⟨r11, e11, hb9⟩ := cd_bind_some hb9
          refine cd_callS (As := [.int z9.2]) (rest := []) C0 hw (c_X6_bits l G cI cZ sa sb z9.2 r11 e11) [] rfl rfl (va_cwS 1 hts gX6_accounts_X6_bits rfl rfl rfl (by decide +kernel) ⟨Nat.le_of_ble_eq_true rfl, Nat.le_of_ble_eq_true rfl⟩) rfl hl.1 (lv_room (Nat.le_of_ble_eq_true rfl)) dX6_accounts_62 (fun H locs hw => ?_)
          refine lv_iload_n hx hb dX6_accounts_65 rfl (lv_at hl 3 rfl) ?_
          obtain ⟨r12, e12, hb9⟩ := cd_bind_some hb9
          refine cd_callS (As := [.int z9.1]) (rest := [.int r11]) C0 hw (c_X6_bits l G cI cZ sa sb z9.1 r12 e12) [] rfl rfl (va_cwS 1 hts gX6_accounts_X6_bits rfl rfl rfl (by decide +kernel) ⟨Nat.le_of_ble_eq_true rfl, Nat.le_of_ble_eq_true rfl⟩) rfl hl.1 (lv_room (Nat.le_of_ble_eq_true rfl)) dX6_accounts_66 (fun H locs hw => ?_)
          refine lv_icmp_le (tgt := 87) hx hb dX6_accounts_69 (by decide) (fun c13 => ?_) (fun c13 => ?_)
          · have hb9 := cd_ite_t c13 hb9
            refine lv_iload_n hx hb dX6_accounts_87 rfl (lv_at hl 3 rfl) ?_
            refine lv_istore_n (lv' := [(3, .int z9.1), (0, .ref (h 0)), (1, .int a0), (2, .int a1), (4, .int z9.2)]) hx hb dX6_accounts_88 rfl hl (by decide) rfl (fun ls hl => ?_)
            refine lv_iinc (v := (z9.2 + (1 : Int32))) (lv' := [(4, .int (z9.2 + (1 : Int32))), (3, .int z9.1), (0, .ref (h 0)), (1, .int a0), (2, .int a1)]) hx hb dX6_accounts_89 hl (k := 4) rfl rfl (by decide) rfl (fun ls hl => ?_)
            refine lv_goto (tgt := 52) hx hb dX6_accounts_92 (by decide) ?_
            have z : some (Sum.inr (z9.1, (z9.2 + (1 : Int32)))) = some o9 := hb9
            cases z
            exact hk9 _ _ _ (lv_sub hl [2, 3, 4, 1, 0] rfl) hw
          · have hb9 := cd_ite_f c13 hb9
            refine lv_aload_n hx hb dX6_accounts_72 rfl (lv_at hl 0 rfl) ?_
            refine lv_iload hx hb dX6_accounts_73 (lv_at hl 4 rfl) ?_
            refine lv_iload_n hx hb dX6_accounts_75 rfl (lv_at hl 1 rfl) ?_
            obtain ⟨r14, e14, hb9⟩ := cd_bind_some hb9
            refine cd_callV (As := [.int z9.2, .int a0]) (rest := []) C0 hw (c_X6_canRead l G cI cZ sa sb h t5 z9.2 a0 r14 e14) [0, 1, 2, 3, 4, 5, 6, 7, 8, 9, 10, 11, 12, 13, 14] rfl rfl 0 6 rfl rfl rfl (cwV 2 hts gX6_accounts_X6_canRead rfl rfl rfl (by decide +kernel) ⟨Nat.le_of_ble_eq_true rfl, Nat.le_of_ble_eq_true rfl⟩) rfl hl.1 (lv_room (Nat.le_of_ble_eq_true rfl)) dX6_accounts_76 (fun H locs hw => ?_)
            refine lv_if_eq (tgt := 87) hx hb dX6_accounts_79 (by decide) (fun c15 => ?_) (fun c15 => ?_)
            · have hb9 := cd_ite_t c15 hb9
              refine lv_iload_n hx hb dX6_accounts_87 rfl (lv_at hl 3 rfl) ?_
              refine lv_istore_n (lv' := [(3, .int z9.1), (0, .ref (h 0)), (1, .int a0), (2, .int a1), (4, .int z9.2)]) hx hb dX6_accounts_88 rfl hl (by decide) rfl (fun ls hl => ?_)
              refine lv_iinc (v := (z9.2 + (1 : Int32))) (lv' := [(4, .int (z9.2 + (1 : Int32))), (3, .int z9.1), (0, .ref (h 0)), (1, .int a0), (2, .int a1)]) hx hb dX6_accounts_89 hl (k := 4) rfl rfl (by decide) rfl (fun ls hl => ?_)
              refine lv_goto (tgt := 52) hx hb dX6_accounts_92 (by decide) ?_
              have z : some (Sum.inr (z9.1, (z9.2 + (1 : Int32)))) = some o9 := hb9
              cases z
              exact hk9 _ _ _ (lv_sub hl [2, 3, 4, 1, 0] rfl) hw
            · have hb9 := cd_ite_f c15 hb9
              refine lv_iload hx hb dX6_accounts_82 (lv_at hl 4 rfl) ?_
              refine lv_goto (tgt := 88) hx hb dX6_accounts_84 (by decide) ?_
              refine lv_istore_n (lv' := [(3, .int z9.2), (0, .ref (h 0)), (1, .int a0), (2, .int a1), (4, .int z9.2)]) hx hb dX6_accounts_88 rfl hl (by decide) rfl (fun ls hl => ?_)
              refine lv_iinc (v := (z9.2 + (1 : Int32))) (lv' := [(4, .int (z9.2 + (1 : Int32))), (3, .int z9.2), (0, .ref (h 0)), (1, .int a0), (2, .int a1)]) hx hb dX6_accounts_89 hl (k := 4) rfl rfl (by decide) rfl (fun ls hl => ?_)
              refine lv_goto (tgt := 52) hx hb dX6_accounts_92 (by decide) ?_
              have z : some (Sum.inr (z9.2, (z9.2 + (1 : Int32)))) = some o9 := hb9
              cases z
              exact hk9 _ _ _ (lv_sub hl [2, 3, 4, 1, 0] rfl) hw
      refine cd_iter_ind (body := f_X6_accounts_b24) (K := fun r => r = x5) (P := fun (z5 : Int32 × (Nat → Nat → Int32)) => ∀ (ls : Array Slot) (H : Heap) (locs : List Loc), lv_has ls 5 [(0, .ref (h 0)), (1, .int a0), (2, .int a1), (3, .int z5.1)] → cd_WS G A s.heap H locs ((pc_mod cI cZ h z5.2)) → W p l e rm_X6_accounts s m ag below meth c H locs 0 0 Q (F0 m 24 ls [])) ?_ cd_N ((0 : Int32), M) x5 e5 rfl _ _ _ (lv_sub hl [1, 2, 3, 0] rfl) hw
      intro z5 o5 hb5 hk5 ls H locs hl hw
      unfold f_X6_accounts_b24 at hb5
      refine lv_iload_n hx hb dX6_accounts_24 rfl (lv_at hl 3 rfl) ?_
      refine lv_bipush (v := (12 : Int32)) hx hb dX6_accounts_25 (by decide) ?_
      refine lv_icmp_ge (tgt := 47) hx hb dX6_accounts_27 (by decide) (fun c6 => ?_) (fun c6 => ?_)
      · have hb5 := cd_ite_t c6 hb5
        have z : some (Sum.inl z5.2) = some o5 := hb5
        cases z
        exact K5 _ hk5 _ _ _ (lv_sub hl [0, 1, 2] rfl) hw
      · have hb5 := cd_ite_f c6 hb5
        refine lv_aload_n hx hb dX6_accounts_30 rfl (lv_at hl 0 rfl) ?_
        refine va_get (D := G) (ci := 6) (v := .ref (h 8)) (C := RX6) (T := TX6) (N := 22) hx hb hts nw_X6_accounts_X6 hown hK hw.1 0 rfl rfl 15 (by decide) hL0 (fun _ h9 => h9) rfl dX6_accounts_31 ?_
        refine lv_iload_n hx hb dX6_accounts_34 rfl (lv_at hl 3 rfl) ?_
        refine lv_aload_n hx hb dX6_accounts_35 rfl (lv_at hl 0 rfl) ?_
        refine lv_iload_n hx hb dX6_accounts_36 rfl (lv_at hl 3 rfl) ?_
        obtain ⟨r7, e7, hb5⟩ := cd_bind_some hb5
        refine cd_callVw (As := [.int z5.1]) (rest := [.int z5.1, .ref (h 8)]) (wr := ([] : va_W)) (wn := (pc_mod cI cZ h r7.2)) C0 hw (c_X6_lastsOf l G cI cZ sa sb h z5.2 z5.1 r7 e7) [0, 1, 2, 3, 4, 5, 6, 7, 8, 9, 10, 11, 12, 13, 14] [] [0, 1, 2, 3, 4, 5, 6, 7, 8, 9, 10, 11, 12, 13, 14] rfl rfl rfl rfl (by decide) rfl rfl 0 6 rfl rfl rfl (cwV 1 hts gX6_accounts_X6_lastsOf rfl rfl rfl (by decide +kernel) ⟨Nat.le_of_ble_eq_true rfl, Nat.le_of_ble_eq_true rfl⟩) rfl hl.1 (lv_room (Nat.le_of_ble_eq_true rfl)) dX6_accounts_37 (fun H locs hw => ?_)
        obtain ⟨j8, e8, hb5⟩ := cd_bind_some hb5
        refine cd_iast (f := r7.2 15) hx hb hK hw 8 rfl e8 dX6_accounts_40 (fun H locs hw => ?_)
        have hw : cd_WS G A s.heap H locs ((pc_mod cI cZ h (cd_set r7.2 15 j8 r7.1))) := (show ∀ (s9 : Nat → Nat → Int32) (y9 : Int32), cd_WS G A s.heap H locs (((pc_mod cI cZ h s9)).set 8 (h 8, .inl (cI, 12, .inl (upd (s9 15) j8 y9)))) → cd_WS G A s.heap H locs ((pc_mod cI cZ h (cd_set s9 15 j8 y9))) from fun _ _ hh => hh) r7.2 r7.1 hw
        refine lv_iinc (v := (z5.1 + (1 : Int32))) (lv' := [(3, .int (z5.1 + (1 : Int32))), (0, .ref (h 0)), (1, .int a0), (2, .int a1)]) hx hb dX6_accounts_41 hl (k := 3) rfl rfl (by decide) rfl (fun ls hl => ?_)
        refine lv_goto (tgt := 24) hx hb dX6_accounts_44 (by decide) ?_
        have z : some (Sum.inr ((z5.1 + (1 : Int32)), (cd_set r7.2 15 j8 r7.1))) = some o5 := hb5
        cases z
        exact hk5 _ _ _ (lv_sub hl [1, 2, 3, 0] rfl) hw
    · have hf := cd_ite_t c4 hf
      refine lv_bipush (v := (-2 : Int32)) hx hb dX6_accounts_19 (by decide) ?_
      have z : some ((-2 : Int32), M) = some o := hf
      cases z
      rw [hQ]
      exact cd_reti C0 hw dX6_accounts_21
abbrev rm_X6_isLit : Room := { frames := 1, cells := 0, slots := 0, locals := 21 }
theorem nw_X6_isLit_X6 : ∀ w ∈ u_ws RX6 TX6 22, w ∈ wsX6_isLit := by decide +kernel
set_option maxHeartbeats 4000000 in
set_option maxRecDepth 100000 in
theorem c_X6_isLit (l : Launch) (G : va_G) (cI cZ : ClassId) (sa sb : Nat) (h : Nat → Nat) (M : Nat → Nat → Int32) (a0 : Int32) (o : Int32) (hf : f_X6_isLit a0 M = some o) : cd_Ct l G cI cZ sa sb yX6_isLit wsX6_isLit rm_X6_isLit [.ref (h 0), .int a0] ((pc_mod cI cZ h M)) ((pc_mod cI cZ h M)) (some (.int o)) := by
  refine cd_of (cc := cX6_isLit) (maxL := 2) (ret := (some .boolean)) (by decide) rfl (Nat.le_of_ble_eq_true rfl) ?_
  intro p e s m ag below meth c A ls Q C0 hl hw hQ
  have C0 : cd_CX G cI cZ sa sb p s m ag meth c cX6_isLit 2 (some .boolean) wsX6_isLit RX6 A := C0
  obtain ⟨⟨hx, hb, hml, hown, hts⟩, hr, hlocks, hA, hE⟩ := id C0
  have hK := hE.1
  have hL0 := hts (.fieldLink RX6 13 "CandleDebtsModel" "now" "[I") (by decide +kernel)
  have hl : lv_has ls 2 [(0, .ref (h 0)), (1, .int a0)] := hl
  unfold f_X6_isLit at hf
  refine lv_aload_n hx hb dX6_isLit_0 rfl (lv_at hl 0 rfl) ?_
  refine va_get (D := G) (ci := 6) (v := .ref (h 2)) (C := RX6) (T := TX6) (N := 22) hx hb hts nw_X6_isLit_X6 hown hK hw.1 0 rfl rfl 1 (by decide) hL0 (fun _ h9 => h9) rfl dX6_isLit_1 ?_
  refine lv_bipush (v := (66 : Int32)) hx hb dX6_isLit_4 (by decide) ?_
  obtain ⟨v1, e1, hf⟩ := cd_bind_some hf
  refine cd_iald hx hb hK hw 2 rfl e1 dX6_isLit_6 ?_
  refine lv_iload_n hx hb dX6_isLit_7 rfl (lv_at hl 1 rfl) ?_
  obtain ⟨r2, e2, hf⟩ := cd_bind_some hf
  refine cd_callS (As := [.int v1, .int a0]) (rest := []) C0 hw (c_X6_isIn l G cI cZ sa sb v1 a0 r2 e2) [] rfl rfl (va_cwS 2 hts gX6_isLit_X6_isIn rfl rfl rfl (by decide +kernel) ⟨Nat.le_of_ble_eq_true rfl, Nat.le_of_ble_eq_true rfl⟩) rfl hl.1 (lv_room (Nat.le_of_ble_eq_true rfl)) dX6_isLit_8 (fun H locs hw => ?_)
  obtain ⟨u3, e3, hf⟩ := cd_bind_some hf
  have z : some r2 = some o := hf
  cases z
  rw [hQ]
  exact cd_retz C0 hw (cd_zb_eq e3) dX6_isLit_11
abbrev rm_X6_askFor : Room := { frames := 2, cells := 0, slots := 0, locals := 42 }
theorem nw_X6_askFor_X6 : ∀ w ∈ u_ws RX6 TX6 22, w ∈ wsX6_askFor := by decide +kernel
set_option maxHeartbeats 4000000 in
set_option maxRecDepth 100000 in
theorem c_X6_askFor (l : Launch) (G : va_G) (cI cZ : ClassId) (sa sb : Nat) (h : Nat → Nat) (M : Nat → Nat → Int32) (a0 : Int32) (o : Int32 × (Nat → Nat → Int32)) (hf : f_X6_askFor a0 M = some o) : cd_Ct l G cI cZ sa sb yX6_askFor wsX6_askFor rm_X6_askFor [.ref (h 0), .int a0] ((pc_mod cI cZ h M)) ((pc_mod cI cZ h o.2)) (some (.int o.1)) := by
  refine cd_of (cc := cX6_askFor) (maxL := 5) (ret := (some .int)) (by decide) rfl (Nat.le_of_ble_eq_true rfl) ?_
  intro p e s m ag below meth c A ls Q C0 hl hw hQ
  have C0 : cd_CX G cI cZ sa sb p s m ag meth c cX6_askFor 5 (some .int) wsX6_askFor RX6 A := C0
  obtain ⟨⟨hx, hb, hml, hown, hts⟩, hr, hlocks, hA, hE⟩ := id C0
  have hK := hE.1
  have hL0 := hts (.fieldLink RX6 13 "CandleDebtsModel" "now" "[I") (by decide +kernel)
  have hL1 := hts (.fieldLink RX6 19 "CandleDebtsModel" "debtor" "[I") (by decide +kernel)
  have hL2 := hts (.fieldLink RX6 16 "CandleDebtsModel" "creditor" "[I") (by decide +kernel)
  have hL3 := hts (.fieldLink RX6 82 "CandleDebtsModel" "paid" "I") (by decide +kernel)
  have hl : lv_has ls 5 [(0, .ref (h 0)), (1, .int a0)] := hl
  unfold f_X6_askFor at hf
  refine lv_aload_n hx hb dX6_askFor_0 rfl (lv_at hl 0 rfl) ?_
  refine lv_iload_n hx hb dX6_askFor_1 rfl (lv_at hl 1 rfl) ?_
  obtain ⟨r1, e1, hf⟩ := cd_bind_some hf
  refine cd_callV (As := [.int a0]) (rest := []) C0 hw (c_X6_isLit l G cI cZ sa sb h M a0 r1 e1) [0, 1, 2, 3, 4, 5, 6, 7, 8, 9, 10, 11, 12, 13, 14] rfl rfl 0 6 rfl rfl rfl (cwV 1 hts gX6_askFor_X6_isLit rfl rfl rfl (by decide +kernel) ⟨Nat.le_of_ble_eq_true rfl, Nat.le_of_ble_eq_true rfl⟩) rfl hl.1 (lv_room (Nat.le_of_ble_eq_true rfl)) dX6_askFor_2 (fun H locs hw => ?_)
  refine lv_if_ne (tgt := 10) hx hb dX6_askFor_5 (by decide) (fun c2 => ?_) (fun c2 => ?_)
  · have hf := cd_ite_f c2 hf
    refine lv_aload_n hx hb dX6_askFor_10 rfl (lv_at hl 0 rfl) ?_
    refine va_get (D := G) (ci := 6) (v := .ref (h 2)) (C := RX6) (T := TX6) (N := 22) hx hb hts nw_X6_askFor_X6 hown hK hw.1 0 rfl rfl 1 (by decide) hL0 (fun _ h9 => h9) rfl dX6_askFor_11 ?_
    refine lv_bipush (v := (12 : Int32)) hx hb dX6_askFor_14 (by decide) ?_
    refine lv_iload_n hx hb dX6_askFor_16 rfl (lv_at hl 1 rfl) ?_
    refine lv_iadd hx hb dX6_askFor_17 ?_
    obtain ⟨v3, e3, hf⟩ := cd_bind_some hf
    refine cd_iald hx hb hK hw 2 rfl e3 dX6_askFor_18 ?_
    refine lv_if_ne (tgt := 24) hx hb dX6_askFor_19 (by decide) (fun c4 => ?_) (fun c4 => ?_)
    · have hf := cd_ite_f c4 hf
      refine lv_bipush (v := (60 : Int32)) hx hb dX6_askFor_24 (by decide) ?_
      refine lv_aload_n hx hb dX6_askFor_26 rfl (lv_at hl 0 rfl) ?_
      refine va_get (D := G) (ci := 6) (v := .ref (h 4)) (C := RX6) (T := TX6) (N := 22) hx hb hts nw_X6_askFor_X6 hown hK hw.1 0 rfl rfl 3 (by decide) hL1 (fun _ h9 => h9) rfl dX6_askFor_27 ?_
      refine lv_iload_n hx hb dX6_askFor_30 rfl (lv_at hl 1 rfl) ?_
      obtain ⟨v5, e5, hf⟩ := cd_bind_some hf
      refine cd_iald hx hb hK hw 4 rfl e5 dX6_askFor_31 ?_
      refine lv_iadd hx hb dX6_askFor_32 ?_
      refine lv_istore_n (lv' := [(2, .int ((60 : Int32) + v5)), (0, .ref (h 0)), (1, .int a0)]) hx hb dX6_askFor_33 rfl hl (by decide) rfl (fun ls hl => ?_)
      refine lv_bipush (v := (60 : Int32)) hx hb dX6_askFor_34 (by decide) ?_
      refine lv_aload_n hx hb dX6_askFor_36 rfl (lv_at hl 1 rfl) ?_
      refine va_get (D := G) (ci := 6) (v := .ref (h 3)) (C := RX6) (T := TX6) (N := 22) hx hb hts nw_X6_askFor_X6 hown hK hw.1 0 rfl rfl 2 (by decide) hL2 (fun _ h9 => h9) rfl dX6_askFor_37 ?_
      refine lv_iload_n hx hb dX6_askFor_40 rfl (lv_at hl 2 rfl) ?_
      obtain ⟨v6, e6, hf⟩ := cd_bind_some hf
      refine cd_iald hx hb hK hw 3 rfl e6 dX6_askFor_41 ?_
      refine lv_iadd hx hb dX6_askFor_42 ?_
      refine lv_istore_n (lv' := [(3, .int ((60 : Int32) + v6)), (2, .int ((60 : Int32) + v5)), (0, .ref (h 0)), (1, .int a0)]) hx hb dX6_askFor_43 rfl hl (by decide) rfl (fun ls hl => ?_)
      refine lv_aload_n hx hb dX6_askFor_44 rfl (lv_at hl 2 rfl) ?_
      refine va_get (D := G) (ci := 6) (v := .ref (h 2)) (C := RX6) (T := TX6) (N := 22) hx hb hts nw_X6_askFor_X6 hown hK hw.1 0 rfl rfl 1 (by decide) hL0 (fun _ h9 => h9) rfl dX6_askFor_45 ?_
      refine lv_bipush (v := (12 : Int32)) hx hb dX6_askFor_48 (by decide) ?_
      refine lv_iload_n hx hb dX6_askFor_50 rfl (lv_at hl 3 rfl) ?_
      refine lv_iadd hx hb dX6_askFor_51 ?_
      obtain ⟨v7, e7, hf⟩ := cd_bind_some hf
      refine cd_iald hx hb hK hw 2 rfl e7 dX6_askFor_52 ?_
      refine lv_aload_n hx hb dX6_askFor_53 rfl (lv_at hl 2 rfl) ?_
      refine va_get (D := G) (ci := 6) (v := .ref (h 2)) (C := RX6) (T := TX6) (N := 22) hx hb hts nw_X6_askFor_X6 hown hK hw.1 0 rfl rfl 1 (by decide) hL0 (fun _ h9 => h9) rfl dX6_askFor_54 ?_
      refine lv_iload_n hx hb dX6_askFor_57 rfl (lv_at hl 1 rfl) ?_
      obtain ⟨v8, e8, hf⟩ := cd_bind_some hf
      refine cd_iald hx hb hK hw 2 rfl e8 dX6_askFor_58 ?_
      obtain ⟨x9, e9, hf⟩ := cd_bind_some hf
      have K9 : ∀ (ls : Array Slot) (H : Heap) (locs : List Loc), lv_has ls 5 [(0, .ref (h 0)), (1, .int a0), (2, .int ((60 : Int32) + v5)), (3, .int ((60 : Int32) + v6))] → cd_WS G A s.heap H locs ((pc_mod cI cZ h M)) → W p l e rm_X6_askFor s m ag below meth c H locs 0 0 Q (F0 m 80 ls [.int x9]) := by
        intro ls H locs hl hw
        refine lv_istore (lv' := [(4, .int x9), (0, .ref (h 0)), (1, .int a0), (2, .int ((60 : Int32) + v5)), (3, .int ((60 : Int32) + v6))]) hx hb dX6_askFor_80 hl (by decide) rfl (fun ls hl => ?_)
        refine lv_iload_n hx hb dX6_askFor_82 rfl (lv_at hl 3 rfl) ?_
        refine lv_iload_n hx hb dX6_askFor_83 rfl (lv_at hl 4 rfl) ?_
        refine lv_icmp_eq (tgt := 105) hx hb dX6_askFor_84 (by decide) (fun c10 => ?_) (fun c10 => ?_)
        · have hf := cd_ite_t c10 hf
          refine lv_aload_n hx hb dX6_askFor_105 rfl (lv_at hl 1 rfl) ?_
          refine va_get (D := G) (ci := 6) (v := .ref (h 2)) (C := RX6) (T := TX6) (N := 22) hx hb hts nw_X6_askFor_X6 hown hK hw.1 0 rfl rfl 1 (by decide) hL0 (fun _ h9 => h9) rfl dX6_askFor_106 ?_
          refine lv_bipush (v := (12 : Int32)) hx hb dX6_askFor_109 (by decide) ?_
          refine lv_iload_n hx hb dX6_askFor_111 rfl (lv_at hl 2 rfl) ?_
          refine lv_iadd hx hb dX6_askFor_112 ?_
          refine lv_dup2_11 hx hb dX6_askFor_113 rfl rfl ?_
          obtain ⟨v11, e11, hf⟩ := cd_bind_some hf
          refine cd_iald hx hb hK hw 2 rfl e11 dX6_askFor_114 ?_
          refine lv_iload hx hb dX6_askFor_115 (lv_at hl 0 rfl) ?_
          refine lv_isub hx hb dX6_askFor_117 ?_
          obtain ⟨j12, e12, hf⟩ := cd_bind_some hf
          refine cd_iast (f := M 1) hx hb hK hw 2 rfl e12 dX6_askFor_118 (fun H locs hw => ?_)
          have hw : cd_WS G A s.heap H locs ((pc_mod cI cZ h (cd_set M 1 j12 (v11 - x9)))) := (show ∀ (s9 : Nat → Nat → Int32) (y9 : Int32), cd_WS G A s.heap H locs (((pc_mod cI cZ h s9)).set 2 (h 2, .inl (cI, 69, .inl (upd (s9 1) j12 y9)))) → cd_WS G A s.heap H locs ((pc_mod cI cZ h (cd_set s9 1 j12 y9))) from fun _ _ hh => hh) M (v11 - x9) hw
          refine lv_aload_n hx hb dX6_askFor_119 rfl (lv_at hl 1 rfl) ?_
          refine va_get (D := G) (ci := 6) (v := .ref (h 2)) (C := RX6) (T := TX6) (N := 22) hx hb hts nw_X6_askFor_X6 hown hK hw.1 0 rfl rfl 1 (by decide) hL0 (fun _ h9 => h9) rfl dX6_askFor_120 ?_
          refine lv_iload_n hx hb dX6_askFor_123 rfl (lv_at hl 3 rfl) ?_
          refine lv_dup2_11 hx hb dX6_askFor_124 rfl rfl ?_
          obtain ⟨v13, e13, hf⟩ := cd_bind_some hf
          refine cd_iald hx hb hK hw 2 rfl e13 dX6_askFor_125 ?_
          refine lv_iload hx hb dX6_askFor_126 (lv_at hl 0 rfl) ?_
          refine lv_isub hx hb dX6_askFor_128 ?_
          obtain ⟨j14, e14, hf⟩ := cd_bind_some hf
          refine cd_iast (f := (cd_set M 1 j12 (v11 - x9)) 1) hx hb hK hw 2 rfl e14 dX6_askFor_129 (fun H locs hw => ?_)
          have hw : cd_WS G A s.heap H locs ((pc_mod cI cZ h (cd_set (cd_set M 1 j12 (v11 - x9)) 1 j14 (v13 - x9)))) := (show ∀ (s9 : Nat → Nat → Int32) (y9 : Int32), cd_WS G A s.heap H locs (((pc_mod cI cZ h s9)).set 2 (h 2, .inl (cI, 69, .inl (upd (s9 1) j14 y9)))) → cd_WS G A s.heap H locs ((pc_mod cI cZ h (cd_set s9 1 j14 y9))) from fun _ _ hh => hh) (cd_set M 1 j12 (v11 - x9)) (v13 - x9) hw
          refine lv_aload_n hx hb dX6_askFor_130 rfl (lv_at hl 1 rfl) ?_
          refine va_get (D := G) (ci := 6) (v := .ref (h 2)) (C := RX6) (T := TX6) (N := 22) hx hb hts nw_X6_askFor_X6 hown hK hw.1 0 rfl rfl 1 (by decide) hL0 (fun _ h9 => h9) rfl dX6_askFor_131 ?_
          refine lv_iload_n hx hb dX6_askFor_134 rfl (lv_at hl 4 rfl) ?_
          refine lv_dup2_11 hx hb dX6_askFor_135 rfl rfl ?_
          obtain ⟨v15, e15, hf⟩ := cd_bind_some hf
          refine cd_iald hx hb hK hw 2 rfl e15 dX6_askFor_136 ?_
          refine lv_iload hx hb dX6_askFor_137 (lv_at hl 0 rfl) ?_
          refine lv_iadd hx hb dX6_askFor_139 ?_
          obtain ⟨j16, e16, hf⟩ := cd_bind_some hf
          refine cd_iast (f := (cd_set (cd_set M 1 j12 (v11 - x9)) 1 j14 (v13 - x9)) 1) hx hb hK hw 2 rfl e16 dX6_askFor_140 (fun H locs hw => ?_)
          have hw : cd_WS G A s.heap H locs ((pc_mod cI cZ h (cd_set (cd_set (cd_set M 1 j12 (v11 - x9)) 1 j14 (v13 - x9)) 1 j16 (v15 + x9)))) := (show ∀ (s9 : Nat → Nat → Int32) (y9 : Int32), cd_WS G A s.heap H locs (((pc_mod cI cZ h s9)).set 2 (h 2, .inl (cI, 69, .inl (upd (s9 1) j16 y9)))) → cd_WS G A s.heap H locs ((pc_mod cI cZ h (cd_set s9 1 j16 y9))) from fun _ _ hh => hh) (cd_set (cd_set M 1 j12 (v11 - x9)) 1 j14 (v13 - x9)) (v15 + x9) hw
          refine lv_aload_n hx hb dX6_askFor_141 rfl (lv_at hl 1 rfl) ?_
          refine lv_dup hx hb dX6_askFor_142 rfl ?_
          refine va_get (D := G) (ci := 6) (v := .int (M 8 0)) (C := RX6) (T := TX6) (N := 22) hx hb hts nw_X6_askFor_X6 hown hK hw.1 0 rfl rfl 8 (by decide) hL3 (fun _ h9 => h9) rfl dX6_askFor_143 ?_
          refine lv_iload hx hb dX6_askFor_146 (lv_at hl 0 rfl) ?_
          refine lv_iadd hx hb dX6_askFor_148 ?_
          refine va_put (D := G) (ci := 6) (v := .int ((M 8 0) + x9)) (ty := .int) (C := RX6) (T := TX6) (N := 22) hx hb hts nw_X6_askFor_X6 tyX6 tyX6_ok nmX6 hown hK hw.1 hw.2.1 hw.2.2 0 rfl rfl 8 (by decide) hL3 (fun _ h9 => h9) rfl (by decide +kernel) rfl rfl (Nat.le_of_ble_eq_true rfl) dX6_askFor_149 (fun H locs hP hD hS => ?_)
          have hw : cd_WS G A s.heap H locs ((pc_mod cI cZ h (cd_fld (cd_set (cd_set (cd_set M 1 j12 (v11 - x9)) 1 j14 (v13 - x9)) 1 j16 (v15 + x9)) 8 ((M 8 0) + x9)))) := ⟨hP, hD, hS⟩
          refine lv_iconst (v := (0 : Int32)) hx hb dX6_askFor_152 (by decide) ?_
          have z : some ((0 : Int32), (cd_fld (cd_set (cd_set (cd_set M 1 j12 (v11 - x9)) 1 j14 (v13 - x9)) 1 j16 (v15 + x9)) 8 ((M 8 0) + x9))) = some o := hf
          cases z
          rw [hQ]
          exact cd_reti C0 hw dX6_askFor_153
        · have hf := cd_ite_f c10 hf
          refine lv_aload_n hx hb dX6_askFor_87 rfl (lv_at hl 1 rfl) ?_
          refine va_get (D := G) (ci := 6) (v := .ref (h 2)) (C := RX6) (T := TX6) (N := 22) hx hb hts nw_X6_askFor_X6 hown hK hw.1 0 rfl rfl 1 (by decide) hL0 (fun _ h9 => h9) rfl dX6_askFor_88 ?_
          refine lv_iload_n hx hb dX6_askFor_91 rfl (lv_at hl 4 rfl) ?_
          obtain ⟨v17, e17, hf⟩ := cd_bind_some hf
          refine cd_iald hx hb hK hw 2 rfl e17 dX6_askFor_92 ?_
          refine lv_iload hx hb dX6_askFor_93 (lv_at hl 0 rfl) ?_
          refine lv_iadd hx hb dX6_askFor_95 ?_
          refine lv_sipush (v := (9999 : Int32)) hx hb dX6_askFor_96 (by decide) ?_
          refine lv_icmp_le (tgt := 105) hx hb dX6_askFor_99 (by decide) (fun c18 => ?_) (fun c18 => ?_)
          · have hf := cd_ite_t c18 hf
            refine lv_aload_n hx hb dX6_askFor_105 rfl (lv_at hl 1 rfl) ?_
            refine va_get (D := G) (ci := 6) (v := .ref (h 2)) (C := RX6) (T := TX6) (N := 22) hx hb hts nw_X6_askFor_X6 hown hK hw.1 0 rfl rfl 1 (by decide) hL0 (fun _ h9 => h9) rfl dX6_askFor_106 ?_
            refine lv_bipush (v := (12 : Int32)) hx hb dX6_askFor_109 (by decide) ?_
            refine lv_iload_n hx hb dX6_askFor_111 rfl (lv_at hl 2 rfl) ?_
            refine lv_iadd hx hb dX6_askFor_112 ?_
            refine lv_dup2_11 hx hb dX6_askFor_113 rfl rfl ?_
            obtain ⟨v19, e19, hf⟩ := cd_bind_some hf
            refine cd_iald hx hb hK hw 2 rfl e19 dX6_askFor_114 ?_
            refine lv_iload hx hb dX6_askFor_115 (lv_at hl 0 rfl) ?_
            refine lv_isub hx hb dX6_askFor_117 ?_
            obtain ⟨j20, e20, hf⟩ := cd_bind_some hf
            refine cd_iast (f := M 1) hx hb hK hw 2 rfl e20 dX6_askFor_118 (fun H locs hw => ?_)
            have hw : cd_WS G A s.heap H locs ((pc_mod cI cZ h (cd_set M 1 j20 (v19 - x9)))) := (show ∀ (s9 : Nat → Nat → Int32) (y9 : Int32), cd_WS G A s.heap H locs (((pc_mod cI cZ h s9)).set 2 (h 2, .inl (cI, 69, .inl (upd (s9 1) j20 y9)))) → cd_WS G A s.heap H locs ((pc_mod cI cZ h (cd_set s9 1 j20 y9))) from fun _ _ hh => hh) M (v19 - x9) hw
            refine lv_aload_n hx hb dX6_askFor_119 rfl (lv_at hl 1 rfl) ?_
            refine va_get (D := G) (ci := 6) (v := .ref (h 2)) (C := RX6) (T := TX6) (N := 22) hx hb hts nw_X6_askFor_X6 hown hK hw.1 0 rfl rfl 1 (by decide) hL0 (fun _ h9 => h9) rfl dX6_askFor_120 ?_
            refine lv_iload_n hx hb dX6_askFor_123 rfl (lv_at hl 3 rfl) ?_
            refine lv_dup2_11 hx hb dX6_askFor_124 rfl rfl ?_
            obtain ⟨v21, e21, hf⟩ := cd_bind_some hf
            refine cd_iald hx hb hK hw 2 rfl e21 dX6_askFor_125 ?_
            refine lv_iload hx hb dX6_askFor_126 (lv_at hl 0 rfl) ?_
            refine lv_isub hx hb dX6_askFor_128 ?_
            obtain ⟨j22, e22, hf⟩ := cd_bind_some hf
            refine cd_iast (f := (cd_set M 1 j20 (v19 - x9)) 1) hx hb hK hw 2 rfl e22 dX6_askFor_129 (fun H locs hw => ?_)
            have hw : cd_WS G A s.heap H locs ((pc_mod cI cZ h (cd_set (cd_set M 1 j20 (v19 - x9)) 1 j22 (v21 - x9)))) := (show ∀ (s9 : Nat → Nat → Int32) (y9 : Int32), cd_WS G A s.heap H locs (((pc_mod cI cZ h s9)).set 2 (h 2, .inl (cI, 69, .inl (upd (s9 1) j22 y9)))) → cd_WS G A s.heap H locs ((pc_mod cI cZ h (cd_set s9 1 j22 y9))) from fun _ _ hh => hh) (cd_set M 1 j20 (v19 - x9)) (v21 - x9) hw
            refine lv_aload_n hx hb dX6_askFor_130 rfl (lv_at hl 1 rfl) ?_
            refine va_get (D := G) (ci := 6) (v := .ref (h 2)) (C := RX6) (T := TX6) (N := 22) hx hb hts nw_X6_askFor_X6 hown hK hw.1 0 rfl rfl 1 (by decide) hL0 (fun _ h9 => h9) rfl dX6_askFor_131 ?_
            refine lv_iload_n hx hb dX6_askFor_134 rfl (lv_at hl 4 rfl) ?_
            refine lv_dup2_11 hx hb dX6_askFor_135 rfl rfl ?_
            obtain ⟨v23, e23, hf⟩ := cd_bind_some hf
            refine cd_iald hx hb hK hw 2 rfl e23 dX6_askFor_136 ?_
            refine lv_iload hx hb dX6_askFor_137 (lv_at hl 0 rfl) ?_
            refine lv_iadd hx hb dX6_askFor_139 ?_
            obtain ⟨j24, e24, hf⟩ := cd_bind_some hf
            refine cd_iast (f := (cd_set (cd_set M 1 j20 (v19 - x9)) 1 j22 (v21 - x9)) 1) hx hb hK hw 2 rfl e24 dX6_askFor_140 (fun H locs hw => ?_)
            have hw : cd_WS G A s.heap H locs ((pc_mod cI cZ h (cd_set (cd_set (cd_set M 1 j20 (v19 - x9)) 1 j22 (v21 - x9)) 1 j24 (v23 + x9)))) := (show ∀ (s9 : Nat → Nat → Int32) (y9 : Int32), cd_WS G A s.heap H locs (((pc_mod cI cZ h s9)).set 2 (h 2, .inl (cI, 69, .inl (upd (s9 1) j24 y9)))) → cd_WS G A s.heap H locs ((pc_mod cI cZ h (cd_set s9 1 j24 y9))) from fun _ _ hh => hh) (cd_set (cd_set M 1 j20 (v19 - x9)) 1 j22 (v21 - x9)) (v23 + x9) hw
            refine lv_aload_n hx hb dX6_askFor_141 rfl (lv_at hl 1 rfl) ?_
            refine lv_dup hx hb dX6_askFor_142 rfl ?_
            refine va_get (D := G) (ci := 6) (v := .int (M 8 0)) (C := RX6) (T := TX6) (N := 22) hx hb hts nw_X6_askFor_X6 hown hK hw.1 0 rfl rfl 8 (by decide) hL3 (fun _ h9 => h9) rfl dX6_askFor_143 ?_
            refine lv_iload hx hb dX6_askFor_146 (lv_at hl 0 rfl) ?_
            refine lv_iadd hx hb dX6_askFor_148 ?_
            refine va_put (D := G) (ci := 6) (v := .int ((M 8 0) + x9)) (ty := .int) (C := RX6) (T := TX6) (N := 22) hx hb hts nw_X6_askFor_X6 tyX6 tyX6_ok nmX6 hown hK hw.1 hw.2.1 hw.2.2 0 rfl rfl 8 (by decide) hL3 (fun _ h9 => h9) rfl (by decide +kernel) rfl rfl (Nat.le_of_ble_eq_true rfl) dX6_askFor_149 (fun H locs hP hD hS => ?_)
            have hw : cd_WS G A s.heap H locs ((pc_mod cI cZ h (cd_fld (cd_set (cd_set (cd_set M 1 j20 (v19 - x9)) 1 j22 (v21 - x9)) 1 j24 (v23 + x9)) 8 ((M 8 0) + x9)))) := ⟨hP, hD, hS⟩
            refine lv_iconst (v := (0 : Int32)) hx hb dX6_askFor_152 (by decide) ?_
            have z : some ((0 : Int32), (cd_fld (cd_set (cd_set (cd_set M 1 j20 (v19 - x9)) 1 j22 (v21 - x9)) 1 j24 (v23 + x9)) 8 ((M 8 0) + x9))) = some o := hf
            cases z
            rw [hQ]
            exact cd_reti C0 hw dX6_askFor_153
          · have hf := cd_ite_f c18 hf
            refine lv_bipush (v := (6 : Int32)) hx hb dX6_askFor_102 (by decide) ?_
            have z : some ((6 : Int32), M) = some o := hf
            cases z
            rw [hQ]
            exact cd_reti C0 hw dX6_askFor_104
      refine lv_icmp_ge (tgt := 74) hx hb dX6_askFor_59 (by decide) (fun c9 => ?_) (fun c9 => ?_)
      · have e9 := cd_ite_t c9 e9
        refine lv_aload_n hx hb dX6_askFor_74 rfl (lv_at hl 2 rfl) ?_
        refine va_get (D := G) (ci := 6) (v := .ref (h 2)) (C := RX6) (T := TX6) (N := 22) hx hb hts nw_X6_askFor_X6 hown hK hw.1 0 rfl rfl 1 (by decide) hL0 (fun _ h9 => h9) rfl dX6_askFor_75 ?_
        refine lv_iload_n hx hb dX6_askFor_78 rfl (lv_at hl 1 rfl) ?_
        obtain ⟨v25, e25, e9⟩ := cd_bind_some e9
        refine cd_iald hx hb hK hw 2 rfl e25 dX6_askFor_79 ?_
        have z : some v25 = some x9 := e9
        cases z
        exact K9 _ _ _ (lv_sub hl [2, 3, 1, 0] rfl) hw
      · have e9 := cd_ite_f c9 e9
        refine lv_aload_n hx hb dX6_askFor_62 rfl (lv_at hl 2 rfl) ?_
        refine va_get (D := G) (ci := 6) (v := .ref (h 2)) (C := RX6) (T := TX6) (N := 22) hx hb hts nw_X6_askFor_X6 hown hK hw.1 0 rfl rfl 1 (by decide) hL0 (fun _ h9 => h9) rfl dX6_askFor_63 ?_
        refine lv_bipush (v := (12 : Int32)) hx hb dX6_askFor_66 (by decide) ?_
        refine lv_iload_n hx hb dX6_askFor_68 rfl (lv_at hl 3 rfl) ?_
        refine lv_iadd hx hb dX6_askFor_69 ?_
        obtain ⟨v26, e26, e9⟩ := cd_bind_some e9
        refine cd_iald hx hb hK hw 2 rfl e26 dX6_askFor_70 ?_
        refine lv_goto (tgt := 80) hx hb dX6_askFor_71 (by decide) ?_
        have z : some v26 = some x9 := e9
        cases z
        exact K9 _ _ _ (lv_sub hl [2, 3, 1, 0] rfl) hw
    · have hf := cd_ite_t c4 hf
      refine lv_iconst (v := (5 : Int32)) hx hb dX6_askFor_22 (by decide) ?_
      have z : some ((5 : Int32), M) = some o := hf
      cases z
      rw [hQ]
      exact cd_reti C0 hw dX6_askFor_23
  · have hf := cd_ite_t c2 hf
    refine lv_iconst (v := (2 : Int32)) hx hb dX6_askFor_8 (by decide) ?_
    have z : some ((2 : Int32), M) = some o := hf
    cases z
    rw [hQ]
    exact cd_reti C0 hw dX6_askFor_9
abbrev rm_X6_isLetter : Room := { frames := 1, cells := 0, slots := 0, locals := 22 }
set_option maxHeartbeats 4000000 in
set_option maxRecDepth 100000 in
theorem c_X6_isLetter (l : Launch) (G : va_G) (cI cZ : ClassId) (sa sb : Nat) (a0 : Int32) (o : Int32) (hf : f_X6_isLetter a0 = some o) : cd_Ct l G cI cZ sa sb yX6_isLetter wsX6_isLetter rm_X6_isLetter [.int a0] (([] : va_W)) (([] : va_W)) (some (.int o)) := by
  refine cd_of (cc := cX6_isLetter) (maxL := 1) (ret := (some .boolean)) (by decide) rfl (Nat.le_of_ble_eq_true rfl) ?_
  intro p e s m ag below meth c A ls Q C0 hl hw hQ
  have C0 : cd_CX G cI cZ sa sb p s m ag meth c cX6_isLetter 1 (some .boolean) wsX6_isLetter RX6 A := C0
  obtain ⟨⟨hx, hb, hml, hown, hts⟩, hr, hlocks, hA, hE⟩ := id C0
  have hK := hE.1
  have hl : lv_has ls 1 [(0, .int a0)] := hl
  unfold f_X6_isLetter at hf
  refine lv_iload_n hx hb dX6_isLetter_0 rfl (lv_at hl 0 rfl) ?_
  refine lv_bipush (v := (97 : Int32)) hx hb dX6_isLetter_1 (by decide) ?_
  refine lv_bipush (v := (108 : Int32)) hx hb dX6_isLetter_3 (by decide) ?_
  obtain ⟨r1, e1, hf⟩ := cd_bind_some hf
  refine cd_callS (As := [.int a0, .int (97 : Int32), .int (108 : Int32)]) (rest := []) C0 hw (c_X6_in l G cI cZ sa sb a0 (97 : Int32) (108 : Int32) r1 e1) [] rfl rfl (va_cwS 3 hts gX6_isLetter_X6_in rfl rfl rfl (by decide +kernel) ⟨Nat.le_of_ble_eq_true rfl, Nat.le_of_ble_eq_true rfl⟩) rfl hl.1 (lv_room (Nat.le_of_ble_eq_true rfl)) dX6_isLetter_5 (fun H locs hw => ?_)
  obtain ⟨u2, e2, hf⟩ := cd_bind_some hf
  have z : some r1 = some o := hf
  cases z
  rw [hQ]
  exact cd_retz C0 hw (cd_zb_eq e2) dX6_isLetter_8
abbrev rm_X6_faultOf : Room := { frames := 2, cells := 0, slots := 0, locals := 42 }
theorem nw_X6_faultOf_X6 : ∀ w ∈ u_ws RX6 TX6 22, w ∈ wsX6_faultOf := by decide +kernel
set_option maxHeartbeats 4000000 in
set_option maxRecDepth 100000 in
theorem c_X6_faultOf (l : Launch) (G : va_G) (cI cZ : ClassId) (sa sb : Nat) (h : Nat → Nat) (M : Nat → Nat → Int32) (o : Int32) (hf : f_X6_faultOf M = some o) : cd_Ct l G cI cZ sa sb yX6_faultOf wsX6_faultOf rm_X6_faultOf [.ref (h 0)] ((pc_mod cI cZ h M)) ((pc_mod cI cZ h M)) (some (.int o)) := by
  refine cd_of (cc := cX6_faultOf) (maxL := 6) (ret := (some .int)) (by decide) rfl (Nat.le_of_ble_eq_true rfl) ?_
  intro p e s m ag below meth c A ls Q C0 hl hw hQ
  have C0 : cd_CX G cI cZ sa sb p s m ag meth c cX6_faultOf 6 (some .int) wsX6_faultOf RX6 A := C0
  obtain ⟨⟨hx, hb, hml, hown, hts⟩, hr, hlocks, hA, hE⟩ := id C0
  have hK := hE.1
  have hL0 := hts (.fieldLink RX6 71 "CandleDebtsModel" "signs" "I") (by decide +kernel)
  have hL1 := hts (.fieldLink RX6 25 "CandleDebtsModel" "pad" "[I") (by decide +kernel)
  have hl : lv_has ls 6 [(0, .ref (h 0))] := hl
  unfold f_X6_faultOf at hf
  refine lv_iconst (v := (0 : Int32)) hx hb dX6_faultOf_0 (by decide) ?_
  refine lv_istore_n (lv' := [(1, .int (0 : Int32)), (0, .ref (h 0))]) hx hb dX6_faultOf_1 rfl hl (by decide) rfl (fun ls hl => ?_)
  refine lv_iconst (v := (0 : Int32)) hx hb dX6_faultOf_2 (by decide) ?_
  refine lv_istore_n (lv' := [(2, .int (0 : Int32)), (1, .int (0 : Int32)), (0, .ref (h 0))]) hx hb dX6_faultOf_3 rfl hl (by decide) rfl (fun ls hl => ?_)
  obtain ⟨x1, e1, hf⟩ := cd_bind_some hf
  have K1 : ∀ (t1 : Int32), Sum.inr t1 = x1 → ∀ (ls : Array Slot) (H : Heap) (locs : List Loc), lv_has ls 6 [(0, .ref (h 0)), (1, .int t1)] → cd_WS G A s.heap H locs ((pc_mod cI cZ h M)) → W p l e rm_X6_faultOf s m ag below meth c H locs 0 0 Q (F0 m 189 ls []) := by
    intro t1 hs_1
    subst hs_1
    intro ls H locs hl hw
    refine lv_iload_n hx hb dX6_faultOf_189 rfl (lv_at hl 1 rfl) ?_
    obtain ⟨x24, e24, hf⟩ := cd_bind_some hf
    have K24 : ∀ (ls : Array Slot) (H : Heap) (locs : List Loc), lv_has ls 6 [] → cd_WS G A s.heap H locs ((pc_mod cI cZ h M)) → W p l e rm_X6_faultOf s m ag below meth c H locs 0 0 Q (F0 m 202 ls [.int x24]) := by
      intro ls H locs hl hw
      have z : some x24 = some o := hf
      cases z
      rw [hQ]
      exact cd_reti C0 hw dX6_faultOf_202
    refine lv_if_ne (tgt := 198) hx hb dX6_faultOf_190 (by decide) (fun c24 => ?_) (fun c24 => ?_)
    · have e24 := cd_ite_f c24 e24
      refine lv_aload_n hx hb dX6_faultOf_198 rfl (lv_at hl 0 rfl) ?_
      refine va_get (D := G) (ci := 6) (v := .int (M 6 0)) (C := RX6) (T := TX6) (N := 22) hx hb hts nw_X6_faultOf_X6 hown hK hw.1 0 rfl rfl 6 (by decide) hL0 (fun _ h9 => h9) rfl dX6_faultOf_199 ?_
      have z : some (M 6 0) = some x24 := e24
      cases z
      exact K24 _ _ _ (lv_sub hl [] rfl) hw
    · have e24 := cd_ite_t c24 e24
      refine lv_bipush (v := (-6 : Int32)) hx hb dX6_faultOf_193 (by decide) ?_
      refine lv_goto (tgt := 202) hx hb dX6_faultOf_195 (by decide) ?_
      have z : some (-6 : Int32) = some x24 := e24
      cases z
      exact K24 _ _ _ (lv_sub hl [] rfl) hw
  refine cd_iter_ind (body := (f_X6_faultOf_b4 M)) (K := fun r => r = x1) (P := fun (z1 : Int32 × Int32) => ∀ (ls : Array Slot) (H : Heap) (locs : List Loc), lv_has ls 6 [(0, .ref (h 0)), (1, .int z1.1), (2, .int z1.2)] → cd_WS G A s.heap H locs ((pc_mod cI cZ h M)) → W p l e rm_X6_faultOf s m ag below meth c H locs 0 0 Q (F0 m 4 ls [])) ?_ cd_N ((0 : Int32), (0 : Int32)) x1 e1 rfl _ _ _ (lv_sub hl [2, 1, 0] rfl) hw
  intro z1 o1 hb1 hk1 ls H locs hl hw
  unfold f_X6_faultOf_b4 at hb1
  refine lv_iload_n hx hb dX6_faultOf_4 rfl (lv_at hl 2 rfl) ?_
  refine lv_aload_n hx hb dX6_faultOf_5 rfl (lv_at hl 0 rfl) ?_
  refine va_get (D := G) (ci := 6) (v := .int (M 6 0)) (C := RX6) (T := TX6) (N := 22) hx hb hts nw_X6_faultOf_X6 hown hK hw.1 0 rfl rfl 6 (by decide) hL0 (fun _ h9 => h9) rfl dX6_faultOf_6 ?_
  refine lv_icmp_ge (tgt := 189) hx hb dX6_faultOf_9 (by decide) (fun c2 => ?_) (fun c2 => ?_)
  · have hb1 := cd_ite_t c2 hb1
    have z : some (Sum.inl (Sum.inr z1.1)) = some o1 := hb1
    cases z
    exact K1 _ hk1 _ _ _ (lv_sub hl [0, 1] rfl) hw
  · have hb1 := cd_ite_f c2 hb1
    refine lv_aload_n hx hb dX6_faultOf_12 rfl (lv_at hl 0 rfl) ?_
    refine va_get (D := G) (ci := 6) (v := .ref (h 6)) (C := RX6) (T := TX6) (N := 22) hx hb hts nw_X6_faultOf_X6 hown hK hw.1 0 rfl rfl 7 (by decide) hL1 (fun _ h9 => h9) rfl dX6_faultOf_13 ?_
    refine lv_iload_n hx hb dX6_faultOf_16 rfl (lv_at hl 2 rfl) ?_
    obtain ⟨v3, e3, hb1⟩ := cd_bind_some hb1
    refine cd_iald hx hb hK hw 6 rfl e3 dX6_faultOf_17 ?_
    refine lv_istore_n (lv' := [(3, .int v3), (0, .ref (h 0)), (1, .int z1.1), (2, .int z1.2)]) hx hb dX6_faultOf_18 rfl hl (by decide) rfl (fun ls hl => ?_)
    refine lv_iconst (v := (0 : Int32)) hx hb dX6_faultOf_19 (by decide) ?_
    refine lv_istore (lv' := [(5, .int (0 : Int32)), (3, .int v3), (0, .ref (h 0)), (1, .int z1.1), (2, .int z1.2)]) hx hb dX6_faultOf_20 hl (by decide) rfl (fun ls hl => ?_)
    refine lv_iload_n hx hb dX6_faultOf_22 rfl (lv_at hl 3 rfl) ?_
    obtain ⟨x4, e4, hb1⟩ := cd_bind_some hb1
    have K4 : ∀ (ls : Array Slot) (H : Heap) (locs : List Loc), lv_has ls 6 [(0, .ref (h 0)), (2, .int z1.2), (4, .int x4.1), (5, .int x4.2)] → cd_WS G A s.heap H locs ((pc_mod cI cZ h M)) → W p l e rm_X6_faultOf s m ag below meth c H locs 0 0 Q (F0 m 173 ls []) := by
      intro ls H locs hl hw
      refine lv_iload hx hb dX6_faultOf_173 (lv_at hl 2 rfl) ?_
      refine lv_if_ne (tgt := 180) hx hb dX6_faultOf_175 (by decide) (fun c5 => ?_) (fun c5 => ?_)
      · have hb1 := cd_ite_f c5 hb1
        refine lv_iload hx hb dX6_faultOf_180 (lv_at hl 3 rfl) ?_
        refine lv_istore_n (lv' := [(1, .int x4.2), (0, .ref (h 0)), (2, .int z1.2), (4, .int x4.1), (5, .int x4.2)]) hx hb dX6_faultOf_182 rfl hl (by decide) rfl (fun ls hl => ?_)
        refine lv_iinc (v := (z1.2 + (1 : Int32))) (lv' := [(2, .int (z1.2 + (1 : Int32))), (1, .int x4.2), (0, .ref (h 0)), (4, .int x4.1), (5, .int x4.2)]) hx hb dX6_faultOf_183 hl (k := 2) rfl rfl (by decide) rfl (fun ls hl => ?_)
        refine lv_goto (tgt := 4) hx hb dX6_faultOf_186 (by decide) ?_
        have z : some (Sum.inr (x4.2, (z1.2 + (1 : Int32)))) = some o1 := hb1
        cases z
        exact hk1 _ _ _ (lv_sub hl [2, 1, 0] rfl) hw
      · have hb1 := cd_ite_t c5 hb1
        refine lv_iload_n hx hb dX6_faultOf_178 rfl (lv_at hl 1 rfl) ?_
        have z : some (Sum.inl (Sum.inl z1.2)) = some o1 := hb1
        cases z
        have y1 : Sum.inl z1.2 = x1 := hk1
        subst y1
        have z : some z1.2 = some o := hf
        cases z
        rw [hQ]
        exact cd_reti C0 hw dX6_faultOf_179
    refine lv_if_ne (tgt := 79) hx hb dX6_faultOf_23 (by decide) (fun c4 => ?_) (fun c4 => ?_)
    · have e4 := cd_ite_f c4 e4
      refine lv_iload_n hx hb dX6_faultOf_79 rfl (lv_at hl 3 rfl) ?_
      refine lv_iconst (v := (1 : Int32)) hx hb dX6_faultOf_80 (by decide) ?_
      refine lv_icmp_ne (tgt := 137) hx hb dX6_faultOf_81 (by decide) (fun c13 => ?_) (fun c13 => ?_)
      · have e4 := cd_ite_f c13 e4
        refine lv_iload_n hx hb dX6_faultOf_137 rfl (lv_at hl 3 rfl) ?_
        refine lv_iconst (v := (4 : Int32)) hx hb dX6_faultOf_138 (by decide) ?_
        refine lv_icmp_ne (tgt := 155) hx hb dX6_faultOf_139 (by decide) (fun c20 => ?_) (fun c20 => ?_)
        · have e4 := cd_ite_f c20 e4
          refine lv_iload_n hx hb dX6_faultOf_155 rfl (lv_at hl 1 rfl) ?_
          obtain ⟨r22, e22, e4⟩ := cd_bind_some e4
          refine cd_callS (As := [.int v3]) (rest := []) C0 hw (c_X6_isLetter l G cI cZ sa sb v3 r22 e22) [] rfl rfl (va_cwS 1 hts gX6_faultOf_X6_isLetter rfl rfl rfl (by decide +kernel) ⟨Nat.le_of_ble_eq_true rfl, Nat.le_of_ble_eq_true rfl⟩) rfl hl.1 (lv_room (Nat.le_of_ble_eq_true rfl)) dX6_faultOf_156 (fun H locs hw => ?_)
          refine lv_istore (lv' := [(4, .int r22), (5, .int (0 : Int32)), (3, .int v3), (0, .ref (h 0)), (1, .int z1.1), (2, .int z1.2)]) hx hb dX6_faultOf_159 hl (by decide) rfl (fun ls hl => ?_)
          refine lv_iload_n hx hb dX6_faultOf_161 rfl (lv_at hl 4 rfl) ?_
          refine lv_iconst (v := (3 : Int32)) hx hb dX6_faultOf_162 (by decide) ?_
          refine lv_icmp_ne (tgt := 170) hx hb dX6_faultOf_163 (by decide) (fun c23 => ?_) (fun c23 => ?_)
          · have e4 := cd_ite_f c23 e4
            refine lv_iconst (v := (0 : Int32)) hx hb dX6_faultOf_170 (by decide) ?_
            refine lv_istore (lv' := [(5, .int (0 : Int32)), (4, .int r22), (3, .int v3), (0, .ref (h 0)), (1, .int z1.1), (2, .int z1.2)]) hx hb dX6_faultOf_171 hl (by decide) rfl (fun ls hl => ?_)
            have z : some (r22, (0 : Int32)) = some x4 := e4
            cases z
            exact K4 _ _ _ (lv_sub hl [3, 5, 1, 0] rfl) hw
          · have e4 := cd_ite_t c23 e4
            refine lv_iconst (v := (4 : Int32)) hx hb dX6_faultOf_166 (by decide) ?_
            refine lv_goto (tgt := 171) hx hb dX6_faultOf_167 (by decide) ?_
            refine lv_istore (lv' := [(5, .int (4 : Int32)), (4, .int r22), (3, .int v3), (0, .ref (h 0)), (1, .int z1.1), (2, .int z1.2)]) hx hb dX6_faultOf_171 hl (by decide) rfl (fun ls hl => ?_)
            have z : some (r22, (4 : Int32)) = some x4 := e4
            cases z
            exact K4 _ _ _ (lv_sub hl [3, 5, 1, 0] rfl) hw
        · have e4 := cd_ite_t c20 e4
          refine lv_iload_n hx hb dX6_faultOf_142 rfl (lv_at hl 1 rfl) ?_
          refine lv_bipush (v := (48 : Int32)) hx hb dX6_faultOf_143 (by decide) ?_
          refine lv_bipush (v := (57 : Int32)) hx hb dX6_faultOf_145 (by decide) ?_
          obtain ⟨r21, e21, e4⟩ := cd_bind_some e4
          refine cd_callS (As := [.int v3, .int (48 : Int32), .int (57 : Int32)]) (rest := []) C0 hw (c_X6_in l G cI cZ sa sb v3 (48 : Int32) (57 : Int32) r21 e21) [] rfl rfl (va_cwS 3 hts gX6_faultOf_X6_in rfl rfl rfl (by decide +kernel) ⟨Nat.le_of_ble_eq_true rfl, Nat.le_of_ble_eq_true rfl⟩) rfl hl.1 (lv_room (Nat.le_of_ble_eq_true rfl)) dX6_faultOf_147 (fun H locs hw => ?_)
          refine lv_istore (lv' := [(4, .int r21), (5, .int (0 : Int32)), (3, .int v3), (0, .ref (h 0)), (1, .int z1.1), (2, .int z1.2)]) hx hb dX6_faultOf_150 hl (by decide) rfl (fun ls hl => ?_)
          refine lv_goto (tgt := 173) hx hb dX6_faultOf_152 (by decide) ?_
          have z : some (r21, (0 : Int32)) = some x4 := e4
          cases z
          exact K4 _ _ _ (lv_sub hl [3, 5, 0, 1] rfl) hw
      · have e4 := cd_ite_t c13 e4
        refine lv_iload_n hx hb dX6_faultOf_84 rfl (lv_at hl 1 rfl) ?_
        refine lv_bipush (v := (42 : Int32)) hx hb dX6_faultOf_85 (by decide) ?_
        obtain ⟨x14, e14, e4⟩ := cd_bind_some e4
        have K14 : ∀ (ls : Array Slot) (H : Heap) (locs : List Loc), lv_has ls 6 [(0, .ref (h 0)), (2, .int z1.2), (3, .int v3)] → cd_WS G A s.heap H locs ((pc_mod cI cZ h M)) → W p l e rm_X6_faultOf s m ag below meth c H locs 0 0 Q (F0 m 119 ls [.int x14]) := by
          intro ls H locs hl hw
          refine lv_istore (lv' := [(4, .int x14), (0, .ref (h 0)), (2, .int z1.2), (3, .int v3)]) hx hb dX6_faultOf_119 hl (by decide) rfl (fun ls hl => ?_)
          refine lv_iload_n hx hb dX6_faultOf_121 rfl (lv_at hl 3 rfl) ?_
          refine lv_bipush (v := (62 : Int32)) hx hb dX6_faultOf_122 (by decide) ?_
          refine lv_icmp_ne (tgt := 131) hx hb dX6_faultOf_124 (by decide) (fun c15 => ?_) (fun c15 => ?_)
          · have e4 := cd_ite_f c15 e4
            refine lv_iconst (v := (0 : Int32)) hx hb dX6_faultOf_131 (by decide) ?_
            refine lv_istore (lv' := [(5, .int (0 : Int32)), (4, .int x14), (0, .ref (h 0)), (2, .int z1.2), (3, .int v3)]) hx hb dX6_faultOf_132 hl (by decide) rfl (fun ls hl => ?_)
            refine lv_goto (tgt := 173) hx hb dX6_faultOf_134 (by decide) ?_
            have z : some (x14, (0 : Int32)) = some x4 := e4
            cases z
            exact K4 _ _ _ (lv_sub hl [2, 3, 1, 0] rfl) hw
          · have e4 := cd_ite_t c15 e4
            refine lv_iconst (v := (2 : Int32)) hx hb dX6_faultOf_127 (by decide) ?_
            refine lv_goto (tgt := 132) hx hb dX6_faultOf_128 (by decide) ?_
            refine lv_istore (lv' := [(5, .int (2 : Int32)), (4, .int x14), (0, .ref (h 0)), (2, .int z1.2), (3, .int v3)]) hx hb dX6_faultOf_132 hl (by decide) rfl (fun ls hl => ?_)
            refine lv_goto (tgt := 173) hx hb dX6_faultOf_134 (by decide) ?_
            have z : some (x14, (2 : Int32)) = some x4 := e4
            cases z
            exact K4 _ _ _ (lv_sub hl [2, 3, 1, 0] rfl) hw
        refine lv_icmp_eq (tgt := 114) hx hb dX6_faultOf_87 (by decide) (fun c14 => ?_) (fun c14 => ?_)
        · have e14 := cd_ite_t c14 e14
          refine lv_iconst (v := (1 : Int32)) hx hb dX6_faultOf_114 (by decide) ?_
          refine lv_goto (tgt := 119) hx hb dX6_faultOf_115 (by decide) ?_
          have z : some (1 : Int32) = some x14 := e14
          cases z
          exact K14 _ _ _ (lv_sub hl [2, 4, 1] rfl) hw
        · have e14 := cd_ite_f c14 e14
          refine lv_iload_n hx hb dX6_faultOf_90 rfl (lv_at hl 1 rfl) ?_
          refine lv_bipush (v := (45 : Int32)) hx hb dX6_faultOf_91 (by decide) ?_
          refine lv_icmp_eq (tgt := 114) hx hb dX6_faultOf_93 (by decide) (fun c16 => ?_) (fun c16 => ?_)
          · have e14 := cd_ite_t c16 e14
            refine lv_iconst (v := (1 : Int32)) hx hb dX6_faultOf_114 (by decide) ?_
            refine lv_goto (tgt := 119) hx hb dX6_faultOf_115 (by decide) ?_
            have z : some (1 : Int32) = some x14 := e14
            cases z
            exact K14 _ _ _ (lv_sub hl [2, 4, 1] rfl) hw
          · have e14 := cd_ite_f c16 e14
            refine lv_iload_n hx hb dX6_faultOf_96 rfl (lv_at hl 1 rfl) ?_
            refine lv_bipush (v := (33 : Int32)) hx hb dX6_faultOf_97 (by decide) ?_
            refine lv_icmp_eq (tgt := 114) hx hb dX6_faultOf_99 (by decide) (fun c17 => ?_) (fun c17 => ?_)
            · have e14 := cd_ite_t c17 e14
              refine lv_iconst (v := (1 : Int32)) hx hb dX6_faultOf_114 (by decide) ?_
              refine lv_goto (tgt := 119) hx hb dX6_faultOf_115 (by decide) ?_
              have z : some (1 : Int32) = some x14 := e14
              cases z
              exact K14 _ _ _ (lv_sub hl [2, 4, 1] rfl) hw
            · have e14 := cd_ite_f c17 e14
              refine lv_iload_n hx hb dX6_faultOf_102 rfl (lv_at hl 1 rfl) ?_
              refine lv_bipush (v := (94 : Int32)) hx hb dX6_faultOf_103 (by decide) ?_
              refine lv_icmp_eq (tgt := 114) hx hb dX6_faultOf_105 (by decide) (fun c18 => ?_) (fun c18 => ?_)
              · have e14 := cd_ite_t c18 e14
                refine lv_iconst (v := (1 : Int32)) hx hb dX6_faultOf_114 (by decide) ?_
                refine lv_goto (tgt := 119) hx hb dX6_faultOf_115 (by decide) ?_
                have z : some (1 : Int32) = some x14 := e14
                cases z
                exact K14 _ _ _ (lv_sub hl [2, 4, 1] rfl) hw
              · have e14 := cd_ite_f c18 e14
                refine lv_iload_n hx hb dX6_faultOf_108 rfl (lv_at hl 1 rfl) ?_
                refine lv_bipush (v := (62 : Int32)) hx hb dX6_faultOf_109 (by decide) ?_
                refine lv_icmp_ne (tgt := 118) hx hb dX6_faultOf_111 (by decide) (fun c19 => ?_) (fun c19 => ?_)
                · have e14 := cd_ite_f c19 e14
                  refine lv_iconst (v := (0 : Int32)) hx hb dX6_faultOf_118 (by decide) ?_
                  have z : some (0 : Int32) = some x14 := e14
                  cases z
                  exact K14 _ _ _ (lv_sub hl [2, 4, 1] rfl) hw
                · have e14 := cd_ite_t c19 e14
                  refine lv_iconst (v := (1 : Int32)) hx hb dX6_faultOf_114 (by decide) ?_
                  refine lv_goto (tgt := 119) hx hb dX6_faultOf_115 (by decide) ?_
                  have z : some (1 : Int32) = some x14 := e14
                  cases z
                  exact K14 _ _ _ (lv_sub hl [2, 4, 1] rfl) hw
    · have e4 := cd_ite_t c4 e4
      refine lv_iload_n hx hb dX6_faultOf_26 rfl (lv_at hl 1 rfl) ?_
      obtain ⟨r6, e6, e4⟩ := cd_bind_some e4
      refine cd_callS (As := [.int v3]) (rest := []) C0 hw (c_X6_isLetter l G cI cZ sa sb v3 r6 e6) [] rfl rfl (va_cwS 1 hts gX6_faultOf_X6_isLetter rfl rfl rfl (by decide +kernel) ⟨Nat.le_of_ble_eq_true rfl, Nat.le_of_ble_eq_true rfl⟩) rfl hl.1 (lv_room (Nat.le_of_ble_eq_true rfl)) dX6_faultOf_27 (fun H locs hw => ?_)
      obtain ⟨x7, e7, e4⟩ := cd_bind_some e4
      have K7 : ∀ (ls : Array Slot) (H : Heap) (locs : List Loc), lv_has ls 6 [(0, .ref (h 0)), (2, .int z1.2), (3, .int v3)] → cd_WS G A s.heap H locs ((pc_mod cI cZ h M)) → W p l e rm_X6_faultOf s m ag below meth c H locs 0 0 Q (F0 m 50 ls [.int x7]) := by
        intro ls H locs hl hw
        refine lv_istore (lv' := [(4, .int x7), (0, .ref (h 0)), (2, .int z1.2), (3, .int v3)]) hx hb dX6_faultOf_50 hl (by decide) rfl (fun ls hl => ?_)
        refine lv_iload_n hx hb dX6_faultOf_52 rfl (lv_at hl 3 rfl) ?_
        obtain ⟨r8, e8, e4⟩ := cd_bind_some e4
        refine cd_callS (As := [.int v3]) (rest := []) C0 hw (c_X6_isLetter l G cI cZ sa sb v3 r8 e8) [] rfl rfl (va_cwS 1 hts gX6_faultOf_X6_isLetter rfl rfl rfl (by decide +kernel) ⟨Nat.le_of_ble_eq_true rfl, Nat.le_of_ble_eq_true rfl⟩) rfl hl.1 (lv_room (Nat.le_of_ble_eq_true rfl)) dX6_faultOf_53 (fun H locs hw => ?_)
        refine lv_if_eq (tgt := 63) hx hb dX6_faultOf_56 (by decide) (fun c9 => ?_) (fun c9 => ?_)
        · have e4 := cd_ite_t c9 e4
          refine lv_iload_n hx hb dX6_faultOf_63 rfl (lv_at hl 3 rfl) ?_
          refine lv_bipush (v := (119 : Int32)) hx hb dX6_faultOf_64 (by decide) ?_
          refine lv_icmp_ne (tgt := 73) hx hb dX6_faultOf_66 (by decide) (fun c10 => ?_) (fun c10 => ?_)
          · have e4 := cd_ite_f c10 e4
            refine lv_iconst (v := (0 : Int32)) hx hb dX6_faultOf_73 (by decide) ?_
            refine lv_istore (lv' := [(5, .int (0 : Int32)), (4, .int x7), (0, .ref (h 0)), (2, .int z1.2), (3, .int v3)]) hx hb dX6_faultOf_74 hl (by decide) rfl (fun ls hl => ?_)
            refine lv_goto (tgt := 173) hx hb dX6_faultOf_76 (by decide) ?_
            have z : some (x7, (0 : Int32)) = some x4 := e4
            cases z
            exact K4 _ _ _ (lv_sub hl [2, 3, 1, 0] rfl) hw
          · have e4 := cd_ite_t c10 e4
            refine lv_iconst (v := (3 : Int32)) hx hb dX6_faultOf_69 (by decide) ?_
            refine lv_goto (tgt := 74) hx hb dX6_faultOf_70 (by decide) ?_
            refine lv_istore (lv' := [(5, .int (3 : Int32)), (4, .int x7), (0, .ref (h 0)), (2, .int z1.2), (3, .int v3)]) hx hb dX6_faultOf_74 hl (by decide) rfl (fun ls hl => ?_)
            refine lv_goto (tgt := 173) hx hb dX6_faultOf_76 (by decide) ?_
            have z : some (x7, (3 : Int32)) = some x4 := e4
            cases z
            exact K4 _ _ _ (lv_sub hl [2, 3, 1, 0] rfl) hw
        · have e4 := cd_ite_f c9 e4
          refine lv_iconst (v := (1 : Int32)) hx hb dX6_faultOf_59 (by decide) ?_
          refine lv_goto (tgt := 74) hx hb dX6_faultOf_60 (by decide) ?_
          refine lv_istore (lv' := [(5, .int (1 : Int32)), (4, .int x7), (0, .ref (h 0)), (2, .int z1.2), (3, .int v3)]) hx hb dX6_faultOf_74 hl (by decide) rfl (fun ls hl => ?_)
          refine lv_goto (tgt := 173) hx hb dX6_faultOf_76 (by decide) ?_
          have z : some (x7, (1 : Int32)) = some x4 := e4
          cases z
          exact K4 _ _ _ (lv_sub hl [2, 3, 1, 0] rfl) hw
      refine lv_if_ne (tgt := 45) hx hb dX6_faultOf_30 (by decide) (fun c7 => ?_) (fun c7 => ?_)
      · have e7 := cd_ite_f c7 e7
        refine lv_iconst (v := (1 : Int32)) hx hb dX6_faultOf_45 (by decide) ?_
        refine lv_goto (tgt := 50) hx hb dX6_faultOf_46 (by decide) ?_
        have z : some (1 : Int32) = some x7 := e7
        cases z
        exact K7 _ _ _ (lv_sub hl [2, 4, 1] rfl) hw
      · have e7 := cd_ite_t c7 e7
        refine lv_iload_n hx hb dX6_faultOf_33 rfl (lv_at hl 1 rfl) ?_
        refine lv_bipush (v := (119 : Int32)) hx hb dX6_faultOf_34 (by decide) ?_
        refine lv_icmp_eq (tgt := 45) hx hb dX6_faultOf_36 (by decide) (fun c11 => ?_) (fun c11 => ?_)
        · have e7 := cd_ite_t c11 e7
          refine lv_iconst (v := (1 : Int32)) hx hb dX6_faultOf_45 (by decide) ?_
          refine lv_goto (tgt := 50) hx hb dX6_faultOf_46 (by decide) ?_
          have z : some (1 : Int32) = some x7 := e7
          cases z
          exact K7 _ _ _ (lv_sub hl [2, 4, 1] rfl) hw
        · have e7 := cd_ite_f c11 e7
          refine lv_iload_n hx hb dX6_faultOf_39 rfl (lv_at hl 1 rfl) ?_
          refine lv_bipush (v := (46 : Int32)) hx hb dX6_faultOf_40 (by decide) ?_
          refine lv_icmp_ne (tgt := 49) hx hb dX6_faultOf_42 (by decide) (fun c12 => ?_) (fun c12 => ?_)
          · have e7 := cd_ite_f c12 e7
            refine lv_iconst (v := (0 : Int32)) hx hb dX6_faultOf_49 (by decide) ?_
            have z : some (0 : Int32) = some x7 := e7
            cases z
            exact K7 _ _ _ (lv_sub hl [2, 4, 1] rfl) hw
          · have e7 := cd_ite_t c12 e7
            refine lv_iconst (v := (1 : Int32)) hx hb dX6_faultOf_45 (by decide) ?_
            refine lv_goto (tgt := 50) hx hb dX6_faultOf_46 (by decide) ?_
            have z : some (1 : Int32) = some x7 := e7
            cases z
            exact K7 _ _ _ (lv_sub hl [2, 4, 1] rfl) hw
abbrev rm_X6_minute : Room := { frames := 2, cells := 0, slots := 0, locals := 42 }
theorem nw_X6_minute_X6 : ∀ w ∈ u_ws RX6 TX6 22, w ∈ wsX6_minute := by decide +kernel
set_option maxHeartbeats 4000000 in
set_option maxRecDepth 100000 in
theorem c_X6_minute (l : Launch) (G : va_G) (cI cZ : ClassId) (sa sb : Nat) (h : Nat → Nat) (M : Nat → Nat → Int32) (o : Int32 × (Nat → Nat → Int32)) (hf : f_X6_minute M = some o) : cd_Ct l G cI cZ sa sb yX6_minute wsX6_minute rm_X6_minute [.ref (h 0)] ((pc_mod cI cZ h M)) ((pc_mod cI cZ h o.2)) (some (.int o.1)) := by
  refine cd_of (cc := cX6_minute) (maxL := 2) (ret := (some .int)) (by decide) rfl (Nat.le_of_ble_eq_true rfl) ?_
  intro p e s m ag below meth c A ls Q C0 hl hw hQ
  have C0 : cd_CX G cI cZ sa sb p s m ag meth c cX6_minute 2 (some .int) wsX6_minute RX6 A := C0
  obtain ⟨⟨hx, hb, hml, hown, hts⟩, hr, hlocks, hA, hE⟩ := id C0
  have hK := hE.1
  have hL0 := hts (.fieldLink RX6 13 "CandleDebtsModel" "now" "[I") (by decide +kernel)
  have hL1 := hts (.fieldLink RX6 102 "CandleDebtsModel" "gone" "I") (by decide +kernel)
  have hl : lv_has ls 2 [(0, .ref (h 0))] := hl
  unfold f_X6_minute at hf
  refine lv_aload_n hx hb dX6_minute_0 rfl (lv_at hl 0 rfl) ?_
  refine va_get (D := G) (ci := 6) (v := .ref (h 2)) (C := RX6) (T := TX6) (N := 22) hx hb hts nw_X6_minute_X6 hown hK hw.1 0 rfl rfl 1 (by decide) hL0 (fun _ h9 => h9) rfl dX6_minute_1 ?_
  refine lv_bipush (v := (68 : Int32)) hx hb dX6_minute_4 (by decide) ?_
  obtain ⟨v1, e1, hf⟩ := cd_bind_some hf
  refine cd_iald hx hb hK hw 2 rfl e1 dX6_minute_6 ?_
  refine lv_sipush (v := (999 : Int32)) hx hb dX6_minute_7 (by decide) ?_
  refine lv_icmp_ne (tgt := 16) hx hb dX6_minute_10 (by decide) (fun c2 => ?_) (fun c2 => ?_)
  · have hf := cd_ite_f c2 hf
    refine lv_aload_n hx hb dX6_minute_16 rfl (lv_at hl 0 rfl) ?_
    refine va_get (D := G) (ci := 6) (v := .ref (h 2)) (C := RX6) (T := TX6) (N := 22) hx hb hts nw_X6_minute_X6 hown hK hw.1 0 rfl rfl 1 (by decide) hL0 (fun _ h9 => h9) rfl dX6_minute_17 ?_
    refine lv_bipush (v := (68 : Int32)) hx hb dX6_minute_20 (by decide) ?_
    refine lv_dup2_11 hx hb dX6_minute_22 rfl rfl ?_
    obtain ⟨v3, e3, hf⟩ := cd_bind_some hf
    refine cd_iald hx hb hK hw 2 rfl e3 dX6_minute_23 ?_
    refine lv_iconst (v := (1 : Int32)) hx hb dX6_minute_24 (by decide) ?_
    refine lv_iadd hx hb dX6_minute_25 ?_
    obtain ⟨j4, e4, hf⟩ := cd_bind_some hf
    refine cd_iast (f := M 1) hx hb hK hw 2 rfl e4 dX6_minute_26 (fun H locs hw => ?_)
    have hw : cd_WS G A s.heap H locs ((pc_mod cI cZ h (cd_set M 1 j4 (v3 + (1 : Int32))))) := (show ∀ (s9 : Nat → Nat → Int32) (y9 : Int32), cd_WS G A s.heap H locs (((pc_mod cI cZ h s9)).set 2 (h 2, .inl (cI, 69, .inl (upd (s9 1) j4 y9)))) → cd_WS G A s.heap H locs ((pc_mod cI cZ h (cd_set s9 1 j4 y9))) from fun _ _ hh => hh) M (v3 + (1 : Int32)) hw
    refine lv_iconst (v := (0 : Int32)) hx hb dX6_minute_27 (by decide) ?_
    refine lv_istore_n (lv' := [(1, .int (0 : Int32)), (0, .ref (h 0))]) hx hb dX6_minute_28 rfl hl (by decide) rfl (fun ls hl => ?_)
    obtain ⟨x5, e5, hf⟩ := cd_bind_some hf
    have K5 : ∀ (t5 : (Nat → Nat → Int32)), t5 = x5 → ∀ (ls : Array Slot) (H : Heap) (locs : List Loc), lv_has ls 2 [] → cd_WS G A s.heap H locs ((pc_mod cI cZ h t5)) → W p l e rm_X6_minute s m ag below meth c H locs 0 0 Q (F0 m 116 ls []) := by
      intro t5 hs_5
      subst hs_5
      intro ls H locs hl hw
      refine lv_iconst (v := (0 : Int32)) hx hb dX6_minute_116 (by decide) ?_
      have z : some ((0 : Int32), t5) = some o := hf
      cases z
      rw [hQ]
      exact cd_reti C0 hw dX6_minute_117
    refine cd_iter_ind (body := f_X6_minute_b29) (K := fun r => r = x5) (P := fun (z5 : Int32 × (Nat → Nat → Int32)) => ∀ (ls : Array Slot) (H : Heap) (locs : List Loc), lv_has ls 2 [(0, .ref (h 0)), (1, .int z5.1)] → cd_WS G A s.heap H locs ((pc_mod cI cZ h z5.2)) → W p l e rm_X6_minute s m ag below meth c H locs 0 0 Q (F0 m 29 ls [])) ?_ cd_N ((0 : Int32), (cd_set M 1 j4 (v3 + (1 : Int32)))) x5 e5 rfl _ _ _ (lv_sub hl [1, 0] rfl) hw
    intro z5 o5 hb5 hk5 ls H locs hl hw
    unfold f_X6_minute_b29 at hb5
    refine lv_iload_n hx hb dX6_minute_29 rfl (lv_at hl 1 rfl) ?_
    refine lv_bipush (v := (12 : Int32)) hx hb dX6_minute_30 (by decide) ?_
    refine lv_icmp_ge (tgt := 116) hx hb dX6_minute_32 (by decide) (fun c6 => ?_) (fun c6 => ?_)
    · have hb5 := cd_ite_t c6 hb5
      have z : some (Sum.inl z5.2) = some o5 := hb5
      cases z
      exact K5 _ hk5 _ _ _ (lv_sub hl [] rfl) hw
    · have hb5 := cd_ite_f c6 hb5
      refine lv_aload_n hx hb dX6_minute_35 rfl (lv_at hl 0 rfl) ?_
      refine lv_iload_n hx hb dX6_minute_36 rfl (lv_at hl 1 rfl) ?_
      obtain ⟨r7, e7, hb5⟩ := cd_bind_some hb5
      refine cd_callV (As := [.int z5.1]) (rest := []) C0 hw (c_X6_isLit l G cI cZ sa sb h z5.2 z5.1 r7 e7) [0, 1, 2, 3, 4, 5, 6, 7, 8, 9, 10, 11, 12, 13, 14] rfl rfl 0 6 rfl rfl rfl (cwV 1 hts gX6_minute_X6_isLit rfl rfl rfl (by decide +kernel) ⟨Nat.le_of_ble_eq_true rfl, Nat.le_of_ble_eq_true rfl⟩) rfl hl.1 (lv_room (Nat.le_of_ble_eq_true rfl)) dX6_minute_37 (fun H locs hw => ?_)
      refine lv_if_eq (tgt := 110) hx hb dX6_minute_40 (by decide) (fun c8 => ?_) (fun c8 => ?_)
      · have hb5 := cd_ite_t c8 hb5
        refine lv_iinc (v := (z5.1 + (1 : Int32))) (lv' := [(1, .int (z5.1 + (1 : Int32))), (0, .ref (h 0))]) hx hb dX6_minute_110 hl (k := 1) rfl rfl (by decide) rfl (fun ls hl => ?_)
        refine lv_goto (tgt := 29) hx hb dX6_minute_113 (by decide) ?_
        have z : some (Sum.inr ((z5.1 + (1 : Int32)), z5.2)) = some o5 := hb5
        cases z
        exact hk5 _ _ _ (lv_sub hl [1, 0] rfl) hw
      · have hb5 := cd_ite_f c8 hb5
        refine lv_aload_n hx hb dX6_minute_43 rfl (lv_at hl 0 rfl) ?_
        refine va_get (D := G) (ci := 6) (v := .ref (h 2)) (C := RX6) (T := TX6) (N := 22) hx hb hts nw_X6_minute_X6 hown hK hw.1 0 rfl rfl 1 (by decide) hL0 (fun _ h9 => h9) rfl dX6_minute_44 ?_
        refine lv_iload_n hx hb dX6_minute_47 rfl (lv_at hl 1 rfl) ?_
        refine lv_dup2_11 hx hb dX6_minute_48 rfl rfl ?_
        obtain ⟨v9, e9, hb5⟩ := cd_bind_some hb5
        refine cd_iald hx hb hK hw 2 rfl e9 dX6_minute_49 ?_
        refine lv_aload_n hx hb dX6_minute_50 rfl (lv_at hl 0 rfl) ?_
        refine lv_iload_n hx hb dX6_minute_51 rfl (lv_at hl 1 rfl) ?_
        obtain ⟨r10, e10, hb5⟩ := cd_bind_some hb5
        refine cd_callV (As := [.int z5.1]) (rest := [.int v9, .int z5.1, .ref (h 2)]) C0 hw (c_X6_burnOf l G cI cZ sa sb h z5.2 z5.1 r10 e10) [0, 1, 2, 3, 4, 5, 6, 7, 8, 9, 10, 11, 12, 13, 14] rfl rfl 0 6 rfl rfl rfl (cwV 1 hts gX6_minute_X6_burnOf rfl rfl rfl (by decide +kernel) ⟨Nat.le_of_ble_eq_true rfl, Nat.le_of_ble_eq_true rfl⟩) rfl hl.1 (lv_room (Nat.le_of_ble_eq_true rfl)) dX6_minute_52 (fun H locs hw => ?_)
        refine lv_isub hx hb dX6_minute_55 ?_
        obtain ⟨j11, e11, hb5⟩ := cd_bind_some hb5
        refine cd_iast (f := z5.2 1) hx hb hK hw 2 rfl e11 dX6_minute_56 (fun H locs hw => ?_)
        have hw : cd_WS G A s.heap H locs ((pc_mod cI cZ h (cd_set z5.2 1 j11 (v9 - r10)))) := (show ∀ (s9 : Nat → Nat → Int32) (y9 : Int32), cd_WS G A s.heap H locs (((pc_mod cI cZ h s9)).set 2 (h 2, .inl (cI, 69, .inl (upd (s9 1) j11 y9)))) → cd_WS G A s.heap H locs ((pc_mod cI cZ h (cd_set s9 1 j11 y9))) from fun _ _ hh => hh) z5.2 (v9 - r10) hw
        refine lv_aload_n hx hb dX6_minute_57 rfl (lv_at hl 0 rfl) ?_
        refine va_get (D := G) (ci := 6) (v := .ref (h 2)) (C := RX6) (T := TX6) (N := 22) hx hb hts nw_X6_minute_X6 hown hK hw.1 0 rfl rfl 1 (by decide) hL0 (fun _ h9 => h9) rfl dX6_minute_58 ?_
        refine lv_iload_n hx hb dX6_minute_61 rfl (lv_at hl 1 rfl) ?_
        obtain ⟨v12, e12, hb5⟩ := cd_bind_some hb5
        refine cd_iald hx hb hK hw 2 rfl e12 dX6_minute_62 ?_
        refine lv_if_gt (tgt := 110) hx hb dX6_minute_63 (by decide) (fun c13 => ?_) (fun c13 => ?_)
        · have hb5 := cd_ite_t c13 hb5
          refine lv_iinc (v := (z5.1 + (1 : Int32))) (lv' := [(1, .int (z5.1 + (1 : Int32))), (0, .ref (h 0))]) hx hb dX6_minute_110 hl (k := 1) rfl rfl (by decide) rfl (fun ls hl => ?_)
          refine lv_goto (tgt := 29) hx hb dX6_minute_113 (by decide) ?_
          have z : some (Sum.inr ((z5.1 + (1 : Int32)), (cd_set z5.2 1 j11 (v9 - r10)))) = some o5 := hb5
          cases z
          exact hk5 _ _ _ (lv_sub hl [1, 0] rfl) hw
        · have hb5 := cd_ite_f c13 hb5
          refine lv_aload_n hx hb dX6_minute_66 rfl (lv_at hl 0 rfl) ?_
          refine va_get (D := G) (ci := 6) (v := .ref (h 2)) (C := RX6) (T := TX6) (N := 22) hx hb hts nw_X6_minute_X6 hown hK hw.1 0 rfl rfl 1 (by decide) hL0 (fun _ h9 => h9) rfl dX6_minute_67 ?_
          refine lv_iload_n hx hb dX6_minute_70 rfl (lv_at hl 1 rfl) ?_
          refine lv_iconst (v := (0 : Int32)) hx hb dX6_minute_71 (by decide) ?_
          obtain ⟨j14, e14, hb5⟩ := cd_bind_some hb5
          refine cd_iast (f := (cd_set z5.2 1 j11 (v9 - r10)) 1) hx hb hK hw 2 rfl e14 dX6_minute_72 (fun H locs hw => ?_)
          have hw : cd_WS G A s.heap H locs ((pc_mod cI cZ h (cd_set (cd_set z5.2 1 j11 (v9 - r10)) 1 j14 (0 : Int32)))) := (show ∀ (s9 : Nat → Nat → Int32) (y9 : Int32), cd_WS G A s.heap H locs (((pc_mod cI cZ h s9)).set 2 (h 2, .inl (cI, 69, .inl (upd (s9 1) j14 y9)))) → cd_WS G A s.heap H locs ((pc_mod cI cZ h (cd_set s9 1 j14 y9))) from fun _ _ hh => hh) (cd_set z5.2 1 j11 (v9 - r10)) (0 : Int32) hw
          refine lv_aload_n hx hb dX6_minute_73 rfl (lv_at hl 0 rfl) ?_
          refine va_get (D := G) (ci := 6) (v := .ref (h 2)) (C := RX6) (T := TX6) (N := 22) hx hb hts nw_X6_minute_X6 hown hK hw.1 0 rfl rfl 1 (by decide) hL0 (fun _ h9 => h9) rfl dX6_minute_74 ?_
          refine lv_bipush (v := (12 : Int32)) hx hb dX6_minute_77 (by decide) ?_
          refine lv_iload_n hx hb dX6_minute_79 rfl (lv_at hl 1 rfl) ?_
          refine lv_iadd hx hb dX6_minute_80 ?_
          refine lv_iconst (v := (0 : Int32)) hx hb dX6_minute_81 (by decide) ?_
          obtain ⟨j15, e15, hb5⟩ := cd_bind_some hb5
          refine cd_iast (f := (cd_set (cd_set z5.2 1 j11 (v9 - r10)) 1 j14 (0 : Int32)) 1) hx hb hK hw 2 rfl e15 dX6_minute_82 (fun H locs hw => ?_)
          have hw : cd_WS G A s.heap H locs ((pc_mod cI cZ h (cd_set (cd_set (cd_set z5.2 1 j11 (v9 - r10)) 1 j14 (0 : Int32)) 1 j15 (0 : Int32)))) := (show ∀ (s9 : Nat → Nat → Int32) (y9 : Int32), cd_WS G A s.heap H locs (((pc_mod cI cZ h s9)).set 2 (h 2, .inl (cI, 69, .inl (upd (s9 1) j15 y9)))) → cd_WS G A s.heap H locs ((pc_mod cI cZ h (cd_set s9 1 j15 y9))) from fun _ _ hh => hh) (cd_set (cd_set z5.2 1 j11 (v9 - r10)) 1 j14 (0 : Int32)) (0 : Int32) hw
          refine lv_aload_n hx hb dX6_minute_83 rfl (lv_at hl 0 rfl) ?_
          refine va_get (D := G) (ci := 6) (v := .ref (h 2)) (C := RX6) (T := TX6) (N := 22) hx hb hts nw_X6_minute_X6 hown hK hw.1 0 rfl rfl 1 (by decide) hL0 (fun _ h9 => h9) rfl dX6_minute_84 ?_
          refine lv_bipush (v := (66 : Int32)) hx hb dX6_minute_87 (by decide) ?_
          refine lv_dup2_11 hx hb dX6_minute_89 rfl rfl ?_
          obtain ⟨v16, e16, hb5⟩ := cd_bind_some hb5
          refine cd_iald hx hb hK hw 2 rfl e16 dX6_minute_90 ?_
          refine lv_iconst (v := (1 : Int32)) hx hb dX6_minute_91 (by decide) ?_
          refine lv_iload_n hx hb dX6_minute_92 rfl (lv_at hl 1 rfl) ?_
          refine lv_ishl hx hb dX6_minute_93 ?_
          refine lv_iconst (v := (-1 : Int32)) hx hb dX6_minute_94 (by decide) ?_
          refine lv_ixor hx hb dX6_minute_95 ?_
          refine lv_iand hx hb dX6_minute_96 ?_
          obtain ⟨j17, e17, hb5⟩ := cd_bind_some hb5
          refine cd_iast (f := (cd_set (cd_set (cd_set z5.2 1 j11 (v9 - r10)) 1 j14 (0 : Int32)) 1 j15 (0 : Int32)) 1) hx hb hK hw 2 rfl e17 dX6_minute_97 (fun H locs hw => ?_)
          have hw : cd_WS G A s.heap H locs ((pc_mod cI cZ h (cd_set (cd_set (cd_set (cd_set z5.2 1 j11 (v9 - r10)) 1 j14 (0 : Int32)) 1 j15 (0 : Int32)) 1 j17 (v16 &&& (((1 : Int32) <<< (z5.1 &&& 31)) ^^^ (-1 : Int32)))))) := (show ∀ (s9 : Nat → Nat → Int32) (y9 : Int32), cd_WS G A s.heap H locs (((pc_mod cI cZ h s9)).set 2 (h 2, .inl (cI, 69, .inl (upd (s9 1) j17 y9)))) → cd_WS G A s.heap H locs ((pc_mod cI cZ h (cd_set s9 1 j17 y9))) from fun _ _ hh => hh) (cd_set (cd_set (cd_set z5.2 1 j11 (v9 - r10)) 1 j14 (0 : Int32)) 1 j15 (0 : Int32)) (v16 &&& (((1 : Int32) <<< (z5.1 &&& 31)) ^^^ (-1 : Int32))) hw
          refine lv_aload_n hx hb dX6_minute_98 rfl (lv_at hl 0 rfl) ?_
          refine lv_dup hx hb dX6_minute_99 rfl ?_
          refine va_get (D := G) (ci := 6) (v := .int (z5.2 11 0)) (C := RX6) (T := TX6) (N := 22) hx hb hts nw_X6_minute_X6 hown hK hw.1 0 rfl rfl 11 (by decide) hL1 (fun _ h9 => h9) rfl dX6_minute_100 ?_
          refine lv_iconst (v := (1 : Int32)) hx hb dX6_minute_103 (by decide) ?_
          refine lv_iload_n hx hb dX6_minute_104 rfl (lv_at hl 1 rfl) ?_
          refine lv_ishl hx hb dX6_minute_105 ?_
          refine lv_ior hx hb dX6_minute_106 ?_
          refine va_put (D := G) (ci := 6) (v := .int ((z5.2 11 0) ||| ((1 : Int32) <<< (z5.1 &&& 31)))) (ty := .int) (C := RX6) (T := TX6) (N := 22) hx hb hts nw_X6_minute_X6 tyX6 tyX6_ok nmX6 hown hK hw.1 hw.2.1 hw.2.2 0 rfl rfl 11 (by decide) hL1 (fun _ h9 => h9) rfl (by decide +kernel) rfl rfl (Nat.le_of_ble_eq_true rfl) dX6_minute_107 (fun H locs hP hD hS => ?_)
          have hw : cd_WS G A s.heap H locs ((pc_mod cI cZ h (cd_fld (cd_set (cd_set (cd_set (cd_set z5.2 1 j11 (v9 - r10)) 1 j14 (0 : Int32)) 1 j15 (0 : Int32)) 1 j17 (v16 &&& (((1 : Int32) <<< (z5.1 &&& 31)) ^^^ (-1 : Int32)))) 11 ((z5.2 11 0) ||| ((1 : Int32) <<< (z5.1 &&& 31)))))) := ⟨hP, hD, hS⟩
          refine lv_iinc (v := (z5.1 + (1 : Int32))) (lv' := [(1, .int (z5.1 + (1 : Int32))), (0, .ref (h 0))]) hx hb dX6_minute_110 hl (k := 1) rfl rfl (by decide) rfl (fun ls hl => ?_)
          refine lv_goto (tgt := 29) hx hb dX6_minute_113 (by decide) ?_
          have z : some (Sum.inr ((z5.1 + (1 : Int32)), (cd_fld (cd_set (cd_set (cd_set (cd_set z5.2 1 j11 (v9 - r10)) 1 j14 (0 : Int32)) 1 j15 (0 : Int32)) 1 j17 (v16 &&& (((1 : Int32) <<< (z5.1 &&& 31)) ^^^ (-1 : Int32)))) 11 ((z5.2 11 0) ||| ((1 : Int32) <<< (z5.1 &&& 31)))))) = some o5 := hb5
          cases z
          exact hk5 _ _ _ (lv_sub hl [1, 0] rfl) hw
  · have hf := cd_ite_t c2 hf
    refine lv_bipush (v := (8 : Int32)) hx hb dX6_minute_13 (by decide) ?_
    have z : some ((8 : Int32), M) = some o := hf
    cases z
    rw [hQ]
    exact cd_reti C0 hw dX6_minute_15
abbrev rm_X6_blow : Room := { frames := 0, cells := 0, slots := 0, locals := 0 }
theorem nw_X6_blow_X6 : ∀ w ∈ u_ws RX6 TX6 22, w ∈ wsX6_blow := by decide +kernel
set_option maxHeartbeats 4000000 in
set_option maxRecDepth 100000 in
theorem c_X6_blow (l : Launch) (G : va_G) (cI cZ : ClassId) (sa sb : Nat) (h : Nat → Nat) (M : Nat → Nat → Int32) (a0 : Int32) (a1 : Int32) (o : Int32 × (Nat → Nat → Int32)) (hf : f_X6_blow a0 a1 M = some o) : cd_Ct l G cI cZ sa sb yX6_blow wsX6_blow rm_X6_blow [.ref (h 0), .int a0, .int a1] ((pc_mod cI cZ h M)) ((pc_mod cI cZ h o.2)) (some (.int o.1)) := by
  refine cd_of (cc := cX6_blow) (maxL := 3) (ret := (some .int)) (by decide) rfl (Nat.le_of_ble_eq_true rfl) ?_
  intro p e s m ag below meth c A ls Q C0 hl hw hQ
  have C0 : cd_CX G cI cZ sa sb p s m ag meth c cX6_blow 3 (some .int) wsX6_blow RX6 A := C0
  obtain ⟨⟨hx, hb, hml, hown, hts⟩, hr, hlocks, hA, hE⟩ := id C0
  have hK := hE.1
  have hL0 := hts (.fieldLink RX6 13 "CandleDebtsModel" "now" "[I") (by decide +kernel)
  have hl : lv_has ls 3 [(0, .ref (h 0)), (1, .int a0), (2, .int a1)] := hl
  unfold f_X6_blow at hf
  refine lv_aload_n hx hb dX6_blow_0 rfl (lv_at hl 0 rfl) ?_
  refine va_get (D := G) (ci := 6) (v := .ref (h 2)) (C := RX6) (T := TX6) (N := 22) hx hb hts nw_X6_blow_X6 hown hK hw.1 0 rfl rfl 1 (by decide) hL0 (fun _ h9 => h9) rfl dX6_blow_1 ?_
  refine lv_bipush (v := (36 : Int32)) hx hb dX6_blow_4 (by decide) ?_
  refine lv_iload_n hx hb dX6_blow_6 rfl (lv_at hl 1 rfl) ?_
  refine lv_iadd hx hb dX6_blow_7 ?_
  obtain ⟨v1, e1, hf⟩ := cd_bind_some hf
  refine cd_iald hx hb hK hw 2 rfl e1 dX6_blow_8 ?_
  refine lv_iload_n hx hb dX6_blow_9 rfl (lv_at hl 2 rfl) ?_
  refine lv_icmp_ne (tgt := 16) hx hb dX6_blow_10 (by decide) (fun c2 => ?_) (fun c2 => ?_)
  · have hf := cd_ite_f c2 hf
    refine lv_aload_n hx hb dX6_blow_16 rfl (lv_at hl 0 rfl) ?_
    refine va_get (D := G) (ci := 6) (v := .ref (h 2)) (C := RX6) (T := TX6) (N := 22) hx hb hts nw_X6_blow_X6 hown hK hw.1 0 rfl rfl 1 (by decide) hL0 (fun _ h9 => h9) rfl dX6_blow_17 ?_
    refine lv_bipush (v := (36 : Int32)) hx hb dX6_blow_20 (by decide) ?_
    refine lv_iload_n hx hb dX6_blow_22 rfl (lv_at hl 1 rfl) ?_
    refine lv_iadd hx hb dX6_blow_23 ?_
    refine lv_iload_n hx hb dX6_blow_24 rfl (lv_at hl 2 rfl) ?_
    obtain ⟨j3, e3, hf⟩ := cd_bind_some hf
    refine cd_iast (f := M 1) hx hb hK hw 2 rfl e3 dX6_blow_25 (fun H locs hw => ?_)
    have hw : cd_WS G A s.heap H locs ((pc_mod cI cZ h (cd_set M 1 j3 a1))) := (show ∀ (s9 : Nat → Nat → Int32) (y9 : Int32), cd_WS G A s.heap H locs (((pc_mod cI cZ h s9)).set 2 (h 2, .inl (cI, 69, .inl (upd (s9 1) j3 y9)))) → cd_WS G A s.heap H locs ((pc_mod cI cZ h (cd_set s9 1 j3 y9))) from fun _ _ hh => hh) M a1 hw
    refine lv_iconst (v := (0 : Int32)) hx hb dX6_blow_26 (by decide) ?_
    have z : some ((0 : Int32), (cd_set M 1 j3 a1)) = some o := hf
    cases z
    rw [hQ]
    exact cd_reti C0 hw dX6_blow_27
  · have hf := cd_ite_t c2 hf
    refine lv_bipush (v := (7 : Int32)) hx hb dX6_blow_13 (by decide) ?_
    have z : some ((7 : Int32), M) = some o := hf
    cases z
    rw [hQ]
    exact cd_reti C0 hw dX6_blow_15
abbrev rm_X6_leaveJoined : Room := { frames := 0, cells := 0, slots := 0, locals := 0 }
theorem nw_X6_leaveJoined_X6 : ∀ w ∈ u_ws RX6 TX6 22, w ∈ wsX6_leaveJoined := by decide +kernel
set_option maxHeartbeats 4000000 in
set_option maxRecDepth 100000 in
theorem c_X6_leaveJoined (l : Launch) (G : va_G) (cI cZ : ClassId) (sa sb : Nat) (h : Nat → Nat) (M : Nat → Nat → Int32) (a0 : Int32) (o : (Nat → Nat → Int32)) (hf : f_X6_leaveJoined a0 M = some o) : cd_Ct l G cI cZ sa sb yX6_leaveJoined wsX6_leaveJoined rm_X6_leaveJoined [.ref (h 0), .int a0] ((pc_mod cI cZ h M)) ((pc_mod cI cZ h o)) none := by
  refine cd_of (cc := cX6_leaveJoined) (maxL := 3) (ret := none) (by decide) rfl (Nat.le_of_ble_eq_true rfl) ?_
  intro p e s m ag below meth c A ls Q C0 hl hw hQ
  have C0 : cd_CX G cI cZ sa sb p s m ag meth c cX6_leaveJoined 3 none wsX6_leaveJoined RX6 A := C0
  obtain ⟨⟨hx, hb, hml, hown, hts⟩, hr, hlocks, hA, hE⟩ := id C0
  have hK := hE.1
  have hL0 := hts (.fieldLink RX6 13 "CandleDebtsModel" "now" "[I") (by decide +kernel)
  have hl : lv_has ls 3 [(0, .ref (h 0)), (1, .int a0)] := hl
  unfold f_X6_leaveJoined at hf
  refine lv_iconst (v := (0 : Int32)) hx hb dX6_leaveJoined_0 (by decide) ?_
  refine lv_istore_n (lv' := [(2, .int (0 : Int32)), (0, .ref (h 0)), (1, .int a0)]) hx hb dX6_leaveJoined_1 rfl hl (by decide) rfl (fun ls hl => ?_)
  obtain ⟨x1, e1, hf⟩ := cd_bind_some hf
  have K1 : ∀ (t1 : (Nat → Nat → Int32)), t1 = x1 → ∀ (ls : Array Slot) (H : Heap) (locs : List Loc), lv_has ls 3 [(0, .ref (h 0)), (1, .int a0)] → cd_WS G A s.heap H locs ((pc_mod cI cZ h t1)) → W p l e rm_X6_leaveJoined s m ag below meth c H locs 0 0 Q (F0 m 31 ls []) := by
    intro t1 hs_1
    subst hs_1
    intro ls H locs hl hw
    refine lv_aload_n hx hb dX6_leaveJoined_31 rfl (lv_at hl 0 rfl) ?_
    refine va_get (D := G) (ci := 6) (v := .ref (h 2)) (C := RX6) (T := TX6) (N := 22) hx hb hts nw_X6_leaveJoined_X6 hown hK hw.1 0 rfl rfl 1 (by decide) hL0 (fun _ h9 => h9) rfl dX6_leaveJoined_32 ?_
    refine lv_bipush (v := (48 : Int32)) hx hb dX6_leaveJoined_35 (by decide) ?_
    refine lv_iload_n hx hb dX6_leaveJoined_37 rfl (lv_at hl 1 rfl) ?_
    refine lv_iadd hx hb dX6_leaveJoined_38 ?_
    refine lv_iconst (v := (1 : Int32)) hx hb dX6_leaveJoined_39 (by decide) ?_
    refine lv_iload_n hx hb dX6_leaveJoined_40 rfl (lv_at hl 1 rfl) ?_
    refine lv_ishl hx hb dX6_leaveJoined_41 ?_
    obtain ⟨j5, e5, hf⟩ := cd_bind_some hf
    refine cd_iast (f := t1 1) hx hb hK hw 2 rfl e5 dX6_leaveJoined_42 (fun H locs hw => ?_)
    have hw : cd_WS G A s.heap H locs ((pc_mod cI cZ h (cd_set t1 1 j5 ((1 : Int32) <<< (a0 &&& 31))))) := (show ∀ (s9 : Nat → Nat → Int32) (y9 : Int32), cd_WS G A s.heap H locs (((pc_mod cI cZ h s9)).set 2 (h 2, .inl (cI, 69, .inl (upd (s9 1) j5 y9)))) → cd_WS G A s.heap H locs ((pc_mod cI cZ h (cd_set s9 1 j5 y9))) from fun _ _ hh => hh) t1 ((1 : Int32) <<< (a0 &&& 31)) hw
    have z : some (cd_set t1 1 j5 ((1 : Int32) <<< (a0 &&& 31))) = some o := hf
    cases z
    rw [hQ]
    exact cd_retv C0 hw dX6_leaveJoined_43
  refine cd_iter_ind (body := (f_X6_leaveJoined_b2 a0)) (K := fun r => r = x1) (P := fun (z1 : Int32 × (Nat → Nat → Int32)) => ∀ (ls : Array Slot) (H : Heap) (locs : List Loc), lv_has ls 3 [(0, .ref (h 0)), (1, .int a0), (2, .int z1.1)] → cd_WS G A s.heap H locs ((pc_mod cI cZ h z1.2)) → W p l e rm_X6_leaveJoined s m ag below meth c H locs 0 0 Q (F0 m 2 ls [])) ?_ cd_N ((0 : Int32), M) x1 e1 rfl _ _ _ (lv_sub hl [1, 2, 0] rfl) hw
  intro z1 o1 hb1 hk1 ls H locs hl hw
  unfold f_X6_leaveJoined_b2 at hb1
  refine lv_iload_n hx hb dX6_leaveJoined_2 rfl (lv_at hl 2 rfl) ?_
  refine lv_bipush (v := (12 : Int32)) hx hb dX6_leaveJoined_3 (by decide) ?_
  refine lv_icmp_ge (tgt := 31) hx hb dX6_leaveJoined_5 (by decide) (fun c2 => ?_) (fun c2 => ?_)
  · have hb1 := cd_ite_t c2 hb1
    have z : some (Sum.inl z1.2) = some o1 := hb1
    cases z
    exact K1 _ hk1 _ _ _ (lv_sub hl [0, 1] rfl) hw
  · have hb1 := cd_ite_f c2 hb1
    refine lv_aload_n hx hb dX6_leaveJoined_8 rfl (lv_at hl 0 rfl) ?_
    refine va_get (D := G) (ci := 6) (v := .ref (h 2)) (C := RX6) (T := TX6) (N := 22) hx hb hts nw_X6_leaveJoined_X6 hown hK hw.1 0 rfl rfl 1 (by decide) hL0 (fun _ h9 => h9) rfl dX6_leaveJoined_9 ?_
    refine lv_bipush (v := (48 : Int32)) hx hb dX6_leaveJoined_12 (by decide) ?_
    refine lv_iload_n hx hb dX6_leaveJoined_14 rfl (lv_at hl 2 rfl) ?_
    refine lv_iadd hx hb dX6_leaveJoined_15 ?_
    refine lv_dup2_11 hx hb dX6_leaveJoined_16 rfl rfl ?_
    obtain ⟨v3, e3, hb1⟩ := cd_bind_some hb1
    refine cd_iald hx hb hK hw 2 rfl e3 dX6_leaveJoined_17 ?_
    refine lv_iconst (v := (1 : Int32)) hx hb dX6_leaveJoined_18 (by decide) ?_
    refine lv_iload_n hx hb dX6_leaveJoined_19 rfl (lv_at hl 1 rfl) ?_
    refine lv_ishl hx hb dX6_leaveJoined_20 ?_
    refine lv_iconst (v := (-1 : Int32)) hx hb dX6_leaveJoined_21 (by decide) ?_
    refine lv_ixor hx hb dX6_leaveJoined_22 ?_
    refine lv_iand hx hb dX6_leaveJoined_23 ?_
    obtain ⟨j4, e4, hb1⟩ := cd_bind_some hb1
    refine cd_iast (f := z1.2 1) hx hb hK hw 2 rfl e4 dX6_leaveJoined_24 (fun H locs hw => ?_)
    have hw : cd_WS G A s.heap H locs ((pc_mod cI cZ h (cd_set z1.2 1 j4 (v3 &&& (((1 : Int32) <<< (a0 &&& 31)) ^^^ (-1 : Int32)))))) := (show ∀ (s9 : Nat → Nat → Int32) (y9 : Int32), cd_WS G A s.heap H locs (((pc_mod cI cZ h s9)).set 2 (h 2, .inl (cI, 69, .inl (upd (s9 1) j4 y9)))) → cd_WS G A s.heap H locs ((pc_mod cI cZ h (cd_set s9 1 j4 y9))) from fun _ _ hh => hh) z1.2 (v3 &&& (((1 : Int32) <<< (a0 &&& 31)) ^^^ (-1 : Int32))) hw
    refine lv_iinc (v := (z1.1 + (1 : Int32))) (lv' := [(2, .int (z1.1 + (1 : Int32))), (0, .ref (h 0)), (1, .int a0)]) hx hb dX6_leaveJoined_25 hl (k := 2) rfl rfl (by decide) rfl (fun ls hl => ?_)
    refine lv_goto (tgt := 2) hx hb dX6_leaveJoined_28 (by decide) ?_
    have z : some (Sum.inr ((z1.1 + (1 : Int32)), (cd_set z1.2 1 j4 (v3 &&& (((1 : Int32) <<< (a0 &&& 31)) ^^^ (-1 : Int32)))))) = some o1 := hb1
    cases z
    exact hk1 _ _ _ (lv_sub hl [1, 2, 0] rfl) hw
abbrev rm_X6_strike : Room := { frames := 2, cells := 0, slots := 0, locals := 42 }
theorem nw_X6_strike_X6 : ∀ w ∈ u_ws RX6 TX6 22, w ∈ wsX6_strike := by decide +kernel
set_option maxHeartbeats 4000000 in
set_option maxRecDepth 100000 in
theorem c_X6_strike (l : Launch) (G : va_G) (cI cZ : ClassId) (sa sb : Nat) (h : Nat → Nat) (M : Nat → Nat → Int32) (a0 : Int32) (o : Int32 × (Nat → Nat → Int32)) (hf : f_X6_strike a0 M = some o) : cd_Ct l G cI cZ sa sb yX6_strike wsX6_strike rm_X6_strike [.ref (h 0), .int a0] ((pc_mod cI cZ h M)) ((pc_mod cI cZ h o.2)) (some (.int o.1)) := by
  refine cd_of (cc := cX6_strike) (maxL := 2) (ret := (some .int)) (by decide) rfl (Nat.le_of_ble_eq_true rfl) ?_
  intro p e s m ag below meth c A ls Q C0 hl hw hQ
  have C0 : cd_CX G cI cZ sa sb p s m ag meth c cX6_strike 2 (some .int) wsX6_strike RX6 A := C0
  obtain ⟨⟨hx, hb, hml, hown, hts⟩, hr, hlocks, hA, hE⟩ := id C0
  have hK := hE.1
  have hL0 := hts (.fieldLink RX6 13 "CandleDebtsModel" "now" "[I") (by decide +kernel)
  have hl : lv_has ls 2 [(0, .ref (h 0)), (1, .int a0)] := hl
  unfold f_X6_strike at hf
  refine lv_aload_n hx hb dX6_strike_0 rfl (lv_at hl 0 rfl) ?_
  refine va_get (D := G) (ci := 6) (v := .ref (h 2)) (C := RX6) (T := TX6) (N := 22) hx hb hts nw_X6_strike_X6 hown hK hw.1 0 rfl rfl 1 (by decide) hL0 (fun _ h9 => h9) rfl dX6_strike_1 ?_
  refine lv_iload_n hx hb dX6_strike_4 rfl (lv_at hl 1 rfl) ?_
  obtain ⟨v1, e1, hf⟩ := cd_bind_some hf
  refine cd_iald hx hb hK hw 2 rfl e1 dX6_strike_5 ?_
  refine lv_if_ne (tgt := 11) hx hb dX6_strike_6 (by decide) (fun c2 => ?_) (fun c2 => ?_)
  · have hf := cd_ite_f c2 hf
    refine lv_aload_n hx hb dX6_strike_11 rfl (lv_at hl 0 rfl) ?_
    refine lv_iload_n hx hb dX6_strike_12 rfl (lv_at hl 1 rfl) ?_
    obtain ⟨r3, e3, hf⟩ := cd_bind_some hf
    refine cd_callV (As := [.int a0]) (rest := []) C0 hw (c_X6_isLit l G cI cZ sa sb h M a0 r3 e3) [0, 1, 2, 3, 4, 5, 6, 7, 8, 9, 10, 11, 12, 13, 14] rfl rfl 0 6 rfl rfl rfl (cwV 1 hts gX6_strike_X6_isLit rfl rfl rfl (by decide +kernel) ⟨Nat.le_of_ble_eq_true rfl, Nat.le_of_ble_eq_true rfl⟩) rfl hl.1 (lv_room (Nat.le_of_ble_eq_true rfl)) dX6_strike_13 (fun H locs hw => ?_)
    refine lv_if_eq (tgt := 21) hx hb dX6_strike_16 (by decide) (fun c4 => ?_) (fun c4 => ?_)
    · have hf := cd_ite_t c4 hf
      refine lv_aload_n hx hb dX6_strike_21 rfl (lv_at hl 0 rfl) ?_
      refine va_get (D := G) (ci := 6) (v := .ref (h 2)) (C := RX6) (T := TX6) (N := 22) hx hb hts nw_X6_strike_X6 hown hK hw.1 0 rfl rfl 1 (by decide) hL0 (fun _ h9 => h9) rfl dX6_strike_22 ?_
      refine lv_bipush (v := (67 : Int32)) hx hb dX6_strike_25 (by decide) ?_
      obtain ⟨v5, e5, hf⟩ := cd_bind_some hf
      refine cd_iald hx hb hK hw 2 rfl e5 dX6_strike_27 ?_
      refine lv_if_ne (tgt := 33) hx hb dX6_strike_28 (by decide) (fun c6 => ?_) (fun c6 => ?_)
      · have hf := cd_ite_f c6 hf
        refine lv_aload_n hx hb dX6_strike_33 rfl (lv_at hl 0 rfl) ?_
        refine va_get (D := G) (ci := 6) (v := .ref (h 2)) (C := RX6) (T := TX6) (N := 22) hx hb hts nw_X6_strike_X6 hown hK hw.1 0 rfl rfl 1 (by decide) hL0 (fun _ h9 => h9) rfl dX6_strike_34 ?_
        refine lv_bipush (v := (67 : Int32)) hx hb dX6_strike_37 (by decide) ?_
        refine lv_dup2_11 hx hb dX6_strike_39 rfl rfl ?_
        obtain ⟨v7, e7, hf⟩ := cd_bind_some hf
        refine cd_iald hx hb hK hw 2 rfl e7 dX6_strike_40 ?_
        refine lv_iconst (v := (1 : Int32)) hx hb dX6_strike_41 (by decide) ?_
        refine lv_isub hx hb dX6_strike_42 ?_
        obtain ⟨j8, e8, hf⟩ := cd_bind_some hf
        refine cd_iast (f := M 1) hx hb hK hw 2 rfl e8 dX6_strike_43 (fun H locs hw => ?_)
        have hw : cd_WS G A s.heap H locs ((pc_mod cI cZ h (cd_set M 1 j8 (v7 - (1 : Int32))))) := (show ∀ (s9 : Nat → Nat → Int32) (y9 : Int32), cd_WS G A s.heap H locs (((pc_mod cI cZ h s9)).set 2 (h 2, .inl (cI, 69, .inl (upd (s9 1) j8 y9)))) → cd_WS G A s.heap H locs ((pc_mod cI cZ h (cd_set s9 1 j8 y9))) from fun _ _ hh => hh) M (v7 - (1 : Int32)) hw
        refine lv_aload_n hx hb dX6_strike_44 rfl (lv_at hl 0 rfl) ?_
        refine va_get (D := G) (ci := 6) (v := .ref (h 2)) (C := RX6) (T := TX6) (N := 22) hx hb hts nw_X6_strike_X6 hown hK hw.1 0 rfl rfl 1 (by decide) hL0 (fun _ h9 => h9) rfl dX6_strike_45 ?_
        refine lv_bipush (v := (66 : Int32)) hx hb dX6_strike_48 (by decide) ?_
        refine lv_dup2_11 hx hb dX6_strike_50 rfl rfl ?_
        obtain ⟨v9, e9, hf⟩ := cd_bind_some hf
        refine cd_iald hx hb hK hw 2 rfl e9 dX6_strike_51 ?_
        refine lv_iconst (v := (1 : Int32)) hx hb dX6_strike_52 (by decide) ?_
        refine lv_iload_n hx hb dX6_strike_53 rfl (lv_at hl 1 rfl) ?_
        refine lv_ishl hx hb dX6_strike_54 ?_
        refine lv_ior hx hb dX6_strike_55 ?_
        obtain ⟨j10, e10, hf⟩ := cd_bind_some hf
        refine cd_iast (f := (cd_set M 1 j8 (v7 - (1 : Int32))) 1) hx hb hK hw 2 rfl e10 dX6_strike_56 (fun H locs hw => ?_)
        have hw : cd_WS G A s.heap H locs ((pc_mod cI cZ h (cd_set (cd_set M 1 j8 (v7 - (1 : Int32))) 1 j10 (v9 ||| ((1 : Int32) <<< (a0 &&& 31)))))) := (show ∀ (s9 : Nat → Nat → Int32) (y9 : Int32), cd_WS G A s.heap H locs (((pc_mod cI cZ h s9)).set 2 (h 2, .inl (cI, 69, .inl (upd (s9 1) j10 y9)))) → cd_WS G A s.heap H locs ((pc_mod cI cZ h (cd_set s9 1 j10 y9))) from fun _ _ hh => hh) (cd_set M 1 j8 (v7 - (1 : Int32))) (v9 ||| ((1 : Int32) <<< (a0 &&& 31))) hw
        refine lv_aload_n hx hb dX6_strike_57 rfl (lv_at hl 0 rfl) ?_
        refine lv_iload_n hx hb dX6_strike_58 rfl (lv_at hl 1 rfl) ?_
        obtain ⟨r11, e11, hf⟩ := cd_bind_some hf
        refine cd_callVw (As := [.int a0]) (rest := []) (wr := ([] : va_W)) (wn := (pc_mod cI cZ h r11)) C0 hw (c_X6_leaveJoined l G cI cZ sa sb h (cd_set (cd_set M 1 j8 (v7 - (1 : Int32))) 1 j10 (v9 ||| ((1 : Int32) <<< (a0 &&& 31)))) a0 r11 e11) [0, 1, 2, 3, 4, 5, 6, 7, 8, 9, 10, 11, 12, 13, 14] [] [0, 1, 2, 3, 4, 5, 6, 7, 8, 9, 10, 11, 12, 13, 14] rfl rfl rfl rfl (by decide) rfl rfl 0 6 rfl rfl rfl (cwV 1 hts gX6_strike_X6_leaveJoined rfl rfl rfl (by decide +kernel) ⟨Nat.le_of_ble_eq_true rfl, Nat.le_of_ble_eq_true rfl⟩) rfl hl.1 (lv_room (Nat.le_of_ble_eq_true rfl)) dX6_strike_59 (fun H locs hw => ?_)
        refine lv_iconst (v := (0 : Int32)) hx hb dX6_strike_62 (by decide) ?_
        have z : some ((0 : Int32), r11) = some o := hf
        cases z
        rw [hQ]
        exact cd_reti C0 hw dX6_strike_63
      · have hf := cd_ite_t c6 hf
        refine lv_iconst (v := (3 : Int32)) hx hb dX6_strike_31 (by decide) ?_
        have z : some ((3 : Int32), M) = some o := hf
        cases z
        rw [hQ]
        exact cd_reti C0 hw dX6_strike_32
    · have hf := cd_ite_f c4 hf
      refine lv_iconst (v := (2 : Int32)) hx hb dX6_strike_19 (by decide) ?_
      have z : some ((2 : Int32), M) = some o := hf
      cases z
      rw [hQ]
      exact cd_reti C0 hw dX6_strike_20
  · have hf := cd_ite_t c2 hf
    refine lv_iconst (v := (1 : Int32)) hx hb dX6_strike_9 (by decide) ?_
    have z : some ((1 : Int32), M) = some o := hf
    cases z
    rw [hQ]
    exact cd_reti C0 hw dX6_strike_10
