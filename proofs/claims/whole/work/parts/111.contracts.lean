abbrev rm_X6_net : Room := { frames := 2, cells := 0, slots := 0, locals := 42 }
theorem nw_X6_net_X6 : ∀ w ∈ u_ws RX6 TX6 22, w ∈ wsX6_net := by decide +kernel
set_option maxHeartbeats 4000000 in
set_option maxRecDepth 100000 in
theorem c_X6_net (l : Launch) (G : va_G) (cI cZ : ClassId) (sa sb : Nat) (h : Nat → Nat) (M : Nat → Nat → Int32) (a0 : Int32) (o : Int32) (hf : f_X6_net a0 M = some o) : cd_Ct l G cI cZ sa sb yX6_net wsX6_net rm_X6_net [.ref (h 0), .int a0] ((pc_mod cI cZ h M)) ((pc_mod cI cZ h M)) (some (.int o)) := by
  refine cd_of (cc := cX6_net) (maxL := 4) (ret := (some .int)) (by decide) rfl (Nat.le_of_ble_eq_true rfl) ?_
  intro p e s m ag below meth c A ls Q C0 hl hw hQ
  have C0 : cd_CX G cI cZ sa sb p s m ag meth c cX6_net 4 (some .int) wsX6_net RX6 A := C0
  obtain ⟨⟨hx, hb, hml, hown, hts⟩, hr, hlocks, hA, hE⟩ := id C0
  have hK := hE.1
  have hL0 := hts (.constant RX6 146 (100000)) (by decide +kernel)
  have hL1 := hts (.fieldLink RX6 7 "CandleDebtsModel" "book" "[I") (by decide +kernel)
  have hL2 := hts (.fieldLink RX6 16 "CandleDebtsModel" "creditor" "[I") (by decide +kernel)
  have hL3 := hts (.fieldLink RX6 19 "CandleDebtsModel" "debtor" "[I") (by decide +kernel)
  have hl : lv_has ls 4 [(0, .ref (h 0)), (1, .int a0)] := hl
  unfold f_X6_net at hf
  refine lv_iload_n hx hb dX6_net_0 rfl (lv_at hl 1 rfl) ?_
  obtain ⟨r1, e1, hf⟩ := cd_bind_some hf
  refine cd_callS (As := [.int a0]) (rest := []) C0 hw (c_X6_isOne l G cI cZ sa sb a0 r1 e1) [] rfl rfl (va_cwS 1 hts gX6_net_X6_isOne rfl rfl rfl (by decide +kernel) ⟨Nat.le_of_ble_eq_true rfl, Nat.le_of_ble_eq_true rfl⟩) rfl hl.1 (lv_room (Nat.le_of_ble_eq_true rfl)) dX6_net_1 (fun H locs hw => ?_)
  refine lv_if_ne (tgt := 9) hx hb dX6_net_4 (by decide) (fun c2 => ?_) (fun c2 => ?_)
  · have hf := cd_ite_f c2 hf
    refine lv_ldc (v := (100000 : Int32)) hx hb hown hL0 dX6_net_9 ?_
    refine lv_istore_n (lv' := [(2, .int (100000 : Int32)), (0, .ref (h 0)), (1, .int a0)]) hx hb dX6_net_11 rfl hl (by decide) rfl (fun ls hl => ?_)
    refine lv_iconst (v := (0 : Int32)) hx hb dX6_net_12 (by decide) ?_
    refine lv_istore_n (lv' := [(3, .int (0 : Int32)), (2, .int (100000 : Int32)), (0, .ref (h 0)), (1, .int a0)]) hx hb dX6_net_13 rfl hl (by decide) rfl (fun ls hl => ?_)
    obtain ⟨x3, e3, hf⟩ := cd_bind_some hf
    have K3 : ∀ (t3 : Int32), t3 = x3 → ∀ (ls : Array Slot) (H : Heap) (locs : List Loc), lv_has ls 4 [(2, .int t3)] → cd_WS G A s.heap H locs ((pc_mod cI cZ h M)) → W p l e rm_X6_net s m ag below meth c H locs 0 0 Q (F0 m 92 ls []) := by
      intro t3 hs_3
      subst hs_3
      intro ls H locs hl hw
      refine lv_iload_n hx hb dX6_net_92 rfl (lv_at hl 0 rfl) ?_
      have z : some t3 = some o := hf
      cases z
      rw [hQ]
      exact cd_reti C0 hw dX6_net_93
    refine cd_iter_ind (body := (f_X6_net_b14 a0 M)) (K := fun r => r = x3) (P := fun (z3 : Int32 × Int32) => ∀ (ls : Array Slot) (H : Heap) (locs : List Loc), lv_has ls 4 [(0, .ref (h 0)), (1, .int a0), (2, .int z3.1), (3, .int z3.2)] → cd_WS G A s.heap H locs ((pc_mod cI cZ h M)) → W p l e rm_X6_net s m ag below meth c H locs 0 0 Q (F0 m 14 ls [])) ?_ cd_N ((100000 : Int32), (0 : Int32)) x3 e3 rfl _ _ _ (lv_sub hl [2, 3, 1, 0] rfl) hw
    intro z3 o3 hb3 hk3 ls H locs hl hw
    unfold f_X6_net_b14 at hb3
    refine lv_iload_n hx hb dX6_net_14 rfl (lv_at hl 3 rfl) ?_
    refine lv_bipush (v := (12 : Int32)) hx hb dX6_net_15 (by decide) ?_
    refine lv_icmp_ge (tgt := 92) hx hb dX6_net_17 (by decide) (fun c4 => ?_) (fun c4 => ?_)
    · have hb3 := cd_ite_t c4 hb3
      have z : some (Sum.inl z3.1) = some o3 := hb3
      cases z
      exact K3 _ hk3 _ _ _ (lv_sub hl [2] rfl) hw
    · have hb3 := cd_ite_f c4 hb3
      refine lv_aload_n hx hb dX6_net_20 rfl (lv_at hl 0 rfl) ?_
      refine va_get (D := G) (ci := 6) (v := .ref (h 1)) (C := RX6) (T := TX6) (N := 22) hx hb hts nw_X6_net_X6 hown hK hw.1 0 rfl rfl 0 (by decide) hL1 (fun _ h9 => h9) rfl dX6_net_21 ?_
      refine lv_bipush (v := (66 : Int32)) hx hb dX6_net_24 (by decide) ?_
      obtain ⟨v5, e5, hb3⟩ := cd_bind_some hb3
      refine cd_iald hx hb hK hw 1 rfl e5 dX6_net_26 ?_
      refine lv_iload_n hx hb dX6_net_27 rfl (lv_at hl 3 rfl) ?_
      obtain ⟨r6, e6, hb3⟩ := cd_bind_some hb3
      refine cd_callS (As := [.int v5, .int z3.2]) (rest := []) C0 hw (c_X6_isIn l G cI cZ sa sb v5 z3.2 r6 e6) [] rfl rfl (va_cwS 2 hts gX6_net_X6_isIn rfl rfl rfl (by decide +kernel) ⟨Nat.le_of_ble_eq_true rfl, Nat.le_of_ble_eq_true rfl⟩) rfl hl.1 (lv_room (Nat.le_of_ble_eq_true rfl)) dX6_net_28 (fun H locs hw => ?_)
      refine lv_if_eq (tgt := 86) hx hb dX6_net_31 (by decide) (fun c7 => ?_) (fun c7 => ?_)
      · have hb3 := cd_ite_t c7 hb3
        refine lv_iinc (v := (z3.2 + (1 : Int32))) (lv' := [(3, .int (z3.2 + (1 : Int32))), (0, .ref (h 0)), (1, .int a0), (2, .int z3.1)]) hx hb dX6_net_86 hl (k := 3) rfl rfl (by decide) rfl (fun ls hl => ?_)
        refine lv_goto (tgt := 14) hx hb dX6_net_89 (by decide) ?_
        have z : some (Sum.inr (z3.1, (z3.2 + (1 : Int32)))) = some o3 := hb3
        cases z
        exact hk3 _ _ _ (lv_sub hl [1, 2, 3, 0] rfl) hw
      · have hb3 := cd_ite_f c7 hb3
        refine lv_iload_n hx hb dX6_net_34 rfl (lv_at hl 2 rfl) ?_
        refine lv_aload_n hx hb dX6_net_35 rfl (lv_at hl 0 rfl) ?_
        refine va_get (D := G) (ci := 6) (v := .ref (h 3)) (C := RX6) (T := TX6) (N := 22) hx hb hts nw_X6_net_X6 hown hK hw.1 0 rfl rfl 2 (by decide) hL2 (fun _ h9 => h9) rfl dX6_net_36 ?_
        refine lv_iload_n hx hb dX6_net_39 rfl (lv_at hl 3 rfl) ?_
        obtain ⟨v8, e8, hb3⟩ := cd_bind_some hb3
        refine cd_iald hx hb hK hw 3 rfl e8 dX6_net_40 ?_
        refine lv_iload_n hx hb dX6_net_41 rfl (lv_at hl 1 rfl) ?_
        obtain ⟨x9, e9, hb3⟩ := cd_bind_some hb3
        have K9 : ∀ (ls : Array Slot) (H : Heap) (locs : List Loc), lv_has ls 4 [(0, .ref (h 0)), (1, .int a0), (3, .int z3.2)] → cd_WS G A s.heap H locs ((pc_mod cI cZ h M)) → W p l e rm_X6_net s m ag below meth c H locs 0 0 Q (F0 m 58 ls [.int x9, .int z3.1]) := by
          intro ls H locs hl hw
          refine lv_iadd hx hb dX6_net_58 ?_
          refine lv_istore_n (lv' := [(2, .int (z3.1 + x9)), (0, .ref (h 0)), (1, .int a0), (3, .int z3.2)]) hx hb dX6_net_59 rfl hl (by decide) rfl (fun ls hl => ?_)
          refine lv_iload_n hx hb dX6_net_60 rfl (lv_at hl 0 rfl) ?_
          refine lv_aload_n hx hb dX6_net_61 rfl (lv_at hl 1 rfl) ?_
          refine va_get (D := G) (ci := 6) (v := .ref (h 4)) (C := RX6) (T := TX6) (N := 22) hx hb hts nw_X6_net_X6 hown hK hw.1 0 rfl rfl 3 (by decide) hL3 (fun _ h9 => h9) rfl dX6_net_62 ?_
          refine lv_iload_n hx hb dX6_net_65 rfl (lv_at hl 3 rfl) ?_
          obtain ⟨v10, e10, hb3⟩ := cd_bind_some hb3
          refine cd_iald hx hb hK hw 4 rfl e10 dX6_net_66 ?_
          refine lv_iload_n hx hb dX6_net_67 rfl (lv_at hl 2 rfl) ?_
          obtain ⟨x11, e11, hb3⟩ := cd_bind_some hb3
          have K11 : ∀ (ls : Array Slot) (H : Heap) (locs : List Loc), lv_has ls 4 [(0, .ref (h 0)), (1, .int a0), (3, .int z3.2)] → cd_WS G A s.heap H locs ((pc_mod cI cZ h M)) → W p l e rm_X6_net s m ag below meth c H locs 0 0 Q (F0 m 84 ls [.int x11, .int (z3.1 + x9)]) := by
            intro ls H locs hl hw
            refine lv_isub hx hb dX6_net_84 ?_
            refine lv_istore_n (lv' := [(2, .int ((z3.1 + x9) - x11)), (0, .ref (h 0)), (1, .int a0), (3, .int z3.2)]) hx hb dX6_net_85 rfl hl (by decide) rfl (fun ls hl => ?_)
            refine lv_iinc (v := (z3.2 + (1 : Int32))) (lv' := [(3, .int (z3.2 + (1 : Int32))), (2, .int ((z3.1 + x9) - x11)), (0, .ref (h 0)), (1, .int a0)]) hx hb dX6_net_86 hl (k := 3) rfl rfl (by decide) rfl (fun ls hl => ?_)
            refine lv_goto (tgt := 14) hx hb dX6_net_89 (by decide) ?_
            have z : some (Sum.inr (((z3.1 + x9) - x11), (z3.2 + (1 : Int32)))) = some o3 := hb3
            cases z
            exact hk3 _ _ _ (lv_sub hl [2, 3, 1, 0] rfl) hw
          refine lv_icmp_ne (tgt := 83) hx hb dX6_net_68 (by decide) (fun c11 => ?_) (fun c11 => ?_)
          · have e11 := cd_ite_f c11 e11
            refine lv_iconst (v := (0 : Int32)) hx hb dX6_net_83 (by decide) ?_
            have z : some (0 : Int32) = some x11 := e11
            cases z
            exact K11 _ _ _ (lv_sub hl [1, 2, 3] rfl) hw
          · have e11 := cd_ite_t c11 e11
            refine lv_aload_n hx hb dX6_net_71 rfl (lv_at hl 1 rfl) ?_
            refine va_get (D := G) (ci := 6) (v := .ref (h 1)) (C := RX6) (T := TX6) (N := 22) hx hb hts nw_X6_net_X6 hown hK hw.1 0 rfl rfl 0 (by decide) hL1 (fun _ h9 => h9) rfl dX6_net_72 ?_
            refine lv_bipush (v := (12 : Int32)) hx hb dX6_net_75 (by decide) ?_
            refine lv_iload_n hx hb dX6_net_77 rfl (lv_at hl 3 rfl) ?_
            refine lv_iadd hx hb dX6_net_78 ?_
            obtain ⟨v12, e12, e11⟩ := cd_bind_some e11
            refine cd_iald hx hb hK hw 1 rfl e12 dX6_net_79 ?_
            refine lv_goto (tgt := 84) hx hb dX6_net_80 (by decide) ?_
            have z : some v12 = some x11 := e11
            cases z
            exact K11 _ _ _ (lv_sub hl [1, 2, 3] rfl) hw
        refine lv_icmp_ne (tgt := 57) hx hb dX6_net_42 (by decide) (fun c9 => ?_) (fun c9 => ?_)
        · have e9 := cd_ite_f c9 e9
          refine lv_iconst (v := (0 : Int32)) hx hb dX6_net_57 (by decide) ?_
          have z : some (0 : Int32) = some x9 := e9
          cases z
          exact K9 _ _ _ (lv_sub hl [0, 1, 3] rfl) hw
        · have e9 := cd_ite_t c9 e9
          refine lv_aload_n hx hb dX6_net_45 rfl (lv_at hl 0 rfl) ?_
          refine va_get (D := G) (ci := 6) (v := .ref (h 1)) (C := RX6) (T := TX6) (N := 22) hx hb hts nw_X6_net_X6 hown hK hw.1 0 rfl rfl 0 (by decide) hL1 (fun _ h9 => h9) rfl dX6_net_46 ?_
          refine lv_bipush (v := (12 : Int32)) hx hb dX6_net_49 (by decide) ?_
          refine lv_iload_n hx hb dX6_net_51 rfl (lv_at hl 3 rfl) ?_
          refine lv_iadd hx hb dX6_net_52 ?_
          obtain ⟨v13, e13, e9⟩ := cd_bind_some e9
          refine cd_iald hx hb hK hw 1 rfl e13 dX6_net_53 ?_
          refine lv_goto (tgt := 58) hx hb dX6_net_54 (by decide) ?_
          have z : some v13 = some x9 := e9
          cases z
          exact K9 _ _ _ (lv_sub hl [0, 1, 3] rfl) hw
  · have hf := cd_ite_t c2 hf
    refine lv_iconst (v := (-1 : Int32)) hx hb dX6_net_7 (by decide) ?_
    have z : some (-1 : Int32) = some o := hf
    cases z
    rw [hQ]
    exact cd_reti C0 hw dX6_net_8
abbrev rm_X6_purse : Room := { frames := 2, cells := 0, slots := 0, locals := 42 }
theorem nw_X6_purse_X6 : ∀ w ∈ u_ws RX6 TX6 22, w ∈ wsX6_purse := by decide +kernel
set_option maxHeartbeats 4000000 in
set_option maxRecDepth 100000 in
theorem c_X6_purse (l : Launch) (G : va_G) (cI cZ : ClassId) (sa sb : Nat) (h : Nat → Nat) (M : Nat → Nat → Int32) (a0 : Int32) (a1 : Int32) (o : Int32 × (Nat → Nat → Int32)) (hf : f_X6_purse a0 a1 M = some o) : cd_Ct l G cI cZ sa sb yX6_purse wsX6_purse rm_X6_purse [.ref (h 0), .int a0, .int a1] ((pc_mod cI cZ h M)) ((pc_mod cI cZ h o.2)) (some (.int o.1)) := by
  refine cd_of (cc := cX6_purse) (maxL := 4) (ret := (some .int)) (by decide) rfl (Nat.le_of_ble_eq_true rfl) ?_
  intro p e s m ag below meth c A ls Q C0 hl hw hQ
  have C0 : cd_CX G cI cZ sa sb p s m ag meth c cX6_purse 4 (some .int) wsX6_purse RX6 A := C0
  obtain ⟨⟨hx, hb, hml, hown, hts⟩, hr, hlocks, hA, hE⟩ := id C0
  have hK := hE.1
  have hL0 := hts (.fieldLink RX6 7 "CandleDebtsModel" "book" "[I") (by decide +kernel)
  have hl : lv_has ls 4 [(0, .ref (h 0)), (1, .int a0), (2, .int a1)] := hl
  unfold f_X6_purse at hf
  refine lv_iload_n hx hb dX6_purse_0 rfl (lv_at hl 1 rfl) ?_
  obtain ⟨r1, e1, hf⟩ := cd_bind_some hf
  refine cd_callS (As := [.int a0]) (rest := []) C0 hw (c_X6_isOne l G cI cZ sa sb a0 r1 e1) [] rfl rfl (va_cwS 1 hts gX6_purse_X6_isOne rfl rfl rfl (by decide +kernel) ⟨Nat.le_of_ble_eq_true rfl, Nat.le_of_ble_eq_true rfl⟩) rfl hl.1 (lv_room (Nat.le_of_ble_eq_true rfl)) dX6_purse_1 (fun H locs hw => ?_)
  refine lv_if_ne (tgt := 9) hx hb dX6_purse_4 (by decide) (fun c2 => ?_) (fun c2 => ?_)
  · have hf := cd_ite_f c2 hf
    refine lv_iload_n hx hb dX6_purse_9 rfl (lv_at hl 2 rfl) ?_
    refine lv_iconst (v := (0 : Int32)) hx hb dX6_purse_10 (by decide) ?_
    refine lv_sipush (v := (9999 : Int32)) hx hb dX6_purse_11 (by decide) ?_
    obtain ⟨r3, e3, hf⟩ := cd_bind_some hf
    refine cd_callS (As := [.int a1, .int (0 : Int32), .int (9999 : Int32)]) (rest := []) C0 hw (c_X6_in l G cI cZ sa sb a1 (0 : Int32) (9999 : Int32) r3 e3) [] rfl rfl (va_cwS 3 hts gX6_purse_X6_in rfl rfl rfl (by decide +kernel) ⟨Nat.le_of_ble_eq_true rfl, Nat.le_of_ble_eq_true rfl⟩) rfl hl.1 (lv_room (Nat.le_of_ble_eq_true rfl)) dX6_purse_14 (fun H locs hw => ?_)
    refine lv_if_ne (tgt := 23) hx hb dX6_purse_17 (by decide) (fun c4 => ?_) (fun c4 => ?_)
    · have hf := cd_ite_f c4 hf
      refine lv_aload_n hx hb dX6_purse_23 rfl (lv_at hl 0 rfl) ?_
      refine va_get (D := G) (ci := 6) (v := .ref (h 1)) (C := RX6) (T := TX6) (N := 22) hx hb hts nw_X6_purse_X6 hown hK hw.1 0 rfl rfl 0 (by decide) hL0 (fun _ h9 => h9) rfl dX6_purse_24 ?_
      refine lv_bipush (v := (60 : Int32)) hx hb dX6_purse_27 (by decide) ?_
      refine lv_iload_n hx hb dX6_purse_29 rfl (lv_at hl 1 rfl) ?_
      refine lv_iadd hx hb dX6_purse_30 ?_
      obtain ⟨v5, e5, hf⟩ := cd_bind_some hf
      refine cd_iald hx hb hK hw 1 rfl e5 dX6_purse_31 ?_
      refine lv_istore_n (lv' := [(3, .int v5), (0, .ref (h 0)), (1, .int a0), (2, .int a1)]) hx hb dX6_purse_32 rfl hl (by decide) rfl (fun ls hl => ?_)
      refine lv_aload_n hx hb dX6_purse_33 rfl (lv_at hl 1 rfl) ?_
      refine va_get (D := G) (ci := 6) (v := .ref (h 1)) (C := RX6) (T := TX6) (N := 22) hx hb hts nw_X6_purse_X6 hown hK hw.1 0 rfl rfl 0 (by decide) hL0 (fun _ h9 => h9) rfl dX6_purse_34 ?_
      refine lv_bipush (v := (60 : Int32)) hx hb dX6_purse_37 (by decide) ?_
      refine lv_iload_n hx hb dX6_purse_39 rfl (lv_at hl 2 rfl) ?_
      refine lv_iadd hx hb dX6_purse_40 ?_
      refine lv_iload_n hx hb dX6_purse_41 rfl (lv_at hl 3 rfl) ?_
      obtain ⟨j6, e6, hf⟩ := cd_bind_some hf
      refine cd_iast (f := M 0) hx hb hK hw 1 rfl e6 dX6_purse_42 (fun H locs hw => ?_)
      have hw : cd_WS G A s.heap H locs ((pc_mod cI cZ h (cd_set M 0 j6 a1))) := (show ∀ (s9 : Nat → Nat → Int32) (y9 : Int32), cd_WS G A s.heap H locs (((pc_mod cI cZ h s9)).set 1 (h 1, .inl (cI, 69, .inl (upd (s9 0) j6 y9)))) → cd_WS G A s.heap H locs ((pc_mod cI cZ h (cd_set s9 0 j6 y9))) from fun _ _ hh => hh) M a1 hw
      refine lv_iload_n hx hb dX6_purse_43 rfl (lv_at hl 0 rfl) ?_
      have z : some (v5, (cd_set M 0 j6 a1)) = some o := hf
      cases z
      rw [hQ]
      exact cd_reti C0 hw dX6_purse_44
    · have hf := cd_ite_t c4 hf
      refine lv_bipush (v := (-2 : Int32)) hx hb dX6_purse_20 (by decide) ?_
      have z : some ((-2 : Int32), M) = some o := hf
      cases z
      rw [hQ]
      exact cd_reti C0 hw dX6_purse_22
  · have hf := cd_ite_t c2 hf
    refine lv_iconst (v := (-1 : Int32)) hx hb dX6_purse_7 (by decide) ?_
    have z : some ((-1 : Int32), M) = some o := hf
    cases z
    rw [hQ]
    exact cd_reti C0 hw dX6_purse_8
abbrev rm_X6_restore : Room := { frames := 1, cells := 0, slots := 0, locals := 22 }
theorem nw_X6_restore_X6 : ∀ w ∈ u_ws RX6 TX6 22, w ∈ wsX6_restore := by decide +kernel
set_option maxHeartbeats 4000000 in
set_option maxRecDepth 100000 in
theorem c_X6_restore (l : Launch) (G : va_G) (cI cZ : ClassId) (sa sb : Nat) (h : Nat → Nat) (M : Nat → Nat → Int32) (a0 : Int32) (o : Int32 × (Nat → Nat → Int32)) (hf : f_X6_restore a0 M = some o) : cd_Ct l G cI cZ sa sb yX6_restore wsX6_restore rm_X6_restore [.ref (h 0), .int a0] ((pc_mod cI cZ h M)) ((pc_mod cI cZ h o.2)) (some (.int o.1)) := by
  refine cd_of (cc := cX6_restore) (maxL := 4) (ret := (some .int)) (by decide) rfl (Nat.le_of_ble_eq_true rfl) ?_
  intro p e s m ag below meth c A ls Q C0 hl hw hQ
  have C0 : cd_CX G cI cZ sa sb p s m ag meth c cX6_restore 4 (some .int) wsX6_restore RX6 A := C0
  obtain ⟨⟨hx, hb, hml, hown, hts⟩, hr, hlocks, hA, hE⟩ := id C0
  have hK := hE.1
  have hL0 := hts (.fieldLink RX6 50 "CandleDebtsModel" "isKept" "[Z") (by decide +kernel)
  have hL1 := hts (.fieldLink RX6 7 "CandleDebtsModel" "book" "[I") (by decide +kernel)
  have hL2 := hts (.fieldLink RX6 47 "CandleDebtsModel" "image" "[I") (by decide +kernel)
  have hL3 := hts (.fieldLink RX6 16 "CandleDebtsModel" "creditor" "[I") (by decide +kernel)
  have hL4 := hts (.fieldLink RX6 19 "CandleDebtsModel" "debtor" "[I") (by decide +kernel)
  have hL5 := hts (.fieldLink RX6 22 "CandleDebtsModel" "sight" "[I") (by decide +kernel)
  have hL6 := hts (.fieldLink RX6 167 "CandleDebtsModel" "sights" "I") (by decide +kernel)
  have hl : lv_has ls 4 [(0, .ref (h 0)), (1, .int a0)] := hl
  unfold f_X6_restore at hf
  refine lv_iload_n hx hb dX6_restore_0 rfl (lv_at hl 1 rfl) ?_
  refine lv_iconst (v := (0 : Int32)) hx hb dX6_restore_1 (by decide) ?_
  refine lv_iconst (v := (1 : Int32)) hx hb dX6_restore_2 (by decide) ?_
  obtain ⟨r1, e1, hf⟩ := cd_bind_some hf
  refine cd_callS (As := [.int a0, .int (0 : Int32), .int (1 : Int32)]) (rest := []) C0 hw (c_X6_in l G cI cZ sa sb a0 (0 : Int32) (1 : Int32) r1 e1) [] rfl rfl (va_cwS 3 hts gX6_restore_X6_in rfl rfl rfl (by decide +kernel) ⟨Nat.le_of_ble_eq_true rfl, Nat.le_of_ble_eq_true rfl⟩) rfl hl.1 (lv_room (Nat.le_of_ble_eq_true rfl)) dX6_restore_3 (fun H locs hw => ?_)
  refine lv_if_ne (tgt := 12) hx hb dX6_restore_6 (by decide) (fun c2 => ?_) (fun c2 => ?_)
  · have hf := cd_ite_f c2 hf
    refine lv_aload_n hx hb dX6_restore_12 rfl (lv_at hl 0 rfl) ?_
    refine va_get (D := G) (ci := 6) (v := .ref (h 14)) (C := RX6) (T := TX6) (N := 22) hx hb hts nw_X6_restore_X6 hown hK hw.1 0 rfl rfl 21 (by decide) hL0 (fun _ h9 => h9) rfl dX6_restore_13 ?_
    refine lv_iload_n hx hb dX6_restore_16 rfl (lv_at hl 1 rfl) ?_
    obtain ⟨v3, e3, hf⟩ := cd_bind_some hf
    refine cd_zald hx hb hK hw 14 rfl e3 dX6_restore_17 ?_
    refine lv_if_ne (tgt := 24) hx hb dX6_restore_18 (by decide) (fun c4 => ?_) (fun c4 => ?_)
    · have hf := cd_ite_f c4 hf
      refine lv_bipush (v := (120 : Int32)) hx hb dX6_restore_24 (by decide) ?_
      refine lv_iload_n hx hb dX6_restore_26 rfl (lv_at hl 1 rfl) ?_
      refine lv_imul hx hb dX6_restore_27 ?_
      refine lv_istore_n (lv' := [(2, .int ((120 : Int32) * a0)), (0, .ref (h 0)), (1, .int a0)]) hx hb dX6_restore_28 rfl hl (by decide) rfl (fun ls hl => ?_)
      refine lv_iconst (v := (0 : Int32)) hx hb dX6_restore_29 (by decide) ?_
      refine lv_istore_n (lv' := [(3, .int (0 : Int32)), (2, .int ((120 : Int32) * a0)), (0, .ref (h 0)), (1, .int a0)]) hx hb dX6_restore_30 rfl hl (by decide) rfl (fun ls hl => ?_)
      obtain ⟨x5, e5, hf⟩ := cd_bind_some hf
      have K5 : ∀ (t5 : (Nat → Nat → Int32)), t5 = x5 → ∀ (ls : Array Slot) (H : Heap) (locs : List Loc), lv_has ls 4 [(0, .ref (h 0)), (2, .int ((120 : Int32) * a0))] → cd_WS G A s.heap H locs ((pc_mod cI cZ h t5)) → W p l e rm_X6_restore s m ag below meth c H locs 0 0 Q (F0 m 57 ls []) := by
        intro t5 hs_5
        subst hs_5
        intro ls H locs hl hw
        refine lv_iconst (v := (0 : Int32)) hx hb dX6_restore_57 (by decide) ?_
        refine lv_istore_n (lv' := [(3, .int (0 : Int32)), (0, .ref (h 0)), (2, .int ((120 : Int32) * a0))]) hx hb dX6_restore_58 rfl hl (by decide) rfl (fun ls hl => ?_)
        obtain ⟨x9, e9, hf⟩ := cd_bind_some hf
        have K9 : ∀ (t9 : (Nat → Nat → Int32)), t9 = x9 → ∀ (ls : Array Slot) (H : Heap) (locs : List Loc), lv_has ls 4 [(0, .ref (h 0)), (2, .int ((120 : Int32) * a0))] → cd_WS G A s.heap H locs ((pc_mod cI cZ h t9)) → W p l e rm_X6_restore s m ag below meth c H locs 0 0 Q (F0 m 105 ls []) := by
          intro t9 hs_9
          subst hs_9
          intro ls H locs hl hw
          refine lv_iconst (v := (0 : Int32)) hx hb dX6_restore_105 (by decide) ?_
          refine lv_istore_n (lv' := [(3, .int (0 : Int32)), (0, .ref (h 0)), (2, .int ((120 : Int32) * a0))]) hx hb dX6_restore_106 rfl hl (by decide) rfl (fun ls hl => ?_)
          obtain ⟨x15, e15, hf⟩ := cd_bind_some hf
          have K15 : ∀ (t15 : (Nat → Nat → Int32)), t15 = x15 → ∀ (ls : Array Slot) (H : Heap) (locs : List Loc), lv_has ls 4 [(0, .ref (h 0)), (2, .int ((120 : Int32) * a0))] → cd_WS G A s.heap H locs ((pc_mod cI cZ h t15)) → W p l e rm_X6_restore s m ag below meth c H locs 0 0 Q (F0 m 136 ls []) := by
            intro t15 hs_15
            subst hs_15
            intro ls H locs hl hw
            refine lv_aload_n hx hb dX6_restore_136 rfl (lv_at hl 0 rfl) ?_
            refine lv_aload_n hx hb dX6_restore_137 rfl (lv_at hl 0 rfl) ?_
            refine va_get (D := G) (ci := 6) (v := .ref (h 13)) (C := RX6) (T := TX6) (N := 22) hx hb hts nw_X6_restore_X6 hown hK hw.1 0 rfl rfl 20 (by decide) hL2 (fun _ h9 => h9) rfl dX6_restore_138 ?_
            refine lv_iload_n hx hb dX6_restore_141 rfl (lv_at hl 1 rfl) ?_
            refine lv_bipush (v := (110 : Int32)) hx hb dX6_restore_142 (by decide) ?_
            refine lv_iadd hx hb dX6_restore_144 ?_
            obtain ⟨v19, e19, hf⟩ := cd_bind_some hf
            refine cd_iald hx hb hK hw 13 rfl e19 dX6_restore_145 ?_
            refine va_put (D := G) (ci := 6) (v := .int v19) (ty := .int) (C := RX6) (T := TX6) (N := 22) hx hb hts nw_X6_restore_X6 tyX6 tyX6_ok nmX6 hown hK hw.1 hw.2.1 hw.2.2 0 rfl rfl 4 (by decide) hL6 (fun _ h9 => h9) rfl (by decide +kernel) rfl rfl (Nat.le_of_ble_eq_true rfl) dX6_restore_146 (fun H locs hP hD hS => ?_)
            have hw : cd_WS G A s.heap H locs ((pc_mod cI cZ h (cd_fld t15 4 v19))) := ⟨hP, hD, hS⟩
            refine lv_iconst (v := (1 : Int32)) hx hb dX6_restore_149 (by decide) ?_
            have z : some ((1 : Int32), (cd_fld t15 4 v19)) = some o := hf
            cases z
            rw [hQ]
            exact cd_reti C0 hw dX6_restore_150
          refine cd_iter_ind (body := (f_X6_restore_b107 a0)) (K := fun r => r = x15) (P := fun (z15 : Int32 × (Nat → Nat → Int32)) => ∀ (ls : Array Slot) (H : Heap) (locs : List Loc), lv_has ls 4 [(0, .ref (h 0)), (2, .int ((120 : Int32) * a0)), (3, .int z15.1)] → cd_WS G A s.heap H locs ((pc_mod cI cZ h z15.2)) → W p l e rm_X6_restore s m ag below meth c H locs 0 0 Q (F0 m 107 ls [])) ?_ cd_N ((0 : Int32), t9) x15 e15 rfl _ _ _ (lv_sub hl [1, 2, 0] rfl) hw
          intro z15 o15 hb15 hk15 ls H locs hl hw
          unfold f_X6_restore_b107 at hb15
          refine lv_iload_n hx hb dX6_restore_107 rfl (lv_at hl 2 rfl) ?_
          refine lv_bipush (v := (16 : Int32)) hx hb dX6_restore_108 (by decide) ?_
          refine lv_icmp_ge (tgt := 136) hx hb dX6_restore_110 (by decide) (fun c16 => ?_) (fun c16 => ?_)
          · have hb15 := cd_ite_t c16 hb15
            have z : some (Sum.inl z15.2) = some o15 := hb15
            cases z
            exact K15 _ hk15 _ _ _ (lv_sub hl [0, 1] rfl) hw
          · have hb15 := cd_ite_f c16 hb15
            refine lv_aload_n hx hb dX6_restore_113 rfl (lv_at hl 0 rfl) ?_
            refine va_get (D := G) (ci := 6) (v := .ref (h 5)) (C := RX6) (T := TX6) (N := 22) hx hb hts nw_X6_restore_X6 hown hK hw.1 0 rfl rfl 5 (by decide) hL5 (fun _ h9 => h9) rfl dX6_restore_114 ?_
            refine lv_iload_n hx hb dX6_restore_117 rfl (lv_at hl 2 rfl) ?_
            refine lv_aload_n hx hb dX6_restore_118 rfl (lv_at hl 0 rfl) ?_
            refine va_get (D := G) (ci := 6) (v := .ref (h 13)) (C := RX6) (T := TX6) (N := 22) hx hb hts nw_X6_restore_X6 hown hK hw.1 0 rfl rfl 20 (by decide) hL2 (fun _ h9 => h9) rfl dX6_restore_119 ?_
            refine lv_iload_n hx hb dX6_restore_122 rfl (lv_at hl 1 rfl) ?_
            refine lv_bipush (v := (93 : Int32)) hx hb dX6_restore_123 (by decide) ?_
            refine lv_iadd hx hb dX6_restore_125 ?_
            refine lv_iload_n hx hb dX6_restore_126 rfl (lv_at hl 2 rfl) ?_
            refine lv_iadd hx hb dX6_restore_127 ?_
            obtain ⟨v17, e17, hb15⟩ := cd_bind_some hb15
            refine cd_iald hx hb hK hw 13 rfl e17 dX6_restore_128 ?_
            obtain ⟨j18, e18, hb15⟩ := cd_bind_some hb15
            refine cd_iast (f := z15.2 5) hx hb hK hw 5 rfl e18 dX6_restore_129 (fun H locs hw => ?_)
            have hw : cd_WS G A s.heap H locs ((pc_mod cI cZ h (cd_set z15.2 5 j18 v17))) := (show ∀ (s9 : Nat → Nat → Int32) (y9 : Int32), cd_WS G A s.heap H locs (((pc_mod cI cZ h s9)).set 5 (h 5, .inl (cI, 16, .inl (upd (s9 5) j18 y9)))) → cd_WS G A s.heap H locs ((pc_mod cI cZ h (cd_set s9 5 j18 y9))) from fun _ _ hh => hh) z15.2 v17 hw
            refine lv_iinc (v := (z15.1 + (1 : Int32))) (lv' := [(3, .int (z15.1 + (1 : Int32))), (0, .ref (h 0)), (2, .int ((120 : Int32) * a0))]) hx hb dX6_restore_130 hl (k := 2) rfl rfl (by decide) rfl (fun ls hl => ?_)
            refine lv_goto (tgt := 107) hx hb dX6_restore_133 (by decide) ?_
            have z : some (Sum.inr ((z15.1 + (1 : Int32)), (cd_set z15.2 5 j18 v17))) = some o15 := hb15
            cases z
            exact hk15 _ _ _ (lv_sub hl [1, 2, 0] rfl) hw
        refine cd_iter_ind (body := (f_X6_restore_b59 a0)) (K := fun r => r = x9) (P := fun (z9 : Int32 × (Nat → Nat → Int32)) => ∀ (ls : Array Slot) (H : Heap) (locs : List Loc), lv_has ls 4 [(0, .ref (h 0)), (2, .int ((120 : Int32) * a0)), (3, .int z9.1)] → cd_WS G A s.heap H locs ((pc_mod cI cZ h z9.2)) → W p l e rm_X6_restore s m ag below meth c H locs 0 0 Q (F0 m 59 ls [])) ?_ cd_N ((0 : Int32), t5) x9 e9 rfl _ _ _ (lv_sub hl [1, 2, 0] rfl) hw
        intro z9 o9 hb9 hk9 ls H locs hl hw
        unfold f_X6_restore_b59 at hb9
        refine lv_iload_n hx hb dX6_restore_59 rfl (lv_at hl 2 rfl) ?_
        refine lv_bipush (v := (12 : Int32)) hx hb dX6_restore_60 (by decide) ?_
        refine lv_icmp_ge (tgt := 105) hx hb dX6_restore_62 (by decide) (fun c10 => ?_) (fun c10 => ?_)
        · have hb9 := cd_ite_t c10 hb9
          have z : some (Sum.inl z9.2) = some o9 := hb9
          cases z
          exact K9 _ hk9 _ _ _ (lv_sub hl [0, 1] rfl) hw
        · have hb9 := cd_ite_f c10 hb9
          refine lv_aload_n hx hb dX6_restore_65 rfl (lv_at hl 0 rfl) ?_
          refine va_get (D := G) (ci := 6) (v := .ref (h 3)) (C := RX6) (T := TX6) (N := 22) hx hb hts nw_X6_restore_X6 hown hK hw.1 0 rfl rfl 2 (by decide) hL3 (fun _ h9 => h9) rfl dX6_restore_66 ?_
          refine lv_iload_n hx hb dX6_restore_69 rfl (lv_at hl 2 rfl) ?_
          refine lv_aload_n hx hb dX6_restore_70 rfl (lv_at hl 0 rfl) ?_
          refine va_get (D := G) (ci := 6) (v := .ref (h 13)) (C := RX6) (T := TX6) (N := 22) hx hb hts nw_X6_restore_X6 hown hK hw.1 0 rfl rfl 20 (by decide) hL2 (fun _ h9 => h9) rfl dX6_restore_71 ?_
          refine lv_iload_n hx hb dX6_restore_74 rfl (lv_at hl 1 rfl) ?_
          refine lv_bipush (v := (69 : Int32)) hx hb dX6_restore_75 (by decide) ?_
          refine lv_iadd hx hb dX6_restore_77 ?_
          refine lv_iload_n hx hb dX6_restore_78 rfl (lv_at hl 2 rfl) ?_
          refine lv_iadd hx hb dX6_restore_79 ?_
          obtain ⟨v11, e11, hb9⟩ := cd_bind_some hb9
          refine cd_iald hx hb hK hw 13 rfl e11 dX6_restore_80 ?_
          obtain ⟨j12, e12, hb9⟩ := cd_bind_some hb9
          refine cd_iast (f := z9.2 2) hx hb hK hw 3 rfl e12 dX6_restore_81 (fun H locs hw => ?_)
          have hw : cd_WS G A s.heap H locs ((pc_mod cI cZ h (cd_set z9.2 2 j12 v11))) := (show ∀ (s9 : Nat → Nat → Int32) (y9 : Int32), cd_WS G A s.heap H locs (((pc_mod cI cZ h s9)).set 3 (h 3, .inl (cI, 12, .inl (upd (s9 2) j12 y9)))) → cd_WS G A s.heap H locs ((pc_mod cI cZ h (cd_set s9 2 j12 y9))) from fun _ _ hh => hh) z9.2 v11 hw
          refine lv_aload_n hx hb dX6_restore_82 rfl (lv_at hl 0 rfl) ?_
          refine va_get (D := G) (ci := 6) (v := .ref (h 4)) (C := RX6) (T := TX6) (N := 22) hx hb hts nw_X6_restore_X6 hown hK hw.1 0 rfl rfl 3 (by decide) hL4 (fun _ h9 => h9) rfl dX6_restore_83 ?_
          refine lv_iload_n hx hb dX6_restore_86 rfl (lv_at hl 2 rfl) ?_
          refine lv_aload_n hx hb dX6_restore_87 rfl (lv_at hl 0 rfl) ?_
          refine va_get (D := G) (ci := 6) (v := .ref (h 13)) (C := RX6) (T := TX6) (N := 22) hx hb hts nw_X6_restore_X6 hown hK hw.1 0 rfl rfl 20 (by decide) hL2 (fun _ h9 => h9) rfl dX6_restore_88 ?_
          refine lv_iload_n hx hb dX6_restore_91 rfl (lv_at hl 1 rfl) ?_
          refine lv_bipush (v := (81 : Int32)) hx hb dX6_restore_92 (by decide) ?_
          refine lv_iadd hx hb dX6_restore_94 ?_
          refine lv_iload_n hx hb dX6_restore_95 rfl (lv_at hl 2 rfl) ?_
          refine lv_iadd hx hb dX6_restore_96 ?_
          obtain ⟨v13, e13, hb9⟩ := cd_bind_some hb9
          refine cd_iald hx hb hK hw 13 rfl e13 dX6_restore_97 ?_
          obtain ⟨j14, e14, hb9⟩ := cd_bind_some hb9
          refine cd_iast (f := (cd_set z9.2 2 j12 v11) 3) hx hb hK hw 4 rfl e14 dX6_restore_98 (fun H locs hw => ?_)
          have hw : cd_WS G A s.heap H locs ((pc_mod cI cZ h (cd_set (cd_set z9.2 2 j12 v11) 3 j14 v13))) := (show ∀ (s9 : Nat → Nat → Int32) (y9 : Int32), cd_WS G A s.heap H locs (((pc_mod cI cZ h s9)).set 4 (h 4, .inl (cI, 12, .inl (upd (s9 3) j14 y9)))) → cd_WS G A s.heap H locs ((pc_mod cI cZ h (cd_set s9 3 j14 y9))) from fun _ _ hh => hh) (cd_set z9.2 2 j12 v11) v13 hw
          refine lv_iinc (v := (z9.1 + (1 : Int32))) (lv' := [(3, .int (z9.1 + (1 : Int32))), (0, .ref (h 0)), (2, .int ((120 : Int32) * a0))]) hx hb dX6_restore_99 hl (k := 2) rfl rfl (by decide) rfl (fun ls hl => ?_)
          refine lv_goto (tgt := 59) hx hb dX6_restore_102 (by decide) ?_
          have z : some (Sum.inr ((z9.1 + (1 : Int32)), (cd_set (cd_set z9.2 2 j12 v11) 3 j14 v13))) = some o9 := hb9
          cases z
          exact hk9 _ _ _ (lv_sub hl [1, 2, 0] rfl) hw
      refine cd_iter_ind (body := (f_X6_restore_b31 a0)) (K := fun r => r = x5) (P := fun (z5 : Int32 × (Nat → Nat → Int32)) => ∀ (ls : Array Slot) (H : Heap) (locs : List Loc), lv_has ls 4 [(0, .ref (h 0)), (2, .int ((120 : Int32) * a0)), (3, .int z5.1)] → cd_WS G A s.heap H locs ((pc_mod cI cZ h z5.2)) → W p l e rm_X6_restore s m ag below meth c H locs 0 0 Q (F0 m 31 ls [])) ?_ cd_N ((0 : Int32), M) x5 e5 rfl _ _ _ (lv_sub hl [2, 1, 0] rfl) hw
      intro z5 o5 hb5 hk5 ls H locs hl hw
      unfold f_X6_restore_b31 at hb5
      refine lv_iload_n hx hb dX6_restore_31 rfl (lv_at hl 2 rfl) ?_
      refine lv_bipush (v := (69 : Int32)) hx hb dX6_restore_32 (by decide) ?_
      refine lv_icmp_ge (tgt := 57) hx hb dX6_restore_34 (by decide) (fun c6 => ?_) (fun c6 => ?_)
      · have hb5 := cd_ite_t c6 hb5
        have z : some (Sum.inl z5.2) = some o5 := hb5
        cases z
        exact K5 _ hk5 _ _ _ (lv_sub hl [0, 1] rfl) hw
      · have hb5 := cd_ite_f c6 hb5
        refine lv_aload_n hx hb dX6_restore_37 rfl (lv_at hl 0 rfl) ?_
        refine va_get (D := G) (ci := 6) (v := .ref (h 1)) (C := RX6) (T := TX6) (N := 22) hx hb hts nw_X6_restore_X6 hown hK hw.1 0 rfl rfl 0 (by decide) hL1 (fun _ h9 => h9) rfl dX6_restore_38 ?_
        refine lv_iload_n hx hb dX6_restore_41 rfl (lv_at hl 2 rfl) ?_
        refine lv_aload_n hx hb dX6_restore_42 rfl (lv_at hl 0 rfl) ?_
        refine va_get (D := G) (ci := 6) (v := .ref (h 13)) (C := RX6) (T := TX6) (N := 22) hx hb hts nw_X6_restore_X6 hown hK hw.1 0 rfl rfl 20 (by decide) hL2 (fun _ h9 => h9) rfl dX6_restore_43 ?_
        refine lv_iload_n hx hb dX6_restore_46 rfl (lv_at hl 1 rfl) ?_
        refine lv_iload_n hx hb dX6_restore_47 rfl (lv_at hl 2 rfl) ?_
        refine lv_iadd hx hb dX6_restore_48 ?_
        obtain ⟨v7, e7, hb5⟩ := cd_bind_some hb5
        refine cd_iald hx hb hK hw 13 rfl e7 dX6_restore_49 ?_
        obtain ⟨j8, e8, hb5⟩ := cd_bind_some hb5
        refine cd_iast (f := z5.2 0) hx hb hK hw 1 rfl e8 dX6_restore_50 (fun H locs hw => ?_)
        have hw : cd_WS G A s.heap H locs ((pc_mod cI cZ h (cd_set z5.2 0 j8 v7))) := (show ∀ (s9 : Nat → Nat → Int32) (y9 : Int32), cd_WS G A s.heap H locs (((pc_mod cI cZ h s9)).set 1 (h 1, .inl (cI, 69, .inl (upd (s9 0) j8 y9)))) → cd_WS G A s.heap H locs ((pc_mod cI cZ h (cd_set s9 0 j8 y9))) from fun _ _ hh => hh) z5.2 v7 hw
        refine lv_iinc (v := (z5.1 + (1 : Int32))) (lv' := [(3, .int (z5.1 + (1 : Int32))), (0, .ref (h 0)), (2, .int ((120 : Int32) * a0))]) hx hb dX6_restore_51 hl (k := 2) rfl rfl (by decide) rfl (fun ls hl => ?_)
        refine lv_goto (tgt := 31) hx hb dX6_restore_54 (by decide) ?_
        have z : some (Sum.inr ((z5.1 + (1 : Int32)), (cd_set z5.2 0 j8 v7))) = some o5 := hb5
        cases z
        exact hk5 _ _ _ (lv_sub hl [1, 2, 0] rfl) hw
    · have hf := cd_ite_t c4 hf
      refine lv_bipush (v := (-3 : Int32)) hx hb dX6_restore_21 (by decide) ?_
      have z : some ((-3 : Int32), M) = some o := hf
      cases z
      rw [hQ]
      exact cd_reti C0 hw dX6_restore_23
  · have hf := cd_ite_t c2 hf
    refine lv_bipush (v := (-2 : Int32)) hx hb dX6_restore_9 (by decide) ?_
    have z : some ((-2 : Int32), M) = some o := hf
    cases z
    rw [hQ]
    exact cd_reti C0 hw dX6_restore_11
abbrev rm_X6_roundBy : Room := { frames := 3, cells := 0, slots := 0, locals := 66 }
theorem nw_X6_roundBy_X6 : ∀ w ∈ u_ws RX6 TX6 22, w ∈ wsX6_roundBy := by decide +kernel
set_option maxHeartbeats 4000000 in
set_option maxRecDepth 100000 in
theorem c_X6_roundBy (l : Launch) (G : va_G) (cI cZ : ClassId) (sa sb : Nat) (h : Nat → Nat) (M : Nat → Nat → Int32) (a0 : Int32) (a1 : Int32) (o : Int32 × (Nat → Nat → Int32)) (hf : f_X6_roundBy a0 a1 M = some o) : cd_Ct l G cI cZ sa sb yX6_roundBy wsX6_roundBy rm_X6_roundBy [.ref (h 0), .int a0, .int a1] ((pc_mod cI cZ h M)) ((pc_mod cI cZ h o.2)) (some (.int o.1)) := by
  refine cd_of (cc := cX6_roundBy) (maxL := 12) (ret := (some .int)) (by decide) rfl (Nat.le_of_ble_eq_true rfl) ?_
  intro p e s m ag below meth c A ls Q C0 hl hw hQ
  have C0 : cd_CX G cI cZ sa sb p s m ag meth c cX6_roundBy 12 (some .int) wsX6_roundBy RX6 A := C0
  obtain ⟨⟨hx, hb, hml, hown, hts⟩, hr, hlocks, hA, hE⟩ := id C0
  have hK := hE.1
  have hL0 := hts (.fieldLink RX6 28 "CandleDebtsModel" "when" "[I") (by decide +kernel)
  have hL1 := hts (.constant RX6 150 (1000000)) (by decide +kernel)
  have hl : lv_has ls 12 [(0, .ref (h 0)), (1, .int a0), (2, .int a1)] := hl
  unfold f_X6_roundBy at hf
  refine lv_iconst (v := (0 : Int32)) hx hb dX6_roundBy_0 (by decide) ?_
  refine lv_istore_n (lv' := [(3, .int (0 : Int32)), (0, .ref (h 0)), (1, .int a0), (2, .int a1)]) hx hb dX6_roundBy_1 rfl hl (by decide) rfl (fun ls hl => ?_)
  obtain ⟨x1, e1, hf⟩ := cd_bind_some hf
  have K1 : ∀ (t1 : (Nat → Nat → Int32)), t1 = x1 → ∀ (ls : Array Slot) (H : Heap) (locs : List Loc), lv_has ls 12 [(0, .ref (h 0)), (1, .int a0), (2, .int a1)] → cd_WS G A s.heap H locs ((pc_mod cI cZ h t1)) → W p l e rm_X6_roundBy s m ag below meth c H locs 0 0 Q (F0 m 23 ls []) := by
    intro t1 hs_1
    subst hs_1
    intro ls H locs hl hw
    refine lv_iload_n hx hb dX6_roundBy_23 rfl (lv_at hl 2 rfl) ?_
    obtain ⟨x4, e4, hf⟩ := cd_bind_some hf
    have K4 : ∀ (ls : Array Slot) (H : Heap) (locs : List Loc), lv_has ls 12 [(0, .ref (h 0)), (1, .int a0), (2, .int a1)] → cd_WS G A s.heap H locs ((pc_mod cI cZ h x4)) → W p l e rm_X6_roundBy s m ag below meth c H locs 0 0 Q (F0 m 54 ls []) := by
      intro ls H locs hl hw
      refine lv_iload_n hx hb dX6_roundBy_54 rfl (lv_at hl 2 rfl) ?_
      refine lv_iconst (v := (1 : Int32)) hx hb dX6_roundBy_55 (by decide) ?_
      obtain ⟨x5, e5, hf⟩ := cd_bind_some hf
      have K5 : ∀ (ls : Array Slot) (H : Heap) (locs : List Loc), lv_has ls 12 [(0, .ref (h 0))] → cd_WS G A s.heap H locs ((pc_mod cI cZ h x5)) → W p l e rm_X6_roundBy s m ag below meth c H locs 0 0 Q (F0 m 90 ls []) := by
        intro ls H locs hl hw
        refine lv_ldc (v := (1000000 : Int32)) hx hb hown hL1 dX6_roundBy_90 ?_
        refine lv_istore_n (lv' := [(3, .int (1000000 : Int32)), (0, .ref (h 0))]) hx hb dX6_roundBy_92 rfl hl (by decide) rfl (fun ls hl => ?_)
        refine lv_iconst (v := (2 : Int32)) hx hb dX6_roundBy_93 (by decide) ?_
        refine lv_istore (lv' := [(4, .int (2 : Int32)), (3, .int (1000000 : Int32)), (0, .ref (h 0))]) hx hb dX6_roundBy_94 hl (by decide) rfl (fun ls hl => ?_)
        obtain ⟨x6, e6, hf⟩ := cd_bind_some hf
        have K6 : ∀ (t6 : Int32 × (Nat → Nat → Int32)), t6 = x6 → ∀ (ls : Array Slot) (H : Heap) (locs : List Loc), lv_has ls 12 [(3, .int t6.1)] → cd_WS G A s.heap H locs ((pc_mod cI cZ h t6.2)) → W p l e rm_X6_roundBy s m ag below meth c H locs 0 0 Q (F0 m 358 ls []) := by
          intro t6 hs_6
          subst hs_6
          intro ls H locs hl hw
          refine lv_iload_n hx hb dX6_roundBy_358 rfl (lv_at hl 0 rfl) ?_
          have z : some (t6.1, t6.2) = some o := hf
          cases z
          rw [hQ]
          exact cd_reti C0 hw dX6_roundBy_359
        refine cd_iter_ind (body := f_X6_roundBy_b96) (K := fun r => r = x6) (P := fun (z6 : Int32 × Int32 × (Nat → Nat → Int32)) => ∀ (ls : Array Slot) (H : Heap) (locs : List Loc), lv_has ls 12 [(0, .ref (h 0)), (3, .int z6.1), (4, .int z6.2.1)] → cd_WS G A s.heap H locs ((pc_mod cI cZ h z6.2.2)) → W p l e rm_X6_roundBy s m ag below meth c H locs 0 0 Q (F0 m 96 ls [])) ?_ cd_N ((1000000 : Int32), (2 : Int32), x5) x6 e6 rfl _ _ _ (lv_sub hl [2, 1, 0] rfl) hw
        intro z6 o6 hb6 hk6 ls H locs hl hw
        unfold f_X6_roundBy_b96 at hb6
        refine lv_iload hx hb dX6_roundBy_96 (lv_at hl 2 rfl) ?_
        refine lv_bipush (v := (13 : Int32)) hx hb dX6_roundBy_98 (by decide) ?_
        refine lv_icmp_ge (tgt := 358) hx hb dX6_roundBy_100 (by decide) (fun c7 => ?_) (fun c7 => ?_)
        · have hb6 := cd_ite_t c7 hb6
          have z : some (Sum.inl (z6.1, z6.2.2)) = some o6 := hb6
          cases z
          exact K6 _ hk6 _ _ _ (lv_sub hl [1] rfl) hw
        · have hb6 := cd_ite_f c7 hb6
          refine lv_iconst (v := (0 : Int32)) hx hb dX6_roundBy_103 (by decide) ?_
          refine lv_istore (lv' := [(5, .int (0 : Int32)), (0, .ref (h 0)), (3, .int z6.1), (4, .int z6.2.1)]) hx hb dX6_roundBy_104 hl (by decide) rfl (fun ls hl => ?_)
          obtain ⟨x8, e8, hb6⟩ := cd_bind_some hb6
          have K8 : ∀ (t8 : Int32 × (Nat → Nat → Int32)), t8 = x8 → ∀ (ls : Array Slot) (H : Heap) (locs : List Loc), lv_has ls 12 [(0, .ref (h 0)), (3, .int t8.1), (4, .int z6.2.1)] → cd_WS G A s.heap H locs ((pc_mod cI cZ h t8.2)) → W p l e rm_X6_roundBy s m ag below meth c H locs 0 0 Q (F0 m 352 ls []) := by
            intro t8 hs_8
            subst hs_8
            intro ls H locs hl hw
            refine lv_iinc (v := (z6.2.1 + (1 : Int32))) (lv' := [(4, .int (z6.2.1 + (1 : Int32))), (0, .ref (h 0)), (3, .int t8.1)]) hx hb dX6_roundBy_352 hl (k := 2) rfl rfl (by decide) rfl (fun ls hl => ?_)
            refine lv_goto (tgt := 96) hx hb dX6_roundBy_355 (by decide) ?_
            have z : some (Sum.inr (t8.1, (z6.2.1 + (1 : Int32)), t8.2)) = some o6 := hb6
            cases z
            exact hk6 _ _ _ (lv_sub hl [1, 2, 0] rfl) hw
          refine cd_iter_ind (body := (f_X6_roundBy_b106 z6)) (K := fun r => r = x8) (P := fun (z8 : Int32 × Int32 × (Nat → Nat → Int32)) => ∀ (ls : Array Slot) (H : Heap) (locs : List Loc), lv_has ls 12 [(0, .ref (h 0)), (3, .int z8.1), (4, .int z6.2.1), (5, .int z8.2.1)] → cd_WS G A s.heap H locs ((pc_mod cI cZ h z8.2.2)) → W p l e rm_X6_roundBy s m ag below meth c H locs 0 0 Q (F0 m 106 ls [])) ?_ cd_N (z6.1, (0 : Int32), z6.2.2) x8 e8 rfl _ _ _ (lv_sub hl [1, 2, 3, 0] rfl) hw
          intro z8 o8 hb8 hk8 ls H locs hl hw
          unfold f_X6_roundBy_b106 at hb8
          refine lv_iload hx hb dX6_roundBy_106 (lv_at hl 3 rfl) ?_
          refine lv_iload hx hb dX6_roundBy_108 (lv_at hl 2 rfl) ?_
          refine lv_iadd hx hb dX6_roundBy_110 ?_
          refine lv_bipush (v := (13 : Int32)) hx hb dX6_roundBy_111 (by decide) ?_
          refine lv_icmp_ge (tgt := 352) hx hb dX6_roundBy_113 (by decide) (fun c9 => ?_) (fun c9 => ?_)
          · have hb8 := cd_ite_t c9 hb8
            have z : some (Sum.inl (z8.1, z8.2.2)) = some o8 := hb8
            cases z
            exact K8 _ hk8 _ _ _ (lv_sub hl [0, 1, 2] rfl) hw
          · have hb8 := cd_ite_f c9 hb8
            refine lv_iload hx hb dX6_roundBy_116 (lv_at hl 3 rfl) ?_
            refine lv_iload hx hb dX6_roundBy_118 (lv_at hl 2 rfl) ?_
            refine lv_iadd hx hb dX6_roundBy_120 ?_
            refine lv_iconst (v := (1 : Int32)) hx hb dX6_roundBy_121 (by decide) ?_
            refine lv_isub hx hb dX6_roundBy_122 ?_
            refine lv_istore (lv' := [(6, .int ((z8.2.1 + z6.2.1) - (1 : Int32))), (0, .ref (h 0)), (3, .int z8.1), (4, .int z6.2.1), (5, .int z8.2.1)]) hx hb dX6_roundBy_123 hl (by decide) rfl (fun ls hl => ?_)
            refine lv_iconst (v := (2 : Int32)) hx hb dX6_roundBy_125 (by decide) ?_
            refine lv_bipush (v := (12 : Int32)) hx hb dX6_roundBy_126 (by decide) ?_
            refine lv_iload hx hb dX6_roundBy_128 (lv_at hl 4 rfl) ?_
            refine lv_imul hx hb dX6_roundBy_130 ?_
            refine lv_iload hx hb dX6_roundBy_131 (lv_at hl 0 rfl) ?_
            refine lv_iadd hx hb dX6_roundBy_133 ?_
            refine lv_imul hx hb dX6_roundBy_134 ?_
            refine lv_istore (lv' := [(7, .int ((2 : Int32) * (((12 : Int32) * z8.2.1) + ((z8.2.1 + z6.2.1) - (1 : Int32))))), (6, .int ((z8.2.1 + z6.2.1) - (1 : Int32))), (0, .ref (h 0)), (3, .int z8.1), (4, .int z6.2.1), (5, .int z8.2.1)]) hx hb dX6_roundBy_135 hl (by decide) rfl (fun ls hl => ?_)
            refine lv_iconst (v := (1 : Int32)) hx hb dX6_roundBy_137 (by decide) ?_
            refine lv_istore (lv' := [(8, .int (1 : Int32)), (7, .int ((2 : Int32) * (((12 : Int32) * z8.2.1) + ((z8.2.1 + z6.2.1) - (1 : Int32))))), (6, .int ((z8.2.1 + z6.2.1) - (1 : Int32))), (0, .ref (h 0)), (3, .int z8.1), (4, .int z6.2.1), (5, .int z8.2.1)]) hx hb dX6_roundBy_138 hl (by decide) rfl (fun ls hl => ?_)
            refine lv_iconst (v := (0 : Int32)) hx hb dX6_roundBy_140 (by decide) ?_
            refine lv_istore (lv' := [(9, .int (0 : Int32)), (8, .int (1 : Int32)), (7, .int ((2 : Int32) * (((12 : Int32) * z8.2.1) + ((z8.2.1 + z6.2.1) - (1 : Int32))))), (6, .int ((z8.2.1 + z6.2.1) - (1 : Int32))), (0, .ref (h 0)), (3, .int z8.1), (4, .int z6.2.1), (5, .int z8.2.1)]) hx hb dX6_roundBy_141 hl (by decide) rfl (fun ls hl => ?_)
            obtain ⟨x10, e10, hb8⟩ := cd_bind_some hb8
            have K10 : ∀ (t10 : Int32), t10 = x10 → ∀ (ls : Array Slot) (H : Heap) (locs : List Loc), lv_has ls 12 [(0, .ref (h 0)), (3, .int z8.1), (4, .int z6.2.1), (5, .int z8.2.1), (6, .int ((z8.2.1 + z6.2.1) - (1 : Int32))), (7, .int ((2 : Int32) * (((12 : Int32) * z8.2.1) + ((z8.2.1 + z6.2.1) - (1 : Int32))))), (8, .int t10)] → cd_WS G A s.heap H locs ((pc_mod cI cZ h z8.2.2)) → W p l e rm_X6_roundBy s m ag below meth c H locs 0 0 Q (F0 m 189 ls []) := by
              intro t10 hs_10
              subst hs_10
              intro ls H locs hl hw
              refine lv_iconst (v := (0 : Int32)) hx hb dX6_roundBy_189 (by decide) ?_
              refine lv_istore (lv' := [(9, .int (0 : Int32)), (0, .ref (h 0)), (3, .int z8.1), (4, .int z6.2.1), (5, .int z8.2.1), (6, .int ((z8.2.1 + z6.2.1) - (1 : Int32))), (7, .int ((2 : Int32) * (((12 : Int32) * z8.2.1) + ((z8.2.1 + z6.2.1) - (1 : Int32))))), (8, .int t10)]) hx hb dX6_roundBy_190 hl (by decide) rfl (fun ls hl => ?_)
              obtain ⟨x17, e17, hb8⟩ := cd_bind_some hb8
              have K17 : ∀ (t17 : Int32 × (Nat → Nat → Int32)), t17 = x17 → ∀ (ls : Array Slot) (H : Heap) (locs : List Loc), lv_has ls 12 [(0, .ref (h 0)), (3, .int t17.1), (4, .int z6.2.1), (5, .int z8.2.1)] → cd_WS G A s.heap H locs ((pc_mod cI cZ h t17.2)) → W p l e rm_X6_roundBy s m ag below meth c H locs 0 0 Q (F0 m 346 ls []) := by
                intro t17 hs_17
                subst hs_17
                intro ls H locs hl hw
                refine lv_iinc (v := (z8.2.1 + (1 : Int32))) (lv' := [(5, .int (z8.2.1 + (1 : Int32))), (0, .ref (h 0)), (3, .int t17.1), (4, .int z6.2.1)]) hx hb dX6_roundBy_346 hl (k := 3) rfl rfl (by decide) rfl (fun ls hl => ?_)
                refine lv_goto (tgt := 106) hx hb dX6_roundBy_349 (by decide) ?_
                have z : some (Sum.inr (t17.1, (z8.2.1 + (1 : Int32)), t17.2)) = some o8 := hb8
                cases z
                exact hk8 _ _ _ (lv_sub hl [1, 2, 3, 0] rfl) hw
              refine cd_iter_ind (body := (f_X6_roundBy_b192 z6 z8 t10)) (K := fun r => r = x17) (P := fun (z17 : Int32 × Int32 × (Nat → Nat → Int32)) => ∀ (ls : Array Slot) (H : Heap) (locs : List Loc), lv_has ls 12 [(0, .ref (h 0)), (3, .int z17.1), (4, .int z6.2.1), (5, .int z8.2.1), (6, .int ((z8.2.1 + z6.2.1) - (1 : Int32))), (7, .int ((2 : Int32) * (((12 : Int32) * z8.2.1) + ((z8.2.1 + z6.2.1) - (1 : Int32))))), (8, .int t10), (9, .int z17.2.1)] → cd_WS G A s.heap H locs ((pc_mod cI cZ h z17.2.2)) → W p l e rm_X6_roundBy s m ag below meth c H locs 0 0 Q (F0 m 192 ls [])) ?_ cd_N (z8.1, (0 : Int32), z8.2.2) x17 e17 rfl _ _ _ (lv_sub hl [1, 2, 3, 4, 5, 6, 7, 0] rfl) hw
              intro z17 o17 hb17 hk17 ls H locs hl hw
              unfold f_X6_roundBy_b192 at hb17
              refine lv_iload hx hb dX6_roundBy_192 (lv_at hl 7 rfl) ?_
              refine lv_iconst (v := (2 : Int32)) hx hb dX6_roundBy_194 (by decide) ?_
              refine lv_icmp_ge (tgt := 346) hx hb dX6_roundBy_195 (by decide) (fun c18 => ?_) (fun c18 => ?_)
              · have hb17 := cd_ite_t c18 hb17
                have z : some (Sum.inl (z17.1, z17.2.2)) = some o17 := hb17
                cases z
                exact K17 _ hk17 _ _ _ (lv_sub hl [0, 1, 2, 3] rfl) hw
              · have hb17 := cd_ite_f c18 hb17
                refine lv_aload_n hx hb dX6_roundBy_198 rfl (lv_at hl 0 rfl) ?_
                refine va_get (D := G) (ci := 6) (v := .ref (h 7)) (C := RX6) (T := TX6) (N := 22) hx hb hts nw_X6_roundBy_X6 hown hK hw.1 0 rfl rfl 14 (by decide) hL0 (fun _ h9 => h9) rfl dX6_roundBy_199 ?_
                refine lv_iload hx hb dX6_roundBy_202 (lv_at hl 5 rfl) ?_
                refine lv_iload hx hb dX6_roundBy_204 (lv_at hl 7 rfl) ?_
                refine lv_iadd hx hb dX6_roundBy_206 ?_
                obtain ⟨v19, e19, hb17⟩ := cd_bind_some hb17
                refine cd_iald hx hb hK hw 7 rfl e19 dX6_roundBy_207 ?_
                refine lv_istore (lv' := [(10, .int v19), (0, .ref (h 0)), (3, .int z17.1), (4, .int z6.2.1), (5, .int z8.2.1), (6, .int ((z8.2.1 + z6.2.1) - (1 : Int32))), (7, .int ((2 : Int32) * (((12 : Int32) * z8.2.1) + ((z8.2.1 + z6.2.1) - (1 : Int32))))), (8, .int t10), (9, .int z17.2.1)]) hx hb dX6_roundBy_208 hl (by decide) rfl (fun ls hl => ?_)
                refine lv_iload hx hb dX6_roundBy_210 (lv_at hl 0 rfl) ?_
                refine lv_ldc (v := (1000000 : Int32)) hx hb hown hL1 dX6_roundBy_212 ?_
                refine lv_icmp_ge (tgt := 340) hx hb dX6_roundBy_214 (by decide) (fun c20 => ?_) (fun c20 => ?_)
                · have hb17 := cd_ite_t c20 hb17
                  refine lv_iinc (v := (z17.2.1 + (1 : Int32))) (lv' := [(9, .int (z17.2.1 + (1 : Int32))), (10, .int v19), (0, .ref (h 0)), (3, .int z17.1), (4, .int z6.2.1), (5, .int z8.2.1), (6, .int ((z8.2.1 + z6.2.1) - (1 : Int32))), (7, .int ((2 : Int32) * (((12 : Int32) * z8.2.1) + ((z8.2.1 + z6.2.1) - (1 : Int32))))), (8, .int t10)]) hx hb dX6_roundBy_340 hl (k := 8) rfl rfl (by decide) rfl (fun ls hl => ?_)
                  refine lv_goto (tgt := 192) hx hb dX6_roundBy_343 (by decide) ?_
                  have z : some (Sum.inr (z17.1, (z17.2.1 + (1 : Int32)), z17.2.2)) = some o17 := hb17
                  cases z
                  exact hk17 _ _ _ (lv_sub hl [2, 3, 4, 5, 6, 7, 8, 0] rfl) hw
                · have hb17 := cd_ite_f c20 hb17
                  refine lv_iload hx hb dX6_roundBy_217 (lv_at hl 7 rfl) ?_
                  obtain ⟨x21, e21, hb17⟩ := cd_bind_some hb17
                  have K21 : ∀ (ls : Array Slot) (H : Heap) (locs : List Loc), lv_has ls 12 [(0, .ref (h 0)), (4, .int z6.2.1), (5, .int z8.2.1), (6, .int ((z8.2.1 + z6.2.1) - (1 : Int32))), (7, .int ((2 : Int32) * (((12 : Int32) * z8.2.1) + ((z8.2.1 + z6.2.1) - (1 : Int32))))), (8, .int t10), (9, .int z17.2.1), (10, .int v19)] → cd_WS G A s.heap H locs ((pc_mod cI cZ h z17.2.2)) → W p l e rm_X6_roundBy s m ag below meth c H locs 0 0 Q (F0 m 234 ls [.int x21]) := by
                    intro ls H locs hl hw
                    refine lv_istore_n (lv' := [(3, .int x21), (0, .ref (h 0)), (4, .int z6.2.1), (5, .int z8.2.1), (6, .int ((z8.2.1 + z6.2.1) - (1 : Int32))), (7, .int ((2 : Int32) * (((12 : Int32) * z8.2.1) + ((z8.2.1 + z6.2.1) - (1 : Int32))))), (8, .int t10), (9, .int z17.2.1), (10, .int v19)]) hx hb dX6_roundBy_234 rfl hl (by decide) rfl (fun ls hl => ?_)
                    refine lv_iload hx hb dX6_roundBy_235 (lv_at hl 7 rfl) ?_
                    obtain ⟨x22, e22, hb17⟩ := cd_bind_some hb17
                    have K22 : ∀ (ls : Array Slot) (H : Heap) (locs : List Loc), lv_has ls 12 [(0, .ref (h 0)), (3, .int x21), (4, .int z6.2.1), (5, .int z8.2.1), (6, .int ((z8.2.1 + z6.2.1) - (1 : Int32))), (7, .int ((2 : Int32) * (((12 : Int32) * z8.2.1) + ((z8.2.1 + z6.2.1) - (1 : Int32))))), (8, .int t10), (9, .int z17.2.1), (10, .int v19)] → cd_WS G A s.heap H locs ((pc_mod cI cZ h z17.2.2)) → W p l e rm_X6_roundBy s m ag below meth c H locs 0 0 Q (F0 m 252 ls [.int x22]) := by
                      intro ls H locs hl hw
                      refine lv_istore (lv' := [(11, .int x22), (0, .ref (h 0)), (3, .int x21), (4, .int z6.2.1), (5, .int z8.2.1), (6, .int ((z8.2.1 + z6.2.1) - (1 : Int32))), (7, .int ((2 : Int32) * (((12 : Int32) * z8.2.1) + ((z8.2.1 + z6.2.1) - (1 : Int32))))), (8, .int t10), (9, .int z17.2.1), (10, .int v19)]) hx hb dX6_roundBy_252 hl (by decide) rfl (fun ls hl => ?_)
                      refine lv_iload hx hb dX6_roundBy_254 (lv_at hl 4 rfl) ?_
                      obtain ⟨x23, e23, hb17⟩ := cd_bind_some hb17
                      have K23 : ∀ (ls : Array Slot) (H : Heap) (locs : List Loc), lv_has ls 12 [(0, .ref (h 0)), (3, .int x21), (4, .int z6.2.1), (5, .int z8.2.1), (6, .int ((z8.2.1 + z6.2.1) - (1 : Int32))), (7, .int ((2 : Int32) * (((12 : Int32) * z8.2.1) + ((z8.2.1 + z6.2.1) - (1 : Int32))))), (8, .int t10), (9, .int z17.2.1), (10, .int v19)] → cd_WS G A s.heap H locs ((pc_mod cI cZ h x23)) → W p l e rm_X6_roundBy s m ag below meth c H locs 0 0 Q (F0 m 285 ls []) := by
                        intro ls H locs hl hw
                        refine lv_iload hx hb dX6_roundBy_285 (lv_at hl 7 rfl) ?_
                        refine lv_iconst (v := (1 : Int32)) hx hb dX6_roundBy_287 (by decide) ?_
                        obtain ⟨x24, e24, hb17⟩ := cd_bind_some hb17
                        have K24 : ∀ (ls : Array Slot) (H : Heap) (locs : List Loc), lv_has ls 12 [(0, .ref (h 0)), (3, .int x21), (4, .int z6.2.1), (5, .int z8.2.1), (6, .int ((z8.2.1 + z6.2.1) - (1 : Int32))), (7, .int ((2 : Int32) * (((12 : Int32) * z8.2.1) + ((z8.2.1 + z6.2.1) - (1 : Int32))))), (8, .int t10), (9, .int z17.2.1)] → cd_WS G A s.heap H locs ((pc_mod cI cZ h x23)) → W p l e rm_X6_roundBy s m ag below meth c H locs 0 0 Q (F0 m 303 ls [.int x24]) := by
                          intro ls H locs hl hw
                          refine lv_istore (lv' := [(11, .int x24), (0, .ref (h 0)), (3, .int x21), (4, .int z6.2.1), (5, .int z8.2.1), (6, .int ((z8.2.1 + z6.2.1) - (1 : Int32))), (7, .int ((2 : Int32) * (((12 : Int32) * z8.2.1) + ((z8.2.1 + z6.2.1) - (1 : Int32))))), (8, .int t10), (9, .int z17.2.1)]) hx hb dX6_roundBy_303 hl (by decide) rfl (fun ls hl => ?_)
                          refine lv_iload hx hb dX6_roundBy_305 (lv_at hl 5 rfl) ?_
                          refine lv_bipush (v := (11 : Int32)) hx hb dX6_roundBy_307 (by decide) ?_
                          refine lv_icmp_ge (tgt := 340) hx hb dX6_roundBy_309 (by decide) (fun c25 => ?_) (fun c25 => ?_)
                          · have hb17 := cd_ite_t c25 hb17
                            refine lv_iinc (v := (z17.2.1 + (1 : Int32))) (lv' := [(9, .int (z17.2.1 + (1 : Int32))), (11, .int x24), (0, .ref (h 0)), (3, .int x21), (4, .int z6.2.1), (5, .int z8.2.1), (6, .int ((z8.2.1 + z6.2.1) - (1 : Int32))), (7, .int ((2 : Int32) * (((12 : Int32) * z8.2.1) + ((z8.2.1 + z6.2.1) - (1 : Int32))))), (8, .int t10)]) hx hb dX6_roundBy_340 hl (k := 8) rfl rfl (by decide) rfl (fun ls hl => ?_)
                            refine lv_goto (tgt := 192) hx hb dX6_roundBy_343 (by decide) ?_
                            have z : some (Sum.inr (x21, (z17.2.1 + (1 : Int32)), x23)) = some o17 := hb17
                            cases z
                            exact hk17 _ _ _ (lv_sub hl [2, 3, 4, 5, 6, 7, 8, 0] rfl) hw
                          · have hb17 := cd_ite_f c25 hb17
                            refine lv_aload_n hx hb dX6_roundBy_312 rfl (lv_at hl 1 rfl) ?_
                            refine lv_iconst (v := (2 : Int32)) hx hb dX6_roundBy_313 (by decide) ?_
                            refine lv_bipush (v := (12 : Int32)) hx hb dX6_roundBy_314 (by decide) ?_
                            refine lv_iload hx hb dX6_roundBy_316 (lv_at hl 4 rfl) ?_
                            refine lv_imul hx hb dX6_roundBy_318 ?_
                            refine lv_iload hx hb dX6_roundBy_319 (lv_at hl 5 rfl) ?_
                            refine lv_iadd hx hb dX6_roundBy_321 ?_
                            refine lv_iconst (v := (1 : Int32)) hx hb dX6_roundBy_322 (by decide) ?_
                            refine lv_iadd hx hb dX6_roundBy_323 ?_
                            refine lv_imul hx hb dX6_roundBy_324 ?_
                            refine lv_iconst (v := (1 : Int32)) hx hb dX6_roundBy_325 (by decide) ?_
                            refine lv_iadd hx hb dX6_roundBy_326 ?_
                            refine lv_aload_n hx hb dX6_roundBy_327 rfl (lv_at hl 1 rfl) ?_
                            refine lv_iload hx hb dX6_roundBy_328 (lv_at hl 5 rfl) ?_
                            refine lv_iconst (v := (1 : Int32)) hx hb dX6_roundBy_330 (by decide) ?_
                            refine lv_iadd hx hb dX6_roundBy_331 ?_
                            refine lv_iload hx hb dX6_roundBy_332 (lv_at hl 0 rfl) ?_
                            obtain ⟨r26, e26, hb17⟩ := cd_bind_some hb17
                            refine cd_callVw (As := [.int (((z8.2.1 + z6.2.1) - (1 : Int32)) + (1 : Int32)), .int x24]) (rest := [.int (((2 : Int32) * ((((12 : Int32) * z8.2.1) + ((z8.2.1 + z6.2.1) - (1 : Int32))) + (1 : Int32))) + (1 : Int32)), .ref (h 0)]) (wr := ([] : va_W)) (wn := (pc_mod cI cZ h r26.2)) C0 hw (c_X6_comes l G cI cZ sa sb h x23 (((z8.2.1 + z6.2.1) - (1 : Int32)) + (1 : Int32)) x24 r26 e26) [0, 1, 2, 3, 4, 5, 6, 7, 8, 9, 10, 11, 12, 13, 14] [] [0, 1, 2, 3, 4, 5, 6, 7, 8, 9, 10, 11, 12, 13, 14] rfl rfl rfl rfl (by decide) rfl rfl 0 6 rfl rfl rfl (cwV 2 hts gX6_roundBy_X6_comes rfl rfl rfl (by decide +kernel) ⟨Nat.le_of_ble_eq_true rfl, Nat.le_of_ble_eq_true rfl⟩) rfl hl.1 (lv_room (Nat.le_of_ble_eq_true rfl)) dX6_roundBy_334 (fun H locs hw => ?_)
                            obtain ⟨r27, e27, hb17⟩ := cd_bind_some hb17
                            refine cd_callVw (As := [.int (((2 : Int32) * ((((12 : Int32) * z8.2.1) + ((z8.2.1 + z6.2.1) - (1 : Int32))) + (1 : Int32))) + (1 : Int32)), .int r26.1]) (rest := []) (wr := ([] : va_W)) (wn := (pc_mod cI cZ h r27)) C0 hw (c_X6_better l G cI cZ sa sb h r26.2 (((2 : Int32) * ((((12 : Int32) * z8.2.1) + ((z8.2.1 + z6.2.1) - (1 : Int32))) + (1 : Int32))) + (1 : Int32)) r26.1 r27 e27) [0, 1, 2, 3, 4, 5, 6, 7, 8, 9, 10, 11, 12, 13, 14] [] [0, 1, 2, 3, 4, 5, 6, 7, 8, 9, 10, 11, 12, 13, 14] rfl rfl rfl rfl (by decide) rfl rfl 0 6 rfl rfl rfl (cwV 2 hts gX6_roundBy_X6_better rfl rfl rfl (by decide +kernel) ⟨Nat.le_of_ble_eq_true rfl, Nat.le_of_ble_eq_true rfl⟩) rfl hl.1 (lv_room (Nat.le_of_ble_eq_true rfl)) dX6_roundBy_337 (fun H locs hw => ?_)
                            refine lv_iinc (v := (z17.2.1 + (1 : Int32))) (lv' := [(9, .int (z17.2.1 + (1 : Int32))), (11, .int x24), (0, .ref (h 0)), (3, .int x21), (4, .int z6.2.1), (5, .int z8.2.1), (6, .int ((z8.2.1 + z6.2.1) - (1 : Int32))), (7, .int ((2 : Int32) * (((12 : Int32) * z8.2.1) + ((z8.2.1 + z6.2.1) - (1 : Int32))))), (8, .int t10)]) hx hb dX6_roundBy_340 hl (k := 8) rfl rfl (by decide) rfl (fun ls hl => ?_)
                            refine lv_goto (tgt := 192) hx hb dX6_roundBy_343 (by decide) ?_
                            have z : some (Sum.inr (x21, (z17.2.1 + (1 : Int32)), r27)) = some o17 := hb17
                            cases z
                            exact hk17 _ _ _ (lv_sub hl [2, 3, 4, 5, 6, 7, 8, 0] rfl) hw
                        refine lv_icmp_ne (tgt := 298) hx hb dX6_roundBy_288 (by decide) (fun c24 => ?_) (fun c24 => ?_)
                        · have e24 := cd_ite_f c24 e24
                          refine lv_iload hx hb dX6_roundBy_298 (lv_at hl 8 rfl) ?_
                          refine lv_iload hx hb dX6_roundBy_300 (lv_at hl 2 rfl) ?_
                          refine lv_iadd hx hb dX6_roundBy_302 ?_
                          have z : some (v19 + z6.2.1) = some x24 := e24
                          cases z
                          exact K24 _ _ _ (lv_sub hl [0, 1, 2, 3, 4, 5, 6, 7] rfl) hw
                        · have e24 := cd_ite_t c24 e24
                          refine lv_iload hx hb dX6_roundBy_291 (lv_at hl 8 rfl) ?_
                          refine lv_iconst (v := (1 : Int32)) hx hb dX6_roundBy_293 (by decide) ?_
                          refine lv_iadd hx hb dX6_roundBy_294 ?_
                          refine lv_goto (tgt := 303) hx hb dX6_roundBy_295 (by decide) ?_
                          have z : some (v19 + (1 : Int32)) = some x24 := e24
                          cases z
                          exact K24 _ _ _ (lv_sub hl [0, 1, 2, 3, 4, 5, 6, 7] rfl) hw
                      refine lv_if_le (tgt := 285) hx hb dX6_roundBy_256 (by decide) (fun c23 => ?_) (fun c23 => ?_)
                      · have e23 := cd_ite_t c23 e23
                        have z : some z17.2.2 = some x23 := e23
                        cases z
                        exact K23 _ _ _ (lv_sub hl [1, 2, 3, 4, 5, 6, 7, 8, 9] rfl) hw
                      · have e23 := cd_ite_f c23 e23
                        refine lv_aload_n hx hb dX6_roundBy_259 rfl (lv_at hl 1 rfl) ?_
                        refine lv_iconst (v := (2 : Int32)) hx hb dX6_roundBy_260 (by decide) ?_
                        refine lv_bipush (v := (12 : Int32)) hx hb dX6_roundBy_261 (by decide) ?_
                        refine lv_iload hx hb dX6_roundBy_263 (lv_at hl 4 rfl) ?_
                        refine lv_iconst (v := (1 : Int32)) hx hb dX6_roundBy_265 (by decide) ?_
                        refine lv_isub hx hb dX6_roundBy_266 ?_
                        refine lv_imul hx hb dX6_roundBy_267 ?_
                        refine lv_iload hx hb dX6_roundBy_268 (lv_at hl 5 rfl) ?_
                        refine lv_iadd hx hb dX6_roundBy_270 ?_
                        refine lv_imul hx hb dX6_roundBy_271 ?_
                        refine lv_aload_n hx hb dX6_roundBy_272 rfl (lv_at hl 1 rfl) ?_
                        refine lv_iload hx hb dX6_roundBy_273 (lv_at hl 4 rfl) ?_
                        refine lv_iconst (v := (1 : Int32)) hx hb dX6_roundBy_275 (by decide) ?_
                        refine lv_isub hx hb dX6_roundBy_276 ?_
                        refine lv_iload hx hb dX6_roundBy_277 (lv_at hl 0 rfl) ?_
                        obtain ⟨r28, e28, e23⟩ := cd_bind_some e23
                        refine cd_callVw (As := [.int (z8.2.1 - (1 : Int32)), .int x22]) (rest := [.int ((2 : Int32) * (((12 : Int32) * (z8.2.1 - (1 : Int32))) + ((z8.2.1 + z6.2.1) - (1 : Int32)))), .ref (h 0)]) (wr := ([] : va_W)) (wn := (pc_mod cI cZ h r28.2)) C0 hw (c_X6_comes l G cI cZ sa sb h z17.2.2 (z8.2.1 - (1 : Int32)) x22 r28 e28) [0, 1, 2, 3, 4, 5, 6, 7, 8, 9, 10, 11, 12, 13, 14] [] [0, 1, 2, 3, 4, 5, 6, 7, 8, 9, 10, 11, 12, 13, 14] rfl rfl rfl rfl (by decide) rfl rfl 0 6 rfl rfl rfl (cwV 2 hts gX6_roundBy_X6_comes rfl rfl rfl (by decide +kernel) ⟨Nat.le_of_ble_eq_true rfl, Nat.le_of_ble_eq_true rfl⟩) rfl hl.1 (lv_room (Nat.le_of_ble_eq_true rfl)) dX6_roundBy_279 (fun H locs hw => ?_)
                        obtain ⟨r29, e29, e23⟩ := cd_bind_some e23
                        refine cd_callVw (As := [.int ((2 : Int32) * (((12 : Int32) * (z8.2.1 - (1 : Int32))) + ((z8.2.1 + z6.2.1) - (1 : Int32)))), .int r28.1]) (rest := []) (wr := ([] : va_W)) (wn := (pc_mod cI cZ h r29)) C0 hw (c_X6_better l G cI cZ sa sb h r28.2 ((2 : Int32) * (((12 : Int32) * (z8.2.1 - (1 : Int32))) + ((z8.2.1 + z6.2.1) - (1 : Int32)))) r28.1 r29 e29) [0, 1, 2, 3, 4, 5, 6, 7, 8, 9, 10, 11, 12, 13, 14] [] [0, 1, 2, 3, 4, 5, 6, 7, 8, 9, 10, 11, 12, 13, 14] rfl rfl rfl rfl (by decide) rfl rfl 0 6 rfl rfl rfl (cwV 2 hts gX6_roundBy_X6_better rfl rfl rfl (by decide +kernel) ⟨Nat.le_of_ble_eq_true rfl, Nat.le_of_ble_eq_true rfl⟩) rfl hl.1 (lv_room (Nat.le_of_ble_eq_true rfl)) dX6_roundBy_282 (fun H locs hw => ?_)
                        have z : some r29 = some x23 := e23
                        cases z
                        exact K23 _ _ _ (lv_sub hl [1, 2, 3, 4, 5, 6, 7, 8, 9] rfl) hw
                    refine lv_if_ne (tgt := 247) hx hb dX6_roundBy_237 (by decide) (fun c22 => ?_) (fun c22 => ?_)
                    · have e22 := cd_ite_f c22 e22
                      refine lv_iload hx hb dX6_roundBy_247 (lv_at hl 8 rfl) ?_
                      refine lv_iload hx hb dX6_roundBy_249 (lv_at hl 2 rfl) ?_
                      refine lv_iadd hx hb dX6_roundBy_251 ?_
                      have z : some (v19 + z6.2.1) = some x22 := e22
                      cases z
                      exact K22 _ _ _ (lv_sub hl [1, 0, 2, 3, 4, 5, 6, 7, 8] rfl) hw
                    · have e22 := cd_ite_t c22 e22
                      refine lv_iload hx hb dX6_roundBy_240 (lv_at hl 8 rfl) ?_
                      refine lv_iconst (v := (1 : Int32)) hx hb dX6_roundBy_242 (by decide) ?_
                      refine lv_iadd hx hb dX6_roundBy_243 ?_
                      refine lv_goto (tgt := 252) hx hb dX6_roundBy_244 (by decide) ?_
                      have z : some (v19 + (1 : Int32)) = some x22 := e22
                      cases z
                      exact K22 _ _ _ (lv_sub hl [1, 0, 2, 3, 4, 5, 6, 7, 8] rfl) hw
                  refine lv_if_eq (tgt := 233) hx hb dX6_roundBy_219 (by decide) (fun c21 => ?_) (fun c21 => ?_)
                  · have e21 := cd_ite_t c21 e21
                    refine lv_iload_n hx hb dX6_roundBy_233 rfl (lv_at hl 2 rfl) ?_
                    have z : some z17.1 = some x21 := e21
                    cases z
                    exact K21 _ _ _ (lv_sub hl [1, 3, 4, 5, 6, 7, 8, 0] rfl) hw
                  · have e21 := cd_ite_f c21 e21
                    refine lv_iload hx hb dX6_roundBy_222 (lv_at hl 0 rfl) ?_
                    refine lv_iload_n hx hb dX6_roundBy_224 rfl (lv_at hl 2 rfl) ?_
                    refine lv_icmp_ge (tgt := 233) hx hb dX6_roundBy_225 (by decide) (fun c30 => ?_) (fun c30 => ?_)
                    · have e21 := cd_ite_t c30 e21
                      refine lv_iload_n hx hb dX6_roundBy_233 rfl (lv_at hl 2 rfl) ?_
                      have z : some z17.1 = some x21 := e21
                      cases z
                      exact K21 _ _ _ (lv_sub hl [1, 3, 4, 5, 6, 7, 8, 0] rfl) hw
                    · have e21 := cd_ite_f c30 e21
                      refine lv_iload hx hb dX6_roundBy_228 (lv_at hl 0 rfl) ?_
                      refine lv_goto (tgt := 234) hx hb dX6_roundBy_230 (by decide) ?_
                      have z : some v19 = some x21 := e21
                      cases z
                      exact K21 _ _ _ (lv_sub hl [1, 3, 4, 5, 6, 7, 8, 0] rfl) hw
            refine cd_iter_ind (body := (f_X6_roundBy_b143 z6 z8)) (K := fun r => r = x10) (P := fun (z10 : Int32 × Int32) => ∀ (ls : Array Slot) (H : Heap) (locs : List Loc), lv_has ls 12 [(0, .ref (h 0)), (3, .int z8.1), (4, .int z6.2.1), (5, .int z8.2.1), (6, .int ((z8.2.1 + z6.2.1) - (1 : Int32))), (7, .int ((2 : Int32) * (((12 : Int32) * z8.2.1) + ((z8.2.1 + z6.2.1) - (1 : Int32))))), (8, .int z10.1), (9, .int z10.2)] → cd_WS G A s.heap H locs ((pc_mod cI cZ h z8.2.2)) → W p l e rm_X6_roundBy s m ag below meth c H locs 0 0 Q (F0 m 143 ls [])) ?_ cd_N ((1 : Int32), (0 : Int32)) x10 e10 rfl _ _ _ (lv_sub hl [4, 5, 6, 7, 3, 2, 1, 0] rfl) hw
            intro z10 o10 hb10 hk10 ls H locs hl hw
            unfold f_X6_roundBy_b143 at hb10
            refine lv_iload hx hb dX6_roundBy_143 (lv_at hl 7 rfl) ?_
            refine lv_bipush (v := (12 : Int32)) hx hb dX6_roundBy_145 (by decide) ?_
            refine lv_icmp_ge (tgt := 189) hx hb dX6_roundBy_147 (by decide) (fun c11 => ?_) (fun c11 => ?_)
            · have hb10 := cd_ite_t c11 hb10
              have z : some (Sum.inl z10.1) = some o10 := hb10
              cases z
              exact K10 _ hk10 _ _ _ (lv_sub hl [0, 1, 2, 3, 4, 5, 6] rfl) hw
            · have hb10 := cd_ite_f c11 hb10
              refine lv_iload hx hb dX6_roundBy_150 (lv_at hl 6 rfl) ?_
              refine lv_if_eq (tgt := 180) hx hb dX6_roundBy_152 (by decide) (fun c12 => ?_) (fun c12 => ?_)
              · have hb10 := cd_ite_t c12 hb10
                refine lv_iconst (v := (0 : Int32)) hx hb dX6_roundBy_180 (by decide) ?_
                refine lv_istore (lv' := [(8, .int (0 : Int32)), (0, .ref (h 0)), (3, .int z8.1), (4, .int z6.2.1), (5, .int z8.2.1), (6, .int ((z8.2.1 + z6.2.1) - (1 : Int32))), (7, .int ((2 : Int32) * (((12 : Int32) * z8.2.1) + ((z8.2.1 + z6.2.1) - (1 : Int32))))), (9, .int z10.2)]) hx hb dX6_roundBy_181 hl (by decide) rfl (fun ls hl => ?_)
                refine lv_iinc (v := (z10.2 + (1 : Int32))) (lv' := [(9, .int (z10.2 + (1 : Int32))), (8, .int (0 : Int32)), (0, .ref (h 0)), (3, .int z8.1), (4, .int z6.2.1), (5, .int z8.2.1), (6, .int ((z8.2.1 + z6.2.1) - (1 : Int32))), (7, .int ((2 : Int32) * (((12 : Int32) * z8.2.1) + ((z8.2.1 + z6.2.1) - (1 : Int32)))))]) hx hb dX6_roundBy_183 hl (k := 7) rfl rfl (by decide) rfl (fun ls hl => ?_)
                refine lv_goto (tgt := 143) hx hb dX6_roundBy_186 (by decide) ?_
                have z : some (Sum.inr ((0 : Int32), (z10.2 + (1 : Int32)))) = some o10 := hb10
                cases z
                exact hk10 _ _ _ (lv_sub hl [2, 3, 4, 5, 6, 7, 1, 0] rfl) hw
              · have hb10 := cd_ite_f c12 hb10
                refine lv_iload hx hb dX6_roundBy_155 (lv_at hl 7 rfl) ?_
                refine lv_iload hx hb dX6_roundBy_157 (lv_at hl 3 rfl) ?_
                refine lv_iload hx hb dX6_roundBy_159 (lv_at hl 4 rfl) ?_
                obtain ⟨r13, e13, hb10⟩ := cd_bind_some hb10
                refine cd_callS (As := [.int z10.2, .int z8.2.1, .int ((z8.2.1 + z6.2.1) - (1 : Int32))]) (rest := []) C0 hw (c_X6_in l G cI cZ sa sb z10.2 z8.2.1 ((z8.2.1 + z6.2.1) - (1 : Int32)) r13 e13) [] rfl rfl (va_cwS 3 hts gX6_roundBy_X6_in rfl rfl rfl (by decide +kernel) ⟨Nat.le_of_ble_eq_true rfl, Nat.le_of_ble_eq_true rfl⟩) rfl hl.1 (lv_room (Nat.le_of_ble_eq_true rfl)) dX6_roundBy_161 (fun H locs hw => ?_)
                refine lv_if_ne (tgt := 176) hx hb dX6_roundBy_164 (by decide) (fun c14 => ?_) (fun c14 => ?_)
                · have hb10 := cd_ite_f c14 hb10
                  refine lv_iconst (v := (1 : Int32)) hx hb dX6_roundBy_176 (by decide) ?_
                  refine lv_goto (tgt := 181) hx hb dX6_roundBy_177 (by decide) ?_
                  refine lv_istore (lv' := [(8, .int (1 : Int32)), (0, .ref (h 0)), (3, .int z8.1), (4, .int z6.2.1), (5, .int z8.2.1), (6, .int ((z8.2.1 + z6.2.1) - (1 : Int32))), (7, .int ((2 : Int32) * (((12 : Int32) * z8.2.1) + ((z8.2.1 + z6.2.1) - (1 : Int32))))), (9, .int z10.2)]) hx hb dX6_roundBy_181 hl (by decide) rfl (fun ls hl => ?_)
                  refine lv_iinc (v := (z10.2 + (1 : Int32))) (lv' := [(9, .int (z10.2 + (1 : Int32))), (8, .int (1 : Int32)), (0, .ref (h 0)), (3, .int z8.1), (4, .int z6.2.1), (5, .int z8.2.1), (6, .int ((z8.2.1 + z6.2.1) - (1 : Int32))), (7, .int ((2 : Int32) * (((12 : Int32) * z8.2.1) + ((z8.2.1 + z6.2.1) - (1 : Int32)))))]) hx hb dX6_roundBy_183 hl (k := 7) rfl rfl (by decide) rfl (fun ls hl => ?_)
                  refine lv_goto (tgt := 143) hx hb dX6_roundBy_186 (by decide) ?_
                  have z : some (Sum.inr ((1 : Int32), (z10.2 + (1 : Int32)))) = some o10 := hb10
                  cases z
                  exact hk10 _ _ _ (lv_sub hl [2, 3, 4, 5, 6, 7, 1, 0] rfl) hw
                · have hb10 := cd_ite_t c14 hb10
                  refine lv_aload_n hx hb dX6_roundBy_167 rfl (lv_at hl 0 rfl) ?_
                  refine lv_iload hx hb dX6_roundBy_168 (lv_at hl 7 rfl) ?_
                  obtain ⟨r15, e15, hb10⟩ := cd_bind_some hb10
                  refine cd_callV (As := [.int z10.2]) (rest := []) C0 hw (c_X6_isAsked l G cI cZ sa sb h z8.2.2 z10.2 r15 e15) [0, 1, 2, 3, 4, 5, 6, 7, 8, 9, 10, 11, 12, 13, 14] rfl rfl 0 6 rfl rfl rfl (cwV 1 hts gX6_roundBy_X6_isAsked rfl rfl rfl (by decide +kernel) ⟨Nat.le_of_ble_eq_true rfl, Nat.le_of_ble_eq_true rfl⟩) rfl hl.1 (lv_room (Nat.le_of_ble_eq_true rfl)) dX6_roundBy_170 (fun H locs hw => ?_)
                  refine lv_if_ne (tgt := 180) hx hb dX6_roundBy_173 (by decide) (fun c16 => ?_) (fun c16 => ?_)
                  · have hb10 := cd_ite_f c16 hb10
                    refine lv_iconst (v := (0 : Int32)) hx hb dX6_roundBy_180 (by decide) ?_
                    refine lv_istore (lv' := [(8, .int (0 : Int32)), (0, .ref (h 0)), (3, .int z8.1), (4, .int z6.2.1), (5, .int z8.2.1), (6, .int ((z8.2.1 + z6.2.1) - (1 : Int32))), (7, .int ((2 : Int32) * (((12 : Int32) * z8.2.1) + ((z8.2.1 + z6.2.1) - (1 : Int32))))), (9, .int z10.2)]) hx hb dX6_roundBy_181 hl (by decide) rfl (fun ls hl => ?_)
                    refine lv_iinc (v := (z10.2 + (1 : Int32))) (lv' := [(9, .int (z10.2 + (1 : Int32))), (8, .int (0 : Int32)), (0, .ref (h 0)), (3, .int z8.1), (4, .int z6.2.1), (5, .int z8.2.1), (6, .int ((z8.2.1 + z6.2.1) - (1 : Int32))), (7, .int ((2 : Int32) * (((12 : Int32) * z8.2.1) + ((z8.2.1 + z6.2.1) - (1 : Int32)))))]) hx hb dX6_roundBy_183 hl (k := 7) rfl rfl (by decide) rfl (fun ls hl => ?_)
                    refine lv_goto (tgt := 143) hx hb dX6_roundBy_186 (by decide) ?_
                    have z : some (Sum.inr ((0 : Int32), (z10.2 + (1 : Int32)))) = some o10 := hb10
                    cases z
                    exact hk10 _ _ _ (lv_sub hl [2, 3, 4, 5, 6, 7, 1, 0] rfl) hw
                  · have hb10 := cd_ite_t c16 hb10
                    refine lv_iconst (v := (1 : Int32)) hx hb dX6_roundBy_176 (by decide) ?_
                    refine lv_goto (tgt := 181) hx hb dX6_roundBy_177 (by decide) ?_
                    refine lv_istore (lv' := [(8, .int (1 : Int32)), (0, .ref (h 0)), (3, .int z8.1), (4, .int z6.2.1), (5, .int z8.2.1), (6, .int ((z8.2.1 + z6.2.1) - (1 : Int32))), (7, .int ((2 : Int32) * (((12 : Int32) * z8.2.1) + ((z8.2.1 + z6.2.1) - (1 : Int32))))), (9, .int z10.2)]) hx hb dX6_roundBy_181 hl (by decide) rfl (fun ls hl => ?_)
                    refine lv_iinc (v := (z10.2 + (1 : Int32))) (lv' := [(9, .int (z10.2 + (1 : Int32))), (8, .int (1 : Int32)), (0, .ref (h 0)), (3, .int z8.1), (4, .int z6.2.1), (5, .int z8.2.1), (6, .int ((z8.2.1 + z6.2.1) - (1 : Int32))), (7, .int ((2 : Int32) * (((12 : Int32) * z8.2.1) + ((z8.2.1 + z6.2.1) - (1 : Int32)))))]) hx hb dX6_roundBy_183 hl (k := 7) rfl rfl (by decide) rfl (fun ls hl => ?_)
                    refine lv_goto (tgt := 143) hx hb dX6_roundBy_186 (by decide) ?_
                    have z : some (Sum.inr ((1 : Int32), (z10.2 + (1 : Int32)))) = some o10 := hb10
                    cases z
                    exact hk10 _ _ _ (lv_sub hl [2, 3, 4, 5, 6, 7, 1, 0] rfl) hw
      refine lv_icmp_ne (tgt := 90) hx hb dX6_roundBy_56 (by decide) (fun c5 => ?_) (fun c5 => ?_)
      · have e5 := cd_ite_f c5 e5
        have z : some x4 = some x5 := e5
        cases z
        exact K5 _ _ _ (lv_sub hl [0] rfl) hw
      · have e5 := cd_ite_t c5 e5
        refine lv_iload_n hx hb dX6_roundBy_59 rfl (lv_at hl 1 rfl) ?_
        refine lv_bipush (v := (11 : Int32)) hx hb dX6_roundBy_60 (by decide) ?_
        refine lv_icmp_ge (tgt := 90) hx hb dX6_roundBy_62 (by decide) (fun c31 => ?_) (fun c31 => ?_)
        · have e5 := cd_ite_t c31 e5
          have z : some x4 = some x5 := e5
          cases z
          exact K5 _ _ _ (lv_sub hl [0] rfl) hw
        · have e5 := cd_ite_f c31 e5
          refine lv_aload_n hx hb dX6_roundBy_65 rfl (lv_at hl 0 rfl) ?_
          refine va_get (D := G) (ci := 6) (v := .ref (h 7)) (C := RX6) (T := TX6) (N := 22) hx hb hts nw_X6_roundBy_X6 hown hK hw.1 0 rfl rfl 14 (by decide) hL0 (fun _ h9 => h9) rfl dX6_roundBy_66 ?_
          refine lv_iconst (v := (2 : Int32)) hx hb dX6_roundBy_69 (by decide) ?_
          refine lv_bipush (v := (12 : Int32)) hx hb dX6_roundBy_70 (by decide) ?_
          refine lv_iload_n hx hb dX6_roundBy_72 rfl (lv_at hl 1 rfl) ?_
          refine lv_imul hx hb dX6_roundBy_73 ?_
          refine lv_iload_n hx hb dX6_roundBy_74 rfl (lv_at hl 1 rfl) ?_
          refine lv_iadd hx hb dX6_roundBy_75 ?_
          refine lv_iconst (v := (1 : Int32)) hx hb dX6_roundBy_76 (by decide) ?_
          refine lv_iadd hx hb dX6_roundBy_77 ?_
          refine lv_imul hx hb dX6_roundBy_78 ?_
          refine lv_iconst (v := (1 : Int32)) hx hb dX6_roundBy_79 (by decide) ?_
          refine lv_iadd hx hb dX6_roundBy_80 ?_
          refine lv_aload_n hx hb dX6_roundBy_81 rfl (lv_at hl 0 rfl) ?_
          refine lv_iload_n hx hb dX6_roundBy_82 rfl (lv_at hl 1 rfl) ?_
          refine lv_iconst (v := (1 : Int32)) hx hb dX6_roundBy_83 (by decide) ?_
          refine lv_iadd hx hb dX6_roundBy_84 ?_
          refine lv_iconst (v := (1 : Int32)) hx hb dX6_roundBy_85 (by decide) ?_
          obtain ⟨r32, e32, e5⟩ := cd_bind_some e5
          refine cd_callVw (As := [.int (a0 + (1 : Int32)), .int (1 : Int32)]) (rest := [.int (((2 : Int32) * ((((12 : Int32) * a0) + a0) + (1 : Int32))) + (1 : Int32)), .ref (h 7)]) (wr := ([] : va_W)) (wn := (pc_mod cI cZ h r32.2)) C0 hw (c_X6_comes l G cI cZ sa sb h x4 (a0 + (1 : Int32)) (1 : Int32) r32 e32) [0, 1, 2, 3, 4, 5, 6, 7, 8, 9, 10, 11, 12, 13, 14] [] [0, 1, 2, 3, 4, 5, 6, 7, 8, 9, 10, 11, 12, 13, 14] rfl rfl rfl rfl (by decide) rfl rfl 0 6 rfl rfl rfl (cwV 2 hts gX6_roundBy_X6_comes rfl rfl rfl (by decide +kernel) ⟨Nat.le_of_ble_eq_true rfl, Nat.le_of_ble_eq_true rfl⟩) rfl hl.1 (lv_room (Nat.le_of_ble_eq_true rfl)) dX6_roundBy_86 (fun H locs hw => ?_)
          obtain ⟨j33, e33, e5⟩ := cd_bind_some e5
          refine cd_iast (f := r32.2 14) hx hb hK hw 7 rfl e33 dX6_roundBy_89 (fun H locs hw => ?_)
          have hw : cd_WS G A s.heap H locs ((pc_mod cI cZ h (cd_set r32.2 14 j33 r32.1))) := (show ∀ (s9 : Nat → Nat → Int32) (y9 : Int32), cd_WS G A s.heap H locs (((pc_mod cI cZ h s9)).set 7 (h 7, .inl (cI, 288, .inl (upd (s9 14) j33 y9)))) → cd_WS G A s.heap H locs ((pc_mod cI cZ h (cd_set s9 14 j33 y9))) from fun _ _ hh => hh) r32.2 r32.1 hw
          have z : some (cd_set r32.2 14 j33 r32.1) = some x5 := e5
          cases z
          exact K5 _ _ _ (lv_sub hl [0] rfl) hw
    refine lv_if_ne (tgt := 54) hx hb dX6_roundBy_24 (by decide) (fun c4 => ?_) (fun c4 => ?_)
    · have e4 := cd_ite_f c4 e4
      have z : some t1 = some x4 := e4
      cases z
      exact K4 _ _ _ (lv_sub hl [0, 1, 2] rfl) hw
    · have e4 := cd_ite_t c4 e4
      refine lv_iload_n hx hb dX6_roundBy_27 rfl (lv_at hl 1 rfl) ?_
      refine lv_if_le (tgt := 54) hx hb dX6_roundBy_28 (by decide) (fun c34 => ?_) (fun c34 => ?_)
      · have e4 := cd_ite_t c34 e4
        have z : some t1 = some x4 := e4
        cases z
        exact K4 _ _ _ (lv_sub hl [0, 1, 2] rfl) hw
      · have e4 := cd_ite_f c34 e4
        refine lv_aload_n hx hb dX6_roundBy_31 rfl (lv_at hl 0 rfl) ?_
        refine va_get (D := G) (ci := 6) (v := .ref (h 7)) (C := RX6) (T := TX6) (N := 22) hx hb hts nw_X6_roundBy_X6 hown hK hw.1 0 rfl rfl 14 (by decide) hL0 (fun _ h9 => h9) rfl dX6_roundBy_32 ?_
        refine lv_iconst (v := (2 : Int32)) hx hb dX6_roundBy_35 (by decide) ?_
        refine lv_bipush (v := (12 : Int32)) hx hb dX6_roundBy_36 (by decide) ?_
        refine lv_iload_n hx hb dX6_roundBy_38 rfl (lv_at hl 1 rfl) ?_
        refine lv_iconst (v := (1 : Int32)) hx hb dX6_roundBy_39 (by decide) ?_
        refine lv_isub hx hb dX6_roundBy_40 ?_
        refine lv_imul hx hb dX6_roundBy_41 ?_
        refine lv_iload_n hx hb dX6_roundBy_42 rfl (lv_at hl 1 rfl) ?_
        refine lv_iadd hx hb dX6_roundBy_43 ?_
        refine lv_imul hx hb dX6_roundBy_44 ?_
        refine lv_aload_n hx hb dX6_roundBy_45 rfl (lv_at hl 0 rfl) ?_
        refine lv_iload_n hx hb dX6_roundBy_46 rfl (lv_at hl 1 rfl) ?_
        refine lv_iconst (v := (1 : Int32)) hx hb dX6_roundBy_47 (by decide) ?_
        refine lv_isub hx hb dX6_roundBy_48 ?_
        refine lv_iconst (v := (1 : Int32)) hx hb dX6_roundBy_49 (by decide) ?_
        obtain ⟨r35, e35, e4⟩ := cd_bind_some e4
        refine cd_callVw (As := [.int (a0 - (1 : Int32)), .int (1 : Int32)]) (rest := [.int ((2 : Int32) * (((12 : Int32) * (a0 - (1 : Int32))) + a0)), .ref (h 7)]) (wr := ([] : va_W)) (wn := (pc_mod cI cZ h r35.2)) C0 hw (c_X6_comes l G cI cZ sa sb h t1 (a0 - (1 : Int32)) (1 : Int32) r35 e35) [0, 1, 2, 3, 4, 5, 6, 7, 8, 9, 10, 11, 12, 13, 14] [] [0, 1, 2, 3, 4, 5, 6, 7, 8, 9, 10, 11, 12, 13, 14] rfl rfl rfl rfl (by decide) rfl rfl 0 6 rfl rfl rfl (cwV 2 hts gX6_roundBy_X6_comes rfl rfl rfl (by decide +kernel) ⟨Nat.le_of_ble_eq_true rfl, Nat.le_of_ble_eq_true rfl⟩) rfl hl.1 (lv_room (Nat.le_of_ble_eq_true rfl)) dX6_roundBy_50 (fun H locs hw => ?_)
        obtain ⟨j36, e36, e4⟩ := cd_bind_some e4
        refine cd_iast (f := r35.2 14) hx hb hK hw 7 rfl e36 dX6_roundBy_53 (fun H locs hw => ?_)
        have hw : cd_WS G A s.heap H locs ((pc_mod cI cZ h (cd_set r35.2 14 j36 r35.1))) := (show ∀ (s9 : Nat → Nat → Int32) (y9 : Int32), cd_WS G A s.heap H locs (((pc_mod cI cZ h s9)).set 7 (h 7, .inl (cI, 288, .inl (upd (s9 14) j36 y9)))) → cd_WS G A s.heap H locs ((pc_mod cI cZ h (cd_set s9 14 j36 y9))) from fun _ _ hh => hh) r35.2 r35.1 hw
        have z : some (cd_set r35.2 14 j36 r35.1) = some x4 := e4
        cases z
        exact K4 _ _ _ (lv_sub hl [0, 1, 2] rfl) hw
  refine cd_iter_ind (body := f_X6_roundBy_b2) (K := fun r => r = x1) (P := fun (z1 : Int32 × (Nat → Nat → Int32)) => ∀ (ls : Array Slot) (H : Heap) (locs : List Loc), lv_has ls 12 [(0, .ref (h 0)), (1, .int a0), (2, .int a1), (3, .int z1.1)] → cd_WS G A s.heap H locs ((pc_mod cI cZ h z1.2)) → W p l e rm_X6_roundBy s m ag below meth c H locs 0 0 Q (F0 m 2 ls [])) ?_ cd_N ((0 : Int32), M) x1 e1 rfl _ _ _ (lv_sub hl [1, 2, 3, 0] rfl) hw
  intro z1 o1 hb1 hk1 ls H locs hl hw
  unfold f_X6_roundBy_b2 at hb1
  refine lv_iload_n hx hb dX6_roundBy_2 rfl (lv_at hl 3 rfl) ?_
  refine lv_sipush (v := (288 : Int32)) hx hb dX6_roundBy_3 (by decide) ?_
  refine lv_icmp_ge (tgt := 23) hx hb dX6_roundBy_6 (by decide) (fun c2 => ?_) (fun c2 => ?_)
  · have hb1 := cd_ite_t c2 hb1
    have z : some (Sum.inl z1.2) = some o1 := hb1
    cases z
    exact K1 _ hk1 _ _ _ (lv_sub hl [0, 1, 2] rfl) hw
  · have hb1 := cd_ite_f c2 hb1
    refine lv_aload_n hx hb dX6_roundBy_9 rfl (lv_at hl 0 rfl) ?_
    refine va_get (D := G) (ci := 6) (v := .ref (h 7)) (C := RX6) (T := TX6) (N := 22) hx hb hts nw_X6_roundBy_X6 hown hK hw.1 0 rfl rfl 14 (by decide) hL0 (fun _ h9 => h9) rfl dX6_roundBy_10 ?_
    refine lv_iload_n hx hb dX6_roundBy_13 rfl (lv_at hl 3 rfl) ?_
    refine lv_ldc (v := (1000000 : Int32)) hx hb hown hL1 dX6_roundBy_14 ?_
    obtain ⟨j3, e3, hb1⟩ := cd_bind_some hb1
    refine cd_iast (f := z1.2 14) hx hb hK hw 7 rfl e3 dX6_roundBy_16 (fun H locs hw => ?_)
    have hw : cd_WS G A s.heap H locs ((pc_mod cI cZ h (cd_set z1.2 14 j3 (1000000 : Int32)))) := (show ∀ (s9 : Nat → Nat → Int32) (y9 : Int32), cd_WS G A s.heap H locs (((pc_mod cI cZ h s9)).set 7 (h 7, .inl (cI, 288, .inl (upd (s9 14) j3 y9)))) → cd_WS G A s.heap H locs ((pc_mod cI cZ h (cd_set s9 14 j3 y9))) from fun _ _ hh => hh) z1.2 (1000000 : Int32) hw
    refine lv_iinc (v := (z1.1 + (1 : Int32))) (lv' := [(3, .int (z1.1 + (1 : Int32))), (0, .ref (h 0)), (1, .int a0), (2, .int a1)]) hx hb dX6_roundBy_17 hl (k := 3) rfl rfl (by decide) rfl (fun ls hl => ?_)
    refine lv_goto (tgt := 2) hx hb dX6_roundBy_20 (by decide) ?_
    have z : some (Sum.inr ((z1.1 + (1 : Int32)), (cd_set z1.2 14 j3 (1000000 : Int32)))) = some o1 := hb1
    cases z
    exact hk1 _ _ _ (lv_sub hl [1, 2, 3, 0] rfl) hw
abbrev rm_X6_round : Room := { frames := 4, cells := 0, slots := 0, locals := 97 }
set_option maxHeartbeats 4000000 in
set_option maxRecDepth 100000 in
theorem c_X6_round (l : Launch) (G : va_G) (cI cZ : ClassId) (sa sb : Nat) (h : Nat → Nat) (M : Nat → Nat → Int32) (a0 : Int32) (a1 : Int32) (o : Int32 × (Nat → Nat → Int32)) (hf : f_X6_round a0 a1 M = some o) : cd_Ct l G cI cZ sa sb yX6_round wsX6_round rm_X6_round [.ref (h 0), .int a0, .int a1] ((pc_mod cI cZ h M)) ((pc_mod cI cZ h o.2)) (some (.int o.1)) := by
  refine cd_of (cc := cX6_round) (maxL := 7) (ret := (some .int)) (by decide) rfl (Nat.le_of_ble_eq_true rfl) ?_
  intro p e s m ag below meth c A ls Q C0 hl hw hQ
  have C0 : cd_CX G cI cZ sa sb p s m ag meth c cX6_round 7 (some .int) wsX6_round RX6 A := C0
  obtain ⟨⟨hx, hb, hml, hown, hts⟩, hr, hlocks, hA, hE⟩ := id C0
  have hK := hE.1
  have hL0 := hts (.constant RX6 150 (1000000)) (by decide +kernel)
  have hl : lv_has ls 7 [(0, .ref (h 0)), (1, .int a0), (2, .int a1)] := hl
  unfold f_X6_round at hf
  refine lv_iload_n hx hb dX6_round_0 rfl (lv_at hl 1 rfl) ?_
  obtain ⟨r1, e1, hf⟩ := cd_bind_some hf
  refine cd_callS (As := [.int a0]) (rest := []) C0 hw (c_X6_isCandle l G cI cZ sa sb a0 r1 e1) [] rfl rfl (va_cwS 1 hts gX6_round_X6_isCandle rfl rfl rfl (by decide +kernel) ⟨Nat.le_of_ble_eq_true rfl, Nat.le_of_ble_eq_true rfl⟩) rfl hl.1 (lv_room (Nat.le_of_ble_eq_true rfl)) dX6_round_1 (fun H locs hw => ?_)
  refine lv_if_ne (tgt := 9) hx hb dX6_round_4 (by decide) (fun c2 => ?_) (fun c2 => ?_)
  · have hf := cd_ite_f c2 hf
    refine lv_iload_n hx hb dX6_round_9 rfl (lv_at hl 2 rfl) ?_
    refine lv_iconst (v := (0 : Int32)) hx hb dX6_round_10 (by decide) ?_
    refine lv_iconst (v := (1 : Int32)) hx hb dX6_round_11 (by decide) ?_
    obtain ⟨r3, e3, hf⟩ := cd_bind_some hf
    refine cd_callS (As := [.int a1, .int (0 : Int32), .int (1 : Int32)]) (rest := []) C0 hw (c_X6_in l G cI cZ sa sb a1 (0 : Int32) (1 : Int32) r3 e3) [] rfl rfl (va_cwS 3 hts gX6_round_X6_in rfl rfl rfl (by decide +kernel) ⟨Nat.le_of_ble_eq_true rfl, Nat.le_of_ble_eq_true rfl⟩) rfl hl.1 (lv_room (Nat.le_of_ble_eq_true rfl)) dX6_round_12 (fun H locs hw => ?_)
    refine lv_if_ne (tgt := 21) hx hb dX6_round_15 (by decide) (fun c4 => ?_) (fun c4 => ?_)
    · have hf := cd_ite_f c4 hf
      refine lv_iconst (v := (0 : Int32)) hx hb dX6_round_21 (by decide) ?_
      refine lv_istore_n (lv' := [(3, .int (0 : Int32)), (0, .ref (h 0)), (1, .int a0), (2, .int a1)]) hx hb dX6_round_22 rfl hl (by decide) rfl (fun ls hl => ?_)
      refine lv_iconst (v := (0 : Int32)) hx hb dX6_round_23 (by decide) ?_
      refine lv_istore (lv' := [(4, .int (0 : Int32)), (3, .int (0 : Int32)), (0, .ref (h 0)), (1, .int a0), (2, .int a1)]) hx hb dX6_round_24 hl (by decide) rfl (fun ls hl => ?_)
      obtain ⟨x5, e5, hf⟩ := cd_bind_some hf
      have K5 : ∀ (t5 : Int32), t5 = x5 → ∀ (ls : Array Slot) (H : Heap) (locs : List Loc), lv_has ls 7 [(0, .ref (h 0)), (1, .int a0), (2, .int a1), (3, .int t5)] → cd_WS G A s.heap H locs ((pc_mod cI cZ h M)) → W p l e rm_X6_round s m ag below meth c H locs 0 0 Q (F0 m 64 ls []) := by
        intro t5 hs_5
        subst hs_5
        intro ls H locs hl hw
        refine lv_iload_n hx hb dX6_round_64 rfl (lv_at hl 3 rfl) ?_
        refine lv_if_ne (tgt := 79) hx hb dX6_round_65 (by decide) (fun c11 => ?_) (fun c11 => ?_)
        · have hf := cd_ite_f c11 hf
          refine lv_aload_n hx hb dX6_round_79 rfl (lv_at hl 0 rfl) ?_
          refine lv_iload_n hx hb dX6_round_80 rfl (lv_at hl 1 rfl) ?_
          refine lv_iconst (v := (0 : Int32)) hx hb dX6_round_81 (by decide) ?_
          obtain ⟨r13, e13, hf⟩ := cd_bind_some hf
          refine cd_callVw (As := [.int a0, .int (0 : Int32)]) (rest := []) (wr := ([] : va_W)) (wn := (pc_mod cI cZ h r13.2)) C0 hw (c_X6_roundBy l G cI cZ sa sb h M a0 (0 : Int32) r13 e13) [0, 1, 2, 3, 4, 5, 6, 7, 8, 9, 10, 11, 12, 13, 14] [] [0, 1, 2, 3, 4, 5, 6, 7, 8, 9, 10, 11, 12, 13, 14] rfl rfl rfl rfl (by decide) rfl rfl 0 6 rfl rfl rfl (cwV 2 hts gX6_round_X6_roundBy rfl rfl rfl (by decide +kernel) ⟨Nat.le_of_ble_eq_true rfl, Nat.le_of_ble_eq_true rfl⟩) rfl hl.1 (lv_room (Nat.le_of_ble_eq_true rfl)) dX6_round_82 (fun H locs hw => ?_)
          refine lv_istore (lv' := [(4, .int r13.1), (0, .ref (h 0)), (1, .int a0), (2, .int a1), (3, .int t5)]) hx hb dX6_round_85 hl (by decide) rfl (fun ls hl => ?_)
          refine lv_aload_n hx hb dX6_round_87 rfl (lv_at hl 1 rfl) ?_
          refine lv_iload_n hx hb dX6_round_88 rfl (lv_at hl 2 rfl) ?_
          refine lv_iconst (v := (1 : Int32)) hx hb dX6_round_89 (by decide) ?_
          obtain ⟨r14, e14, hf⟩ := cd_bind_some hf
          refine cd_callVw (As := [.int a0, .int (1 : Int32)]) (rest := []) (wr := ([] : va_W)) (wn := (pc_mod cI cZ h r14.2)) C0 hw (c_X6_roundBy l G cI cZ sa sb h r13.2 a0 (1 : Int32) r14 e14) [0, 1, 2, 3, 4, 5, 6, 7, 8, 9, 10, 11, 12, 13, 14] [] [0, 1, 2, 3, 4, 5, 6, 7, 8, 9, 10, 11, 12, 13, 14] rfl rfl rfl rfl (by decide) rfl rfl 0 6 rfl rfl rfl (cwV 2 hts gX6_round_X6_roundBy rfl rfl rfl (by decide +kernel) ⟨Nat.le_of_ble_eq_true rfl, Nat.le_of_ble_eq_true rfl⟩) rfl hl.1 (lv_room (Nat.le_of_ble_eq_true rfl)) dX6_round_90 (fun H locs hw => ?_)
          refine lv_istore (lv' := [(5, .int r14.1), (4, .int r13.1), (0, .ref (h 0)), (1, .int a0), (2, .int a1), (3, .int t5)]) hx hb dX6_round_93 hl (by decide) rfl (fun ls hl => ?_)
          refine lv_iload hx hb dX6_round_95 (lv_at hl 1 rfl) ?_
          refine lv_iload hx hb dX6_round_97 (lv_at hl 0 rfl) ?_
          obtain ⟨x15, e15, hf⟩ := cd_bind_some hf
          have K15 : ∀ (ls : Array Slot) (H : Heap) (locs : List Loc), lv_has ls 7 [(2, .int a1), (4, .int r13.1)] → cd_WS G A s.heap H locs ((pc_mod cI cZ h r14.2)) → W p l e rm_X6_round s m ag below meth c H locs 0 0 Q (F0 m 109 ls [.int x15]) := by
            intro ls H locs hl hw
            refine lv_istore (lv' := [(6, .int x15), (2, .int a1), (4, .int r13.1)]) hx hb dX6_round_109 hl (by decide) rfl (fun ls hl => ?_)
            refine lv_iload hx hb dX6_round_111 (lv_at hl 0 rfl) ?_
            refine lv_ldc (v := (1000000 : Int32)) hx hb hown hL0 dX6_round_113 ?_
            refine lv_icmp_lt (tgt := 121) hx hb dX6_round_115 (by decide) (fun c16 => ?_) (fun c16 => ?_)
            · have hf := cd_ite_t c16 hf
              refine lv_iload_n hx hb dX6_round_121 rfl (lv_at hl 1 rfl) ?_
              obtain ⟨x17, e17, hf⟩ := cd_bind_some hf
              have K17 : ∀ (ls : Array Slot) (H : Heap) (locs : List Loc), lv_has ls 7 [] → cd_WS G A s.heap H locs ((pc_mod cI cZ h r14.2)) → W p l e rm_X6_round s m ag below meth c H locs 0 0 Q (F0 m 142 ls [.int x17]) := by
                intro ls H locs hl hw
                have z : some (x17, r14.2) = some o := hf
                cases z
                rw [hQ]
                exact cd_reti C0 hw dX6_round_142
              refine lv_if_ne (tgt := 130) hx hb dX6_round_122 (by decide) (fun c17 => ?_) (fun c17 => ?_)
              · have e17 := cd_ite_f c17 e17
                refine lv_iload hx hb dX6_round_130 (lv_at hl 2 rfl) ?_
                refine lv_iload hx hb dX6_round_132 (lv_at hl 0 rfl) ?_
                refine lv_icmp_ne (tgt := 141) hx hb dX6_round_134 (by decide) (fun c18 => ?_) (fun c18 => ?_)
                · have e17 := cd_ite_f c18 e17
                  refine lv_iconst (v := (1 : Int32)) hx hb dX6_round_141 (by decide) ?_
                  have z : some (1 : Int32) = some x17 := e17
                  cases z
                  exact K17 _ _ _ (lv_sub hl [] rfl) hw
                · have e17 := cd_ite_t c18 e17
                  refine lv_iconst (v := (0 : Int32)) hx hb dX6_round_137 (by decide) ?_
                  refine lv_goto (tgt := 142) hx hb dX6_round_138 (by decide) ?_
                  have z : some (0 : Int32) = some x17 := e17
                  cases z
                  exact K17 _ _ _ (lv_sub hl [] rfl) hw
              · have e17 := cd_ite_t c17 e17
                refine lv_iload hx hb dX6_round_125 (lv_at hl 0 rfl) ?_
                refine lv_goto (tgt := 142) hx hb dX6_round_127 (by decide) ?_
                have z : some x15 = some x17 := e17
                cases z
                exact K17 _ _ _ (lv_sub hl [] rfl) hw
            · have hf := cd_ite_f c16 hf
              refine lv_bipush (v := (-6 : Int32)) hx hb dX6_round_118 (by decide) ?_
              have z : some ((-6 : Int32), r14.2) = some o := hf
              cases z
              rw [hQ]
              exact cd_reti C0 hw dX6_round_120
          refine lv_icmp_ge (tgt := 107) hx hb dX6_round_99 (by decide) (fun c15 => ?_) (fun c15 => ?_)
          · have e15 := cd_ite_t c15 e15
            refine lv_iload hx hb dX6_round_107 (lv_at hl 0 rfl) ?_
            have z : some r14.1 = some x15 := e15
            cases z
            exact K15 _ _ _ (lv_sub hl [4, 1] rfl) hw
          · have e15 := cd_ite_f c15 e15
            refine lv_iload hx hb dX6_round_102 (lv_at hl 1 rfl) ?_
            refine lv_goto (tgt := 109) hx hb dX6_round_104 (by decide) ?_
            have z : some r13.1 = some x15 := e15
            cases z
            exact K15 _ _ _ (lv_sub hl [4, 1] rfl) hw
        · have hf := cd_ite_t c11 hf
          refine lv_iload_n hx hb dX6_round_68 rfl (lv_at hl 2 rfl) ?_
          obtain ⟨x12, e12, hf⟩ := cd_bind_some hf
          have K12 : ∀ (ls : Array Slot) (H : Heap) (locs : List Loc), lv_has ls 7 [] → cd_WS G A s.heap H locs ((pc_mod cI cZ h M)) → W p l e rm_X6_round s m ag below meth c H locs 0 0 Q (F0 m 78 ls [.int x12]) := by
            intro ls H locs hl hw
            have z : some (x12, M) = some o := hf
            cases z
            rw [hQ]
            exact cd_reti C0 hw dX6_round_78
          refine lv_if_ne (tgt := 76) hx hb dX6_round_69 (by decide) (fun c12 => ?_) (fun c12 => ?_)
          · have e12 := cd_ite_f c12 e12
            refine lv_bipush (v := (-6 : Int32)) hx hb dX6_round_76 (by decide) ?_
            have z : some (-6 : Int32) = some x12 := e12
            cases z
            exact K12 _ _ _ (lv_sub hl [] rfl) hw
          · have e12 := cd_ite_t c12 e12
            refine lv_iconst (v := (0 : Int32)) hx hb dX6_round_72 (by decide) ?_
            refine lv_goto (tgt := 78) hx hb dX6_round_73 (by decide) ?_
            have z : some (0 : Int32) = some x12 := e12
            cases z
            exact K12 _ _ _ (lv_sub hl [] rfl) hw
      refine cd_iter_ind (body := (f_X6_round_b26 a0 M)) (K := fun r => r = x5) (P := fun (z5 : Int32 × Int32) => ∀ (ls : Array Slot) (H : Heap) (locs : List Loc), lv_has ls 7 [(0, .ref (h 0)), (1, .int a0), (2, .int a1), (3, .int z5.1), (4, .int z5.2)] → cd_WS G A s.heap H locs ((pc_mod cI cZ h M)) → W p l e rm_X6_round s m ag below meth c H locs 0 0 Q (F0 m 26 ls [])) ?_ cd_N ((0 : Int32), (0 : Int32)) x5 e5 rfl _ _ _ (lv_sub hl [2, 3, 4, 1, 0] rfl) hw
      intro z5 o5 hb5 hk5 ls H locs hl hw
      unfold f_X6_round_b26 at hb5
      refine lv_iload hx hb dX6_round_26 (lv_at hl 4 rfl) ?_
      refine lv_bipush (v := (12 : Int32)) hx hb dX6_round_28 (by decide) ?_
      refine lv_icmp_ge (tgt := 64) hx hb dX6_round_30 (by decide) (fun c6 => ?_) (fun c6 => ?_)
      · have hb5 := cd_ite_t c6 hb5
        have z : some (Sum.inl z5.1) = some o5 := hb5
        cases z
        exact K5 _ hk5 _ _ _ (lv_sub hl [0, 1, 2, 3] rfl) hw
      · have hb5 := cd_ite_f c6 hb5
        refine lv_iload_n hx hb dX6_round_33 rfl (lv_at hl 3 rfl) ?_
        refine lv_if_ne (tgt := 52) hx hb dX6_round_34 (by decide) (fun c7 => ?_) (fun c7 => ?_)
        · have hb5 := cd_ite_f c7 hb5
          refine lv_iconst (v := (1 : Int32)) hx hb dX6_round_52 (by decide) ?_
          refine lv_goto (tgt := 57) hx hb dX6_round_53 (by decide) ?_
          refine lv_istore_n (lv' := [(3, .int (1 : Int32)), (0, .ref (h 0)), (1, .int a0), (2, .int a1), (4, .int z5.2)]) hx hb dX6_round_57 rfl hl (by decide) rfl (fun ls hl => ?_)
          refine lv_iinc (v := (z5.2 + (1 : Int32))) (lv' := [(4, .int (z5.2 + (1 : Int32))), (3, .int (1 : Int32)), (0, .ref (h 0)), (1, .int a0), (2, .int a1)]) hx hb dX6_round_58 hl (k := 4) rfl rfl (by decide) rfl (fun ls hl => ?_)
          refine lv_goto (tgt := 26) hx hb dX6_round_61 (by decide) ?_
          have z : some (Sum.inr ((1 : Int32), (z5.2 + (1 : Int32)))) = some o5 := hb5
          cases z
          exact hk5 _ _ _ (lv_sub hl [2, 3, 4, 1, 0] rfl) hw
        · have hb5 := cd_ite_t c7 hb5
          refine lv_iload hx hb dX6_round_37 (lv_at hl 4 rfl) ?_
          refine lv_iload_n hx hb dX6_round_39 rfl (lv_at hl 1 rfl) ?_
          refine lv_icmp_eq (tgt := 56) hx hb dX6_round_40 (by decide) (fun c8 => ?_) (fun c8 => ?_)
          · have hb5 := cd_ite_t c8 hb5
            refine lv_iconst (v := (0 : Int32)) hx hb dX6_round_56 (by decide) ?_
            refine lv_istore_n (lv' := [(3, .int (0 : Int32)), (0, .ref (h 0)), (1, .int a0), (2, .int a1), (4, .int z5.2)]) hx hb dX6_round_57 rfl hl (by decide) rfl (fun ls hl => ?_)
            refine lv_iinc (v := (z5.2 + (1 : Int32))) (lv' := [(4, .int (z5.2 + (1 : Int32))), (3, .int (0 : Int32)), (0, .ref (h 0)), (1, .int a0), (2, .int a1)]) hx hb dX6_round_58 hl (k := 4) rfl rfl (by decide) rfl (fun ls hl => ?_)
            refine lv_goto (tgt := 26) hx hb dX6_round_61 (by decide) ?_
            have z : some (Sum.inr ((0 : Int32), (z5.2 + (1 : Int32)))) = some o5 := hb5
            cases z
            exact hk5 _ _ _ (lv_sub hl [2, 3, 4, 1, 0] rfl) hw
          · have hb5 := cd_ite_f c8 hb5
            refine lv_aload_n hx hb dX6_round_43 rfl (lv_at hl 0 rfl) ?_
            refine lv_iload hx hb dX6_round_44 (lv_at hl 4 rfl) ?_
            obtain ⟨r9, e9, hb5⟩ := cd_bind_some hb5
            refine cd_callV (As := [.int z5.2]) (rest := []) C0 hw (c_X6_isAsked l G cI cZ sa sb h M z5.2 r9 e9) [0, 1, 2, 3, 4, 5, 6, 7, 8, 9, 10, 11, 12, 13, 14] rfl rfl 0 6 rfl rfl rfl (cwV 1 hts gX6_round_X6_isAsked rfl rfl rfl (by decide +kernel) ⟨Nat.le_of_ble_eq_true rfl, Nat.le_of_ble_eq_true rfl⟩) rfl hl.1 (lv_room (Nat.le_of_ble_eq_true rfl)) dX6_round_46 (fun H locs hw => ?_)
            refine lv_if_eq (tgt := 56) hx hb dX6_round_49 (by decide) (fun c10 => ?_) (fun c10 => ?_)
            · have hb5 := cd_ite_t c10 hb5
              refine lv_iconst (v := (0 : Int32)) hx hb dX6_round_56 (by decide) ?_
              refine lv_istore_n (lv' := [(3, .int (0 : Int32)), (0, .ref (h 0)), (1, .int a0), (2, .int a1), (4, .int z5.2)]) hx hb dX6_round_57 rfl hl (by decide) rfl (fun ls hl => ?_)
              refine lv_iinc (v := (z5.2 + (1 : Int32))) (lv' := [(4, .int (z5.2 + (1 : Int32))), (3, .int (0 : Int32)), (0, .ref (h 0)), (1, .int a0), (2, .int a1)]) hx hb dX6_round_58 hl (k := 4) rfl rfl (by decide) rfl (fun ls hl => ?_)
              refine lv_goto (tgt := 26) hx hb dX6_round_61 (by decide) ?_
              have z : some (Sum.inr ((0 : Int32), (z5.2 + (1 : Int32)))) = some o5 := hb5
              cases z
              exact hk5 _ _ _ (lv_sub hl [2, 3, 4, 1, 0] rfl) hw
            · have hb5 := cd_ite_f c10 hb5
              refine lv_iconst (v := (1 : Int32)) hx hb dX6_round_52 (by decide) ?_
              refine lv_goto (tgt := 57) hx hb dX6_round_53 (by decide) ?_
              refine lv_istore_n (lv' := [(3, .int (1 : Int32)), (0, .ref (h 0)), (1, .int a0), (2, .int a1), (4, .int z5.2)]) hx hb dX6_round_57 rfl hl (by decide) rfl (fun ls hl => ?_)
              refine lv_iinc (v := (z5.2 + (1 : Int32))) (lv' := [(4, .int (z5.2 + (1 : Int32))), (3, .int (1 : Int32)), (0, .ref (h 0)), (1, .int a0), (2, .int a1)]) hx hb dX6_round_58 hl (k := 4) rfl rfl (by decide) rfl (fun ls hl => ?_)
              refine lv_goto (tgt := 26) hx hb dX6_round_61 (by decide) ?_
              have z : some (Sum.inr ((1 : Int32), (z5.2 + (1 : Int32)))) = some o5 := hb5
              cases z
              exact hk5 _ _ _ (lv_sub hl [2, 3, 4, 1, 0] rfl) hw
    · have hf := cd_ite_t c4 hf
      refine lv_bipush (v := (-2 : Int32)) hx hb dX6_round_18 (by decide) ?_
      have z : some ((-2 : Int32), M) = some o := hf
      cases z
      rw [hQ]
      exact cd_reti C0 hw dX6_round_20
  · have hf := cd_ite_t c2 hf
    refine lv_iconst (v := (-1 : Int32)) hx hb dX6_round_7 (by decide) ?_
    have z : some ((-1 : Int32), M) = some o := hf
    cases z
    rw [hQ]
    exact cd_reti C0 hw dX6_round_8
