abbrev rm_X6_snuffOut : Room := { frames := 2, cells := 0, slots := 0, locals := 42 }
theorem nw_X6_snuffOut_X6 : ∀ w ∈ u_ws RX6 TX6 22, w ∈ wsX6_snuffOut := by decide +kernel
set_option maxHeartbeats 4000000 in
set_option maxRecDepth 100000 in
theorem c_X6_snuffOut (l : Launch) (G : va_G) (cI cZ : ClassId) (sa sb : Nat) (h : Nat → Nat) (M : Nat → Nat → Int32) (a0 : Int32) (o : Int32 × (Nat → Nat → Int32)) (hf : f_X6_snuffOut a0 M = some o) : cd_Ct l G cI cZ sa sb yX6_snuffOut wsX6_snuffOut rm_X6_snuffOut [.ref (h 0), .int a0] ((pc_mod cI cZ h M)) ((pc_mod cI cZ h o.2)) (some (.int o.1)) := by
  refine cd_of (cc := cX6_snuffOut) (maxL := 2) (ret := (some .int)) (by decide) rfl (Nat.le_of_ble_eq_true rfl) ?_
  intro p e s m ag below meth c A ls Q C0 hl hw hQ
  have C0 : cd_CX G cI cZ sa sb p s m ag meth c cX6_snuffOut 2 (some .int) wsX6_snuffOut RX6 A := C0
  obtain ⟨⟨hx, hb, hml, hown, hts⟩, hr, hlocks, hA, hE⟩ := id C0
  have hK := hE.1
  have hL0 := hts (.fieldLink RX6 13 "CandleDebtsModel" "now" "[I") (by decide +kernel)
  have hl : lv_has ls 2 [(0, .ref (h 0)), (1, .int a0)] := hl
  unfold f_X6_snuffOut at hf
  refine lv_aload_n hx hb dX6_snuffOut_0 rfl (lv_at hl 0 rfl) ?_
  refine lv_iload_n hx hb dX6_snuffOut_1 rfl (lv_at hl 1 rfl) ?_
  obtain ⟨r1, e1, hf⟩ := cd_bind_some hf
  refine cd_callV (As := [.int a0]) (rest := []) C0 hw (c_X6_isLit l G cI cZ sa sb h M a0 r1 e1) [0, 1, 2, 3, 4, 5, 6, 7, 8, 9, 10, 11, 12, 13, 14] rfl rfl 0 6 rfl rfl rfl (cwV 1 hts gX6_snuffOut_X6_isLit rfl rfl rfl (by decide +kernel) ⟨Nat.le_of_ble_eq_true rfl, Nat.le_of_ble_eq_true rfl⟩) rfl hl.1 (lv_room (Nat.le_of_ble_eq_true rfl)) dX6_snuffOut_2 (fun H locs hw => ?_)
  refine lv_if_ne (tgt := 10) hx hb dX6_snuffOut_5 (by decide) (fun c2 => ?_) (fun c2 => ?_)
  · have hf := cd_ite_f c2 hf
    refine lv_aload_n hx hb dX6_snuffOut_10 rfl (lv_at hl 0 rfl) ?_
    refine va_get (D := G) (ci := 6) (v := .ref (h 2)) (C := RX6) (T := TX6) (N := 22) hx hb hts nw_X6_snuffOut_X6 hown hK hw.1 0 rfl rfl 1 (by decide) hL0 (fun _ h9 => h9) rfl dX6_snuffOut_11 ?_
    refine lv_bipush (v := (66 : Int32)) hx hb dX6_snuffOut_14 (by decide) ?_
    refine lv_dup2_11 hx hb dX6_snuffOut_16 rfl rfl ?_
    obtain ⟨v3, e3, hf⟩ := cd_bind_some hf
    refine cd_iald hx hb hK hw 2 rfl e3 dX6_snuffOut_17 ?_
    refine lv_aload_n hx hb dX6_snuffOut_18 rfl (lv_at hl 0 rfl) ?_
    refine va_get (D := G) (ci := 6) (v := .ref (h 2)) (C := RX6) (T := TX6) (N := 22) hx hb hts nw_X6_snuffOut_X6 hown hK hw.1 0 rfl rfl 1 (by decide) hL0 (fun _ h9 => h9) rfl dX6_snuffOut_19 ?_
    refine lv_bipush (v := (48 : Int32)) hx hb dX6_snuffOut_22 (by decide) ?_
    refine lv_iload_n hx hb dX6_snuffOut_24 rfl (lv_at hl 1 rfl) ?_
    refine lv_iadd hx hb dX6_snuffOut_25 ?_
    obtain ⟨v4, e4, hf⟩ := cd_bind_some hf
    refine cd_iald hx hb hK hw 2 rfl e4 dX6_snuffOut_26 ?_
    refine lv_iconst (v := (-1 : Int32)) hx hb dX6_snuffOut_27 (by decide) ?_
    refine lv_ixor hx hb dX6_snuffOut_28 ?_
    refine lv_iand hx hb dX6_snuffOut_29 ?_
    obtain ⟨j5, e5, hf⟩ := cd_bind_some hf
    refine cd_iast (f := M 1) hx hb hK hw 2 rfl e5 dX6_snuffOut_30 (fun H locs hw => ?_)
    have hw : cd_WS G A s.heap H locs ((pc_mod cI cZ h (cd_set M 1 j5 (v3 &&& (v4 ^^^ (-1 : Int32)))))) := (show ∀ (s9 : Nat → Nat → Int32) (y9 : Int32), cd_WS G A s.heap H locs (((pc_mod cI cZ h s9)).set 2 (h 2, .inl (cI, 69, .inl (upd (s9 1) j5 y9)))) → cd_WS G A s.heap H locs ((pc_mod cI cZ h (cd_set s9 1 j5 y9))) from fun _ _ hh => hh) M (v3 &&& (v4 ^^^ (-1 : Int32))) hw
    refine lv_iconst (v := (0 : Int32)) hx hb dX6_snuffOut_31 (by decide) ?_
    have z : some ((0 : Int32), (cd_set M 1 j5 (v3 &&& (v4 ^^^ (-1 : Int32))))) = some o := hf
    cases z
    rw [hQ]
    exact cd_reti C0 hw dX6_snuffOut_32
  · have hf := cd_ite_t c2 hf
    refine lv_iconst (v := (2 : Int32)) hx hb dX6_snuffOut_8 (by decide) ?_
    have z : some ((2 : Int32), M) = some o := hf
    cases z
    rw [hQ]
    exact cd_reti C0 hw dX6_snuffOut_9
abbrev rm_X6_trim : Room := { frames := 0, cells := 0, slots := 0, locals := 0 }
theorem nw_X6_trim_X6 : ∀ w ∈ u_ws RX6 TX6 22, w ∈ wsX6_trim := by decide +kernel
set_option maxHeartbeats 4000000 in
set_option maxRecDepth 100000 in
theorem c_X6_trim (l : Launch) (G : va_G) (cI cZ : ClassId) (sa sb : Nat) (h : Nat → Nat) (M : Nat → Nat → Int32) (a0 : Int32) (o : Int32 × (Nat → Nat → Int32)) (hf : f_X6_trim a0 M = some o) : cd_Ct l G cI cZ sa sb yX6_trim wsX6_trim rm_X6_trim [.ref (h 0), .int a0] ((pc_mod cI cZ h M)) ((pc_mod cI cZ h o.2)) (some (.int o.1)) := by
  refine cd_of (cc := cX6_trim) (maxL := 2) (ret := (some .int)) (by decide) rfl (Nat.le_of_ble_eq_true rfl) ?_
  intro p e s m ag below meth c A ls Q C0 hl hw hQ
  have C0 : cd_CX G cI cZ sa sb p s m ag meth c cX6_trim 2 (some .int) wsX6_trim RX6 A := C0
  obtain ⟨⟨hx, hb, hml, hown, hts⟩, hr, hlocks, hA, hE⟩ := id C0
  have hK := hE.1
  have hL0 := hts (.fieldLink RX6 13 "CandleDebtsModel" "now" "[I") (by decide +kernel)
  have hl : lv_has ls 2 [(0, .ref (h 0)), (1, .int a0)] := hl
  unfold f_X6_trim at hf
  refine lv_aload_n hx hb dX6_trim_0 rfl (lv_at hl 0 rfl) ?_
  refine va_get (D := G) (ci := 6) (v := .ref (h 2)) (C := RX6) (T := TX6) (N := 22) hx hb hts nw_X6_trim_X6 hown hK hw.1 0 rfl rfl 1 (by decide) hL0 (fun _ h9 => h9) rfl dX6_trim_1 ?_
  refine lv_bipush (v := (24 : Int32)) hx hb dX6_trim_4 (by decide) ?_
  refine lv_iload_n hx hb dX6_trim_6 rfl (lv_at hl 1 rfl) ?_
  refine lv_iadd hx hb dX6_trim_7 ?_
  obtain ⟨v1, e1, hf⟩ := cd_bind_some hf
  refine cd_iald hx hb hK hw 2 rfl e1 dX6_trim_8 ?_
  refine lv_bipush (v := (9 : Int32)) hx hb dX6_trim_9 (by decide) ?_
  refine lv_icmp_ne (tgt := 16) hx hb dX6_trim_11 (by decide) (fun c2 => ?_) (fun c2 => ?_)
  · have hf := cd_ite_f c2 hf
    refine lv_aload_n hx hb dX6_trim_16 rfl (lv_at hl 0 rfl) ?_
    refine va_get (D := G) (ci := 6) (v := .ref (h 2)) (C := RX6) (T := TX6) (N := 22) hx hb hts nw_X6_trim_X6 hown hK hw.1 0 rfl rfl 1 (by decide) hL0 (fun _ h9 => h9) rfl dX6_trim_17 ?_
    refine lv_bipush (v := (24 : Int32)) hx hb dX6_trim_20 (by decide) ?_
    refine lv_iload_n hx hb dX6_trim_22 rfl (lv_at hl 1 rfl) ?_
    refine lv_iadd hx hb dX6_trim_23 ?_
    refine lv_dup2_11 hx hb dX6_trim_24 rfl rfl ?_
    obtain ⟨v3, e3, hf⟩ := cd_bind_some hf
    refine cd_iald hx hb hK hw 2 rfl e3 dX6_trim_25 ?_
    refine lv_iconst (v := (1 : Int32)) hx hb dX6_trim_26 (by decide) ?_
    refine lv_iadd hx hb dX6_trim_27 ?_
    obtain ⟨j4, e4, hf⟩ := cd_bind_some hf
    refine cd_iast (f := M 1) hx hb hK hw 2 rfl e4 dX6_trim_28 (fun H locs hw => ?_)
    have hw : cd_WS G A s.heap H locs ((pc_mod cI cZ h (cd_set M 1 j4 (v3 + (1 : Int32))))) := (show ∀ (s9 : Nat → Nat → Int32) (y9 : Int32), cd_WS G A s.heap H locs (((pc_mod cI cZ h s9)).set 2 (h 2, .inl (cI, 69, .inl (upd (s9 1) j4 y9)))) → cd_WS G A s.heap H locs ((pc_mod cI cZ h (cd_set s9 1 j4 y9))) from fun _ _ hh => hh) M (v3 + (1 : Int32)) hw
    refine lv_iconst (v := (0 : Int32)) hx hb dX6_trim_29 (by decide) ?_
    have z : some ((0 : Int32), (cd_set M 1 j4 (v3 + (1 : Int32)))) = some o := hf
    cases z
    rw [hQ]
    exact cd_reti C0 hw dX6_trim_30
  · have hf := cd_ite_t c2 hf
    refine lv_iconst (v := (5 : Int32)) hx hb dX6_trim_14 (by decide) ?_
    have z : some ((5 : Int32), M) = some o := hf
    cases z
    rw [hQ]
    exact cd_reti C0 hw dX6_trim_15
abbrev rm_X6_lightFrom : Room := { frames := 2, cells := 0, slots := 0, locals := 42 }
theorem nw_X6_lightFrom_X6 : ∀ w ∈ u_ws RX6 TX6 22, w ∈ wsX6_lightFrom := by decide +kernel
set_option maxHeartbeats 4000000 in
set_option maxRecDepth 100000 in
theorem c_X6_lightFrom (l : Launch) (G : va_G) (cI cZ : ClassId) (sa sb : Nat) (h : Nat → Nat) (M : Nat → Nat → Int32) (a0 : Int32) (a1 : Int32) (o : Int32 × (Nat → Nat → Int32)) (hf : f_X6_lightFrom a0 a1 M = some o) : cd_Ct l G cI cZ sa sb yX6_lightFrom wsX6_lightFrom rm_X6_lightFrom [.ref (h 0), .int a0, .int a1] ((pc_mod cI cZ h M)) ((pc_mod cI cZ h o.2)) (some (.int o.1)) := by
  refine cd_of (cc := cX6_lightFrom) (maxL := 5) (ret := (some .int)) (by decide) rfl (Nat.le_of_ble_eq_true rfl) ?_
  intro p e s m ag below meth c A ls Q C0 hl hw hQ
  have C0 : cd_CX G cI cZ sa sb p s m ag meth c cX6_lightFrom 5 (some .int) wsX6_lightFrom RX6 A := C0
  obtain ⟨⟨hx, hb, hml, hown, hts⟩, hr, hlocks, hA, hE⟩ := id C0
  have hK := hE.1
  have hL0 := hts (.fieldLink RX6 13 "CandleDebtsModel" "now" "[I") (by decide +kernel)
  have hl : lv_has ls 5 [(0, .ref (h 0)), (1, .int a0), (2, .int a1)] := hl
  unfold f_X6_lightFrom at hf
  refine lv_aload_n hx hb dX6_lightFrom_0 rfl (lv_at hl 0 rfl) ?_
  refine va_get (D := G) (ci := 6) (v := .ref (h 2)) (C := RX6) (T := TX6) (N := 22) hx hb hts nw_X6_lightFrom_X6 hown hK hw.1 0 rfl rfl 1 (by decide) hL0 (fun _ h9 => h9) rfl dX6_lightFrom_1 ?_
  refine lv_iload_n hx hb dX6_lightFrom_4 rfl (lv_at hl 2 rfl) ?_
  obtain ⟨v1, e1, hf⟩ := cd_bind_some hf
  refine cd_iald hx hb hK hw 2 rfl e1 dX6_lightFrom_5 ?_
  refine lv_if_ne (tgt := 11) hx hb dX6_lightFrom_6 (by decide) (fun c2 => ?_) (fun c2 => ?_)
  · have hf := cd_ite_f c2 hf
    refine lv_aload_n hx hb dX6_lightFrom_11 rfl (lv_at hl 0 rfl) ?_
    refine lv_iload_n hx hb dX6_lightFrom_12 rfl (lv_at hl 1 rfl) ?_
    obtain ⟨r3, e3, hf⟩ := cd_bind_some hf
    refine cd_callV (As := [.int a0]) (rest := []) C0 hw (c_X6_isLit l G cI cZ sa sb h M a0 r3 e3) [0, 1, 2, 3, 4, 5, 6, 7, 8, 9, 10, 11, 12, 13, 14] rfl rfl 0 6 rfl rfl rfl (cwV 1 hts gX6_lightFrom_X6_isLit rfl rfl rfl (by decide +kernel) ⟨Nat.le_of_ble_eq_true rfl, Nat.le_of_ble_eq_true rfl⟩) rfl hl.1 (lv_room (Nat.le_of_ble_eq_true rfl)) dX6_lightFrom_13 (fun H locs hw => ?_)
    refine lv_if_eq (tgt := 27) hx hb dX6_lightFrom_16 (by decide) (fun c4 => ?_) (fun c4 => ?_)
    · have hf := cd_ite_t c4 hf
      refine lv_iconst (v := (2 : Int32)) hx hb dX6_lightFrom_27 (by decide) ?_
      have z : some ((2 : Int32), M) = some o := hf
      cases z
      rw [hQ]
      exact cd_reti C0 hw dX6_lightFrom_28
    · have hf := cd_ite_f c4 hf
      refine lv_aload_n hx hb dX6_lightFrom_19 rfl (lv_at hl 0 rfl) ?_
      refine lv_iload_n hx hb dX6_lightFrom_20 rfl (lv_at hl 2 rfl) ?_
      obtain ⟨r5, e5, hf⟩ := cd_bind_some hf
      refine cd_callV (As := [.int a1]) (rest := []) C0 hw (c_X6_isLit l G cI cZ sa sb h M a1 r5 e5) [0, 1, 2, 3, 4, 5, 6, 7, 8, 9, 10, 11, 12, 13, 14] rfl rfl 0 6 rfl rfl rfl (cwV 1 hts gX6_lightFrom_X6_isLit rfl rfl rfl (by decide +kernel) ⟨Nat.le_of_ble_eq_true rfl, Nat.le_of_ble_eq_true rfl⟩) rfl hl.1 (lv_room (Nat.le_of_ble_eq_true rfl)) dX6_lightFrom_21 (fun H locs hw => ?_)
      refine lv_if_eq (tgt := 29) hx hb dX6_lightFrom_24 (by decide) (fun c6 => ?_) (fun c6 => ?_)
      · have hf := cd_ite_t c6 hf
        refine lv_iload_n hx hb dX6_lightFrom_29 rfl (lv_at hl 2 rfl) ?_
        refine lv_iload_n hx hb dX6_lightFrom_30 rfl (lv_at hl 1 rfl) ?_
        refine lv_iconst (v := (1 : Int32)) hx hb dX6_lightFrom_31 (by decide) ?_
        refine lv_iadd hx hb dX6_lightFrom_32 ?_
        refine lv_icmp_eq (tgt := 45) hx hb dX6_lightFrom_33 (by decide) (fun c7 => ?_) (fun c7 => ?_)
        · have hf := cd_ite_t c7 hf
          refine lv_aload_n hx hb dX6_lightFrom_45 rfl (lv_at hl 0 rfl) ?_
          refine va_get (D := G) (ci := 6) (v := .ref (h 2)) (C := RX6) (T := TX6) (N := 22) hx hb hts nw_X6_lightFrom_X6 hown hK hw.1 0 rfl rfl 1 (by decide) hL0 (fun _ h9 => h9) rfl dX6_lightFrom_46 ?_
          refine lv_bipush (v := (66 : Int32)) hx hb dX6_lightFrom_49 (by decide) ?_
          refine lv_dup2_11 hx hb dX6_lightFrom_51 rfl rfl ?_
          obtain ⟨v8, e8, hf⟩ := cd_bind_some hf
          refine cd_iald hx hb hK hw 2 rfl e8 dX6_lightFrom_52 ?_
          refine lv_iconst (v := (1 : Int32)) hx hb dX6_lightFrom_53 (by decide) ?_
          refine lv_iload_n hx hb dX6_lightFrom_54 rfl (lv_at hl 2 rfl) ?_
          refine lv_ishl hx hb dX6_lightFrom_55 ?_
          refine lv_ior hx hb dX6_lightFrom_56 ?_
          obtain ⟨j9, e9, hf⟩ := cd_bind_some hf
          refine cd_iast (f := M 1) hx hb hK hw 2 rfl e9 dX6_lightFrom_57 (fun H locs hw => ?_)
          have hw : cd_WS G A s.heap H locs ((pc_mod cI cZ h (cd_set M 1 j9 (v8 ||| ((1 : Int32) <<< (a1 &&& 31)))))) := (show ∀ (s9 : Nat → Nat → Int32) (y9 : Int32), cd_WS G A s.heap H locs (((pc_mod cI cZ h s9)).set 2 (h 2, .inl (cI, 69, .inl (upd (s9 1) j9 y9)))) → cd_WS G A s.heap H locs ((pc_mod cI cZ h (cd_set s9 1 j9 y9))) from fun _ _ hh => hh) M (v8 ||| ((1 : Int32) <<< (a1 &&& 31))) hw
          refine lv_aload_n hx hb dX6_lightFrom_58 rfl (lv_at hl 0 rfl) ?_
          refine va_get (D := G) (ci := 6) (v := .ref (h 2)) (C := RX6) (T := TX6) (N := 22) hx hb hts nw_X6_lightFrom_X6 hown hK hw.1 0 rfl rfl 1 (by decide) hL0 (fun _ h9 => h9) rfl dX6_lightFrom_59 ?_
          refine lv_bipush (v := (48 : Int32)) hx hb dX6_lightFrom_62 (by decide) ?_
          refine lv_iload_n hx hb dX6_lightFrom_64 rfl (lv_at hl 1 rfl) ?_
          refine lv_iadd hx hb dX6_lightFrom_65 ?_
          obtain ⟨v10, e10, hf⟩ := cd_bind_some hf
          refine cd_iald hx hb hK hw 2 rfl e10 dX6_lightFrom_66 ?_
          refine lv_aload_n hx hb dX6_lightFrom_67 rfl (lv_at hl 0 rfl) ?_
          refine va_get (D := G) (ci := 6) (v := .ref (h 2)) (C := RX6) (T := TX6) (N := 22) hx hb hts nw_X6_lightFrom_X6 hown hK hw.1 0 rfl rfl 1 (by decide) hL0 (fun _ h9 => h9) rfl dX6_lightFrom_68 ?_
          refine lv_bipush (v := (48 : Int32)) hx hb dX6_lightFrom_71 (by decide) ?_
          refine lv_iload_n hx hb dX6_lightFrom_73 rfl (lv_at hl 2 rfl) ?_
          refine lv_iadd hx hb dX6_lightFrom_74 ?_
          obtain ⟨v11, e11, hf⟩ := cd_bind_some hf
          refine cd_iald hx hb hK hw 2 rfl e11 dX6_lightFrom_75 ?_
          refine lv_ior hx hb dX6_lightFrom_76 ?_
          refine lv_istore_n (lv' := [(3, .int (v10 ||| v11)), (0, .ref (h 0)), (1, .int a0), (2, .int a1)]) hx hb dX6_lightFrom_77 rfl hl (by decide) rfl (fun ls hl => ?_)
          refine lv_iconst (v := (0 : Int32)) hx hb dX6_lightFrom_78 (by decide) ?_
          refine lv_istore (lv' := [(4, .int (0 : Int32)), (3, .int (v10 ||| v11)), (0, .ref (h 0)), (1, .int a0), (2, .int a1)]) hx hb dX6_lightFrom_79 hl (by decide) rfl (fun ls hl => ?_)
          obtain ⟨x12, e12, hf⟩ := cd_bind_some hf
          have K12 : ∀ (t12 : (Nat → Nat → Int32)), t12 = x12 → ∀ (ls : Array Slot) (H : Heap) (locs : List Loc), lv_has ls 5 [] → cd_WS G A s.heap H locs ((pc_mod cI cZ h t12)) → W p l e rm_X6_lightFrom s m ag below meth c H locs 0 0 Q (F0 m 127 ls []) := by
            intro t12 hs_12
            subst hs_12
            intro ls H locs hl hw
            refine lv_iconst (v := (0 : Int32)) hx hb dX6_lightFrom_127 (by decide) ?_
            have z : some ((0 : Int32), t12) = some o := hf
            cases z
            rw [hQ]
            exact cd_reti C0 hw dX6_lightFrom_128
          refine cd_iter_ind (body := (f_X6_lightFrom_b81 v10 v11)) (K := fun r => r = x12) (P := fun (z12 : Int32 × (Nat → Nat → Int32)) => ∀ (ls : Array Slot) (H : Heap) (locs : List Loc), lv_has ls 5 [(0, .ref (h 0)), (3, .int (v10 ||| v11)), (4, .int z12.1)] → cd_WS G A s.heap H locs ((pc_mod cI cZ h z12.2)) → W p l e rm_X6_lightFrom s m ag below meth c H locs 0 0 Q (F0 m 81 ls [])) ?_ cd_N ((0 : Int32), (cd_set M 1 j9 (v8 ||| ((1 : Int32) <<< (a1 &&& 31))))) x12 e12 rfl _ _ _ (lv_sub hl [2, 1, 0] rfl) hw
          intro z12 o12 hb12 hk12 ls H locs hl hw
          unfold f_X6_lightFrom_b81 at hb12
          refine lv_iload hx hb dX6_lightFrom_81 (lv_at hl 2 rfl) ?_
          refine lv_bipush (v := (12 : Int32)) hx hb dX6_lightFrom_83 (by decide) ?_
          refine lv_icmp_ge (tgt := 127) hx hb dX6_lightFrom_85 (by decide) (fun c13 => ?_) (fun c13 => ?_)
          · have hb12 := cd_ite_t c13 hb12
            have z : some (Sum.inl z12.2) = some o12 := hb12
            cases z
            exact K12 _ hk12 _ _ _ (lv_sub hl [] rfl) hw
          · have hb12 := cd_ite_f c13 hb12
            refine lv_aload_n hx hb dX6_lightFrom_88 rfl (lv_at hl 0 rfl) ?_
            refine va_get (D := G) (ci := 6) (v := .ref (h 2)) (C := RX6) (T := TX6) (N := 22) hx hb hts nw_X6_lightFrom_X6 hown hK hw.1 0 rfl rfl 1 (by decide) hL0 (fun _ h9 => h9) rfl dX6_lightFrom_89 ?_
            refine lv_bipush (v := (48 : Int32)) hx hb dX6_lightFrom_92 (by decide) ?_
            refine lv_iload hx hb dX6_lightFrom_94 (lv_at hl 2 rfl) ?_
            refine lv_iadd hx hb dX6_lightFrom_96 ?_
            refine lv_iload_n hx hb dX6_lightFrom_97 rfl (lv_at hl 1 rfl) ?_
            refine lv_iload hx hb dX6_lightFrom_98 (lv_at hl 2 rfl) ?_
            obtain ⟨r14, e14, hb12⟩ := cd_bind_some hb12
            refine cd_callS (As := [.int (v10 ||| v11), .int z12.1]) (rest := [.int ((48 : Int32) + z12.1), .ref (h 2)]) C0 hw (c_X6_isIn l G cI cZ sa sb (v10 ||| v11) z12.1 r14 e14) [] rfl rfl (va_cwS 2 hts gX6_lightFrom_X6_isIn rfl rfl rfl (by decide +kernel) ⟨Nat.le_of_ble_eq_true rfl, Nat.le_of_ble_eq_true rfl⟩) rfl hl.1 (lv_room (Nat.le_of_ble_eq_true rfl)) dX6_lightFrom_100 (fun H locs hw => ?_)
            obtain ⟨x15, e15, hb12⟩ := cd_bind_some hb12
            have K15 : ∀ (ls : Array Slot) (H : Heap) (locs : List Loc), lv_has ls 5 [(0, .ref (h 0)), (3, .int (v10 ||| v11)), (4, .int z12.1)] → cd_WS G A s.heap H locs ((pc_mod cI cZ h z12.2)) → W p l e rm_X6_lightFrom s m ag below meth c H locs 0 0 Q (F0 m 120 ls [.int x15, .int ((48 : Int32) + z12.1), .ref (h 2)]) := by
              intro ls H locs hl hw
              obtain ⟨j16, e16, hb12⟩ := cd_bind_some hb12
              refine cd_iast (f := z12.2 1) hx hb hK hw 2 rfl e16 dX6_lightFrom_120 (fun H locs hw => ?_)
              have hw : cd_WS G A s.heap H locs ((pc_mod cI cZ h (cd_set z12.2 1 j16 x15))) := (show ∀ (s9 : Nat → Nat → Int32) (y9 : Int32), cd_WS G A s.heap H locs (((pc_mod cI cZ h s9)).set 2 (h 2, .inl (cI, 69, .inl (upd (s9 1) j16 y9)))) → cd_WS G A s.heap H locs ((pc_mod cI cZ h (cd_set s9 1 j16 y9))) from fun _ _ hh => hh) z12.2 x15 hw
              refine lv_iinc (v := (z12.1 + (1 : Int32))) (lv' := [(4, .int (z12.1 + (1 : Int32))), (0, .ref (h 0)), (3, .int (v10 ||| v11))]) hx hb dX6_lightFrom_121 hl (k := 2) rfl rfl (by decide) rfl (fun ls hl => ?_)
              refine lv_goto (tgt := 81) hx hb dX6_lightFrom_124 (by decide) ?_
              have z : some (Sum.inr ((z12.1 + (1 : Int32)), (cd_set z12.2 1 j16 x15))) = some o12 := hb12
              cases z
              exact hk12 _ _ _ (lv_sub hl [1, 2, 0] rfl) hw
            refine lv_if_eq (tgt := 110) hx hb dX6_lightFrom_103 (by decide) (fun c15 => ?_) (fun c15 => ?_)
            · have e15 := cd_ite_t c15 e15
              refine lv_aload_n hx hb dX6_lightFrom_110 rfl (lv_at hl 0 rfl) ?_
              refine va_get (D := G) (ci := 6) (v := .ref (h 2)) (C := RX6) (T := TX6) (N := 22) hx hb hts nw_X6_lightFrom_X6 hown hK hw.1 0 rfl rfl 1 (by decide) hL0 (fun _ h9 => h9) rfl dX6_lightFrom_111 ?_
              refine lv_bipush (v := (48 : Int32)) hx hb dX6_lightFrom_114 (by decide) ?_
              refine lv_iload hx hb dX6_lightFrom_116 (lv_at hl 2 rfl) ?_
              refine lv_iadd hx hb dX6_lightFrom_118 ?_
              obtain ⟨v17, e17, e15⟩ := cd_bind_some e15
              refine cd_iald hx hb hK hw 2 rfl e17 dX6_lightFrom_119 ?_
              have z : some v17 = some x15 := e15
              cases z
              exact K15 _ _ _ (lv_sub hl [0, 1, 2] rfl) hw
            · have e15 := cd_ite_f c15 e15
              refine lv_iload_n hx hb dX6_lightFrom_106 rfl (lv_at hl 1 rfl) ?_
              refine lv_goto (tgt := 120) hx hb dX6_lightFrom_107 (by decide) ?_
              have z : some (v10 ||| v11) = some x15 := e15
              cases z
              exact K15 _ _ _ (lv_sub hl [0, 1, 2] rfl) hw
        · have hf := cd_ite_f c7 hf
          refine lv_iload_n hx hb dX6_lightFrom_36 rfl (lv_at hl 2 rfl) ?_
          refine lv_iload_n hx hb dX6_lightFrom_37 rfl (lv_at hl 1 rfl) ?_
          refine lv_iconst (v := (1 : Int32)) hx hb dX6_lightFrom_38 (by decide) ?_
          refine lv_isub hx hb dX6_lightFrom_39 ?_
          refine lv_icmp_eq (tgt := 45) hx hb dX6_lightFrom_40 (by decide) (fun c18 => ?_) (fun c18 => ?_)
          · have hf := cd_ite_t c18 hf
            refine lv_aload_n hx hb dX6_lightFrom_45 rfl (lv_at hl 0 rfl) ?_
            refine va_get (D := G) (ci := 6) (v := .ref (h 2)) (C := RX6) (T := TX6) (N := 22) hx hb hts nw_X6_lightFrom_X6 hown hK hw.1 0 rfl rfl 1 (by decide) hL0 (fun _ h9 => h9) rfl dX6_lightFrom_46 ?_
            refine lv_bipush (v := (66 : Int32)) hx hb dX6_lightFrom_49 (by decide) ?_
            refine lv_dup2_11 hx hb dX6_lightFrom_51 rfl rfl ?_
            obtain ⟨v19, e19, hf⟩ := cd_bind_some hf
            refine cd_iald hx hb hK hw 2 rfl e19 dX6_lightFrom_52 ?_
            refine lv_iconst (v := (1 : Int32)) hx hb dX6_lightFrom_53 (by decide) ?_
            refine lv_iload_n hx hb dX6_lightFrom_54 rfl (lv_at hl 2 rfl) ?_
            refine lv_ishl hx hb dX6_lightFrom_55 ?_
            refine lv_ior hx hb dX6_lightFrom_56 ?_
            obtain ⟨j20, e20, hf⟩ := cd_bind_some hf
            refine cd_iast (f := M 1) hx hb hK hw 2 rfl e20 dX6_lightFrom_57 (fun H locs hw => ?_)
            have hw : cd_WS G A s.heap H locs ((pc_mod cI cZ h (cd_set M 1 j20 (v19 ||| ((1 : Int32) <<< (a1 &&& 31)))))) := (show ∀ (s9 : Nat → Nat → Int32) (y9 : Int32), cd_WS G A s.heap H locs (((pc_mod cI cZ h s9)).set 2 (h 2, .inl (cI, 69, .inl (upd (s9 1) j20 y9)))) → cd_WS G A s.heap H locs ((pc_mod cI cZ h (cd_set s9 1 j20 y9))) from fun _ _ hh => hh) M (v19 ||| ((1 : Int32) <<< (a1 &&& 31))) hw
            refine lv_aload_n hx hb dX6_lightFrom_58 rfl (lv_at hl 0 rfl) ?_
            refine va_get (D := G) (ci := 6) (v := .ref (h 2)) (C := RX6) (T := TX6) (N := 22) hx hb hts nw_X6_lightFrom_X6 hown hK hw.1 0 rfl rfl 1 (by decide) hL0 (fun _ h9 => h9) rfl dX6_lightFrom_59 ?_
            refine lv_bipush (v := (48 : Int32)) hx hb dX6_lightFrom_62 (by decide) ?_
            refine lv_iload_n hx hb dX6_lightFrom_64 rfl (lv_at hl 1 rfl) ?_
            refine lv_iadd hx hb dX6_lightFrom_65 ?_
            obtain ⟨v21, e21, hf⟩ := cd_bind_some hf
            refine cd_iald hx hb hK hw 2 rfl e21 dX6_lightFrom_66 ?_
            refine lv_aload_n hx hb dX6_lightFrom_67 rfl (lv_at hl 0 rfl) ?_
            refine va_get (D := G) (ci := 6) (v := .ref (h 2)) (C := RX6) (T := TX6) (N := 22) hx hb hts nw_X6_lightFrom_X6 hown hK hw.1 0 rfl rfl 1 (by decide) hL0 (fun _ h9 => h9) rfl dX6_lightFrom_68 ?_
            refine lv_bipush (v := (48 : Int32)) hx hb dX6_lightFrom_71 (by decide) ?_
            refine lv_iload_n hx hb dX6_lightFrom_73 rfl (lv_at hl 2 rfl) ?_
            refine lv_iadd hx hb dX6_lightFrom_74 ?_
            obtain ⟨v22, e22, hf⟩ := cd_bind_some hf
            refine cd_iald hx hb hK hw 2 rfl e22 dX6_lightFrom_75 ?_
            refine lv_ior hx hb dX6_lightFrom_76 ?_
            refine lv_istore_n (lv' := [(3, .int (v21 ||| v22)), (0, .ref (h 0)), (1, .int a0), (2, .int a1)]) hx hb dX6_lightFrom_77 rfl hl (by decide) rfl (fun ls hl => ?_)
            refine lv_iconst (v := (0 : Int32)) hx hb dX6_lightFrom_78 (by decide) ?_
            refine lv_istore (lv' := [(4, .int (0 : Int32)), (3, .int (v21 ||| v22)), (0, .ref (h 0)), (1, .int a0), (2, .int a1)]) hx hb dX6_lightFrom_79 hl (by decide) rfl (fun ls hl => ?_)
            obtain ⟨x23, e23, hf⟩ := cd_bind_some hf
            have K23 : ∀ (t23 : (Nat → Nat → Int32)), t23 = x23 → ∀ (ls : Array Slot) (H : Heap) (locs : List Loc), lv_has ls 5 [] → cd_WS G A s.heap H locs ((pc_mod cI cZ h t23)) → W p l e rm_X6_lightFrom s m ag below meth c H locs 0 0 Q (F0 m 127 ls []) := by
              intro t23 hs_23
              subst hs_23
              intro ls H locs hl hw
              refine lv_iconst (v := (0 : Int32)) hx hb dX6_lightFrom_127 (by decide) ?_
              have z : some ((0 : Int32), t23) = some o := hf
              cases z
              rw [hQ]
              exact cd_reti C0 hw dX6_lightFrom_128
            refine cd_iter_ind (body := (f_X6_lightFrom_b81_23 v21 v22)) (K := fun r => r = x23) (P := fun (z23 : Int32 × (Nat → Nat → Int32)) => ∀ (ls : Array Slot) (H : Heap) (locs : List Loc), lv_has ls 5 [(0, .ref (h 0)), (3, .int (v21 ||| v22)), (4, .int z23.1)] → cd_WS G A s.heap H locs ((pc_mod cI cZ h z23.2)) → W p l e rm_X6_lightFrom s m ag below meth c H locs 0 0 Q (F0 m 81 ls [])) ?_ cd_N ((0 : Int32), (cd_set M 1 j20 (v19 ||| ((1 : Int32) <<< (a1 &&& 31))))) x23 e23 rfl _ _ _ (lv_sub hl [2, 1, 0] rfl) hw
            intro z23 o23 hb23 hk23 ls H locs hl hw
            unfold f_X6_lightFrom_b81_23 at hb23
            refine lv_iload hx hb dX6_lightFrom_81 (lv_at hl 2 rfl) ?_
            refine lv_bipush (v := (12 : Int32)) hx hb dX6_lightFrom_83 (by decide) ?_
            refine lv_icmp_ge (tgt := 127) hx hb dX6_lightFrom_85 (by decide) (fun c24 => ?_) (fun c24 => ?_)
            · have hb23 := cd_ite_t c24 hb23
              have z : some (Sum.inl z23.2) = some o23 := hb23
              cases z
              exact K23 _ hk23 _ _ _ (lv_sub hl [] rfl) hw
            · have hb23 := cd_ite_f c24 hb23
              refine lv_aload_n hx hb dX6_lightFrom_88 rfl (lv_at hl 0 rfl) ?_
              refine va_get (D := G) (ci := 6) (v := .ref (h 2)) (C := RX6) (T := TX6) (N := 22) hx hb hts nw_X6_lightFrom_X6 hown hK hw.1 0 rfl rfl 1 (by decide) hL0 (fun _ h9 => h9) rfl dX6_lightFrom_89 ?_
              refine lv_bipush (v := (48 : Int32)) hx hb dX6_lightFrom_92 (by decide) ?_
              refine lv_iload hx hb dX6_lightFrom_94 (lv_at hl 2 rfl) ?_
              refine lv_iadd hx hb dX6_lightFrom_96 ?_
              refine lv_iload_n hx hb dX6_lightFrom_97 rfl (lv_at hl 1 rfl) ?_
              refine lv_iload hx hb dX6_lightFrom_98 (lv_at hl 2 rfl) ?_
              obtain ⟨r25, e25, hb23⟩ := cd_bind_some hb23
              refine cd_callS (As := [.int (v21 ||| v22), .int z23.1]) (rest := [.int ((48 : Int32) + z23.1), .ref (h 2)]) C0 hw (c_X6_isIn l G cI cZ sa sb (v21 ||| v22) z23.1 r25 e25) [] rfl rfl (va_cwS 2 hts gX6_lightFrom_X6_isIn rfl rfl rfl (by decide +kernel) ⟨Nat.le_of_ble_eq_true rfl, Nat.le_of_ble_eq_true rfl⟩) rfl hl.1 (lv_room (Nat.le_of_ble_eq_true rfl)) dX6_lightFrom_100 (fun H locs hw => ?_)
              obtain ⟨x26, e26, hb23⟩ := cd_bind_some hb23
              have K26 : ∀ (ls : Array Slot) (H : Heap) (locs : List Loc), lv_has ls 5 [(0, .ref (h 0)), (3, .int (v21 ||| v22)), (4, .int z23.1)] → cd_WS G A s.heap H locs ((pc_mod cI cZ h z23.2)) → W p l e rm_X6_lightFrom s m ag below meth c H locs 0 0 Q (F0 m 120 ls [.int x26, .int ((48 : Int32) + z23.1), .ref (h 2)]) := by
                intro ls H locs hl hw
                obtain ⟨j27, e27, hb23⟩ := cd_bind_some hb23
                refine cd_iast (f := z23.2 1) hx hb hK hw 2 rfl e27 dX6_lightFrom_120 (fun H locs hw => ?_)
                have hw : cd_WS G A s.heap H locs ((pc_mod cI cZ h (cd_set z23.2 1 j27 x26))) := (show ∀ (s9 : Nat → Nat → Int32) (y9 : Int32), cd_WS G A s.heap H locs (((pc_mod cI cZ h s9)).set 2 (h 2, .inl (cI, 69, .inl (upd (s9 1) j27 y9)))) → cd_WS G A s.heap H locs ((pc_mod cI cZ h (cd_set s9 1 j27 y9))) from fun _ _ hh => hh) z23.2 x26 hw
                refine lv_iinc (v := (z23.1 + (1 : Int32))) (lv' := [(4, .int (z23.1 + (1 : Int32))), (0, .ref (h 0)), (3, .int (v21 ||| v22))]) hx hb dX6_lightFrom_121 hl (k := 2) rfl rfl (by decide) rfl (fun ls hl => ?_)
                refine lv_goto (tgt := 81) hx hb dX6_lightFrom_124 (by decide) ?_
                have z : some (Sum.inr ((z23.1 + (1 : Int32)), (cd_set z23.2 1 j27 x26))) = some o23 := hb23
                cases z
                exact hk23 _ _ _ (lv_sub hl [1, 2, 0] rfl) hw
              refine lv_if_eq (tgt := 110) hx hb dX6_lightFrom_103 (by decide) (fun c26 => ?_) (fun c26 => ?_)
              · have e26 := cd_ite_t c26 e26
                refine lv_aload_n hx hb dX6_lightFrom_110 rfl (lv_at hl 0 rfl) ?_
                refine va_get (D := G) (ci := 6) (v := .ref (h 2)) (C := RX6) (T := TX6) (N := 22) hx hb hts nw_X6_lightFrom_X6 hown hK hw.1 0 rfl rfl 1 (by decide) hL0 (fun _ h9 => h9) rfl dX6_lightFrom_111 ?_
                refine lv_bipush (v := (48 : Int32)) hx hb dX6_lightFrom_114 (by decide) ?_
                refine lv_iload hx hb dX6_lightFrom_116 (lv_at hl 2 rfl) ?_
                refine lv_iadd hx hb dX6_lightFrom_118 ?_
                obtain ⟨v28, e28, e26⟩ := cd_bind_some e26
                refine cd_iald hx hb hK hw 2 rfl e28 dX6_lightFrom_119 ?_
                have z : some v28 = some x26 := e26
                cases z
                exact K26 _ _ _ (lv_sub hl [0, 1, 2] rfl) hw
              · have e26 := cd_ite_f c26 e26
                refine lv_iload_n hx hb dX6_lightFrom_106 rfl (lv_at hl 1 rfl) ?_
                refine lv_goto (tgt := 120) hx hb dX6_lightFrom_107 (by decide) ?_
                have z : some (v21 ||| v22) = some x26 := e26
                cases z
                exact K26 _ _ _ (lv_sub hl [0, 1, 2] rfl) hw
          · have hf := cd_ite_f c18 hf
            refine lv_iconst (v := (4 : Int32)) hx hb dX6_lightFrom_43 (by decide) ?_
            have z : some ((4 : Int32), M) = some o := hf
            cases z
            rw [hQ]
            exact cd_reti C0 hw dX6_lightFrom_44
      · have hf := cd_ite_f c6 hf
        refine lv_iconst (v := (2 : Int32)) hx hb dX6_lightFrom_27 (by decide) ?_
        have z : some ((2 : Int32), M) = some o := hf
        cases z
        rw [hQ]
        exact cd_reti C0 hw dX6_lightFrom_28
  · have hf := cd_ite_t c2 hf
    refine lv_iconst (v := (1 : Int32)) hx hb dX6_lightFrom_9 (by decide) ?_
    have z : some ((1 : Int32), M) = some o := hf
    cases z
    rw [hQ]
    exact cd_reti C0 hw dX6_lightFrom_10
abbrev rm_X6_candleAct : Room := { frames := 3, cells := 0, slots := 0, locals := 66 }
set_option maxHeartbeats 4000000 in
set_option maxRecDepth 100000 in
theorem c_X6_candleAct (l : Launch) (G : va_G) (cI cZ : ClassId) (sa sb : Nat) (h : Nat → Nat) (M : Nat → Nat → Int32) (a0 : Int32) (a1 : Int32) (a2 : Int32) (o : Int32 × (Nat → Nat → Int32)) (hf : f_X6_candleAct a0 a1 a2 M = some o) : cd_Ct l G cI cZ sa sb yX6_candleAct wsX6_candleAct rm_X6_candleAct [.ref (h 0), .int a0, .int a1, .int a2] ((pc_mod cI cZ h M)) ((pc_mod cI cZ h o.2)) (some (.int o.1)) := by
  refine cd_of (cc := cX6_candleAct) (maxL := 4) (ret := (some .int)) (by decide) rfl (Nat.le_of_ble_eq_true rfl) ?_
  intro p e s m ag below meth c A ls Q C0 hl hw hQ
  have C0 : cd_CX G cI cZ sa sb p s m ag meth c cX6_candleAct 4 (some .int) wsX6_candleAct RX6 A := C0
  obtain ⟨⟨hx, hb, hml, hown, hts⟩, hr, hlocks, hA, hE⟩ := id C0
  have hK := hE.1
  have hl : lv_has ls 4 [(0, .ref (h 0)), (1, .int a0), (2, .int a1), (3, .int a2)] := hl
  unfold f_X6_candleAct at hf
  refine lv_iload_n hx hb dX6_candleAct_0 rfl (lv_at hl 2 rfl) ?_
  by_cases c1_0 : a1 = (33 : Int32)
  · have hf := cd_ite_t c1_0 hf
    refine lv_lookup (off := 55) (tgt := 56) hx hb dX6_candleAct_1 (by decide) (by rw [c1_0]; decide) (by decide) ?_
    refine lv_aload_n hx hb dX6_candleAct_56 rfl (lv_at hl 0 rfl) ?_
    refine lv_iload_n hx hb dX6_candleAct_57 rfl (lv_at hl 1 rfl) ?_
    obtain ⟨r2, e2, hf⟩ := cd_bind_some hf
    refine cd_callVw (As := [.int a0]) (rest := []) (wr := ([] : va_W)) (wn := (pc_mod cI cZ h r2.2)) C0 hw (c_X6_askFor l G cI cZ sa sb h M a0 r2 e2) [0, 1, 2, 3, 4, 5, 6, 7, 8, 9, 10, 11, 12, 13, 14] [] [0, 1, 2, 3, 4, 5, 6, 7, 8, 9, 10, 11, 12, 13, 14] rfl rfl rfl rfl (by decide) rfl rfl 0 6 rfl rfl rfl (cwV 1 hts gX6_candleAct_X6_askFor rfl rfl rfl (by decide +kernel) ⟨Nat.le_of_ble_eq_true rfl, Nat.le_of_ble_eq_true rfl⟩) rfl hl.1 (lv_room (Nat.le_of_ble_eq_true rfl)) dX6_candleAct_58 (fun H locs hw => ?_)
    have z : some (r2.1, r2.2) = some o := hf
    cases z
    rw [hQ]
    exact cd_reti C0 hw dX6_candleAct_61
  · have hf := cd_ite_f c1_0 hf
    by_cases c1_1 : a1 = (42 : Int32)
    · have hf := cd_ite_t c1_1 hf
      refine lv_lookup (off := 43) (tgt := 44) hx hb dX6_candleAct_1 (by decide) (by rw [c1_1]; decide) (by decide) ?_
      refine lv_aload_n hx hb dX6_candleAct_44 rfl (lv_at hl 0 rfl) ?_
      refine lv_iload_n hx hb dX6_candleAct_45 rfl (lv_at hl 1 rfl) ?_
      obtain ⟨r3, e3, hf⟩ := cd_bind_some hf
      refine cd_callVw (As := [.int a0]) (rest := []) (wr := ([] : va_W)) (wn := (pc_mod cI cZ h r3.2)) C0 hw (c_X6_strike l G cI cZ sa sb h M a0 r3 e3) [0, 1, 2, 3, 4, 5, 6, 7, 8, 9, 10, 11, 12, 13, 14] [] [0, 1, 2, 3, 4, 5, 6, 7, 8, 9, 10, 11, 12, 13, 14] rfl rfl rfl rfl (by decide) rfl rfl 0 6 rfl rfl rfl (cwV 1 hts gX6_candleAct_X6_strike rfl rfl rfl (by decide +kernel) ⟨Nat.le_of_ble_eq_true rfl, Nat.le_of_ble_eq_true rfl⟩) rfl hl.1 (lv_room (Nat.le_of_ble_eq_true rfl)) dX6_candleAct_46 (fun H locs hw => ?_)
      have z : some (r3.1, r3.2) = some o := hf
      cases z
      rw [hQ]
      exact cd_reti C0 hw dX6_candleAct_49
    · have hf := cd_ite_f c1_1 hf
      by_cases c1_2 : a1 = (45 : Int32)
      · have hf := cd_ite_t c1_2 hf
        refine lv_lookup (off := 49) (tgt := 50) hx hb dX6_candleAct_1 (by decide) (by rw [c1_2]; decide) (by decide) ?_
        refine lv_aload_n hx hb dX6_candleAct_50 rfl (lv_at hl 0 rfl) ?_
        refine lv_iload_n hx hb dX6_candleAct_51 rfl (lv_at hl 1 rfl) ?_
        obtain ⟨r4, e4, hf⟩ := cd_bind_some hf
        refine cd_callVw (As := [.int a0]) (rest := []) (wr := ([] : va_W)) (wn := (pc_mod cI cZ h r4.2)) C0 hw (c_X6_snuffOut l G cI cZ sa sb h M a0 r4 e4) [0, 1, 2, 3, 4, 5, 6, 7, 8, 9, 10, 11, 12, 13, 14] [] [0, 1, 2, 3, 4, 5, 6, 7, 8, 9, 10, 11, 12, 13, 14] rfl rfl rfl rfl (by decide) rfl rfl 0 6 rfl rfl rfl (cwV 1 hts gX6_candleAct_X6_snuffOut rfl rfl rfl (by decide +kernel) ⟨Nat.le_of_ble_eq_true rfl, Nat.le_of_ble_eq_true rfl⟩) rfl hl.1 (lv_room (Nat.le_of_ble_eq_true rfl)) dX6_candleAct_52 (fun H locs hw => ?_)
        have z : some (r4.1, r4.2) = some o := hf
        cases z
        rw [hQ]
        exact cd_reti C0 hw dX6_candleAct_55
      · have hf := cd_ite_f c1_2 hf
        by_cases c1_3 : a1 = (94 : Int32)
        · have hf := cd_ite_t c1_3 hf
          refine lv_lookup (off := 61) (tgt := 62) hx hb dX6_candleAct_1 (by decide) (by rw [c1_3]; decide) (by decide) ?_
          refine lv_aload_n hx hb dX6_candleAct_62 rfl (lv_at hl 0 rfl) ?_
          refine lv_iload_n hx hb dX6_candleAct_63 rfl (lv_at hl 1 rfl) ?_
          obtain ⟨r5, e5, hf⟩ := cd_bind_some hf
          refine cd_callVw (As := [.int a0]) (rest := []) (wr := ([] : va_W)) (wn := (pc_mod cI cZ h r5.2)) C0 hw (c_X6_trim l G cI cZ sa sb h M a0 r5 e5) [0, 1, 2, 3, 4, 5, 6, 7, 8, 9, 10, 11, 12, 13, 14] [] [0, 1, 2, 3, 4, 5, 6, 7, 8, 9, 10, 11, 12, 13, 14] rfl rfl rfl rfl (by decide) rfl rfl 0 6 rfl rfl rfl (cwV 1 hts gX6_candleAct_X6_trim rfl rfl rfl (by decide +kernel) ⟨Nat.le_of_ble_eq_true rfl, Nat.le_of_ble_eq_true rfl⟩) rfl hl.1 (lv_room (Nat.le_of_ble_eq_true rfl)) dX6_candleAct_64 (fun H locs hw => ?_)
          have z : some (r5.1, r5.2) = some o := hf
          cases z
          rw [hQ]
          exact cd_reti C0 hw dX6_candleAct_67
        · have hf := cd_ite_f c1_3 hf
          refine lv_lookup (off := 67) (tgt := 68) hx hb dX6_candleAct_1 (by decide) (by have q0 : a1.toInt ≠ 33 := cd_ne c1_0; have q1 : a1.toInt ≠ 42 := cd_ne c1_1; have q2 : a1.toInt ≠ 45 := cd_ne c1_2; have q3 : a1.toInt ≠ 94 := cd_ne c1_3; simp [Op.lookupswitch.offset, Ne.symm q0, Ne.symm q1, Ne.symm q2, Ne.symm q3]) (by decide) ?_
          refine lv_aload_n hx hb dX6_candleAct_68 rfl (lv_at hl 0 rfl) ?_
          refine lv_iload_n hx hb dX6_candleAct_69 rfl (lv_at hl 1 rfl) ?_
          refine lv_iload_n hx hb dX6_candleAct_70 rfl (lv_at hl 3 rfl) ?_
          refine lv_bipush (v := (97 : Int32)) hx hb dX6_candleAct_71 (by decide) ?_
          refine lv_isub hx hb dX6_candleAct_73 ?_
          obtain ⟨r6, e6, hf⟩ := cd_bind_some hf
          refine cd_callVw (As := [.int a0, .int (a2 - (97 : Int32))]) (rest := []) (wr := ([] : va_W)) (wn := (pc_mod cI cZ h r6.2)) C0 hw (c_X6_lightFrom l G cI cZ sa sb h M a0 (a2 - (97 : Int32)) r6 e6) [0, 1, 2, 3, 4, 5, 6, 7, 8, 9, 10, 11, 12, 13, 14] [] [0, 1, 2, 3, 4, 5, 6, 7, 8, 9, 10, 11, 12, 13, 14] rfl rfl rfl rfl (by decide) rfl rfl 0 6 rfl rfl rfl (cwV 2 hts gX6_candleAct_X6_lightFrom rfl rfl rfl (by decide +kernel) ⟨Nat.le_of_ble_eq_true rfl, Nat.le_of_ble_eq_true rfl⟩) rfl hl.1 (lv_room (Nat.le_of_ble_eq_true rfl)) dX6_candleAct_74 (fun H locs hw => ?_)
          have z : some (r6.1, r6.2) = some o := hf
          cases z
          rw [hQ]
          exact cd_reti C0 hw dX6_candleAct_77
abbrev rm_X6_goNights : Room := { frames := 4, cells := 0, slots := 0, locals := 89 }
theorem nw_X6_goNights_X6 : ∀ w ∈ u_ws RX6 TX6 22, w ∈ wsX6_goNights := by decide +kernel
set_option maxHeartbeats 4000000 in
set_option maxRecDepth 100000 in
theorem c_X6_goNights (l : Launch) (G : va_G) (cI cZ : ClassId) (sa sb : Nat) (h : Nat → Nat) (M : Nat → Nat → Int32) (o : Int32 × (Nat → Nat → Int32)) (hf : f_X6_goNights M = some o) : cd_Ct l G cI cZ sa sb yX6_goNights wsX6_goNights rm_X6_goNights [.ref (h 0)] ((pc_mod cI cZ h M)) ((pc_mod cI cZ h o.2)) (some (.int o.1)) := by
  refine cd_of (cc := cX6_goNights) (maxL := 4) (ret := (some .int)) (by decide) rfl (Nat.le_of_ble_eq_true rfl) ?_
  intro p e s m ag below meth c A ls Q C0 hl hw hQ
  have C0 : cd_CX G cI cZ sa sb p s m ag meth c cX6_goNights 4 (some .int) wsX6_goNights RX6 A := C0
  obtain ⟨⟨hx, hb, hml, hown, hts⟩, hr, hlocks, hA, hE⟩ := id C0
  have hK := hE.1
  have hL0 := hts (.fieldLink RX6 121 "CandleDebtsModel" "acts" "I") (by decide +kernel)
  have hL1 := hts (.fieldLink RX6 71 "CandleDebtsModel" "signs" "I") (by decide +kernel)
  have hL2 := hts (.fieldLink RX6 25 "CandleDebtsModel" "pad" "[I") (by decide +kernel)
  have hL3 := hts (.fieldLink RX6 102 "CandleDebtsModel" "gone" "I") (by decide +kernel)
  have hL4 := hts (.fieldLink RX6 127 "CandleDebtsModel" "reason" "I") (by decide +kernel)
  have hL5 := hts (.fieldLink RX6 85 "CandleDebtsModel" "outAt" "I") (by decide +kernel)
  have hL6 := hts (.fieldLink RX6 88 "CandleDebtsModel" "outWho" "I") (by decide +kernel)
  have hl : lv_has ls 4 [(0, .ref (h 0))] := hl
  unfold f_X6_goNights at hf
  refine lv_aload_n hx hb dX6_goNights_0 rfl (lv_at hl 0 rfl) ?_
  obtain ⟨r1, e1, hf⟩ := cd_bind_some hf
  refine cd_callVw (As := []) (rest := []) (wr := ([] : va_W)) (wn := (pc_mod cI cZ h r1)) C0 hw (c_X6_asNow l G cI cZ sa sb h M r1 e1) [0, 1, 2, 3, 4, 5, 6, 7, 8, 9, 10, 11, 12, 13, 14] [] [0, 1, 2, 3, 4, 5, 6, 7, 8, 9, 10, 11, 12, 13, 14] rfl rfl rfl rfl (by decide) rfl rfl 0 6 rfl rfl rfl (cwV 0 hts gX6_goNights_X6_asNow rfl rfl rfl (by decide +kernel) ⟨Nat.le_of_ble_eq_true rfl, Nat.le_of_ble_eq_true rfl⟩) rfl hl.1 (lv_room (Nat.le_of_ble_eq_true rfl)) dX6_goNights_1 (fun H locs hw => ?_)
  refine lv_aload_n hx hb dX6_goNights_4 rfl (lv_at hl 0 rfl) ?_
  refine lv_iconst (v := (0 : Int32)) hx hb dX6_goNights_5 (by decide) ?_
  refine va_put (D := G) (ci := 6) (v := .int (0 : Int32)) (ty := .int) (C := RX6) (T := TX6) (N := 22) hx hb hts nw_X6_goNights_X6 tyX6 tyX6_ok nmX6 hown hK hw.1 hw.2.1 hw.2.2 0 rfl rfl 13 (by decide) hL0 (fun _ h9 => h9) rfl (by decide +kernel) rfl rfl (Nat.le_of_ble_eq_true rfl) dX6_goNights_6 (fun H locs hP hD hS => ?_)
  have hw : cd_WS G A s.heap H locs ((pc_mod cI cZ h (cd_fld r1 13 (0 : Int32)))) := ⟨hP, hD, hS⟩
  refine lv_iconst (v := (0 : Int32)) hx hb dX6_goNights_9 (by decide) ?_
  refine lv_istore_n (lv' := [(1, .int (0 : Int32)), (0, .ref (h 0))]) hx hb dX6_goNights_10 rfl hl (by decide) rfl (fun ls hl => ?_)
  obtain ⟨x2, e2, hf⟩ := cd_bind_some hf
  have K2 : ∀ (t2 : (Nat → Nat → Int32)), Sum.inr t2 = x2 → ∀ (ls : Array Slot) (H : Heap) (locs : List Loc), lv_has ls 4 [] → cd_WS G A s.heap H locs ((pc_mod cI cZ h t2)) → W p l e rm_X6_goNights s m ag below meth c H locs 0 0 Q (F0 m 228 ls []) := by
    intro t2 hs_2
    subst hs_2
    intro ls H locs hl hw
    refine lv_bipush (v := (-6 : Int32)) hx hb dX6_goNights_228 (by decide) ?_
    have z : some ((-6 : Int32), t2) = some o := hf
    cases z
    rw [hQ]
    exact cd_reti C0 hw dX6_goNights_230
  refine cd_iter_ind (body := f_X6_goNights_b11) (K := fun r => r = x2) (P := fun (z2 : Int32 × (Nat → Nat → Int32)) => ∀ (ls : Array Slot) (H : Heap) (locs : List Loc), lv_has ls 4 [(0, .ref (h 0)), (1, .int z2.1)] → cd_WS G A s.heap H locs ((pc_mod cI cZ h z2.2)) → W p l e rm_X6_goNights s m ag below meth c H locs 0 0 Q (F0 m 11 ls [])) ?_ cd_N ((0 : Int32), (cd_fld r1 13 (0 : Int32))) x2 e2 rfl _ _ _ (lv_sub hl [1, 0] rfl) hw
  intro z2 o2 hb2 hk2 ls H locs hl hw
  unfold f_X6_goNights_b11 at hb2
  refine lv_iload_n hx hb dX6_goNights_11 rfl (lv_at hl 1 rfl) ?_
  refine lv_aload_n hx hb dX6_goNights_12 rfl (lv_at hl 0 rfl) ?_
  refine va_get (D := G) (ci := 6) (v := .int (z2.2 6 0)) (C := RX6) (T := TX6) (N := 22) hx hb hts nw_X6_goNights_X6 hown hK hw.1 0 rfl rfl 6 (by decide) hL1 (fun _ h9 => h9) rfl dX6_goNights_13 ?_
  refine lv_icmp_ge (tgt := 228) hx hb dX6_goNights_16 (by decide) (fun c3 => ?_) (fun c3 => ?_)
  · have hb2 := cd_ite_t c3 hb2
    have z : some (Sum.inl (Sum.inr z2.2)) = some o2 := hb2
    cases z
    exact K2 _ hk2 _ _ _ (lv_sub hl [] rfl) hw
  · have hb2 := cd_ite_f c3 hb2
    refine lv_aload_n hx hb dX6_goNights_19 rfl (lv_at hl 0 rfl) ?_
    refine va_get (D := G) (ci := 6) (v := .ref (h 6)) (C := RX6) (T := TX6) (N := 22) hx hb hts nw_X6_goNights_X6 hown hK hw.1 0 rfl rfl 7 (by decide) hL2 (fun _ h9 => h9) rfl dX6_goNights_20 ?_
    refine lv_iload_n hx hb dX6_goNights_23 rfl (lv_at hl 1 rfl) ?_
    obtain ⟨v4, e4, hb2⟩ := cd_bind_some hb2
    refine cd_iald hx hb hK hw 6 rfl e4 dX6_goNights_24 ?_
    refine lv_istore_n (lv' := [(2, .int v4), (0, .ref (h 0)), (1, .int z2.1)]) hx hb dX6_goNights_25 rfl hl (by decide) rfl (fun ls hl => ?_)
    refine lv_aload_n hx hb dX6_goNights_26 rfl (lv_at hl 1 rfl) ?_
    refine lv_iconst (v := (0 : Int32)) hx hb dX6_goNights_27 (by decide) ?_
    refine va_put (D := G) (ci := 6) (v := .int (0 : Int32)) (ty := .int) (C := RX6) (T := TX6) (N := 22) hx hb hts nw_X6_goNights_X6 tyX6 tyX6_ok nmX6 hown hK hw.1 hw.2.1 hw.2.2 0 rfl rfl 11 (by decide) hL3 (fun _ h9 => h9) rfl (by decide +kernel) rfl rfl (Nat.le_of_ble_eq_true rfl) dX6_goNights_28 (fun H locs hP hD hS => ?_)
    have hw : cd_WS G A s.heap H locs ((pc_mod cI cZ h (cd_fld z2.2 11 (0 : Int32)))) := ⟨hP, hD, hS⟩
    refine lv_iload_n hx hb dX6_goNights_31 rfl (lv_at hl 0 rfl) ?_
    refine lv_bipush (v := (46 : Int32)) hx hb dX6_goNights_32 (by decide) ?_
    obtain ⟨x5, e5, hb2⟩ := cd_bind_some hb2
    have K5 : ∀ (ls : Array Slot) (H : Heap) (locs : List Loc), lv_has ls 4 [(0, .ref (h 0)), (1, .int x5.1)] → cd_WS G A s.heap H locs ((pc_mod cI cZ h x5.2)) → W p l e rm_X6_goNights s m ag below meth c H locs 0 0 Q (F0 m 148 ls []) := by
      intro ls H locs hl hw
      refine lv_aload_n hx hb dX6_goNights_148 rfl (lv_at hl 0 rfl) ?_
      refine va_get (D := G) (ci := 6) (v := .int (x5.2 12 0)) (C := RX6) (T := TX6) (N := 22) hx hb hts nw_X6_goNights_X6 hown hK hw.1 0 rfl rfl 12 (by decide) hL4 (fun _ h9 => h9) rfl dX6_goNights_149 ?_
      refine lv_if_le (tgt := 160) hx hb dX6_goNights_152 (by decide) (fun c6 => ?_) (fun c6 => ?_)
      · have hb2 := cd_ite_t c6 hb2
        refine lv_bipush (v := (11 : Int32)) hx hb dX6_goNights_160 (by decide) ?_
        refine lv_istore_n (lv' := [(3, .int (11 : Int32)), (0, .ref (h 0)), (1, .int x5.1)]) hx hb dX6_goNights_162 rfl hl (by decide) rfl (fun ls hl => ?_)
        obtain ⟨x7, e7, hb2⟩ := cd_bind_some hb2
        have K7 : ∀ (t7 : (Nat → Nat → Int32)), t7 = x7 → ∀ (ls : Array Slot) (H : Heap) (locs : List Loc), lv_has ls 4 [(0, .ref (h 0)), (1, .int x5.1)] → cd_WS G A s.heap H locs ((pc_mod cI cZ h t7)) → W p l e rm_X6_goNights s m ag below meth c H locs 0 0 Q (F0 m 215 ls []) := by
          intro t7 hs_7
          subst hs_7
          intro ls H locs hl hw
          refine lv_aload_n hx hb dX6_goNights_215 rfl (lv_at hl 0 rfl) ?_
          refine lv_dup hx hb dX6_goNights_216 rfl ?_
          refine va_get (D := G) (ci := 6) (v := .int (t7 13 0)) (C := RX6) (T := TX6) (N := 22) hx hb hts nw_X6_goNights_X6 hown hK hw.1 0 rfl rfl 13 (by decide) hL0 (fun _ h9 => h9) rfl dX6_goNights_217 ?_
          refine lv_iconst (v := (1 : Int32)) hx hb dX6_goNights_220 (by decide) ?_
          refine lv_iadd hx hb dX6_goNights_221 ?_
          refine va_put (D := G) (ci := 6) (v := .int ((t7 13 0) + (1 : Int32))) (ty := .int) (C := RX6) (T := TX6) (N := 22) hx hb hts nw_X6_goNights_X6 tyX6 tyX6_ok nmX6 hown hK hw.1 hw.2.1 hw.2.2 0 rfl rfl 13 (by decide) hL0 (fun _ h9 => h9) rfl (by decide +kernel) rfl rfl (Nat.le_of_ble_eq_true rfl) dX6_goNights_222 (fun H locs hP hD hS => ?_)
          have hw : cd_WS G A s.heap H locs ((pc_mod cI cZ h (cd_fld t7 13 ((t7 13 0) + (1 : Int32))))) := ⟨hP, hD, hS⟩
          refine lv_goto (tgt := 11) hx hb dX6_goNights_225 (by decide) ?_
          have z : some (Sum.inr (x5.1, (cd_fld t7 13 ((t7 13 0) + (1 : Int32))))) = some o2 := hb2
          cases z
          exact hk2 _ _ _ (lv_sub hl [0, 1] rfl) hw
        refine cd_iter_ind (body := f_X6_goNights_b163) (K := fun r => r = x7) (P := fun (z7 : Int32 × (Nat → Nat → Int32)) => ∀ (ls : Array Slot) (H : Heap) (locs : List Loc), lv_has ls 4 [(0, .ref (h 0)), (1, .int x5.1), (3, .int z7.1)] → cd_WS G A s.heap H locs ((pc_mod cI cZ h z7.2)) → W p l e rm_X6_goNights s m ag below meth c H locs 0 0 Q (F0 m 163 ls [])) ?_ cd_N ((11 : Int32), x5.2) x7 e7 rfl _ _ _ (lv_sub hl [1, 2, 0] rfl) hw
        intro z7 o7 hb7 hk7 ls H locs hl hw
        unfold f_X6_goNights_b163 at hb7
        refine lv_iload_n hx hb dX6_goNights_163 rfl (lv_at hl 2 rfl) ?_
        refine lv_if_lt (tgt := 215) hx hb dX6_goNights_164 (by decide) (fun c8 => ?_) (fun c8 => ?_)
        · have hb7 := cd_ite_t c8 hb7
          have z : some (Sum.inl z7.2) = some o7 := hb7
          cases z
          exact K7 _ hk7 _ _ _ (lv_sub hl [0, 1] rfl) hw
        · have hb7 := cd_ite_f c8 hb7
          refine lv_aload_n hx hb dX6_goNights_167 rfl (lv_at hl 0 rfl) ?_
          refine va_get (D := G) (ci := 6) (v := .int (z7.2 9 0)) (C := RX6) (T := TX6) (N := 22) hx hb hts nw_X6_goNights_X6 hown hK hw.1 0 rfl rfl 9 (by decide) hL5 (fun _ h9 => h9) rfl dX6_goNights_168 ?_
          refine lv_if_lt (tgt := 185) hx hb dX6_goNights_171 (by decide) (fun c9 => ?_) (fun c9 => ?_)
          · have hb7 := cd_ite_t c9 hb7
            refine lv_aload_n hx hb dX6_goNights_185 rfl (lv_at hl 0 rfl) ?_
            refine va_get (D := G) (ci := 6) (v := .int (z7.2 11 0)) (C := RX6) (T := TX6) (N := 22) hx hb hts nw_X6_goNights_X6 hown hK hw.1 0 rfl rfl 11 (by decide) hL3 (fun _ h9 => h9) rfl dX6_goNights_186 ?_
            refine lv_iload_n hx hb dX6_goNights_189 rfl (lv_at hl 2 rfl) ?_
            obtain ⟨r10, e10, hb7⟩ := cd_bind_some hb7
            refine cd_callS (As := [.int (z7.2 11 0), .int z7.1]) (rest := []) C0 hw (c_X6_isIn l G cI cZ sa sb (z7.2 11 0) z7.1 r10 e10) [] rfl rfl (va_cwS 2 hts gX6_goNights_X6_isIn rfl rfl rfl (by decide +kernel) ⟨Nat.le_of_ble_eq_true rfl, Nat.le_of_ble_eq_true rfl⟩) rfl hl.1 (lv_room (Nat.le_of_ble_eq_true rfl)) dX6_goNights_190 (fun H locs hw => ?_)
            refine lv_if_eq (tgt := 209) hx hb dX6_goNights_193 (by decide) (fun c11 => ?_) (fun c11 => ?_)
            · have hb7 := cd_ite_t c11 hb7
              refine lv_iinc (v := (z7.1 + (-1 : Int32))) (lv' := [(3, .int (z7.1 + (-1 : Int32))), (0, .ref (h 0)), (1, .int x5.1)]) hx hb dX6_goNights_209 hl (k := 2) rfl rfl (by decide) rfl (fun ls hl => ?_)
              refine lv_goto (tgt := 163) hx hb dX6_goNights_212 (by decide) ?_
              have z : some (Sum.inr ((z7.1 + (-1 : Int32)), z7.2)) = some o7 := hb7
              cases z
              exact hk7 _ _ _ (lv_sub hl [1, 2, 0] rfl) hw
            · have hb7 := cd_ite_f c11 hb7
              refine lv_aload_n hx hb dX6_goNights_196 rfl (lv_at hl 0 rfl) ?_
              refine lv_aload_n hx hb dX6_goNights_197 rfl (lv_at hl 0 rfl) ?_
              refine va_get (D := G) (ci := 6) (v := .int (z7.2 13 0)) (C := RX6) (T := TX6) (N := 22) hx hb hts nw_X6_goNights_X6 hown hK hw.1 0 rfl rfl 13 (by decide) hL0 (fun _ h9 => h9) rfl dX6_goNights_198 ?_
              refine va_put (D := G) (ci := 6) (v := .int (z7.2 13 0)) (ty := .int) (C := RX6) (T := TX6) (N := 22) hx hb hts nw_X6_goNights_X6 tyX6 tyX6_ok nmX6 hown hK hw.1 hw.2.1 hw.2.2 0 rfl rfl 9 (by decide) hL5 (fun _ h9 => h9) rfl (by decide +kernel) rfl rfl (Nat.le_of_ble_eq_true rfl) dX6_goNights_201 (fun H locs hP hD hS => ?_)
              have hw : cd_WS G A s.heap H locs ((pc_mod cI cZ h (cd_fld z7.2 9 (z7.2 13 0)))) := ⟨hP, hD, hS⟩
              refine lv_aload_n hx hb dX6_goNights_204 rfl (lv_at hl 0 rfl) ?_
              refine lv_iload_n hx hb dX6_goNights_205 rfl (lv_at hl 2 rfl) ?_
              refine va_put (D := G) (ci := 6) (v := .int z7.1) (ty := .int) (C := RX6) (T := TX6) (N := 22) hx hb hts nw_X6_goNights_X6 tyX6 tyX6_ok nmX6 hown hK hw.1 hw.2.1 hw.2.2 0 rfl rfl 10 (by decide) hL6 (fun _ h9 => h9) rfl (by decide +kernel) rfl rfl (Nat.le_of_ble_eq_true rfl) dX6_goNights_206 (fun H locs hP hD hS => ?_)
              have hw : cd_WS G A s.heap H locs ((pc_mod cI cZ h (cd_fld (cd_fld z7.2 9 (z7.2 13 0)) 10 z7.1))) := ⟨hP, hD, hS⟩
              refine lv_iinc (v := (z7.1 + (-1 : Int32))) (lv' := [(3, .int (z7.1 + (-1 : Int32))), (0, .ref (h 0)), (1, .int x5.1)]) hx hb dX6_goNights_209 hl (k := 2) rfl rfl (by decide) rfl (fun ls hl => ?_)
              refine lv_goto (tgt := 163) hx hb dX6_goNights_212 (by decide) ?_
              have z : some (Sum.inr ((z7.1 + (-1 : Int32)), (cd_fld (cd_fld z7.2 9 (z7.2 13 0)) 10 z7.1))) = some o7 := hb7
              cases z
              exact hk7 _ _ _ (lv_sub hl [1, 2, 0] rfl) hw
          · have hb7 := cd_ite_f c9 hb7
            refine lv_aload_n hx hb dX6_goNights_174 rfl (lv_at hl 0 rfl) ?_
            refine va_get (D := G) (ci := 6) (v := .int (z7.2 9 0)) (C := RX6) (T := TX6) (N := 22) hx hb hts nw_X6_goNights_X6 hown hK hw.1 0 rfl rfl 9 (by decide) hL5 (fun _ h9 => h9) rfl dX6_goNights_175 ?_
            refine lv_aload_n hx hb dX6_goNights_178 rfl (lv_at hl 0 rfl) ?_
            refine va_get (D := G) (ci := 6) (v := .int (z7.2 13 0)) (C := RX6) (T := TX6) (N := 22) hx hb hts nw_X6_goNights_X6 hown hK hw.1 0 rfl rfl 13 (by decide) hL0 (fun _ h9 => h9) rfl dX6_goNights_179 ?_
            refine lv_icmp_ne (tgt := 215) hx hb dX6_goNights_182 (by decide) (fun c12 => ?_) (fun c12 => ?_)
            · have hb7 := cd_ite_f c12 hb7
              have z : some (Sum.inl z7.2) = some o7 := hb7
              cases z
              exact K7 _ hk7 _ _ _ (lv_sub hl [0, 1] rfl) hw
            · have hb7 := cd_ite_t c12 hb7
              refine lv_aload_n hx hb dX6_goNights_185 rfl (lv_at hl 0 rfl) ?_
              refine va_get (D := G) (ci := 6) (v := .int (z7.2 11 0)) (C := RX6) (T := TX6) (N := 22) hx hb hts nw_X6_goNights_X6 hown hK hw.1 0 rfl rfl 11 (by decide) hL3 (fun _ h9 => h9) rfl dX6_goNights_186 ?_
              refine lv_iload_n hx hb dX6_goNights_189 rfl (lv_at hl 2 rfl) ?_
              obtain ⟨r13, e13, hb7⟩ := cd_bind_some hb7
              refine cd_callS (As := [.int (z7.2 11 0), .int z7.1]) (rest := []) C0 hw (c_X6_isIn l G cI cZ sa sb (z7.2 11 0) z7.1 r13 e13) [] rfl rfl (va_cwS 2 hts gX6_goNights_X6_isIn rfl rfl rfl (by decide +kernel) ⟨Nat.le_of_ble_eq_true rfl, Nat.le_of_ble_eq_true rfl⟩) rfl hl.1 (lv_room (Nat.le_of_ble_eq_true rfl)) dX6_goNights_190 (fun H locs hw => ?_)
              refine lv_if_eq (tgt := 209) hx hb dX6_goNights_193 (by decide) (fun c14 => ?_) (fun c14 => ?_)
              · have hb7 := cd_ite_t c14 hb7
                refine lv_iinc (v := (z7.1 + (-1 : Int32))) (lv' := [(3, .int (z7.1 + (-1 : Int32))), (0, .ref (h 0)), (1, .int x5.1)]) hx hb dX6_goNights_209 hl (k := 2) rfl rfl (by decide) rfl (fun ls hl => ?_)
                refine lv_goto (tgt := 163) hx hb dX6_goNights_212 (by decide) ?_
                have z : some (Sum.inr ((z7.1 + (-1 : Int32)), z7.2)) = some o7 := hb7
                cases z
                exact hk7 _ _ _ (lv_sub hl [1, 2, 0] rfl) hw
              · have hb7 := cd_ite_f c14 hb7
                refine lv_aload_n hx hb dX6_goNights_196 rfl (lv_at hl 0 rfl) ?_
                refine lv_aload_n hx hb dX6_goNights_197 rfl (lv_at hl 0 rfl) ?_
                refine va_get (D := G) (ci := 6) (v := .int (z7.2 13 0)) (C := RX6) (T := TX6) (N := 22) hx hb hts nw_X6_goNights_X6 hown hK hw.1 0 rfl rfl 13 (by decide) hL0 (fun _ h9 => h9) rfl dX6_goNights_198 ?_
                refine va_put (D := G) (ci := 6) (v := .int (z7.2 13 0)) (ty := .int) (C := RX6) (T := TX6) (N := 22) hx hb hts nw_X6_goNights_X6 tyX6 tyX6_ok nmX6 hown hK hw.1 hw.2.1 hw.2.2 0 rfl rfl 9 (by decide) hL5 (fun _ h9 => h9) rfl (by decide +kernel) rfl rfl (Nat.le_of_ble_eq_true rfl) dX6_goNights_201 (fun H locs hP hD hS => ?_)
                have hw : cd_WS G A s.heap H locs ((pc_mod cI cZ h (cd_fld z7.2 9 (z7.2 13 0)))) := ⟨hP, hD, hS⟩
                refine lv_aload_n hx hb dX6_goNights_204 rfl (lv_at hl 0 rfl) ?_
                refine lv_iload_n hx hb dX6_goNights_205 rfl (lv_at hl 2 rfl) ?_
                refine va_put (D := G) (ci := 6) (v := .int z7.1) (ty := .int) (C := RX6) (T := TX6) (N := 22) hx hb hts nw_X6_goNights_X6 tyX6 tyX6_ok nmX6 hown hK hw.1 hw.2.1 hw.2.2 0 rfl rfl 10 (by decide) hL6 (fun _ h9 => h9) rfl (by decide +kernel) rfl rfl (Nat.le_of_ble_eq_true rfl) dX6_goNights_206 (fun H locs hP hD hS => ?_)
                have hw : cd_WS G A s.heap H locs ((pc_mod cI cZ h (cd_fld (cd_fld z7.2 9 (z7.2 13 0)) 10 z7.1))) := ⟨hP, hD, hS⟩
                refine lv_iinc (v := (z7.1 + (-1 : Int32))) (lv' := [(3, .int (z7.1 + (-1 : Int32))), (0, .ref (h 0)), (1, .int x5.1)]) hx hb dX6_goNights_209 hl (k := 2) rfl rfl (by decide) rfl (fun ls hl => ?_)
                refine lv_goto (tgt := 163) hx hb dX6_goNights_212 (by decide) ?_
                have z : some (Sum.inr ((z7.1 + (-1 : Int32)), (cd_fld (cd_fld z7.2 9 (z7.2 13 0)) 10 z7.1))) = some o7 := hb7
                cases z
                exact hk7 _ _ _ (lv_sub hl [1, 2, 0] rfl) hw
      · have hb2 := cd_ite_f c6 hb2
        refine lv_aload_n hx hb dX6_goNights_155 rfl (lv_at hl 0 rfl) ?_
        refine va_get (D := G) (ci := 6) (v := .int (x5.2 13 0)) (C := RX6) (T := TX6) (N := 22) hx hb hts nw_X6_goNights_X6 hown hK hw.1 0 rfl rfl 13 (by decide) hL0 (fun _ h9 => h9) rfl dX6_goNights_156 ?_
        have z : some (Sum.inl (Sum.inl ((x5.2 13 0), x5.2))) = some o2 := hb2
        cases z
        have y2 : Sum.inl ((x5.2 13 0), x5.2) = x2 := hk2
        subst y2
        have z : some ((x5.2 13 0), x5.2) = some o := hf
        cases z
        rw [hQ]
        exact cd_reti C0 hw dX6_goNights_159
    refine lv_icmp_ne (tgt := 51) hx hb dX6_goNights_34 (by decide) (fun c5 => ?_) (fun c5 => ?_)
    · have e5 := cd_ite_f c5 e5
      refine lv_iload_n hx hb dX6_goNights_51 rfl (lv_at hl 0 rfl) ?_
      refine lv_bipush (v := (119 : Int32)) hx hb dX6_goNights_52 (by decide) ?_
      refine lv_icmp_ne (tgt := 93) hx hb dX6_goNights_54 (by decide) (fun c16 => ?_) (fun c16 => ?_)
      · have e5 := cd_ite_f c16 e5
        refine lv_aload_n hx hb dX6_goNights_93 rfl (lv_at hl 1 rfl) ?_
        refine va_get (D := G) (ci := 6) (v := .ref (h 6)) (C := RX6) (T := TX6) (N := 22) hx hb hts nw_X6_goNights_X6 hown hK hw.1 0 rfl rfl 7 (by decide) hL2 (fun _ h9 => h9) rfl dX6_goNights_94 ?_
        refine lv_iload_n hx hb dX6_goNights_97 rfl (lv_at hl 2 rfl) ?_
        refine lv_iconst (v := (1 : Int32)) hx hb dX6_goNights_98 (by decide) ?_
        refine lv_iadd hx hb dX6_goNights_99 ?_
        obtain ⟨v20, e20, e5⟩ := cd_bind_some e5
        refine cd_iald hx hb hK hw 6 rfl e20 dX6_goNights_100 ?_
        refine lv_istore_n (lv' := [(3, .int v20), (2, .int v4), (0, .ref (h 0)), (1, .int z2.1)]) hx hb dX6_goNights_101 rfl hl (by decide) rfl (fun ls hl => ?_)
        refine lv_aload_n hx hb dX6_goNights_102 rfl (lv_at hl 2 rfl) ?_
        refine lv_aload_n hx hb dX6_goNights_103 rfl (lv_at hl 2 rfl) ?_
        refine lv_iload_n hx hb dX6_goNights_104 rfl (lv_at hl 1 rfl) ?_
        refine lv_bipush (v := (97 : Int32)) hx hb dX6_goNights_105 (by decide) ?_
        refine lv_isub hx hb dX6_goNights_107 ?_
        refine lv_iload_n hx hb dX6_goNights_108 rfl (lv_at hl 0 rfl) ?_
        refine lv_iload_n hx hb dX6_goNights_109 rfl (lv_at hl 0 rfl) ?_
        refine lv_bipush (v := (62 : Int32)) hx hb dX6_goNights_110 (by decide) ?_
        obtain ⟨x21, e21, e5⟩ := cd_bind_some e5
        have K21 : ∀ (ls : Array Slot) (H : Heap) (locs : List Loc), lv_has ls 4 [(0, .ref (h 0)), (1, .int z2.1), (3, .int v20)] → cd_WS G A s.heap H locs ((pc_mod cI cZ h (cd_fld z2.2 11 (0 : Int32)))) → W p l e rm_X6_goNights s m ag below meth c H locs 0 0 Q (F0 m 128 ls [.int x21, .int v20, .int (v4 - (97 : Int32)), .ref (h 0), .ref (h 0)]) := by
          intro ls H locs hl hw
          obtain ⟨r22, e22, e5⟩ := cd_bind_some e5
          refine cd_callVw (As := [.int (v4 - (97 : Int32)), .int v20, .int x21]) (rest := [.ref (h 0)]) (wr := ([] : va_W)) (wn := (pc_mod cI cZ h r22.2)) C0 hw (c_X6_candleAct l G cI cZ sa sb h (cd_fld z2.2 11 (0 : Int32)) (v4 - (97 : Int32)) v20 x21 r22 e22) [0, 1, 2, 3, 4, 5, 6, 7, 8, 9, 10, 11, 12, 13, 14] [] [0, 1, 2, 3, 4, 5, 6, 7, 8, 9, 10, 11, 12, 13, 14] rfl rfl rfl rfl (by decide) rfl rfl 0 6 rfl rfl rfl (cwV 3 hts gX6_goNights_X6_candleAct rfl rfl rfl (by decide +kernel) ⟨Nat.le_of_ble_eq_true rfl, Nat.le_of_ble_eq_true rfl⟩) rfl hl.1 (lv_room (Nat.le_of_ble_eq_true rfl)) dX6_goNights_128 (fun H locs hw => ?_)
          refine va_put (D := G) (ci := 6) (v := .int r22.1) (ty := .int) (C := RX6) (T := TX6) (N := 22) hx hb hts nw_X6_goNights_X6 tyX6 tyX6_ok nmX6 hown hK hw.1 hw.2.1 hw.2.2 0 rfl rfl 12 (by decide) hL4 (fun _ h9 => h9) rfl (by decide +kernel) rfl rfl (Nat.le_of_ble_eq_true rfl) dX6_goNights_131 (fun H locs hP hD hS => ?_)
          have hw : cd_WS G A s.heap H locs ((pc_mod cI cZ h (cd_fld r22.2 12 r22.1))) := ⟨hP, hD, hS⟩
          refine lv_iload_n hx hb dX6_goNights_134 rfl (lv_at hl 1 rfl) ?_
          refine lv_iload_n hx hb dX6_goNights_135 rfl (lv_at hl 2 rfl) ?_
          refine lv_bipush (v := (62 : Int32)) hx hb dX6_goNights_136 (by decide) ?_
          obtain ⟨x23, e23, e5⟩ := cd_bind_some e5
          have K23 : ∀ (ls : Array Slot) (H : Heap) (locs : List Loc), lv_has ls 4 [(0, .ref (h 0))] → cd_WS G A s.heap H locs ((pc_mod cI cZ h (cd_fld r22.2 12 r22.1))) → W p l e rm_X6_goNights s m ag below meth c H locs 0 0 Q (F0 m 146 ls [.int x23, .int z2.1]) := by
            intro ls H locs hl hw
            refine lv_iadd hx hb dX6_goNights_146 ?_
            refine lv_istore_n (lv' := [(1, .int (z2.1 + x23)), (0, .ref (h 0))]) hx hb dX6_goNights_147 rfl hl (by decide) rfl (fun ls hl => ?_)
            have z : some ((z2.1 + x23), (cd_fld r22.2 12 r22.1)) = some x5 := e5
            cases z
            exact K5 _ _ _ (lv_sub hl [1, 0] rfl) hw
          refine lv_icmp_ne (tgt := 145) hx hb dX6_goNights_138 (by decide) (fun c23 => ?_) (fun c23 => ?_)
          · have e23 := cd_ite_f c23 e23
            refine lv_iconst (v := (2 : Int32)) hx hb dX6_goNights_145 (by decide) ?_
            have z : some (2 : Int32) = some x23 := e23
            cases z
            exact K23 _ _ _ (lv_sub hl [0] rfl) hw
          · have e23 := cd_ite_t c23 e23
            refine lv_iconst (v := (3 : Int32)) hx hb dX6_goNights_141 (by decide) ?_
            refine lv_goto (tgt := 146) hx hb dX6_goNights_142 (by decide) ?_
            have z : some (3 : Int32) = some x23 := e23
            cases z
            exact K23 _ _ _ (lv_sub hl [0] rfl) hw
        refine lv_icmp_ne (tgt := 126) hx hb dX6_goNights_112 (by decide) (fun c21 => ?_) (fun c21 => ?_)
        · have e21 := cd_ite_f c21 e21
          refine lv_bipush (v := (97 : Int32)) hx hb dX6_goNights_126 (by decide) ?_
          have z : some (97 : Int32) = some x21 := e21
          cases z
          exact K21 _ _ _ (lv_sub hl [2, 3, 0] rfl) hw
        · have e21 := cd_ite_t c21 e21
          refine lv_aload_n hx hb dX6_goNights_115 rfl (lv_at hl 2 rfl) ?_
          refine va_get (D := G) (ci := 6) (v := .ref (h 6)) (C := RX6) (T := TX6) (N := 22) hx hb hts nw_X6_goNights_X6 hown hK hw.1 0 rfl rfl 7 (by decide) hL2 (fun _ h9 => h9) rfl dX6_goNights_116 ?_
          refine lv_iload_n hx hb dX6_goNights_119 rfl (lv_at hl 3 rfl) ?_
          refine lv_iconst (v := (2 : Int32)) hx hb dX6_goNights_120 (by decide) ?_
          refine lv_iadd hx hb dX6_goNights_121 ?_
          obtain ⟨v24, e24, e21⟩ := cd_bind_some e21
          refine cd_iald hx hb hK hw 6 rfl e24 dX6_goNights_122 ?_
          refine lv_goto (tgt := 128) hx hb dX6_goNights_123 (by decide) ?_
          have z : some v24 = some x21 := e21
          cases z
          exact K21 _ _ _ (lv_sub hl [2, 3, 0] rfl) hw
      · have e5 := cd_ite_t c16 e5
        refine lv_aload_n hx hb dX6_goNights_57 rfl (lv_at hl 1 rfl) ?_
        refine lv_aload_n hx hb dX6_goNights_58 rfl (lv_at hl 1 rfl) ?_
        refine lv_aload_n hx hb dX6_goNights_59 rfl (lv_at hl 1 rfl) ?_
        refine va_get (D := G) (ci := 6) (v := .ref (h 6)) (C := RX6) (T := TX6) (N := 22) hx hb hts nw_X6_goNights_X6 hown hK hw.1 0 rfl rfl 7 (by decide) hL2 (fun _ h9 => h9) rfl dX6_goNights_60 ?_
        refine lv_iload_n hx hb dX6_goNights_63 rfl (lv_at hl 2 rfl) ?_
        refine lv_iconst (v := (1 : Int32)) hx hb dX6_goNights_64 (by decide) ?_
        refine lv_iadd hx hb dX6_goNights_65 ?_
        obtain ⟨v17, e17, e5⟩ := cd_bind_some e5
        refine cd_iald hx hb hK hw 6 rfl e17 dX6_goNights_66 ?_
        refine lv_bipush (v := (97 : Int32)) hx hb dX6_goNights_67 (by decide) ?_
        refine lv_isub hx hb dX6_goNights_69 ?_
        refine lv_aload_n hx hb dX6_goNights_70 rfl (lv_at hl 1 rfl) ?_
        refine va_get (D := G) (ci := 6) (v := .ref (h 6)) (C := RX6) (T := TX6) (N := 22) hx hb hts nw_X6_goNights_X6 hown hK hw.1 0 rfl rfl 7 (by decide) hL2 (fun _ h9 => h9) rfl dX6_goNights_71 ?_
        refine lv_iload_n hx hb dX6_goNights_74 rfl (lv_at hl 2 rfl) ?_
        refine lv_iconst (v := (2 : Int32)) hx hb dX6_goNights_75 (by decide) ?_
        refine lv_iadd hx hb dX6_goNights_76 ?_
        obtain ⟨v18, e18, e5⟩ := cd_bind_some e5
        refine cd_iald hx hb hK hw 6 rfl e18 dX6_goNights_77 ?_
        refine lv_bipush (v := (48 : Int32)) hx hb dX6_goNights_78 (by decide) ?_
        refine lv_isub hx hb dX6_goNights_80 ?_
        obtain ⟨r19, e19, e5⟩ := cd_bind_some e5
        refine cd_callVw (As := [.int (v17 - (97 : Int32)), .int (v18 - (48 : Int32))]) (rest := [.ref (h 0)]) (wr := ([] : va_W)) (wn := (pc_mod cI cZ h r19.2)) C0 hw (c_X6_blow l G cI cZ sa sb h (cd_fld z2.2 11 (0 : Int32)) (v17 - (97 : Int32)) (v18 - (48 : Int32)) r19 e19) [0, 1, 2, 3, 4, 5, 6, 7, 8, 9, 10, 11, 12, 13, 14] [] [0, 1, 2, 3, 4, 5, 6, 7, 8, 9, 10, 11, 12, 13, 14] rfl rfl rfl rfl (by decide) rfl rfl 0 6 rfl rfl rfl (cwV 2 hts gX6_goNights_X6_blow rfl rfl rfl (by decide +kernel) ⟨Nat.le_of_ble_eq_true rfl, Nat.le_of_ble_eq_true rfl⟩) rfl hl.1 (lv_room (Nat.le_of_ble_eq_true rfl)) dX6_goNights_81 (fun H locs hw => ?_)
        refine va_put (D := G) (ci := 6) (v := .int r19.1) (ty := .int) (C := RX6) (T := TX6) (N := 22) hx hb hts nw_X6_goNights_X6 tyX6 tyX6_ok nmX6 hown hK hw.1 hw.2.1 hw.2.2 0 rfl rfl 12 (by decide) hL4 (fun _ h9 => h9) rfl (by decide +kernel) rfl rfl (Nat.le_of_ble_eq_true rfl) dX6_goNights_84 (fun H locs hP hD hS => ?_)
        have hw : cd_WS G A s.heap H locs ((pc_mod cI cZ h (cd_fld r19.2 12 r19.1))) := ⟨hP, hD, hS⟩
        refine lv_iinc (v := (z2.1 + (3 : Int32))) (lv' := [(1, .int (z2.1 + (3 : Int32))), (2, .int v4), (0, .ref (h 0))]) hx hb dX6_goNights_87 hl (k := 2) rfl rfl (by decide) rfl (fun ls hl => ?_)
        refine lv_goto (tgt := 148) hx hb dX6_goNights_90 (by decide) ?_
        have z : some ((z2.1 + (3 : Int32)), (cd_fld r19.2 12 r19.1)) = some x5 := e5
        cases z
        exact K5 _ _ _ (lv_sub hl [2, 0] rfl) hw
    · have e5 := cd_ite_t c5 e5
      refine lv_aload_n hx hb dX6_goNights_37 rfl (lv_at hl 1 rfl) ?_
      refine lv_aload_n hx hb dX6_goNights_38 rfl (lv_at hl 1 rfl) ?_
      obtain ⟨r15, e15, e5⟩ := cd_bind_some e5
      refine cd_callVw (As := []) (rest := [.ref (h 0)]) (wr := ([] : va_W)) (wn := (pc_mod cI cZ h r15.2)) C0 hw (c_X6_minute l G cI cZ sa sb h (cd_fld z2.2 11 (0 : Int32)) r15 e15) [0, 1, 2, 3, 4, 5, 6, 7, 8, 9, 10, 11, 12, 13, 14] [] [0, 1, 2, 3, 4, 5, 6, 7, 8, 9, 10, 11, 12, 13, 14] rfl rfl rfl rfl (by decide) rfl rfl 0 6 rfl rfl rfl (cwV 0 hts gX6_goNights_X6_minute rfl rfl rfl (by decide +kernel) ⟨Nat.le_of_ble_eq_true rfl, Nat.le_of_ble_eq_true rfl⟩) rfl hl.1 (lv_room (Nat.le_of_ble_eq_true rfl)) dX6_goNights_39 (fun H locs hw => ?_)
      refine va_put (D := G) (ci := 6) (v := .int r15.1) (ty := .int) (C := RX6) (T := TX6) (N := 22) hx hb hts nw_X6_goNights_X6 tyX6 tyX6_ok nmX6 hown hK hw.1 hw.2.1 hw.2.2 0 rfl rfl 12 (by decide) hL4 (fun _ h9 => h9) rfl (by decide +kernel) rfl rfl (Nat.le_of_ble_eq_true rfl) dX6_goNights_42 (fun H locs hP hD hS => ?_)
      have hw : cd_WS G A s.heap H locs ((pc_mod cI cZ h (cd_fld r15.2 12 r15.1))) := ⟨hP, hD, hS⟩
      refine lv_iinc (v := (z2.1 + (1 : Int32))) (lv' := [(1, .int (z2.1 + (1 : Int32))), (2, .int v4), (0, .ref (h 0))]) hx hb dX6_goNights_45 hl (k := 2) rfl rfl (by decide) rfl (fun ls hl => ?_)
      refine lv_goto (tgt := 148) hx hb dX6_goNights_48 (by decide) ?_
      have z : some ((z2.1 + (1 : Int32)), (cd_fld r15.2 12 r15.1)) = some x5 := e5
      cases z
      exact K5 _ _ _ (lv_sub hl [2, 0] rfl) hw
abbrev rm_X6_barOfNights : Room := { frames := 5, cells := 0, slots := 0, locals := 112 }
set_option maxHeartbeats 4000000 in
set_option maxRecDepth 100000 in
theorem c_X6_barOfNights (l : Launch) (G : va_G) (cI cZ : ClassId) (sa sb : Nat) (h : Nat → Nat) (M : Nat → Nat → Int32) (o : Int32 × (Nat → Nat → Int32)) (hf : f_X6_barOfNights M = some o) : cd_Ct l G cI cZ sa sb yX6_barOfNights wsX6_barOfNights rm_X6_barOfNights [.ref (h 0)] ((pc_mod cI cZ h M)) ((pc_mod cI cZ h o.2)) (some (.int o.1)) := by
  refine cd_of (cc := cX6_barOfNights) (maxL := 1) (ret := (some .int)) (by decide) rfl (Nat.le_of_ble_eq_true rfl) ?_
  intro p e s m ag below meth c A ls Q C0 hl hw hQ
  have C0 : cd_CX G cI cZ sa sb p s m ag meth c cX6_barOfNights 1 (some .int) wsX6_barOfNights RX6 A := C0
  obtain ⟨⟨hx, hb, hml, hown, hts⟩, hr, hlocks, hA, hE⟩ := id C0
  have hK := hE.1
  have hl : lv_has ls 1 [(0, .ref (h 0))] := hl
  unfold f_X6_barOfNights at hf
  refine lv_aload_n hx hb dX6_barOfNights_0 rfl (lv_at hl 0 rfl) ?_
  obtain ⟨r1, e1, hf⟩ := cd_bind_some hf
  refine cd_callV (As := []) (rest := []) C0 hw (c_X6_faultOf l G cI cZ sa sb h M r1 e1) [0, 1, 2, 3, 4, 5, 6, 7, 8, 9, 10, 11, 12, 13, 14] rfl rfl 0 6 rfl rfl rfl (cwV 0 hts gX6_barOfNights_X6_faultOf rfl rfl rfl (by decide +kernel) ⟨Nat.le_of_ble_eq_true rfl, Nat.le_of_ble_eq_true rfl⟩) rfl hl.1 (lv_room (Nat.le_of_ble_eq_true rfl)) dX6_barOfNights_1 (fun H locs hw => ?_)
  obtain ⟨x2, e2, hf⟩ := cd_bind_some hf
  have K2 : ∀ (ls : Array Slot) (H : Heap) (locs : List Loc), lv_has ls 1 [] → cd_WS G A s.heap H locs ((pc_mod cI cZ h x2.2)) → W p l e rm_X6_barOfNights s m ag below meth c H locs 0 0 Q (F0 m 20 ls [.int x2.1]) := by
    intro ls H locs hl hw
    have z : some (x2.1, x2.2) = some o := hf
    cases z
    rw [hQ]
    exact cd_reti C0 hw dX6_barOfNights_20
  refine lv_if_ge (tgt := 14) hx hb dX6_barOfNights_4 (by decide) (fun c2 => ?_) (fun c2 => ?_)
  · have e2 := cd_ite_t c2 e2
    refine lv_bipush (v := (-5 : Int32)) hx hb dX6_barOfNights_14 (by decide) ?_
    refine lv_goto (tgt := 20) hx hb dX6_barOfNights_16 (by decide) ?_
    have z : some ((-5 : Int32), M) = some x2 := e2
    cases z
    exact K2 _ _ _ (lv_sub hl [] rfl) hw
  · have e2 := cd_ite_f c2 e2
    refine lv_aload_n hx hb dX6_barOfNights_7 rfl (lv_at hl 0 rfl) ?_
    obtain ⟨r3, e3, e2⟩ := cd_bind_some e2
    refine cd_callVw (As := []) (rest := []) (wr := ([] : va_W)) (wn := (pc_mod cI cZ h r3.2)) C0 hw (c_X6_goNights l G cI cZ sa sb h M r3 e3) [0, 1, 2, 3, 4, 5, 6, 7, 8, 9, 10, 11, 12, 13, 14] [] [0, 1, 2, 3, 4, 5, 6, 7, 8, 9, 10, 11, 12, 13, 14] rfl rfl rfl rfl (by decide) rfl rfl 0 6 rfl rfl rfl (cwV 0 hts gX6_barOfNights_X6_goNights rfl rfl rfl (by decide +kernel) ⟨Nat.le_of_ble_eq_true rfl, Nat.le_of_ble_eq_true rfl⟩) rfl hl.1 (lv_room (Nat.le_of_ble_eq_true rfl)) dX6_barOfNights_8 (fun H locs hw => ?_)
    refine lv_if_lt (tgt := 19) hx hb dX6_barOfNights_11 (by decide) (fun c4 => ?_) (fun c4 => ?_)
    · have e2 := cd_ite_t c4 e2
      refine lv_iconst (v := (0 : Int32)) hx hb dX6_barOfNights_19 (by decide) ?_
      have z : some ((0 : Int32), r3.2) = some x2 := e2
      cases z
      exact K2 _ _ _ (lv_sub hl [] rfl) hw
    · have e2 := cd_ite_f c4 e2
      refine lv_bipush (v := (-5 : Int32)) hx hb dX6_barOfNights_14 (by decide) ?_
      refine lv_goto (tgt := 20) hx hb dX6_barOfNights_16 (by decide) ?_
      have z : some ((-5 : Int32), r3.2) = some x2 := e2
      cases z
      exact K2 _ _ _ (lv_sub hl [] rfl) hw
abbrev rm_X6_isCandle : Room := { frames := 1, cells := 0, slots := 0, locals := 22 }
set_option maxHeartbeats 4000000 in
set_option maxRecDepth 100000 in
theorem c_X6_isCandle (l : Launch) (G : va_G) (cI cZ : ClassId) (sa sb : Nat) (a0 : Int32) (o : Int32) (hf : f_X6_isCandle a0 = some o) : cd_Ct l G cI cZ sa sb yX6_isCandle wsX6_isCandle rm_X6_isCandle [.int a0] (([] : va_W)) (([] : va_W)) (some (.int o)) := by
  refine cd_of (cc := cX6_isCandle) (maxL := 1) (ret := (some .boolean)) (by decide) rfl (Nat.le_of_ble_eq_true rfl) ?_
  intro p e s m ag below meth c A ls Q C0 hl hw hQ
  have C0 : cd_CX G cI cZ sa sb p s m ag meth c cX6_isCandle 1 (some .boolean) wsX6_isCandle RX6 A := C0
  obtain ⟨⟨hx, hb, hml, hown, hts⟩, hr, hlocks, hA, hE⟩ := id C0
  have hK := hE.1
  have hl : lv_has ls 1 [(0, .int a0)] := hl
  unfold f_X6_isCandle at hf
  refine lv_iload_n hx hb dX6_isCandle_0 rfl (lv_at hl 0 rfl) ?_
  refine lv_iconst (v := (0 : Int32)) hx hb dX6_isCandle_1 (by decide) ?_
  refine lv_bipush (v := (11 : Int32)) hx hb dX6_isCandle_2 (by decide) ?_
  obtain ⟨r1, e1, hf⟩ := cd_bind_some hf
  refine cd_callS (As := [.int a0, .int (0 : Int32), .int (11 : Int32)]) (rest := []) C0 hw (c_X6_in l G cI cZ sa sb a0 (0 : Int32) (11 : Int32) r1 e1) [] rfl rfl (va_cwS 3 hts gX6_isCandle_X6_in rfl rfl rfl (by decide +kernel) ⟨Nat.le_of_ble_eq_true rfl, Nat.le_of_ble_eq_true rfl⟩) rfl hl.1 (lv_room (Nat.le_of_ble_eq_true rfl)) dX6_isCandle_4 (fun H locs hw => ?_)
  obtain ⟨u2, e2, hf⟩ := cd_bind_some hf
  have z : some r1 = some o := hf
  cases z
  rw [hQ]
  exact cd_retz C0 hw (cd_zb_eq e2) dX6_isCandle_7
abbrev rm_X6_behind : Room := { frames := 6, cells := 0, slots := 0, locals := 132 }
theorem nw_X6_behind_X6 : ∀ w ∈ u_ws RX6 TX6 22, w ∈ wsX6_behind := by decide +kernel
set_option maxHeartbeats 4000000 in
set_option maxRecDepth 100000 in
theorem c_X6_behind (l : Launch) (G : va_G) (cI cZ : ClassId) (sa sb : Nat) (h : Nat → Nat) (M : Nat → Nat → Int32) (a0 : Int32) (a1 : Int32) (o : Int32 × (Nat → Nat → Int32)) (hf : f_X6_behind a0 a1 M = some o) : cd_Ct l G cI cZ sa sb yX6_behind wsX6_behind rm_X6_behind [.ref (h 0), .int a0, .int a1] ((pc_mod cI cZ h M)) ((pc_mod cI cZ h o.2)) (some (.int o.1)) := by
  refine cd_of (cc := cX6_behind) (maxL := 3) (ret := (some .int)) (by decide) rfl (Nat.le_of_ble_eq_true rfl) ?_
  intro p e s m ag below meth c A ls Q C0 hl hw hQ
  have C0 : cd_CX G cI cZ sa sb p s m ag meth c cX6_behind 3 (some .int) wsX6_behind RX6 A := C0
  obtain ⟨⟨hx, hb, hml, hown, hts⟩, hr, hlocks, hA, hE⟩ := id C0
  have hK := hE.1
  have hL0 := hts (.fieldLink RX6 13 "CandleDebtsModel" "now" "[I") (by decide +kernel)
  have hl : lv_has ls 3 [(0, .ref (h 0)), (1, .int a0), (2, .int a1)] := hl
  unfold f_X6_behind at hf
  refine lv_iload_n hx hb dX6_behind_0 rfl (lv_at hl 1 rfl) ?_
  obtain ⟨r1, e1, hf⟩ := cd_bind_some hf
  refine cd_callS (As := [.int a0]) (rest := []) C0 hw (c_X6_isCandle l G cI cZ sa sb a0 r1 e1) [] rfl rfl (va_cwS 1 hts gX6_behind_X6_isCandle rfl rfl rfl (by decide +kernel) ⟨Nat.le_of_ble_eq_true rfl, Nat.le_of_ble_eq_true rfl⟩) rfl hl.1 (lv_room (Nat.le_of_ble_eq_true rfl)) dX6_behind_1 (fun H locs hw => ?_)
  refine lv_if_ne (tgt := 9) hx hb dX6_behind_4 (by decide) (fun c2 => ?_) (fun c2 => ?_)
  · have hf := cd_ite_f c2 hf
    refine lv_iload_n hx hb dX6_behind_9 rfl (lv_at hl 2 rfl) ?_
    refine lv_iconst (v := (0 : Int32)) hx hb dX6_behind_10 (by decide) ?_
    refine lv_iconst (v := (3 : Int32)) hx hb dX6_behind_11 (by decide) ?_
    obtain ⟨r3, e3, hf⟩ := cd_bind_some hf
    refine cd_callS (As := [.int a1, .int (0 : Int32), .int (3 : Int32)]) (rest := []) C0 hw (c_X6_in l G cI cZ sa sb a1 (0 : Int32) (3 : Int32) r3 e3) [] rfl rfl (va_cwS 3 hts gX6_behind_X6_in rfl rfl rfl (by decide +kernel) ⟨Nat.le_of_ble_eq_true rfl, Nat.le_of_ble_eq_true rfl⟩) rfl hl.1 (lv_room (Nat.le_of_ble_eq_true rfl)) dX6_behind_12 (fun H locs hw => ?_)
    refine lv_if_ne (tgt := 21) hx hb dX6_behind_15 (by decide) (fun c4 => ?_) (fun c4 => ?_)
    · have hf := cd_ite_f c4 hf
      refine lv_aload_n hx hb dX6_behind_21 rfl (lv_at hl 0 rfl) ?_
      obtain ⟨r5, e5, hf⟩ := cd_bind_some hf
      refine cd_callVw (As := []) (rest := []) (wr := ([] : va_W)) (wn := (pc_mod cI cZ h r5.2)) C0 hw (c_X6_barOfNights l G cI cZ sa sb h M r5 e5) [0, 1, 2, 3, 4, 5, 6, 7, 8, 9, 10, 11, 12, 13, 14] [] [0, 1, 2, 3, 4, 5, 6, 7, 8, 9, 10, 11, 12, 13, 14] rfl rfl rfl rfl (by decide) rfl rfl 0 6 rfl rfl rfl (cwV 0 hts gX6_behind_X6_barOfNights rfl rfl rfl (by decide +kernel) ⟨Nat.le_of_ble_eq_true rfl, Nat.le_of_ble_eq_true rfl⟩) rfl hl.1 (lv_room (Nat.le_of_ble_eq_true rfl)) dX6_behind_22 (fun H locs hw => ?_)
      refine lv_if_ge (tgt := 31) hx hb dX6_behind_25 (by decide) (fun c6 => ?_) (fun c6 => ?_)
      · have hf := cd_ite_t c6 hf
        refine lv_iload_n hx hb dX6_behind_31 rfl (lv_at hl 2 rfl) ?_
        obtain ⟨x7, e7, hf⟩ := cd_bind_some hf
        have K7 : ∀ (ls : Array Slot) (H : Heap) (locs : List Loc), lv_has ls 3 [] → cd_WS G A s.heap H locs ((pc_mod cI cZ h r5.2)) → W p l e rm_X6_behind s m ag below meth c H locs 0 0 Q (F0 m 89 ls [.int x7]) := by
          intro ls H locs hl hw
          have z : some (x7, r5.2) = some o := hf
          cases z
          rw [hQ]
          exact cd_reti C0 hw dX6_behind_89
        refine lv_if_ne (tgt := 44) hx hb dX6_behind_32 (by decide) (fun c7 => ?_) (fun c7 => ?_)
        · have e7 := cd_ite_f c7 e7
          refine lv_iload_n hx hb dX6_behind_44 rfl (lv_at hl 2 rfl) ?_
          refine lv_iconst (v := (1 : Int32)) hx hb dX6_behind_45 (by decide) ?_
          refine lv_icmp_ne (tgt := 63) hx hb dX6_behind_46 (by decide) (fun c9 => ?_) (fun c9 => ?_)
          · have e7 := cd_ite_f c9 e7
            refine lv_iload_n hx hb dX6_behind_63 rfl (lv_at hl 2 rfl) ?_
            refine lv_iconst (v := (2 : Int32)) hx hb dX6_behind_64 (by decide) ?_
            refine lv_icmp_ne (tgt := 80) hx hb dX6_behind_65 (by decide) (fun c11 => ?_) (fun c11 => ?_)
            · have e7 := cd_ite_f c11 e7
              refine lv_aload_n hx hb dX6_behind_80 rfl (lv_at hl 0 rfl) ?_
              refine va_get (D := G) (ci := 6) (v := .ref (h 2)) (C := RX6) (T := TX6) (N := 22) hx hb hts nw_X6_behind_X6 hown hK hw.1 0 rfl rfl 1 (by decide) hL0 (fun _ h9 => h9) rfl dX6_behind_81 ?_
              refine lv_bipush (v := (24 : Int32)) hx hb dX6_behind_84 (by decide) ?_
              refine lv_iload_n hx hb dX6_behind_86 rfl (lv_at hl 1 rfl) ?_
              refine lv_iadd hx hb dX6_behind_87 ?_
              obtain ⟨v13, e13, e7⟩ := cd_bind_some e7
              refine cd_iald hx hb hK hw 2 rfl e13 dX6_behind_88 ?_
              have z : some v13 = some x7 := e7
              cases z
              exact K7 _ _ _ (lv_sub hl [] rfl) hw
            · have e7 := cd_ite_t c11 e7
              refine lv_aload_n hx hb dX6_behind_68 rfl (lv_at hl 0 rfl) ?_
              refine va_get (D := G) (ci := 6) (v := .ref (h 2)) (C := RX6) (T := TX6) (N := 22) hx hb hts nw_X6_behind_X6 hown hK hw.1 0 rfl rfl 1 (by decide) hL0 (fun _ h9 => h9) rfl dX6_behind_69 ?_
              refine lv_bipush (v := (12 : Int32)) hx hb dX6_behind_72 (by decide) ?_
              refine lv_iload_n hx hb dX6_behind_74 rfl (lv_at hl 1 rfl) ?_
              refine lv_iadd hx hb dX6_behind_75 ?_
              obtain ⟨v12, e12, e7⟩ := cd_bind_some e7
              refine cd_iald hx hb hK hw 2 rfl e12 dX6_behind_76 ?_
              refine lv_goto (tgt := 89) hx hb dX6_behind_77 (by decide) ?_
              have z : some v12 = some x7 := e7
              cases z
              exact K7 _ _ _ (lv_sub hl [] rfl) hw
          · have e7 := cd_ite_t c9 e7
            refine lv_aload_n hx hb dX6_behind_49 rfl (lv_at hl 0 rfl) ?_
            refine va_get (D := G) (ci := 6) (v := .ref (h 2)) (C := RX6) (T := TX6) (N := 22) hx hb hts nw_X6_behind_X6 hown hK hw.1 0 rfl rfl 1 (by decide) hL0 (fun _ h9 => h9) rfl dX6_behind_50 ?_
            refine lv_bipush (v := (66 : Int32)) hx hb dX6_behind_53 (by decide) ?_
            obtain ⟨v10, e10, e7⟩ := cd_bind_some e7
            refine cd_iald hx hb hK hw 2 rfl e10 dX6_behind_55 ?_
            refine lv_iload_n hx hb dX6_behind_56 rfl (lv_at hl 1 rfl) ?_
            refine lv_ishr hx hb dX6_behind_57 ?_
            refine lv_iconst (v := (1 : Int32)) hx hb dX6_behind_58 (by decide) ?_
            refine lv_iand hx hb dX6_behind_59 ?_
            refine lv_goto (tgt := 89) hx hb dX6_behind_60 (by decide) ?_
            have z : some ((v10 >>> (a0 &&& 31)) &&& (1 : Int32)) = some x7 := e7
            cases z
            exact K7 _ _ _ (lv_sub hl [] rfl) hw
        · have e7 := cd_ite_t c7 e7
          refine lv_aload_n hx hb dX6_behind_35 rfl (lv_at hl 0 rfl) ?_
          refine va_get (D := G) (ci := 6) (v := .ref (h 2)) (C := RX6) (T := TX6) (N := 22) hx hb hts nw_X6_behind_X6 hown hK hw.1 0 rfl rfl 1 (by decide) hL0 (fun _ h9 => h9) rfl dX6_behind_36 ?_
          refine lv_iload_n hx hb dX6_behind_39 rfl (lv_at hl 1 rfl) ?_
          obtain ⟨v8, e8, e7⟩ := cd_bind_some e7
          refine cd_iald hx hb hK hw 2 rfl e8 dX6_behind_40 ?_
          refine lv_goto (tgt := 89) hx hb dX6_behind_41 (by decide) ?_
          have z : some v8 = some x7 := e7
          cases z
          exact K7 _ _ _ (lv_sub hl [] rfl) hw
      · have hf := cd_ite_f c6 hf
        refine lv_bipush (v := (-5 : Int32)) hx hb dX6_behind_28 (by decide) ?_
        have z : some ((-5 : Int32), r5.2) = some o := hf
        cases z
        rw [hQ]
        exact cd_reti C0 hw dX6_behind_30
    · have hf := cd_ite_t c4 hf
      refine lv_bipush (v := (-2 : Int32)) hx hb dX6_behind_18 (by decide) ?_
      have z : some ((-2 : Int32), M) = some o := hf
      cases z
      rw [hQ]
      exact cd_reti C0 hw dX6_behind_20
  · have hf := cd_ite_t c2 hf
    refine lv_iconst (v := (-1 : Int32)) hx hb dX6_behind_7 (by decide) ?_
    have z : some ((-1 : Int32), M) = some o := hf
    cases z
    rw [hQ]
    exact cd_reti C0 hw dX6_behind_8
abbrev rm_X6_better : Room := { frames := 0, cells := 0, slots := 0, locals := 0 }
theorem nw_X6_better_X6 : ∀ w ∈ u_ws RX6 TX6 22, w ∈ wsX6_better := by decide +kernel
set_option maxHeartbeats 4000000 in
set_option maxRecDepth 100000 in
theorem c_X6_better (l : Launch) (G : va_G) (cI cZ : ClassId) (sa sb : Nat) (h : Nat → Nat) (M : Nat → Nat → Int32) (a0 : Int32) (a1 : Int32) (o : (Nat → Nat → Int32)) (hf : f_X6_better a0 a1 M = some o) : cd_Ct l G cI cZ sa sb yX6_better wsX6_better rm_X6_better [.ref (h 0), .int a0, .int a1] ((pc_mod cI cZ h M)) ((pc_mod cI cZ h o)) none := by
  refine cd_of (cc := cX6_better) (maxL := 3) (ret := none) (by decide) rfl (Nat.le_of_ble_eq_true rfl) ?_
  intro p e s m ag below meth c A ls Q C0 hl hw hQ
  have C0 : cd_CX G cI cZ sa sb p s m ag meth c cX6_better 3 none wsX6_better RX6 A := C0
  obtain ⟨⟨hx, hb, hml, hown, hts⟩, hr, hlocks, hA, hE⟩ := id C0
  have hK := hE.1
  have hL0 := hts (.fieldLink RX6 28 "CandleDebtsModel" "when" "[I") (by decide +kernel)
  have hl : lv_has ls 3 [(0, .ref (h 0)), (1, .int a0), (2, .int a1)] := hl
  unfold f_X6_better at hf
  refine lv_aload_n hx hb dX6_better_0 rfl (lv_at hl 0 rfl) ?_
  refine va_get (D := G) (ci := 6) (v := .ref (h 7)) (C := RX6) (T := TX6) (N := 22) hx hb hts nw_X6_better_X6 hown hK hw.1 0 rfl rfl 14 (by decide) hL0 (fun _ h9 => h9) rfl dX6_better_1 ?_
  refine lv_iload_n hx hb dX6_better_4 rfl (lv_at hl 1 rfl) ?_
  refine lv_iload_n hx hb dX6_better_5 rfl (lv_at hl 2 rfl) ?_
  refine lv_aload_n hx hb dX6_better_6 rfl (lv_at hl 0 rfl) ?_
  refine va_get (D := G) (ci := 6) (v := .ref (h 7)) (C := RX6) (T := TX6) (N := 22) hx hb hts nw_X6_better_X6 hown hK hw.1 0 rfl rfl 14 (by decide) hL0 (fun _ h9 => h9) rfl dX6_better_7 ?_
  refine lv_iload_n hx hb dX6_better_10 rfl (lv_at hl 1 rfl) ?_
  obtain ⟨v1, e1, hf⟩ := cd_bind_some hf
  refine cd_iald hx hb hK hw 7 rfl e1 dX6_better_11 ?_
  obtain ⟨x2, e2, hf⟩ := cd_bind_some hf
  have K2 : ∀ (ls : Array Slot) (H : Heap) (locs : List Loc), lv_has ls 3 [] → cd_WS G A s.heap H locs ((pc_mod cI cZ h M)) → W p l e rm_X6_better s m ag below meth c H locs 0 0 Q (F0 m 25 ls [.int x2, .int a0, .ref (h 7)]) := by
    intro ls H locs hl hw
    obtain ⟨j3, e3, hf⟩ := cd_bind_some hf
    refine cd_iast (f := M 14) hx hb hK hw 7 rfl e3 dX6_better_25 (fun H locs hw => ?_)
    have hw : cd_WS G A s.heap H locs ((pc_mod cI cZ h (cd_set M 14 j3 x2))) := (show ∀ (s9 : Nat → Nat → Int32) (y9 : Int32), cd_WS G A s.heap H locs (((pc_mod cI cZ h s9)).set 7 (h 7, .inl (cI, 288, .inl (upd (s9 14) j3 y9)))) → cd_WS G A s.heap H locs ((pc_mod cI cZ h (cd_set s9 14 j3 y9))) from fun _ _ hh => hh) M x2 hw
    have z : some (cd_set M 14 j3 x2) = some o := hf
    cases z
    rw [hQ]
    exact cd_retv C0 hw dX6_better_26
  refine lv_icmp_ge (tgt := 19) hx hb dX6_better_12 (by decide) (fun c2 => ?_) (fun c2 => ?_)
  · have e2 := cd_ite_t c2 e2
    refine lv_aload_n hx hb dX6_better_19 rfl (lv_at hl 0 rfl) ?_
    refine va_get (D := G) (ci := 6) (v := .ref (h 7)) (C := RX6) (T := TX6) (N := 22) hx hb hts nw_X6_better_X6 hown hK hw.1 0 rfl rfl 14 (by decide) hL0 (fun _ h9 => h9) rfl dX6_better_20 ?_
    refine lv_iload_n hx hb dX6_better_23 rfl (lv_at hl 1 rfl) ?_
    obtain ⟨v4, e4, e2⟩ := cd_bind_some e2
    refine cd_iald hx hb hK hw 7 rfl e4 dX6_better_24 ?_
    have z : some v4 = some x2 := e2
    cases z
    exact K2 _ _ _ (lv_sub hl [] rfl) hw
  · have e2 := cd_ite_f c2 e2
    refine lv_iload_n hx hb dX6_better_15 rfl (lv_at hl 2 rfl) ?_
    refine lv_goto (tgt := 25) hx hb dX6_better_16 (by decide) ?_
    have z : some a1 = some x2 := e2
    cases z
    exact K2 _ _ _ (lv_sub hl [] rfl) hw
abbrev rm_X6_isOne : Room := { frames := 1, cells := 0, slots := 0, locals := 22 }
set_option maxHeartbeats 4000000 in
set_option maxRecDepth 100000 in
theorem c_X6_isOne (l : Launch) (G : va_G) (cI cZ : ClassId) (sa sb : Nat) (a0 : Int32) (o : Int32) (hf : f_X6_isOne a0 = some o) : cd_Ct l G cI cZ sa sb yX6_isOne wsX6_isOne rm_X6_isOne [.int a0] (([] : va_W)) (([] : va_W)) (some (.int o)) := by
  refine cd_of (cc := cX6_isOne) (maxL := 1) (ret := (some .boolean)) (by decide) rfl (Nat.le_of_ble_eq_true rfl) ?_
  intro p e s m ag below meth c A ls Q C0 hl hw hQ
  have C0 : cd_CX G cI cZ sa sb p s m ag meth c cX6_isOne 1 (some .boolean) wsX6_isOne RX6 A := C0
  obtain ⟨⟨hx, hb, hml, hown, hts⟩, hr, hlocks, hA, hE⟩ := id C0
  have hK := hE.1
  have hl : lv_has ls 1 [(0, .int a0)] := hl
  unfold f_X6_isOne at hf
  refine lv_iload_n hx hb dX6_isOne_0 rfl (lv_at hl 0 rfl) ?_
  refine lv_iconst (v := (0 : Int32)) hx hb dX6_isOne_1 (by decide) ?_
  refine lv_iconst (v := (5 : Int32)) hx hb dX6_isOne_2 (by decide) ?_
  obtain ⟨r1, e1, hf⟩ := cd_bind_some hf
  refine cd_callS (As := [.int a0, .int (0 : Int32), .int (5 : Int32)]) (rest := []) C0 hw (c_X6_in l G cI cZ sa sb a0 (0 : Int32) (5 : Int32) r1 e1) [] rfl rfl (va_cwS 3 hts gX6_isOne_X6_in rfl rfl rfl (by decide +kernel) ⟨Nat.le_of_ble_eq_true rfl, Nat.le_of_ble_eq_true rfl⟩) rfl hl.1 (lv_room (Nat.le_of_ble_eq_true rfl)) dX6_isOne_3 (fun H locs hw => ?_)
  obtain ⟨u2, e2, hf⟩ := cd_bind_some hf
  have z : some r1 = some o := hf
  cases z
  rw [hQ]
  exact cd_retz C0 hw (cd_zb_eq e2) dX6_isOne_6
abbrev rm_X6_candle : Room := { frames := 2, cells := 0, slots := 0, locals := 42 }
theorem nw_X6_candle_X6 : ∀ w ∈ u_ws RX6 TX6 22, w ∈ wsX6_candle := by decide +kernel
set_option maxHeartbeats 4000000 in
set_option maxRecDepth 100000 in
theorem c_X6_candle (l : Launch) (G : va_G) (cI cZ : ClassId) (sa sb : Nat) (h : Nat → Nat) (M : Nat → Nat → Int32) (a0 : Int32) (a1 : Int32) (a2 : Int32) (a3 : Int32) (a4 : Int32) (o : Int32 × (Nat → Nat → Int32)) (hf : f_X6_candle a0 a1 a2 a3 a4 M = some o) : cd_Ct l G cI cZ sa sb yX6_candle wsX6_candle rm_X6_candle [.ref (h 0), .int a0, .int a1, .int a2, .int a3, .int a4] ((pc_mod cI cZ h M)) ((pc_mod cI cZ h o.2)) (some (.int o.1)) := by
  refine cd_of (cc := cX6_candle) (maxL := 8) (ret := (some .int)) (by decide) rfl (Nat.le_of_ble_eq_true rfl) ?_
  intro p e s m ag below meth c A ls Q C0 hl hw hQ
  have C0 : cd_CX G cI cZ sa sb p s m ag meth c cX6_candle 8 (some .int) wsX6_candle RX6 A := C0
  obtain ⟨⟨hx, hb, hml, hown, hts⟩, hr, hlocks, hA, hE⟩ := id C0
  have hK := hE.1
  have hL0 := hts (.fieldLink RX6 7 "CandleDebtsModel" "book" "[I") (by decide +kernel)
  have hL1 := hts (.fieldLink RX6 13 "CandleDebtsModel" "now" "[I") (by decide +kernel)
  have hL2 := hts (.fieldLink RX6 16 "CandleDebtsModel" "creditor" "[I") (by decide +kernel)
  have hL3 := hts (.fieldLink RX6 19 "CandleDebtsModel" "debtor" "[I") (by decide +kernel)
  have hl : lv_has ls 8 [(0, .ref (h 0)), (1, .int a0), (2, .int a1), (3, .int a2), (4, .int a3), (5, .int a4)] := hl
  unfold f_X6_candle at hf
  refine lv_iload_n hx hb dX6_candle_0 rfl (lv_at hl 1 rfl) ?_
  obtain ⟨r1, e1, hf⟩ := cd_bind_some hf
  refine cd_callS (As := [.int a0]) (rest := []) C0 hw (c_X6_isCandle l G cI cZ sa sb a0 r1 e1) [] rfl rfl (va_cwS 1 hts gX6_candle_X6_isCandle rfl rfl rfl (by decide +kernel) ⟨Nat.le_of_ble_eq_true rfl, Nat.le_of_ble_eq_true rfl⟩) rfl hl.1 (lv_room (Nat.le_of_ble_eq_true rfl)) dX6_candle_1 (fun H locs hw => ?_)
  refine lv_if_eq (tgt := 22) hx hb dX6_candle_4 (by decide) (fun c2 => ?_) (fun c2 => ?_)
  · have hf := cd_ite_t c2 hf
    refine lv_iconst (v := (-1 : Int32)) hx hb dX6_candle_22 (by decide) ?_
    have z : some ((-1 : Int32), M) = some o := hf
    cases z
    rw [hQ]
    exact cd_reti C0 hw dX6_candle_23
  · have hf := cd_ite_f c2 hf
    refine lv_iload_n hx hb dX6_candle_7 rfl (lv_at hl 3 rfl) ?_
    obtain ⟨r3, e3, hf⟩ := cd_bind_some hf
    refine cd_callS (As := [.int a2]) (rest := []) C0 hw (c_X6_isOne l G cI cZ sa sb a2 r3 e3) [] rfl rfl (va_cwS 1 hts gX6_candle_X6_isOne rfl rfl rfl (by decide +kernel) ⟨Nat.le_of_ble_eq_true rfl, Nat.le_of_ble_eq_true rfl⟩) rfl hl.1 (lv_room (Nat.le_of_ble_eq_true rfl)) dX6_candle_8 (fun H locs hw => ?_)
    refine lv_if_eq (tgt := 22) hx hb dX6_candle_11 (by decide) (fun c4 => ?_) (fun c4 => ?_)
    · have hf := cd_ite_t c4 hf
      refine lv_iconst (v := (-1 : Int32)) hx hb dX6_candle_22 (by decide) ?_
      have z : some ((-1 : Int32), M) = some o := hf
      cases z
      rw [hQ]
      exact cd_reti C0 hw dX6_candle_23
    · have hf := cd_ite_f c4 hf
      refine lv_iload hx hb dX6_candle_14 (lv_at hl 4 rfl) ?_
      obtain ⟨r5, e5, hf⟩ := cd_bind_some hf
      refine cd_callS (As := [.int a3]) (rest := []) C0 hw (c_X6_isOne l G cI cZ sa sb a3 r5 e5) [] rfl rfl (va_cwS 1 hts gX6_candle_X6_isOne rfl rfl rfl (by decide +kernel) ⟨Nat.le_of_ble_eq_true rfl, Nat.le_of_ble_eq_true rfl⟩) rfl hl.1 (lv_room (Nat.le_of_ble_eq_true rfl)) dX6_candle_16 (fun H locs hw => ?_)
      refine lv_if_ne (tgt := 24) hx hb dX6_candle_19 (by decide) (fun c6 => ?_) (fun c6 => ?_)
      · have hf := cd_ite_f c6 hf
        refine lv_iload_n hx hb dX6_candle_24 rfl (lv_at hl 2 rfl) ?_
        refine lv_iconst (v := (0 : Int32)) hx hb dX6_candle_25 (by decide) ?_
        refine lv_sipush (v := (999 : Int32)) hx hb dX6_candle_26 (by decide) ?_
        obtain ⟨r7, e7, hf⟩ := cd_bind_some hf
        refine cd_callS (As := [.int a1, .int (0 : Int32), .int (999 : Int32)]) (rest := []) C0 hw (c_X6_in l G cI cZ sa sb a1 (0 : Int32) (999 : Int32) r7 e7) [] rfl rfl (va_cwS 3 hts gX6_candle_X6_in rfl rfl rfl (by decide +kernel) ⟨Nat.le_of_ble_eq_true rfl, Nat.le_of_ble_eq_true rfl⟩) rfl hl.1 (lv_room (Nat.le_of_ble_eq_true rfl)) dX6_candle_29 (fun H locs hw => ?_)
        refine lv_if_eq (tgt := 47) hx hb dX6_candle_32 (by decide) (fun c8 => ?_) (fun c8 => ?_)
        · have hf := cd_ite_t c8 hf
          refine lv_bipush (v := (-2 : Int32)) hx hb dX6_candle_47 (by decide) ?_
          have z : some ((-2 : Int32), M) = some o := hf
          cases z
          rw [hQ]
          exact cd_reti C0 hw dX6_candle_49
        · have hf := cd_ite_f c8 hf
          refine lv_iload hx hb dX6_candle_35 (lv_at hl 5 rfl) ?_
          refine lv_iconst (v := (0 : Int32)) hx hb dX6_candle_37 (by decide) ?_
          refine lv_sipush (v := (999 : Int32)) hx hb dX6_candle_38 (by decide) ?_
          obtain ⟨r9, e9, hf⟩ := cd_bind_some hf
          refine cd_callS (As := [.int a4, .int (0 : Int32), .int (999 : Int32)]) (rest := []) C0 hw (c_X6_in l G cI cZ sa sb a4 (0 : Int32) (999 : Int32) r9 e9) [] rfl rfl (va_cwS 3 hts gX6_candle_X6_in rfl rfl rfl (by decide +kernel) ⟨Nat.le_of_ble_eq_true rfl, Nat.le_of_ble_eq_true rfl⟩) rfl hl.1 (lv_room (Nat.le_of_ble_eq_true rfl)) dX6_candle_41 (fun H locs hw => ?_)
          refine lv_if_ne (tgt := 50) hx hb dX6_candle_44 (by decide) (fun c10 => ?_) (fun c10 => ?_)
          · have hf := cd_ite_f c10 hf
            refine lv_aload_n hx hb dX6_candle_50 rfl (lv_at hl 0 rfl) ?_
            refine va_get (D := G) (ci := 6) (v := .ref (h 1)) (C := RX6) (T := TX6) (N := 22) hx hb hts nw_X6_candle_X6 hown hK hw.1 0 rfl rfl 0 (by decide) hL0 (fun _ h9 => h9) rfl dX6_candle_51 ?_
            refine lv_iload_n hx hb dX6_candle_54 rfl (lv_at hl 1 rfl) ?_
            obtain ⟨v11, e11, hf⟩ := cd_bind_some hf
            refine cd_iald hx hb hK hw 1 rfl e11 dX6_candle_55 ?_
            refine lv_istore (lv' := [(6, .int v11), (0, .ref (h 0)), (1, .int a0), (2, .int a1), (3, .int a2), (4, .int a3), (5, .int a4)]) hx hb dX6_candle_56 hl (by decide) rfl (fun ls hl => ?_)
            refine lv_aload_n hx hb dX6_candle_58 rfl (lv_at hl 1 rfl) ?_
            obtain ⟨r12, e12, hf⟩ := cd_bind_some hf
            refine cd_callVw (As := []) (rest := []) (wr := ([] : va_W)) (wn := (pc_mod cI cZ h r12)) C0 hw (c_X6_asNow l G cI cZ sa sb h M r12 e12) [0, 1, 2, 3, 4, 5, 6, 7, 8, 9, 10, 11, 12, 13, 14] [] [0, 1, 2, 3, 4, 5, 6, 7, 8, 9, 10, 11, 12, 13, 14] rfl rfl rfl rfl (by decide) rfl rfl 0 6 rfl rfl rfl (cwV 0 hts gX6_candle_X6_asNow rfl rfl rfl (by decide +kernel) ⟨Nat.le_of_ble_eq_true rfl, Nat.le_of_ble_eq_true rfl⟩) rfl hl.1 (lv_room (Nat.le_of_ble_eq_true rfl)) dX6_candle_59 (fun H locs hw => ?_)
            refine lv_aload_n hx hb dX6_candle_62 rfl (lv_at hl 1 rfl) ?_
            refine lv_iload_n hx hb dX6_candle_63 rfl (lv_at hl 2 rfl) ?_
            obtain ⟨r13, e13, hf⟩ := cd_bind_some hf
            refine cd_callVw (As := [.int a0]) (rest := []) (wr := ([] : va_W)) (wn := (pc_mod cI cZ h r13)) C0 hw (c_X6_leaveJoined l G cI cZ sa sb h r12 a0 r13 e13) [0, 1, 2, 3, 4, 5, 6, 7, 8, 9, 10, 11, 12, 13, 14] [] [0, 1, 2, 3, 4, 5, 6, 7, 8, 9, 10, 11, 12, 13, 14] rfl rfl rfl rfl (by decide) rfl rfl 0 6 rfl rfl rfl (cwV 1 hts gX6_candle_X6_leaveJoined rfl rfl rfl (by decide +kernel) ⟨Nat.le_of_ble_eq_true rfl, Nat.le_of_ble_eq_true rfl⟩) rfl hl.1 (lv_room (Nat.le_of_ble_eq_true rfl)) dX6_candle_64 (fun H locs hw => ?_)
            refine lv_bipush (v := (48 : Int32)) hx hb dX6_candle_67 (by decide) ?_
            refine lv_istore (lv' := [(7, .int (48 : Int32)), (6, .int v11), (0, .ref (h 0)), (1, .int a0), (2, .int a1), (3, .int a2), (4, .int a3), (5, .int a4)]) hx hb dX6_candle_69 hl (by decide) rfl (fun ls hl => ?_)
            obtain ⟨x14, e14, hf⟩ := cd_bind_some hf
            have K14 : ∀ (t14 : (Nat → Nat → Int32)), t14 = x14 → ∀ (ls : Array Slot) (H : Heap) (locs : List Loc), lv_has ls 8 [(0, .ref (h 0)), (1, .int a0), (2, .int a1), (3, .int a2), (4, .int a3), (5, .int a4), (6, .int v11)] → cd_WS G A s.heap H locs ((pc_mod cI cZ h t14)) → W p l e rm_X6_candle s m ag below meth c H locs 0 0 Q (F0 m 98 ls []) := by
              intro t14 hs_14
              subst hs_14
              intro ls H locs hl hw
              refine lv_aload_n hx hb dX6_candle_98 rfl (lv_at hl 0 rfl) ?_
              refine va_get (D := G) (ci := 6) (v := .ref (h 1)) (C := RX6) (T := TX6) (N := 22) hx hb hts nw_X6_candle_X6 hown hK hw.1 0 rfl rfl 0 (by decide) hL0 (fun _ h9 => h9) rfl dX6_candle_99 ?_
              refine lv_iload_n hx hb dX6_candle_102 rfl (lv_at hl 1 rfl) ?_
              refine lv_iload_n hx hb dX6_candle_103 rfl (lv_at hl 2 rfl) ?_
              obtain ⟨j18, e18, hf⟩ := cd_bind_some hf
              refine cd_iast (f := t14 0) hx hb hK hw 1 rfl e18 dX6_candle_104 (fun H locs hw => ?_)
              have hw : cd_WS G A s.heap H locs ((pc_mod cI cZ h (cd_set t14 0 j18 a1))) := (show ∀ (s9 : Nat → Nat → Int32) (y9 : Int32), cd_WS G A s.heap H locs (((pc_mod cI cZ h s9)).set 1 (h 1, .inl (cI, 69, .inl (upd (s9 0) j18 y9)))) → cd_WS G A s.heap H locs ((pc_mod cI cZ h (cd_set s9 0 j18 y9))) from fun _ _ hh => hh) t14 a1 hw
              refine lv_aload_n hx hb dX6_candle_105 rfl (lv_at hl 0 rfl) ?_
              refine va_get (D := G) (ci := 6) (v := .ref (h 1)) (C := RX6) (T := TX6) (N := 22) hx hb hts nw_X6_candle_X6 hown hK hw.1 0 rfl rfl 0 (by decide) hL0 (fun _ h9 => h9) rfl dX6_candle_106 ?_
              refine lv_bipush (v := (12 : Int32)) hx hb dX6_candle_109 (by decide) ?_
              refine lv_iload_n hx hb dX6_candle_111 rfl (lv_at hl 1 rfl) ?_
              refine lv_iadd hx hb dX6_candle_112 ?_
              refine lv_iload hx hb dX6_candle_113 (lv_at hl 5 rfl) ?_
              obtain ⟨j19, e19, hf⟩ := cd_bind_some hf
              refine cd_iast (f := (cd_set t14 0 j18 a1) 0) hx hb hK hw 1 rfl e19 dX6_candle_115 (fun H locs hw => ?_)
              have hw : cd_WS G A s.heap H locs ((pc_mod cI cZ h (cd_set (cd_set t14 0 j18 a1) 0 j19 a4))) := (show ∀ (s9 : Nat → Nat → Int32) (y9 : Int32), cd_WS G A s.heap H locs (((pc_mod cI cZ h s9)).set 1 (h 1, .inl (cI, 69, .inl (upd (s9 0) j19 y9)))) → cd_WS G A s.heap H locs ((pc_mod cI cZ h (cd_set s9 0 j19 y9))) from fun _ _ hh => hh) (cd_set t14 0 j18 a1) a4 hw
              refine lv_aload_n hx hb dX6_candle_116 rfl (lv_at hl 0 rfl) ?_
              refine va_get (D := G) (ci := 6) (v := .ref (h 1)) (C := RX6) (T := TX6) (N := 22) hx hb hts nw_X6_candle_X6 hown hK hw.1 0 rfl rfl 0 (by decide) hL0 (fun _ h9 => h9) rfl dX6_candle_117 ?_
              refine lv_bipush (v := (24 : Int32)) hx hb dX6_candle_120 (by decide) ?_
              refine lv_iload_n hx hb dX6_candle_122 rfl (lv_at hl 1 rfl) ?_
              refine lv_iadd hx hb dX6_candle_123 ?_
              refine lv_iconst (v := (0 : Int32)) hx hb dX6_candle_124 (by decide) ?_
              obtain ⟨j20, e20, hf⟩ := cd_bind_some hf
              refine cd_iast (f := (cd_set (cd_set t14 0 j18 a1) 0 j19 a4) 0) hx hb hK hw 1 rfl e20 dX6_candle_125 (fun H locs hw => ?_)
              have hw : cd_WS G A s.heap H locs ((pc_mod cI cZ h (cd_set (cd_set (cd_set t14 0 j18 a1) 0 j19 a4) 0 j20 (0 : Int32)))) := (show ∀ (s9 : Nat → Nat → Int32) (y9 : Int32), cd_WS G A s.heap H locs (((pc_mod cI cZ h s9)).set 1 (h 1, .inl (cI, 69, .inl (upd (s9 0) j20 y9)))) → cd_WS G A s.heap H locs ((pc_mod cI cZ h (cd_set s9 0 j20 y9))) from fun _ _ hh => hh) (cd_set (cd_set t14 0 j18 a1) 0 j19 a4) (0 : Int32) hw
              refine lv_aload_n hx hb dX6_candle_126 rfl (lv_at hl 0 rfl) ?_
              refine va_get (D := G) (ci := 6) (v := .ref (h 1)) (C := RX6) (T := TX6) (N := 22) hx hb hts nw_X6_candle_X6 hown hK hw.1 0 rfl rfl 0 (by decide) hL0 (fun _ h9 => h9) rfl dX6_candle_127 ?_
              refine lv_bipush (v := (66 : Int32)) hx hb dX6_candle_130 (by decide) ?_
              refine lv_dup2_11 hx hb dX6_candle_132 rfl rfl ?_
              obtain ⟨v21, e21, hf⟩ := cd_bind_some hf
              refine cd_iald hx hb hK hw 1 rfl e21 dX6_candle_133 ?_
              refine lv_iconst (v := (1 : Int32)) hx hb dX6_candle_134 (by decide) ?_
              refine lv_iload_n hx hb dX6_candle_135 rfl (lv_at hl 1 rfl) ?_
              refine lv_ishl hx hb dX6_candle_136 ?_
              refine lv_iconst (v := (-1 : Int32)) hx hb dX6_candle_137 (by decide) ?_
              refine lv_ixor hx hb dX6_candle_138 ?_
              refine lv_iand hx hb dX6_candle_139 ?_
              obtain ⟨j22, e22, hf⟩ := cd_bind_some hf
              refine cd_iast (f := (cd_set (cd_set (cd_set t14 0 j18 a1) 0 j19 a4) 0 j20 (0 : Int32)) 0) hx hb hK hw 1 rfl e22 dX6_candle_140 (fun H locs hw => ?_)
              have hw : cd_WS G A s.heap H locs ((pc_mod cI cZ h (cd_set (cd_set (cd_set (cd_set t14 0 j18 a1) 0 j19 a4) 0 j20 (0 : Int32)) 0 j22 (v21 &&& (((1 : Int32) <<< (a0 &&& 31)) ^^^ (-1 : Int32)))))) := (show ∀ (s9 : Nat → Nat → Int32) (y9 : Int32), cd_WS G A s.heap H locs (((pc_mod cI cZ h s9)).set 1 (h 1, .inl (cI, 69, .inl (upd (s9 0) j22 y9)))) → cd_WS G A s.heap H locs ((pc_mod cI cZ h (cd_set s9 0 j22 y9))) from fun _ _ hh => hh) (cd_set (cd_set (cd_set t14 0 j18 a1) 0 j19 a4) 0 j20 (0 : Int32)) (v21 &&& (((1 : Int32) <<< (a0 &&& 31)) ^^^ (-1 : Int32))) hw
              refine lv_aload_n hx hb dX6_candle_141 rfl (lv_at hl 0 rfl) ?_
              refine va_get (D := G) (ci := 6) (v := .ref (h 3)) (C := RX6) (T := TX6) (N := 22) hx hb hts nw_X6_candle_X6 hown hK hw.1 0 rfl rfl 2 (by decide) hL2 (fun _ h9 => h9) rfl dX6_candle_142 ?_
              refine lv_iload_n hx hb dX6_candle_145 rfl (lv_at hl 1 rfl) ?_
              refine lv_iload_n hx hb dX6_candle_146 rfl (lv_at hl 3 rfl) ?_
              obtain ⟨j23, e23, hf⟩ := cd_bind_some hf
              refine cd_iast (f := (cd_set (cd_set (cd_set (cd_set t14 0 j18 a1) 0 j19 a4) 0 j20 (0 : Int32)) 0 j22 (v21 &&& (((1 : Int32) <<< (a0 &&& 31)) ^^^ (-1 : Int32)))) 2) hx hb hK hw 3 rfl e23 dX6_candle_147 (fun H locs hw => ?_)
              have hw : cd_WS G A s.heap H locs ((pc_mod cI cZ h (cd_set (cd_set (cd_set (cd_set (cd_set t14 0 j18 a1) 0 j19 a4) 0 j20 (0 : Int32)) 0 j22 (v21 &&& (((1 : Int32) <<< (a0 &&& 31)) ^^^ (-1 : Int32)))) 2 j23 a2))) := (show ∀ (s9 : Nat → Nat → Int32) (y9 : Int32), cd_WS G A s.heap H locs (((pc_mod cI cZ h s9)).set 3 (h 3, .inl (cI, 12, .inl (upd (s9 2) j23 y9)))) → cd_WS G A s.heap H locs ((pc_mod cI cZ h (cd_set s9 2 j23 y9))) from fun _ _ hh => hh) (cd_set (cd_set (cd_set (cd_set t14 0 j18 a1) 0 j19 a4) 0 j20 (0 : Int32)) 0 j22 (v21 &&& (((1 : Int32) <<< (a0 &&& 31)) ^^^ (-1 : Int32)))) a2 hw
              refine lv_aload_n hx hb dX6_candle_148 rfl (lv_at hl 0 rfl) ?_
              refine va_get (D := G) (ci := 6) (v := .ref (h 4)) (C := RX6) (T := TX6) (N := 22) hx hb hts nw_X6_candle_X6 hown hK hw.1 0 rfl rfl 3 (by decide) hL3 (fun _ h9 => h9) rfl dX6_candle_149 ?_
              refine lv_iload_n hx hb dX6_candle_152 rfl (lv_at hl 1 rfl) ?_
              refine lv_iload hx hb dX6_candle_153 (lv_at hl 4 rfl) ?_
              obtain ⟨j24, e24, hf⟩ := cd_bind_some hf
              refine cd_iast (f := (cd_set (cd_set (cd_set (cd_set (cd_set t14 0 j18 a1) 0 j19 a4) 0 j20 (0 : Int32)) 0 j22 (v21 &&& (((1 : Int32) <<< (a0 &&& 31)) ^^^ (-1 : Int32)))) 2 j23 a2) 3) hx hb hK hw 4 rfl e24 dX6_candle_155 (fun H locs hw => ?_)
              have hw : cd_WS G A s.heap H locs ((pc_mod cI cZ h (cd_set (cd_set (cd_set (cd_set (cd_set (cd_set t14 0 j18 a1) 0 j19 a4) 0 j20 (0 : Int32)) 0 j22 (v21 &&& (((1 : Int32) <<< (a0 &&& 31)) ^^^ (-1 : Int32)))) 2 j23 a2) 3 j24 a3))) := (show ∀ (s9 : Nat → Nat → Int32) (y9 : Int32), cd_WS G A s.heap H locs (((pc_mod cI cZ h s9)).set 4 (h 4, .inl (cI, 12, .inl (upd (s9 3) j24 y9)))) → cd_WS G A s.heap H locs ((pc_mod cI cZ h (cd_set s9 3 j24 y9))) from fun _ _ hh => hh) (cd_set (cd_set (cd_set (cd_set (cd_set t14 0 j18 a1) 0 j19 a4) 0 j20 (0 : Int32)) 0 j22 (v21 &&& (((1 : Int32) <<< (a0 &&& 31)) ^^^ (-1 : Int32)))) 2 j23 a2) a3 hw
              refine lv_iload hx hb dX6_candle_156 (lv_at hl 6 rfl) ?_
              have z : some (v11, (cd_set (cd_set (cd_set (cd_set (cd_set (cd_set t14 0 j18 a1) 0 j19 a4) 0 j20 (0 : Int32)) 0 j22 (v21 &&& (((1 : Int32) <<< (a0 &&& 31)) ^^^ (-1 : Int32)))) 2 j23 a2) 3 j24 a3)) = some o := hf
              cases z
              rw [hQ]
              exact cd_reti C0 hw dX6_candle_158
            refine cd_iter_ind (body := f_X6_candle_b71) (K := fun r => r = x14) (P := fun (z14 : Int32 × (Nat → Nat → Int32)) => ∀ (ls : Array Slot) (H : Heap) (locs : List Loc), lv_has ls 8 [(0, .ref (h 0)), (1, .int a0), (2, .int a1), (3, .int a2), (4, .int a3), (5, .int a4), (6, .int v11), (7, .int z14.1)] → cd_WS G A s.heap H locs ((pc_mod cI cZ h z14.2)) → W p l e rm_X6_candle s m ag below meth c H locs 0 0 Q (F0 m 71 ls [])) ?_ cd_N ((48 : Int32), r13) x14 e14 rfl _ _ _ (lv_sub hl [2, 3, 4, 5, 6, 7, 1, 0] rfl) hw
            intro z14 o14 hb14 hk14 ls H locs hl hw
            unfold f_X6_candle_b71 at hb14
            refine lv_iload hx hb dX6_candle_71 (lv_at hl 7 rfl) ?_
            refine lv_bipush (v := (60 : Int32)) hx hb dX6_candle_73 (by decide) ?_
            refine lv_icmp_ge (tgt := 98) hx hb dX6_candle_75 (by decide) (fun c15 => ?_) (fun c15 => ?_)
            · have hb14 := cd_ite_t c15 hb14
              have z : some (Sum.inl z14.2) = some o14 := hb14
              cases z
              exact K14 _ hk14 _ _ _ (lv_sub hl [0, 1, 2, 3, 4, 5, 6] rfl) hw
            · have hb14 := cd_ite_f c15 hb14
              refine lv_aload_n hx hb dX6_candle_78 rfl (lv_at hl 0 rfl) ?_
              refine va_get (D := G) (ci := 6) (v := .ref (h 1)) (C := RX6) (T := TX6) (N := 22) hx hb hts nw_X6_candle_X6 hown hK hw.1 0 rfl rfl 0 (by decide) hL0 (fun _ h9 => h9) rfl dX6_candle_79 ?_
              refine lv_iload hx hb dX6_candle_82 (lv_at hl 7 rfl) ?_
              refine lv_aload_n hx hb dX6_candle_84 rfl (lv_at hl 0 rfl) ?_
              refine va_get (D := G) (ci := 6) (v := .ref (h 2)) (C := RX6) (T := TX6) (N := 22) hx hb hts nw_X6_candle_X6 hown hK hw.1 0 rfl rfl 1 (by decide) hL1 (fun _ h9 => h9) rfl dX6_candle_85 ?_
              refine lv_iload hx hb dX6_candle_88 (lv_at hl 7 rfl) ?_
              obtain ⟨v16, e16, hb14⟩ := cd_bind_some hb14
              refine cd_iald hx hb hK hw 2 rfl e16 dX6_candle_90 ?_
              obtain ⟨j17, e17, hb14⟩ := cd_bind_some hb14
              refine cd_iast (f := z14.2 0) hx hb hK hw 1 rfl e17 dX6_candle_91 (fun H locs hw => ?_)
              have hw : cd_WS G A s.heap H locs ((pc_mod cI cZ h (cd_set z14.2 0 j17 v16))) := (show ∀ (s9 : Nat → Nat → Int32) (y9 : Int32), cd_WS G A s.heap H locs (((pc_mod cI cZ h s9)).set 1 (h 1, .inl (cI, 69, .inl (upd (s9 0) j17 y9)))) → cd_WS G A s.heap H locs ((pc_mod cI cZ h (cd_set s9 0 j17 y9))) from fun _ _ hh => hh) z14.2 v16 hw
              refine lv_iinc (v := (z14.1 + (1 : Int32))) (lv' := [(7, .int (z14.1 + (1 : Int32))), (0, .ref (h 0)), (1, .int a0), (2, .int a1), (3, .int a2), (4, .int a3), (5, .int a4), (6, .int v11)]) hx hb dX6_candle_92 hl (k := 7) rfl rfl (by decide) rfl (fun ls hl => ?_)
              refine lv_goto (tgt := 71) hx hb dX6_candle_95 (by decide) ?_
              have z : some (Sum.inr ((z14.1 + (1 : Int32)), (cd_set z14.2 0 j17 v16))) = some o14 := hb14
              cases z
              exact hk14 _ _ _ (lv_sub hl [1, 2, 3, 4, 5, 6, 7, 0] rfl) hw
          · have hf := cd_ite_t c10 hf
            refine lv_bipush (v := (-2 : Int32)) hx hb dX6_candle_47 (by decide) ?_
            have z : some ((-2 : Int32), M) = some o := hf
            cases z
            rw [hQ]
            exact cd_reti C0 hw dX6_candle_49
      · have hf := cd_ite_t c6 hf
        refine lv_iconst (v := (-1 : Int32)) hx hb dX6_candle_22 (by decide) ?_
        have z : some ((-1 : Int32), M) = some o := hf
        cases z
        rw [hQ]
        exact cd_reti C0 hw dX6_candle_23
