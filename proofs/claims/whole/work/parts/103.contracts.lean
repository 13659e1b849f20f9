abbrev rm_X3_place : Room := { frames := 2, cells := 0, slots := 0, locals := 42 }
theorem nw_X3_place_X3 : ∀ w ∈ u_ws RX3 TX3 14, w ∈ wsX3_place := by decide +kernel
set_option maxHeartbeats 4000000 in
set_option maxRecDepth 100000 in
theorem c_X3_place (l : Launch) (G : va_G) (cI cZ : ClassId) (sa sb : Nat) (h : Nat → Nat) (T : Nat → Nat → Int32) (a0 : Int32) (a1 : Int32) (a2 : Int32) (a3 : Int32) (a4 : Int32) (o : (Nat → Nat → Int32)) (hf : f_X3_place a0 a1 a2 a3 a4 T = some o) : cd_Ct l G cI cZ sa sb yX3_place wsX3_place rm_X3_place [.ref (h 0), .int a0, .int a1, .int a2, .int a3, .int a4] ((pc_town cI h T)) ((pc_town cI h o)) none := by
  refine cd_of (cc := cX3_place) (maxL := 6) (ret := none) (by decide) rfl (Nat.le_of_ble_eq_true rfl) ?_
  intro p e s m ag below meth c A ls Q C0 hl hw hQ
  have C0 : cd_CX G cI cZ sa sb p s m ag meth c cX3_place 6 none wsX3_place RX3 A := C0
  obtain ⟨⟨hx, hb, hml, hown, hts⟩, hr, hlocks, hA, hE⟩ := id C0
  have hK := hE.1
  have hL0 := hts (.fieldLink RX3 9 "CandleDebts$Town" "wax" "[I") (by decide +kernel)
  have hL1 := hts (.fieldLink RX3 21 "CandleDebts$Town" "creditors" "[I") (by decide +kernel)
  have hL2 := hts (.fieldLink RX3 24 "CandleDebts$Town" "debtors" "[I") (by decide +kernel)
  have hL3 := hts (.fieldLink RX3 27 "CandleDebts$Town" "sums" "[I") (by decide +kernel)
  have hL4 := hts (.fieldLink RX3 15 "CandleDebts$Town" "trimmed" "[I") (by decide +kernel)
  have hL5 := hts (.fieldLink RX3 59 "CandleDebts$Town" "lit" "I") (by decide +kernel)
  have hL6 := hts (.initialized RX5) (by decide +kernel)
  have hL7 := hts (.static yX5_bit) (by decide +kernel)
  have hl : lv_has ls 6 [(0, .ref (h 0)), (1, .int a0), (2, .int a1), (3, .int a2), (4, .int a3), (5, .int a4)] := hl
  unfold f_X3_place at hf
  refine lv_aload_n hx hb dX3_place_0 rfl (lv_at hl 0 rfl) ?_
  refine va_get (D := G) (ci := 3) (v := .ref (h 1)) (C := RX3) (T := TX3) (N := 14) hx hb hts nw_X3_place_X3 hown hK hw.1 0 rfl rfl 0 (by decide) hL0 (fun _ h9 => h9) rfl dX3_place_1 ?_
  refine lv_iload_n hx hb dX3_place_4 rfl (lv_at hl 1 rfl) ?_
  refine lv_iload_n hx hb dX3_place_5 rfl (lv_at hl 2 rfl) ?_
  obtain ⟨j1, e1, hf⟩ := cd_bind_some hf
  refine cd_iast (f := T 0) hx hb hK hw 1 rfl e1 dX3_place_6 (fun H locs hw => ?_)
  have hw : cd_WS G A s.heap H locs ((pc_town cI h (cd_set T 0 j1 a1))) := (show ∀ (s9 : Nat → Nat → Int32) (y9 : Int32), cd_WS G A s.heap H locs (((pc_town cI h s9)).set 1 (h 1, .inl (cI, 12, .inl (upd (s9 0) j1 y9)))) → cd_WS G A s.heap H locs ((pc_town cI h (cd_set s9 0 j1 y9))) from fun _ _ hh => hh) T a1 hw
  refine lv_aload_n hx hb dX3_place_7 rfl (lv_at hl 0 rfl) ?_
  refine va_get (D := G) (ci := 3) (v := .ref (h 4)) (C := RX3) (T := TX3) (N := 14) hx hb hts nw_X3_place_X3 hown hK hw.1 0 rfl rfl 3 (by decide) hL1 (fun _ h9 => h9) rfl dX3_place_8 ?_
  refine lv_iload_n hx hb dX3_place_11 rfl (lv_at hl 1 rfl) ?_
  refine lv_iload_n hx hb dX3_place_12 rfl (lv_at hl 3 rfl) ?_
  obtain ⟨j2, e2, hf⟩ := cd_bind_some hf
  refine cd_iast (f := (cd_set T 0 j1 a1) 3) hx hb hK hw 4 rfl e2 dX3_place_13 (fun H locs hw => ?_)
  have hw : cd_WS G A s.heap H locs ((pc_town cI h (cd_set (cd_set T 0 j1 a1) 3 j2 a2))) := (show ∀ (s9 : Nat → Nat → Int32) (y9 : Int32), cd_WS G A s.heap H locs (((pc_town cI h s9)).set 4 (h 4, .inl (cI, 12, .inl (upd (s9 3) j2 y9)))) → cd_WS G A s.heap H locs ((pc_town cI h (cd_set s9 3 j2 y9))) from fun _ _ hh => hh) (cd_set T 0 j1 a1) a2 hw
  refine lv_aload_n hx hb dX3_place_14 rfl (lv_at hl 0 rfl) ?_
  refine va_get (D := G) (ci := 3) (v := .ref (h 5)) (C := RX3) (T := TX3) (N := 14) hx hb hts nw_X3_place_X3 hown hK hw.1 0 rfl rfl 4 (by decide) hL2 (fun _ h9 => h9) rfl dX3_place_15 ?_
  refine lv_iload_n hx hb dX3_place_18 rfl (lv_at hl 1 rfl) ?_
  refine lv_iload hx hb dX3_place_19 (lv_at hl 4 rfl) ?_
  obtain ⟨j3, e3, hf⟩ := cd_bind_some hf
  refine cd_iast (f := (cd_set (cd_set T 0 j1 a1) 3 j2 a2) 4) hx hb hK hw 5 rfl e3 dX3_place_21 (fun H locs hw => ?_)
  have hw : cd_WS G A s.heap H locs ((pc_town cI h (cd_set (cd_set (cd_set T 0 j1 a1) 3 j2 a2) 4 j3 a3))) := (show ∀ (s9 : Nat → Nat → Int32) (y9 : Int32), cd_WS G A s.heap H locs (((pc_town cI h s9)).set 5 (h 5, .inl (cI, 12, .inl (upd (s9 4) j3 y9)))) → cd_WS G A s.heap H locs ((pc_town cI h (cd_set s9 4 j3 y9))) from fun _ _ hh => hh) (cd_set (cd_set T 0 j1 a1) 3 j2 a2) a3 hw
  refine lv_aload_n hx hb dX3_place_22 rfl (lv_at hl 0 rfl) ?_
  refine va_get (D := G) (ci := 3) (v := .ref (h 6)) (C := RX3) (T := TX3) (N := 14) hx hb hts nw_X3_place_X3 hown hK hw.1 0 rfl rfl 5 (by decide) hL3 (fun _ h9 => h9) rfl dX3_place_23 ?_
  refine lv_iload_n hx hb dX3_place_26 rfl (lv_at hl 1 rfl) ?_
  refine lv_iload hx hb dX3_place_27 (lv_at hl 5 rfl) ?_
  obtain ⟨j4, e4, hf⟩ := cd_bind_some hf
  refine cd_iast (f := (cd_set (cd_set (cd_set T 0 j1 a1) 3 j2 a2) 4 j3 a3) 5) hx hb hK hw 6 rfl e4 dX3_place_29 (fun H locs hw => ?_)
  have hw : cd_WS G A s.heap H locs ((pc_town cI h (cd_set (cd_set (cd_set (cd_set T 0 j1 a1) 3 j2 a2) 4 j3 a3) 5 j4 a4))) := (show ∀ (s9 : Nat → Nat → Int32) (y9 : Int32), cd_WS G A s.heap H locs (((pc_town cI h s9)).set 6 (h 6, .inl (cI, 12, .inl (upd (s9 5) j4 y9)))) → cd_WS G A s.heap H locs ((pc_town cI h (cd_set s9 5 j4 y9))) from fun _ _ hh => hh) (cd_set (cd_set (cd_set T 0 j1 a1) 3 j2 a2) 4 j3 a3) a4 hw
  refine lv_aload_n hx hb dX3_place_30 rfl (lv_at hl 0 rfl) ?_
  refine va_get (D := G) (ci := 3) (v := .ref (h 2)) (C := RX3) (T := TX3) (N := 14) hx hb hts nw_X3_place_X3 hown hK hw.1 0 rfl rfl 1 (by decide) hL4 (fun _ h9 => h9) rfl dX3_place_31 ?_
  refine lv_iload_n hx hb dX3_place_34 rfl (lv_at hl 1 rfl) ?_
  refine lv_iconst (v := (0 : Int32)) hx hb dX3_place_35 (by decide) ?_
  obtain ⟨j5, e5, hf⟩ := cd_bind_some hf
  refine cd_iast (f := (cd_set (cd_set (cd_set (cd_set T 0 j1 a1) 3 j2 a2) 4 j3 a3) 5 j4 a4) 1) hx hb hK hw 2 rfl e5 dX3_place_36 (fun H locs hw => ?_)
  have hw : cd_WS G A s.heap H locs ((pc_town cI h (cd_set (cd_set (cd_set (cd_set (cd_set T 0 j1 a1) 3 j2 a2) 4 j3 a3) 5 j4 a4) 1 j5 (0 : Int32)))) := (show ∀ (s9 : Nat → Nat → Int32) (y9 : Int32), cd_WS G A s.heap H locs (((pc_town cI h s9)).set 2 (h 2, .inl (cI, 12, .inl (upd (s9 1) j5 y9)))) → cd_WS G A s.heap H locs ((pc_town cI h (cd_set s9 1 j5 y9))) from fun _ _ hh => hh) (cd_set (cd_set (cd_set (cd_set T 0 j1 a1) 3 j2 a2) 4 j3 a3) 5 j4 a4) (0 : Int32) hw
  refine lv_aload_n hx hb dX3_place_37 rfl (lv_at hl 0 rfl) ?_
  refine lv_dup hx hb dX3_place_38 rfl ?_
  refine va_get (D := G) (ci := 3) (v := .int (T 11 0)) (C := RX3) (T := TX3) (N := 14) hx hb hts nw_X3_place_X3 hown hK hw.1 0 rfl rfl 11 (by decide) hL5 (fun _ h9 => h9) rfl dX3_place_39 ?_
  refine lv_iload_n hx hb dX3_place_42 rfl (lv_at hl 1 rfl) ?_
  obtain ⟨r6, e6, hf⟩ := cd_bind_some hf
  refine cd_callSN (As := [.int a0]) (rest := [.int (T 11 0), .ref (h 0)]) C0 hw (c_X5_bit l G cI cZ sa sb a0 r6 e6) [] rfl rfl ⟨va_cnB 1 hts ggX3_place_X5_bit rfl rfl rfl (hE.2.1 (.methodLinkNest RX3 46 yX5_bit RX5) (by simp [cd_nest])) hL6 (by decide +kernel) ⟨Nat.le_of_ble_eq_true rfl, Nat.le_of_ble_eq_true rfl⟩, hL7, trivial⟩ rfl hl.1 (lv_room (Nat.le_of_ble_eq_true rfl)) dX3_place_43 (fun H locs hw => ?_)
  refine lv_iconst (v := (-1 : Int32)) hx hb dX3_place_46 (by decide) ?_
  refine lv_ixor hx hb dX3_place_47 ?_
  refine lv_iand hx hb dX3_place_48 ?_
  refine va_put (D := G) (ci := 3) (v := .int ((T 11 0) &&& (r6 ^^^ (-1 : Int32)))) (ty := .int) (C := RX3) (T := TX3) (N := 14) hx hb hts nw_X3_place_X3 tyX3 tyX3_ok nmX3 hown hK hw.1 hw.2.1 hw.2.2 0 rfl rfl 11 (by decide) hL5 (fun _ h9 => h9) rfl (by decide +kernel) rfl rfl (Nat.le_of_ble_eq_true rfl) dX3_place_49 (fun H locs hP hD hS => ?_)
  have hw : cd_WS G A s.heap H locs ((pc_town cI h (cd_fld (cd_set (cd_set (cd_set (cd_set (cd_set T 0 j1 a1) 3 j2 a2) 4 j3 a3) 5 j4 a4) 1 j5 (0 : Int32)) 11 ((T 11 0) &&& (r6 ^^^ (-1 : Int32)))))) := ⟨hP, hD, hS⟩
  refine lv_aload_n hx hb dX3_place_52 rfl (lv_at hl 0 rfl) ?_
  refine lv_iload_n hx hb dX3_place_53 rfl (lv_at hl 1 rfl) ?_
  obtain ⟨r7, e7, hf⟩ := cd_bind_some hf
  refine cd_callVw (As := [.int a0]) (rest := []) (wr := ([] : va_W)) (wn := (pc_town cI h r7)) C0 hw (c_X3_part l G cI cZ sa sb h (cd_fld (cd_set (cd_set (cd_set (cd_set (cd_set T 0 j1 a1) 3 j2 a2) 4 j3 a3) 5 j4 a4) 1 j5 (0 : Int32)) 11 ((T 11 0) &&& (r6 ^^^ (-1 : Int32)))) a0 r7 e7) [0, 1, 2, 3, 4, 5, 6, 7, 8, 9, 10] [] [0, 1, 2, 3, 4, 5, 6, 7, 8, 9, 10] rfl rfl rfl rfl (by decide) rfl rfl 0 3 rfl rfl rfl (cwV 1 hts gX3_place_X3_part rfl rfl rfl (by decide +kernel) ⟨Nat.le_of_ble_eq_true rfl, Nat.le_of_ble_eq_true rfl⟩) rfl hl.1 (lv_room (Nat.le_of_ble_eq_true rfl)) dX3_place_54 (fun H locs hw => ?_)
  have z : some r7 = some o := hf
  cases z
  rw [hQ]
  exact cd_retv C0 hw dX3_place_57
abbrev rm_X3_waxOfAll : Room := { frames := 0, cells := 0, slots := 0, locals := 0 }
theorem nw_X3_waxOfAll_X3 : ∀ w ∈ u_ws RX3 TX3 14, w ∈ wsX3_waxOfAll := by decide +kernel
set_option maxHeartbeats 4000000 in
set_option maxRecDepth 100000 in
theorem c_X3_waxOfAll (l : Launch) (G : va_G) (cI cZ : ClassId) (sa sb : Nat) (h : Nat → Nat) (T : Nat → Nat → Int32) (o : Int32) (hf : f_X3_waxOfAll T = some o) : cd_Ct l G cI cZ sa sb yX3_waxOfAll wsX3_waxOfAll rm_X3_waxOfAll [.ref (h 0)] ((pc_town cI h T)) ((pc_town cI h T)) (some (.int o)) := by
  refine cd_of (cc := cX3_waxOfAll) (maxL := 3) (ret := (some .int)) (by decide) rfl (Nat.le_of_ble_eq_true rfl) ?_
  intro p e s m ag below meth c A ls Q C0 hl hw hQ
  have C0 : cd_CX G cI cZ sa sb p s m ag meth c cX3_waxOfAll 3 (some .int) wsX3_waxOfAll RX3 A := C0
  obtain ⟨⟨hx, hb, hml, hown, hts⟩, hr, hlocks, hA, hE⟩ := id C0
  have hK := hE.1
  have hL0 := hts (.fieldLink RX3 9 "CandleDebts$Town" "wax" "[I") (by decide +kernel)
  have hl : lv_has ls 3 [(0, .ref (h 0))] := hl
  unfold f_X3_waxOfAll at hf
  refine lv_iconst (v := (0 : Int32)) hx hb dX3_waxOfAll_0 (by decide) ?_
  refine lv_istore_n (lv' := [(1, .int (0 : Int32)), (0, .ref (h 0))]) hx hb dX3_waxOfAll_1 rfl hl (by decide) rfl (fun ls hl => ?_)
  refine lv_iconst (v := (0 : Int32)) hx hb dX3_waxOfAll_2 (by decide) ?_
  refine lv_istore_n (lv' := [(2, .int (0 : Int32)), (1, .int (0 : Int32)), (0, .ref (h 0))]) hx hb dX3_waxOfAll_3 rfl hl (by decide) rfl (fun ls hl => ?_)
  obtain ⟨x1, e1, hf⟩ := cd_bind_some hf
  have K1 : ∀ (t1 : Int32), t1 = x1 → ∀ (ls : Array Slot) (H : Heap) (locs : List Loc), lv_has ls 3 [(1, .int t1)] → cd_WS G A s.heap H locs ((pc_town cI h T)) → W p l e rm_X3_waxOfAll s m ag below meth c H locs 0 0 Q (F0 m 25 ls []) := by
    intro t1 hs_1
    subst hs_1
    intro ls H locs hl hw
    refine lv_iload_n hx hb dX3_waxOfAll_25 rfl (lv_at hl 0 rfl) ?_
    have z : some t1 = some o := hf
    cases z
    rw [hQ]
    exact cd_reti C0 hw dX3_waxOfAll_26
  refine cd_iter_ind (body := (f_X3_waxOfAll_b4 T)) (K := fun r => r = x1) (P := fun (z1 : Int32 × Int32) => ∀ (ls : Array Slot) (H : Heap) (locs : List Loc), lv_has ls 3 [(0, .ref (h 0)), (1, .int z1.1), (2, .int z1.2)] → cd_WS G A s.heap H locs ((pc_town cI h T)) → W p l e rm_X3_waxOfAll s m ag below meth c H locs 0 0 Q (F0 m 4 ls [])) ?_ cd_N ((0 : Int32), (0 : Int32)) x1 e1 rfl _ _ _ (lv_sub hl [2, 1, 0] rfl) hw
  intro z1 o1 hb1 hk1 ls H locs hl hw
  unfold f_X3_waxOfAll_b4 at hb1
  refine lv_iload_n hx hb dX3_waxOfAll_4 rfl (lv_at hl 2 rfl) ?_
  refine lv_bipush (v := (12 : Int32)) hx hb dX3_waxOfAll_5 (by decide) ?_
  refine lv_icmp_ge (tgt := 25) hx hb dX3_waxOfAll_7 (by decide) (fun c2 => ?_) (fun c2 => ?_)
  · have hb1 := cd_ite_t c2 hb1
    have z : some (Sum.inl z1.1) = some o1 := hb1
    cases z
    exact K1 _ hk1 _ _ _ (lv_sub hl [1] rfl) hw
  · have hb1 := cd_ite_f c2 hb1
    refine lv_iload_n hx hb dX3_waxOfAll_10 rfl (lv_at hl 1 rfl) ?_
    refine lv_aload_n hx hb dX3_waxOfAll_11 rfl (lv_at hl 0 rfl) ?_
    refine va_get (D := G) (ci := 3) (v := .ref (h 1)) (C := RX3) (T := TX3) (N := 14) hx hb hts nw_X3_waxOfAll_X3 hown hK hw.1 0 rfl rfl 0 (by decide) hL0 (fun _ h9 => h9) rfl dX3_waxOfAll_12 ?_
    refine lv_iload_n hx hb dX3_waxOfAll_15 rfl (lv_at hl 2 rfl) ?_
    obtain ⟨v3, e3, hb1⟩ := cd_bind_some hb1
    refine cd_iald hx hb hK hw 1 rfl e3 dX3_waxOfAll_16 ?_
    refine lv_iadd hx hb dX3_waxOfAll_17 ?_
    refine lv_istore_n (lv' := [(1, .int (z1.1 + v3)), (0, .ref (h 0)), (2, .int z1.2)]) hx hb dX3_waxOfAll_18 rfl hl (by decide) rfl (fun ls hl => ?_)
    refine lv_iinc (v := (z1.2 + (1 : Int32))) (lv' := [(2, .int (z1.2 + (1 : Int32))), (1, .int (z1.1 + v3)), (0, .ref (h 0))]) hx hb dX3_waxOfAll_19 hl (k := 2) rfl rfl (by decide) rfl (fun ls hl => ?_)
    refine lv_goto (tgt := 4) hx hb dX3_waxOfAll_22 (by decide) ?_
    have z : some (Sum.inr ((z1.1 + v3), (z1.2 + (1 : Int32)))) = some o1 := hb1
    cases z
    exact hk1 _ _ _ (lv_sub hl [2, 1, 0] rfl) hw
abbrev rm_X4_inTime : Room := { frames := 0, cells := 0, slots := 0, locals := 0 }
theorem nw_X4_inTime_X4 : ∀ w ∈ u_ws RX4 TX4 5, w ∈ wsX4_inTime := by decide +kernel
set_option maxHeartbeats 4000000 in
set_option maxRecDepth 100000 in
theorem c_X4_inTime (l : Launch) (G : va_G) (cI cZ : ClassId) (sa sb : Nat) (h : Nat → Nat) (V : Nat → Nat → Int32) (a0 : Int32) (a1 : Int32) (o : Int32) (hf : f_X4_inTime a0 a1 V = some o) : cd_Ct l G cI cZ sa sb yX4_inTime wsX4_inTime rm_X4_inTime [.ref (h 0), .int a0, .int a1] ((pc_walk cI h V)) ((pc_walk cI h V)) (some (.int o)) := by
  refine cd_of (cc := cX4_inTime) (maxL := 3) (ret := (some .int)) (by decide) rfl (Nat.le_of_ble_eq_true rfl) ?_
  intro p e s m ag below meth c A ls Q C0 hl hw hQ
  have C0 : cd_CX G cI cZ sa sb p s m ag meth c cX4_inTime 3 (some .int) wsX4_inTime RX4 A := C0
  obtain ⟨⟨hx, hb, hml, hown, hts⟩, hr, hlocks, hA, hE⟩ := id C0
  have hK := hE.1
  have hL0 := hts (.fieldLink RX4 9 "CandleDebts$Walk" "limits" "[I") (by decide +kernel)
  have hL1 := hts (.constant RX4 38 (1000000)) (by decide +kernel)
  have hl : lv_has ls 3 [(0, .ref (h 0)), (1, .int a0), (2, .int a1)] := hl
  unfold f_X4_inTime at hf
  refine lv_iload_n hx hb dX4_inTime_0 rfl (lv_at hl 2 rfl) ?_
  refine lv_aload_n hx hb dX4_inTime_1 rfl (lv_at hl 0 rfl) ?_
  refine va_get (D := G) (ci := 4) (v := .ref (h 1)) (C := RX4) (T := TX4) (N := 5) hx hb hts nw_X4_inTime_X4 hown hK hw.1 0 rfl rfl 0 (by decide) hL0 (fun _ h9 => h9) rfl dX4_inTime_2 ?_
  refine lv_iload_n hx hb dX4_inTime_5 rfl (lv_at hl 1 rfl) ?_
  obtain ⟨v1, e1, hf⟩ := cd_bind_some hf
  refine cd_iald hx hb hK hw 1 rfl e1 dX4_inTime_6 ?_
  obtain ⟨x2, e2, hf⟩ := cd_bind_some hf
  have K2 : ∀ (ls : Array Slot) (H : Heap) (locs : List Loc), lv_has ls 3 [] → cd_WS G A s.heap H locs ((pc_walk cI h V)) → W p l e rm_X4_inTime s m ag below meth c H locs 0 0 Q (F0 m 16 ls [.int x2]) := by
    intro ls H locs hl hw
    have z : some x2 = some o := hf
    cases z
    rw [hQ]
    exact cd_reti C0 hw dX4_inTime_16
  refine lv_icmp_ge (tgt := 14) hx hb dX4_inTime_7 (by decide) (fun c2 => ?_) (fun c2 => ?_)
  · have e2 := cd_ite_t c2 e2
    refine lv_ldc (v := (1000000 : Int32)) hx hb hown hL1 dX4_inTime_14 ?_
    have z : some (1000000 : Int32) = some x2 := e2
    cases z
    exact K2 _ _ _ (lv_sub hl [] rfl) hw
  · have e2 := cd_ite_f c2 e2
    refine lv_iload_n hx hb dX4_inTime_10 rfl (lv_at hl 2 rfl) ?_
    refine lv_goto (tgt := 16) hx hb dX4_inTime_11 (by decide) ?_
    have z : some a1 = some x2 := e2
    cases z
    exact K2 _ _ _ (lv_sub hl [] rfl) hw
abbrev rm_X4_fewestOfLength : Room := { frames := 1, cells := 0, slots := 0, locals := 14 }
theorem nw_X4_fewestOfLength_X4 : ∀ w ∈ u_ws RX4 TX4 5, w ∈ wsX4_fewestOfLength := by decide +kernel
set_option maxHeartbeats 4000000 in
set_option maxRecDepth 100000 in
theorem c_X4_fewestOfLength (l : Launch) (G : va_G) (cI cZ : ClassId) (sa sb : Nat) (h : Nat → Nat) (V : Nat → Nat → Int32) (a0 : Int32) (o : Int32) (hf : f_X4_fewestOfLength a0 V = some o) : cd_Ct l G cI cZ sa sb yX4_fewestOfLength wsX4_fewestOfLength rm_X4_fewestOfLength [.ref (h 0), .int a0] ((pc_walk cI h V)) ((pc_walk cI h V)) (some (.int o)) := by
  refine cd_of (cc := cX4_fewestOfLength) (maxL := 5) (ret := (some .int)) (by decide) rfl (Nat.le_of_ble_eq_true rfl) ?_
  intro p e s m ag below meth c A ls Q C0 hl hw hQ
  have C0 : cd_CX G cI cZ sa sb p s m ag meth c cX4_fewestOfLength 5 (some .int) wsX4_fewestOfLength RX4 A := C0
  obtain ⟨⟨hx, hb, hml, hown, hts⟩, hr, hlocks, hA, hE⟩ := id C0
  have hK := hE.1
  have hL0 := hts (.constant RX4 38 (1000000)) (by decide +kernel)
  have hL1 := hts (.fieldLink RX4 21 "CandleDebts$Walk" "west" "I") (by decide +kernel)
  have hL2 := hts (.fieldLink RX4 25 "CandleDebts$Walk" "east" "I") (by decide +kernel)
  have hL3 := hts (.fieldLink RX4 15 "CandleDebts$Walk" "atWest" "[I") (by decide +kernel)
  have hL4 := hts (.fieldLink RX4 18 "CandleDebts$Walk" "atEast" "[I") (by decide +kernel)
  have hL5 := hts (.methodLink RX4 39 Lib.Math.min.name) (by decide +kernel)
  have hL6 := hts (.static Lib.Math.min.name) (by decide +kernel)
  have hL7 := hts (.initialized "java/lang/Math") (by decide +kernel)
  have hL8 := hts (.code Lib.Math.min.name Lib.Math.min.code 2 (some .int)) (by decide +kernel)
  have hl : lv_has ls 5 [(0, .ref (h 0)), (1, .int a0)] := hl
  unfold f_X4_fewestOfLength at hf
  refine lv_ldc (v := (1000000 : Int32)) hx hb hown hL0 dX4_fewestOfLength_0 ?_
  refine lv_istore_n (lv' := [(2, .int (1000000 : Int32)), (0, .ref (h 0)), (1, .int a0)]) hx hb dX4_fewestOfLength_2 rfl hl (by decide) rfl (fun ls hl => ?_)
  refine lv_iconst (v := (0 : Int32)) hx hb dX4_fewestOfLength_3 (by decide) ?_
  refine lv_istore_n (lv' := [(3, .int (0 : Int32)), (2, .int (1000000 : Int32)), (0, .ref (h 0)), (1, .int a0)]) hx hb dX4_fewestOfLength_4 rfl hl (by decide) rfl (fun ls hl => ?_)
  obtain ⟨x1, e1, hf⟩ := cd_bind_some hf
  have K1 : ∀ (t1 : Int32), t1 = x1 → ∀ (ls : Array Slot) (H : Heap) (locs : List Loc), lv_has ls 5 [(2, .int t1)] → cd_WS G A s.heap H locs ((pc_walk cI h V)) → W p l e rm_X4_fewestOfLength s m ag below meth c H locs 0 0 Q (F0 m 75 ls []) := by
    intro t1 hs_1
    subst hs_1
    intro ls H locs hl hw
    refine lv_iload_n hx hb dX4_fewestOfLength_75 rfl (lv_at hl 0 rfl) ?_
    have z : some t1 = some o := hf
    cases z
    rw [hQ]
    exact cd_reti C0 hw dX4_fewestOfLength_76
  refine cd_iter_ind (body := (f_X4_fewestOfLength_b5 a0 V)) (K := fun r => r = x1) (P := fun (z1 : Int32 × Int32) => ∀ (ls : Array Slot) (H : Heap) (locs : List Loc), lv_has ls 5 [(0, .ref (h 0)), (1, .int a0), (2, .int z1.1), (3, .int z1.2)] → cd_WS G A s.heap H locs ((pc_walk cI h V)) → W p l e rm_X4_fewestOfLength s m ag below meth c H locs 0 0 Q (F0 m 5 ls [])) ?_ cd_N ((1000000 : Int32), (0 : Int32)) x1 e1 rfl _ _ _ (lv_sub hl [2, 3, 1, 0] rfl) hw
  intro z1 o1 hb1 hk1 ls H locs hl hw
  unfold f_X4_fewestOfLength_b5 at hb1
  refine lv_iload_n hx hb dX4_fewestOfLength_5 rfl (lv_at hl 3 rfl) ?_
  refine lv_iload_n hx hb dX4_fewestOfLength_6 rfl (lv_at hl 1 rfl) ?_
  refine lv_iadd hx hb dX4_fewestOfLength_7 ?_
  refine lv_bipush (v := (12 : Int32)) hx hb dX4_fewestOfLength_8 (by decide) ?_
  refine lv_icmp_gt (tgt := 75) hx hb dX4_fewestOfLength_10 (by decide) (fun c2 => ?_) (fun c2 => ?_)
  · have hb1 := cd_ite_t c2 hb1
    have z : some (Sum.inl z1.1) = some o1 := hb1
    cases z
    exact K1 _ hk1 _ _ _ (lv_sub hl [2] rfl) hw
  · have hb1 := cd_ite_f c2 hb1
    refine lv_iload_n hx hb dX4_fewestOfLength_13 rfl (lv_at hl 3 rfl) ?_
    refine lv_aload_n hx hb dX4_fewestOfLength_14 rfl (lv_at hl 0 rfl) ?_
    refine va_get (D := G) (ci := 4) (v := .int (V 3 0)) (C := RX4) (T := TX4) (N := 5) hx hb hts nw_X4_fewestOfLength_X4 hown hK hw.1 0 rfl rfl 3 (by decide) hL1 (fun _ h9 => h9) rfl dX4_fewestOfLength_15 ?_
    obtain ⟨x3, e3, hb1⟩ := cd_bind_some hb1
    have K3 : ∀ (ls : Array Slot) (H : Heap) (locs : List Loc), lv_has ls 5 [(0, .ref (h 0)), (1, .int a0), (2, .int z1.1), (3, .int z1.2)] → cd_WS G A s.heap H locs ((pc_walk cI h V)) → W p l e rm_X4_fewestOfLength s m ag below meth c H locs 0 0 Q (F0 m 38 ls [.int x3]) := by
      intro ls H locs hl hw
      refine lv_istore (lv' := [(4, .int x3), (0, .ref (h 0)), (1, .int a0), (2, .int z1.1), (3, .int z1.2)]) hx hb dX4_fewestOfLength_38 hl (by decide) rfl (fun ls hl => ?_)
      refine lv_iload hx hb dX4_fewestOfLength_40 (lv_at hl 0 rfl) ?_
      refine lv_if_eq (tgt := 67) hx hb dX4_fewestOfLength_42 (by decide) (fun c4 => ?_) (fun c4 => ?_)
      · have hb1 := cd_ite_t c4 hb1
        refine lv_iload_n hx hb dX4_fewestOfLength_67 rfl (lv_at hl 3 rfl) ?_
        refine lv_istore_n (lv' := [(2, .int z1.1), (4, .int x3), (0, .ref (h 0)), (1, .int a0), (3, .int z1.2)]) hx hb dX4_fewestOfLength_68 rfl hl (by decide) rfl (fun ls hl => ?_)
        refine lv_iinc (v := (z1.2 + (1 : Int32))) (lv' := [(3, .int (z1.2 + (1 : Int32))), (2, .int z1.1), (4, .int x3), (0, .ref (h 0)), (1, .int a0)]) hx hb dX4_fewestOfLength_69 hl (k := 4) rfl rfl (by decide) rfl (fun ls hl => ?_)
        refine lv_goto (tgt := 5) hx hb dX4_fewestOfLength_72 (by decide) ?_
        have z : some (Sum.inr (z1.1, (z1.2 + (1 : Int32)))) = some o1 := hb1
        cases z
        exact hk1 _ _ _ (lv_sub hl [3, 4, 1, 0] rfl) hw
      · have hb1 := cd_ite_f c4 hb1
        refine lv_iload_n hx hb dX4_fewestOfLength_45 rfl (lv_at hl 3 rfl) ?_
        refine lv_aload_n hx hb dX4_fewestOfLength_46 rfl (lv_at hl 1 rfl) ?_
        refine va_get (D := G) (ci := 4) (v := .ref (h 2)) (C := RX4) (T := TX4) (N := 5) hx hb hts nw_X4_fewestOfLength_X4 hown hK hw.1 0 rfl rfl 1 (by decide) hL3 (fun _ h9 => h9) rfl dX4_fewestOfLength_47 ?_
        refine lv_iload_n hx hb dX4_fewestOfLength_50 rfl (lv_at hl 4 rfl) ?_
        obtain ⟨v5, e5, hb1⟩ := cd_bind_some hb1
        refine cd_iald hx hb hK hw 2 rfl e5 dX4_fewestOfLength_51 ?_
        refine lv_aload_n hx hb dX4_fewestOfLength_52 rfl (lv_at hl 1 rfl) ?_
        refine va_get (D := G) (ci := 4) (v := .ref (h 3)) (C := RX4) (T := TX4) (N := 5) hx hb hts nw_X4_fewestOfLength_X4 hown hK hw.1 0 rfl rfl 2 (by decide) hL4 (fun _ h9 => h9) rfl dX4_fewestOfLength_53 ?_
        refine lv_iload_n hx hb dX4_fewestOfLength_56 rfl (lv_at hl 4 rfl) ?_
        obtain ⟨v6, e6, hb1⟩ := cd_bind_some hb1
        refine cd_iald hx hb hK hw 3 rfl e6 dX4_fewestOfLength_57 ?_
        refine cd_mmin hx hb (hml.trans hl.1.symm) hown hL5 hL6 hL7 hL8 (Nat.le_of_ble_eq_true rfl) (Nat.le_of_ble_eq_true rfl) dX4_fewestOfLength_58 ?_
        refine cd_mmin hx hb (hml.trans hl.1.symm) hown hL5 hL6 hL7 hL8 (Nat.le_of_ble_eq_true rfl) (Nat.le_of_ble_eq_true rfl) dX4_fewestOfLength_61 ?_
        refine lv_goto (tgt := 68) hx hb dX4_fewestOfLength_64 (by decide) ?_
        refine lv_istore_n (lv' := [(2, .int (cd_min z1.1 (cd_min v5 v6))), (4, .int x3), (0, .ref (h 0)), (1, .int a0), (3, .int z1.2)]) hx hb dX4_fewestOfLength_68 rfl hl (by decide) rfl (fun ls hl => ?_)
        refine lv_iinc (v := (z1.2 + (1 : Int32))) (lv' := [(3, .int (z1.2 + (1 : Int32))), (2, .int (cd_min z1.1 (cd_min v5 v6))), (4, .int x3), (0, .ref (h 0)), (1, .int a0)]) hx hb dX4_fewestOfLength_69 hl (k := 4) rfl rfl (by decide) rfl (fun ls hl => ?_)
        refine lv_goto (tgt := 5) hx hb dX4_fewestOfLength_72 (by decide) ?_
        have z : some (Sum.inr ((cd_min z1.1 (cd_min v5 v6)), (z1.2 + (1 : Int32)))) = some o1 := hb1
        cases z
        exact hk1 _ _ _ (lv_sub hl [3, 4, 1, 0] rfl) hw
    refine lv_icmp_gt (tgt := 37) hx hb dX4_fewestOfLength_18 (by decide) (fun c3 => ?_) (fun c3 => ?_)
    · have e3 := cd_ite_t c3 e3
      refine lv_iconst (v := (0 : Int32)) hx hb dX4_fewestOfLength_37 (by decide) ?_
      have z : some (0 : Int32) = some x3 := e3
      cases z
      exact K3 _ _ _ (lv_sub hl [0, 1, 2, 3] rfl) hw
    · have e3 := cd_ite_f c3 e3
      refine lv_iload_n hx hb dX4_fewestOfLength_21 rfl (lv_at hl 3 rfl) ?_
      refine lv_iload_n hx hb dX4_fewestOfLength_22 rfl (lv_at hl 1 rfl) ?_
      refine lv_iadd hx hb dX4_fewestOfLength_23 ?_
      refine lv_iconst (v := (1 : Int32)) hx hb dX4_fewestOfLength_24 (by decide) ?_
      refine lv_isub hx hb dX4_fewestOfLength_25 ?_
      refine lv_aload_n hx hb dX4_fewestOfLength_26 rfl (lv_at hl 0 rfl) ?_
      refine va_get (D := G) (ci := 4) (v := .int (V 4 0)) (C := RX4) (T := TX4) (N := 5) hx hb hts nw_X4_fewestOfLength_X4 hown hK hw.1 0 rfl rfl 4 (by decide) hL2 (fun _ h9 => h9) rfl dX4_fewestOfLength_27 ?_
      refine lv_icmp_lt (tgt := 37) hx hb dX4_fewestOfLength_30 (by decide) (fun c7 => ?_) (fun c7 => ?_)
      · have e3 := cd_ite_t c7 e3
        refine lv_iconst (v := (0 : Int32)) hx hb dX4_fewestOfLength_37 (by decide) ?_
        have z : some (0 : Int32) = some x3 := e3
        cases z
        exact K3 _ _ _ (lv_sub hl [0, 1, 2, 3] rfl) hw
      · have e3 := cd_ite_f c7 e3
        refine lv_iconst (v := (1 : Int32)) hx hb dX4_fewestOfLength_33 (by decide) ?_
        refine lv_goto (tgt := 38) hx hb dX4_fewestOfLength_34 (by decide) ?_
        have z : some (1 : Int32) = some x3 := e3
        cases z
        exact K3 _ _ _ (lv_sub hl [0, 1, 2, 3] rfl) hw
abbrev rm_X4_lengthenTo : Room := { frames := 1, cells := 0, slots := 0, locals := 22 }
theorem nw_X4_lengthenTo_X4 : ∀ w ∈ u_ws RX4 TX4 5, w ∈ wsX4_lengthenTo := by decide +kernel
set_option maxHeartbeats 4000000 in
set_option maxRecDepth 100000 in
theorem c_X4_lengthenTo (l : Launch) (G : va_G) (cI cZ : ClassId) (sa sb : Nat) (h : Nat → Nat) (V : Nat → Nat → Int32) (a0 : Int32) (o : (Nat → Nat → Int32)) (hf : f_X4_lengthenTo a0 V = some o) : cd_Ct l G cI cZ sa sb yX4_lengthenTo wsX4_lengthenTo rm_X4_lengthenTo [.ref (h 0), .int a0] ((pc_walk cI h V)) ((pc_walk cI h o)) none := by
  refine cd_of (cc := cX4_lengthenTo) (maxL := 6) (ret := none) (by decide) rfl (Nat.le_of_ble_eq_true rfl) ?_
  intro p e s m ag below meth c A ls Q C0 hl hw hQ
  have C0 : cd_CX G cI cZ sa sb p s m ag meth c cX4_lengthenTo 6 none wsX4_lengthenTo RX4 A := C0
  obtain ⟨⟨hx, hb, hml, hown, hts⟩, hr, hlocks, hA, hE⟩ := id C0
  have hK := hE.1
  have hL0 := hts (.fieldLink RX4 15 "CandleDebts$Walk" "atWest" "[I") (by decide +kernel)
  have hL1 := hts (.fieldLink RX4 18 "CandleDebts$Walk" "atEast" "[I") (by decide +kernel)
  have hL2 := hts (.methodLink RX4 39 Lib.Math.min.name) (by decide +kernel)
  have hL3 := hts (.static Lib.Math.min.name) (by decide +kernel)
  have hL4 := hts (.initialized "java/lang/Math") (by decide +kernel)
  have hL5 := hts (.code Lib.Math.min.name Lib.Math.min.code 2 (some .int)) (by decide +kernel)
  have hl : lv_has ls 6 [(0, .ref (h 0)), (1, .int a0)] := hl
  unfold f_X4_lengthenTo at hf
  refine lv_iload_n hx hb dX4_lengthenTo_0 rfl (lv_at hl 1 rfl) ?_
  refine lv_iconst (v := (1 : Int32)) hx hb dX4_lengthenTo_1 (by decide) ?_
  refine lv_isub hx hb dX4_lengthenTo_2 ?_
  refine lv_istore_n (lv' := [(2, .int (a0 - (1 : Int32))), (0, .ref (h 0)), (1, .int a0)]) hx hb dX4_lengthenTo_3 rfl hl (by decide) rfl (fun ls hl => ?_)
  refine lv_iconst (v := (0 : Int32)) hx hb dX4_lengthenTo_4 (by decide) ?_
  refine lv_istore_n (lv' := [(3, .int (0 : Int32)), (2, .int (a0 - (1 : Int32))), (0, .ref (h 0)), (1, .int a0)]) hx hb dX4_lengthenTo_5 rfl hl (by decide) rfl (fun ls hl => ?_)
  obtain ⟨x1, e1, hf⟩ := cd_bind_some hf
  have K1 : ∀ (t1 : (Nat → Nat → Int32)), t1 = x1 → ∀ (ls : Array Slot) (H : Heap) (locs : List Loc), lv_has ls 6 [] → cd_WS G A s.heap H locs ((pc_walk cI h t1)) → W p l e rm_X4_lengthenTo s m ag below meth c H locs 0 0 Q (F0 m 94 ls []) := by
    intro t1 hs_1
    subst hs_1
    intro ls H locs hl hw
    have z : some t1 = some o := hf
    cases z
    rw [hQ]
    exact cd_retv C0 hw dX4_lengthenTo_94
  refine cd_iter_ind (body := (f_X4_lengthenTo_b6 a0)) (K := fun r => r = x1) (P := fun (z1 : Int32 × (Nat → Nat → Int32)) => ∀ (ls : Array Slot) (H : Heap) (locs : List Loc), lv_has ls 6 [(0, .ref (h 0)), (2, .int (a0 - (1 : Int32))), (3, .int z1.1)] → cd_WS G A s.heap H locs ((pc_walk cI h z1.2)) → W p l e rm_X4_lengthenTo s m ag below meth c H locs 0 0 Q (F0 m 6 ls [])) ?_ cd_N ((0 : Int32), V) x1 e1 rfl _ _ _ (lv_sub hl [2, 1, 0] rfl) hw
  intro z1 o1 hb1 hk1 ls H locs hl hw
  unfold f_X4_lengthenTo_b6 at hb1
  refine lv_iload_n hx hb dX4_lengthenTo_6 rfl (lv_at hl 2 rfl) ?_
  refine lv_iload_n hx hb dX4_lengthenTo_7 rfl (lv_at hl 1 rfl) ?_
  refine lv_iadd hx hb dX4_lengthenTo_8 ?_
  refine lv_bipush (v := (12 : Int32)) hx hb dX4_lengthenTo_9 (by decide) ?_
  refine lv_icmp_ge (tgt := 94) hx hb dX4_lengthenTo_11 (by decide) (fun c2 => ?_) (fun c2 => ?_)
  · have hb1 := cd_ite_t c2 hb1
    have z : some (Sum.inl z1.2) = some o1 := hb1
    cases z
    exact K1 _ hk1 _ _ _ (lv_sub hl [] rfl) hw
  · have hb1 := cd_ite_f c2 hb1
    refine lv_aload_n hx hb dX4_lengthenTo_14 rfl (lv_at hl 0 rfl) ?_
    refine va_get (D := G) (ci := 4) (v := .ref (h 2)) (C := RX4) (T := TX4) (N := 5) hx hb hts nw_X4_lengthenTo_X4 hown hK hw.1 0 rfl rfl 1 (by decide) hL0 (fun _ h9 => h9) rfl dX4_lengthenTo_15 ?_
    refine lv_iload_n hx hb dX4_lengthenTo_18 rfl (lv_at hl 2 rfl) ?_
    refine lv_iconst (v := (1 : Int32)) hx hb dX4_lengthenTo_19 (by decide) ?_
    refine lv_iadd hx hb dX4_lengthenTo_20 ?_
    obtain ⟨v3, e3, hb1⟩ := cd_bind_some hb1
    refine cd_iald hx hb hK hw 2 rfl e3 dX4_lengthenTo_21 ?_
    refine lv_iconst (v := (1 : Int32)) hx hb dX4_lengthenTo_22 (by decide) ?_
    refine lv_iadd hx hb dX4_lengthenTo_23 ?_
    refine lv_aload_n hx hb dX4_lengthenTo_24 rfl (lv_at hl 0 rfl) ?_
    refine va_get (D := G) (ci := 4) (v := .ref (h 3)) (C := RX4) (T := TX4) (N := 5) hx hb hts nw_X4_lengthenTo_X4 hown hK hw.1 0 rfl rfl 2 (by decide) hL1 (fun _ h9 => h9) rfl dX4_lengthenTo_25 ?_
    refine lv_iload_n hx hb dX4_lengthenTo_28 rfl (lv_at hl 2 rfl) ?_
    refine lv_iconst (v := (1 : Int32)) hx hb dX4_lengthenTo_29 (by decide) ?_
    refine lv_iadd hx hb dX4_lengthenTo_30 ?_
    obtain ⟨v4, e4, hb1⟩ := cd_bind_some hb1
    refine cd_iald hx hb hK hw 3 rfl e4 dX4_lengthenTo_31 ?_
    refine lv_iload_n hx hb dX4_lengthenTo_32 rfl (lv_at hl 1 rfl) ?_
    refine lv_iadd hx hb dX4_lengthenTo_33 ?_
    refine cd_mmin hx hb (hml.trans hl.1.symm) hown hL2 hL3 hL4 hL5 (Nat.le_of_ble_eq_true rfl) (Nat.le_of_ble_eq_true rfl) dX4_lengthenTo_34 ?_
    refine lv_istore (lv' := [(4, .int (cd_min (v3 + (1 : Int32)) (v4 + (a0 - (1 : Int32))))), (0, .ref (h 0)), (2, .int (a0 - (1 : Int32))), (3, .int z1.1)]) hx hb dX4_lengthenTo_37 hl (by decide) rfl (fun ls hl => ?_)
    refine lv_aload_n hx hb dX4_lengthenTo_39 rfl (lv_at hl 1 rfl) ?_
    refine va_get (D := G) (ci := 4) (v := .ref (h 3)) (C := RX4) (T := TX4) (N := 5) hx hb hts nw_X4_lengthenTo_X4 hown hK hw.1 0 rfl rfl 2 (by decide) hL1 (fun _ h9 => h9) rfl dX4_lengthenTo_40 ?_
    refine lv_iload_n hx hb dX4_lengthenTo_43 rfl (lv_at hl 3 rfl) ?_
    obtain ⟨v5, e5, hb1⟩ := cd_bind_some hb1
    refine cd_iald hx hb hK hw 3 rfl e5 dX4_lengthenTo_44 ?_
    refine lv_iconst (v := (1 : Int32)) hx hb dX4_lengthenTo_45 (by decide) ?_
    refine lv_iadd hx hb dX4_lengthenTo_46 ?_
    refine lv_aload_n hx hb dX4_lengthenTo_47 rfl (lv_at hl 1 rfl) ?_
    refine va_get (D := G) (ci := 4) (v := .ref (h 2)) (C := RX4) (T := TX4) (N := 5) hx hb hts nw_X4_lengthenTo_X4 hown hK hw.1 0 rfl rfl 1 (by decide) hL0 (fun _ h9 => h9) rfl dX4_lengthenTo_48 ?_
    refine lv_iload_n hx hb dX4_lengthenTo_51 rfl (lv_at hl 3 rfl) ?_
    obtain ⟨v6, e6, hb1⟩ := cd_bind_some hb1
    refine cd_iald hx hb hK hw 2 rfl e6 dX4_lengthenTo_52 ?_
    refine lv_iload_n hx hb dX4_lengthenTo_53 rfl (lv_at hl 2 rfl) ?_
    refine lv_iadd hx hb dX4_lengthenTo_54 ?_
    refine cd_mmin hx hb (hml.trans hl.1.symm) hown hL2 hL3 hL4 hL5 (Nat.le_of_ble_eq_true rfl) (Nat.le_of_ble_eq_true rfl) dX4_lengthenTo_55 ?_
    refine lv_istore (lv' := [(5, .int (cd_min (v5 + (1 : Int32)) (v6 + (a0 - (1 : Int32))))), (4, .int (cd_min (v3 + (1 : Int32)) (v4 + (a0 - (1 : Int32))))), (0, .ref (h 0)), (2, .int (a0 - (1 : Int32))), (3, .int z1.1)]) hx hb dX4_lengthenTo_58 hl (by decide) rfl (fun ls hl => ?_)
    refine lv_aload_n hx hb dX4_lengthenTo_60 rfl (lv_at hl 2 rfl) ?_
    refine va_get (D := G) (ci := 4) (v := .ref (h 2)) (C := RX4) (T := TX4) (N := 5) hx hb hts nw_X4_lengthenTo_X4 hown hK hw.1 0 rfl rfl 1 (by decide) hL0 (fun _ h9 => h9) rfl dX4_lengthenTo_61 ?_
    refine lv_iload_n hx hb dX4_lengthenTo_64 rfl (lv_at hl 4 rfl) ?_
    refine lv_aload_n hx hb dX4_lengthenTo_65 rfl (lv_at hl 2 rfl) ?_
    refine lv_iload_n hx hb dX4_lengthenTo_66 rfl (lv_at hl 4 rfl) ?_
    refine lv_iload hx hb dX4_lengthenTo_67 (lv_at hl 1 rfl) ?_
    obtain ⟨r7, e7, hb1⟩ := cd_bind_some hb1
    refine cd_callV (As := [.int z1.1, .int (cd_min (v3 + (1 : Int32)) (v4 + (a0 - (1 : Int32))))]) (rest := [.int z1.1, .ref (h 2)]) C0 hw (c_X4_inTime l G cI cZ sa sb h z1.2 z1.1 (cd_min (v3 + (1 : Int32)) (v4 + (a0 - (1 : Int32)))) r7 e7) [0, 1, 2, 3] rfl rfl 0 4 rfl rfl rfl (cwV 2 hts gX4_lengthenTo_X4_inTime rfl rfl rfl (by decide +kernel) ⟨Nat.le_of_ble_eq_true rfl, Nat.le_of_ble_eq_true rfl⟩) rfl hl.1 (lv_room (Nat.le_of_ble_eq_true rfl)) dX4_lengthenTo_69 (fun H locs hw => ?_)
    obtain ⟨j8, e8, hb1⟩ := cd_bind_some hb1
    refine cd_iast (f := z1.2 1) hx hb hK hw 2 rfl e8 dX4_lengthenTo_72 (fun H locs hw => ?_)
    have hw : cd_WS G A s.heap H locs ((pc_walk cI h (cd_set z1.2 1 j8 r7))) := (show ∀ (s9 : Nat → Nat → Int32) (y9 : Int32), cd_WS G A s.heap H locs (((pc_walk cI h s9)).set 2 (h 2, .inl (cI, 12, .inl (upd (s9 1) j8 y9)))) → cd_WS G A s.heap H locs ((pc_walk cI h (cd_set s9 1 j8 y9))) from fun _ _ hh => hh) z1.2 r7 hw
    refine lv_aload_n hx hb dX4_lengthenTo_73 rfl (lv_at hl 2 rfl) ?_
    refine va_get (D := G) (ci := 4) (v := .ref (h 3)) (C := RX4) (T := TX4) (N := 5) hx hb hts nw_X4_lengthenTo_X4 hown hK hw.1 0 rfl rfl 2 (by decide) hL1 (fun _ h9 => h9) rfl dX4_lengthenTo_74 ?_
    refine lv_iload_n hx hb dX4_lengthenTo_77 rfl (lv_at hl 4 rfl) ?_
    refine lv_aload_n hx hb dX4_lengthenTo_78 rfl (lv_at hl 2 rfl) ?_
    refine lv_iload_n hx hb dX4_lengthenTo_79 rfl (lv_at hl 4 rfl) ?_
    refine lv_iload_n hx hb dX4_lengthenTo_80 rfl (lv_at hl 3 rfl) ?_
    refine lv_iadd hx hb dX4_lengthenTo_81 ?_
    refine lv_iload hx hb dX4_lengthenTo_82 (lv_at hl 0 rfl) ?_
    obtain ⟨r9, e9, hb1⟩ := cd_bind_some hb1
    refine cd_callV (As := [.int (z1.1 + (a0 - (1 : Int32))), .int (cd_min (v5 + (1 : Int32)) (v6 + (a0 - (1 : Int32))))]) (rest := [.int z1.1, .ref (h 3)]) C0 hw (c_X4_inTime l G cI cZ sa sb h (cd_set z1.2 1 j8 r7) (z1.1 + (a0 - (1 : Int32))) (cd_min (v5 + (1 : Int32)) (v6 + (a0 - (1 : Int32)))) r9 e9) [0, 1, 2, 3] rfl rfl 0 4 rfl rfl rfl (cwV 2 hts gX4_lengthenTo_X4_inTime rfl rfl rfl (by decide +kernel) ⟨Nat.le_of_ble_eq_true rfl, Nat.le_of_ble_eq_true rfl⟩) rfl hl.1 (lv_room (Nat.le_of_ble_eq_true rfl)) dX4_lengthenTo_84 (fun H locs hw => ?_)
    obtain ⟨j10, e10, hb1⟩ := cd_bind_some hb1
    refine cd_iast (f := (cd_set z1.2 1 j8 r7) 2) hx hb hK hw 3 rfl e10 dX4_lengthenTo_87 (fun H locs hw => ?_)
    have hw : cd_WS G A s.heap H locs ((pc_walk cI h (cd_set (cd_set z1.2 1 j8 r7) 2 j10 r9))) := (show ∀ (s9 : Nat → Nat → Int32) (y9 : Int32), cd_WS G A s.heap H locs (((pc_walk cI h s9)).set 3 (h 3, .inl (cI, 12, .inl (upd (s9 2) j10 y9)))) → cd_WS G A s.heap H locs ((pc_walk cI h (cd_set s9 2 j10 y9))) from fun _ _ hh => hh) (cd_set z1.2 1 j8 r7) r9 hw
    refine lv_iinc (v := (z1.1 + (1 : Int32))) (lv' := [(3, .int (z1.1 + (1 : Int32))), (5, .int (cd_min (v5 + (1 : Int32)) (v6 + (a0 - (1 : Int32))))), (4, .int (cd_min (v3 + (1 : Int32)) (v4 + (a0 - (1 : Int32))))), (0, .ref (h 0)), (2, .int (a0 - (1 : Int32)))]) hx hb dX4_lengthenTo_88 hl (k := 4) rfl rfl (by decide) rfl (fun ls hl => ?_)
    refine lv_goto (tgt := 6) hx hb dX4_lengthenTo_91 (by decide) ?_
    have z : some (Sum.inr ((z1.1 + (1 : Int32)), (cd_set (cd_set z1.2 1 j8 r7) 2 j10 r9))) = some o1 := hb1
    cases z
    exact hk1 _ _ _ (lv_sub hl [3, 4, 0] rfl) hw
abbrev rm_X4_fewestMinutes : Room := { frames := 2, cells := 0, slots := 0, locals := 47 }
theorem nw_X4_fewestMinutes_X4 : ∀ w ∈ u_ws RX4 TX4 5, w ∈ wsX4_fewestMinutes := by decide +kernel
set_option maxHeartbeats 4000000 in
set_option maxRecDepth 100000 in
theorem c_X4_fewestMinutes (l : Launch) (G : va_G) (cI cZ : ClassId) (sa sb : Nat) (h : Nat → Nat) (V : Nat → Nat → Int32) (a0 : Int32) (a1 : Int32) (o : Int32 × (Nat → Nat → Int32)) (hf : f_X4_fewestMinutes a0 a1 V = some o) : cd_Ct l G cI cZ sa sb yX4_fewestMinutes wsX4_fewestMinutes rm_X4_fewestMinutes [.ref (h 0), .int a0, .int a1] ((pc_walk cI h V)) ((pc_walk cI h o.2)) (some (.int o.1)) := by
  refine cd_of (cc := cX4_fewestMinutes) (maxL := 6) (ret := (some .int)) (by decide) rfl (Nat.le_of_ble_eq_true rfl) ?_
  intro p e s m ag below meth c A ls Q C0 hl hw hQ
  have C0 : cd_CX G cI cZ sa sb p s m ag meth c cX4_fewestMinutes 6 (some .int) wsX4_fewestMinutes RX4 A := C0
  obtain ⟨⟨hx, hb, hml, hown, hts⟩, hr, hlocks, hA, hE⟩ := id C0
  have hK := hE.1
  have hL0 := hts (.initialized RX5) (by decide +kernel)
  have hL1 := hts (.static yX5_isCandle) (by decide +kernel)
  have hL2 := hts (.constant RX4 38 (1000000)) (by decide +kernel)
  have hL3 := hts (.fieldLink RX4 15 "CandleDebts$Walk" "atWest" "[I") (by decide +kernel)
  have hL4 := hts (.fieldLink RX4 18 "CandleDebts$Walk" "atEast" "[I") (by decide +kernel)
  have hL5 := hts (.methodLink RX4 39 Lib.Math.min.name) (by decide +kernel)
  have hL6 := hts (.static Lib.Math.min.name) (by decide +kernel)
  have hL7 := hts (.initialized "java/lang/Math") (by decide +kernel)
  have hL8 := hts (.code Lib.Math.min.name Lib.Math.min.code 2 (some .int)) (by decide +kernel)
  have hl : lv_has ls 6 [(0, .ref (h 0)), (1, .int a0), (2, .int a1)] := hl
  unfold f_X4_fewestMinutes at hf
  refine lv_iload_n hx hb dX4_fewestMinutes_0 rfl (lv_at hl 1 rfl) ?_
  refine lv_iload_n hx hb dX4_fewestMinutes_1 rfl (lv_at hl 2 rfl) ?_
  refine lv_iadd hx hb dX4_fewestMinutes_2 ?_
  refine lv_istore_n (lv' := [(3, .int (a0 + a1)), (0, .ref (h 0)), (1, .int a0), (2, .int a1)]) hx hb dX4_fewestMinutes_3 rfl hl (by decide) rfl (fun ls hl => ?_)
  refine lv_iload_n hx hb dX4_fewestMinutes_4 rfl (lv_at hl 0 rfl) ?_
  obtain ⟨r1, e1, hf⟩ := cd_bind_some hf
  refine cd_callSN (As := [.int (a0 + a1)]) (rest := []) C0 hw (c_X5_isCandle l G cI cZ sa sb (a0 + a1) r1 e1) [] rfl rfl ⟨va_cnB 1 hts ggX4_fewestMinutes_X5_isCandle rfl rfl rfl (hE.2.1 (.methodLinkNest RX4 48 yX5_isCandle RX5) (by simp [cd_nest])) hL0 (by decide +kernel) ⟨Nat.le_of_ble_eq_true rfl, Nat.le_of_ble_eq_true rfl⟩, hL1, trivial⟩ rfl hl.1 (lv_room (Nat.le_of_ble_eq_true rfl)) dX4_fewestMinutes_5 (fun H locs hw => ?_)
  refine lv_if_ne (tgt := 14) hx hb dX4_fewestMinutes_8 (by decide) (fun c2 => ?_) (fun c2 => ?_)
  · have hf := cd_ite_f c2 hf
    refine lv_iconst (v := (0 : Int32)) hx hb dX4_fewestMinutes_14 (by decide) ?_
    refine lv_istore (lv' := [(4, .int (0 : Int32)), (3, .int (a0 + a1)), (0, .ref (h 0)), (1, .int a0), (2, .int a1)]) hx hb dX4_fewestMinutes_15 hl (by decide) rfl (fun ls hl => ?_)
    obtain ⟨x3, e3, hf⟩ := cd_bind_some hf
    have K3 : ∀ (t3 : (Nat → Nat → Int32)), t3 = x3 → ∀ (ls : Array Slot) (H : Heap) (locs : List Loc), lv_has ls 6 [(0, .ref (h 0)), (1, .int a0), (2, .int a1), (3, .int (a0 + a1))] → cd_WS G A s.heap H locs ((pc_walk cI h t3)) → W p l e rm_X4_fewestMinutes s m ag below meth c H locs 0 0 Q (F0 m 48 ls []) := by
      intro t3 hs_3
      subst hs_3
      intro ls H locs hl hw
      refine lv_iload_n hx hb dX4_fewestMinutes_48 rfl (lv_at hl 2 rfl) ?_
      obtain ⟨x7, e7, hf⟩ := cd_bind_some hf
      have K7 : ∀ (ls : Array Slot) (H : Heap) (locs : List Loc), lv_has ls 6 [(0, .ref (h 0))] → cd_WS G A s.heap H locs ((pc_walk cI h x7)) → W p l e rm_X4_fewestMinutes s m ag below meth c H locs 0 0 Q (F0 m 79 ls []) := by
        intro ls H locs hl hw
        refine lv_aload_n hx hb dX4_fewestMinutes_79 rfl (lv_at hl 0 rfl) ?_
        refine lv_iconst (v := (2 : Int32)) hx hb dX4_fewestMinutes_80 (by decide) ?_
        obtain ⟨r8, e8, hf⟩ := cd_bind_some hf
        refine cd_callV (As := [.int (2 : Int32)]) (rest := []) C0 hw (c_X4_fewestOfLength l G cI cZ sa sb h x7 (2 : Int32) r8 e8) [0, 1, 2, 3] rfl rfl 0 4 rfl rfl rfl (cwV 1 hts gX4_fewestMinutes_X4_fewestOfLength rfl rfl rfl (by decide +kernel) ⟨Nat.le_of_ble_eq_true rfl, Nat.le_of_ble_eq_true rfl⟩) rfl hl.1 (lv_room (Nat.le_of_ble_eq_true rfl)) dX4_fewestMinutes_81 (fun H locs hw => ?_)
        refine lv_istore (lv' := [(4, .int r8), (0, .ref (h 0))]) hx hb dX4_fewestMinutes_84 hl (by decide) rfl (fun ls hl => ?_)
        refine lv_iconst (v := (3 : Int32)) hx hb dX4_fewestMinutes_86 (by decide) ?_
        refine lv_istore (lv' := [(5, .int (3 : Int32)), (4, .int r8), (0, .ref (h 0))]) hx hb dX4_fewestMinutes_87 hl (by decide) rfl (fun ls hl => ?_)
        obtain ⟨x9, e9, hf⟩ := cd_bind_some hf
        have K9 : ∀ (t9 : Int32 × (Nat → Nat → Int32)), t9 = x9 → ∀ (ls : Array Slot) (H : Heap) (locs : List Loc), lv_has ls 6 [(4, .int t9.1)] → cd_WS G A s.heap H locs ((pc_walk cI h t9.2)) → W p l e rm_X4_fewestMinutes s m ag below meth c H locs 0 0 Q (F0 m 121 ls []) := by
          intro t9 hs_9
          subst hs_9
          intro ls H locs hl hw
          refine lv_iload hx hb dX4_fewestMinutes_121 (lv_at hl 0 rfl) ?_
          have z : some (t9.1, t9.2) = some o := hf
          cases z
          rw [hQ]
          exact cd_reti C0 hw dX4_fewestMinutes_123
        refine cd_iter_ind (body := f_X4_fewestMinutes_b89) (K := fun r => r = x9) (P := fun (z9 : Int32 × Int32 × (Nat → Nat → Int32)) => ∀ (ls : Array Slot) (H : Heap) (locs : List Loc), lv_has ls 6 [(0, .ref (h 0)), (4, .int z9.1), (5, .int z9.2.1)] → cd_WS G A s.heap H locs ((pc_walk cI h z9.2.2)) → W p l e rm_X4_fewestMinutes s m ag below meth c H locs 0 0 Q (F0 m 89 ls [])) ?_ cd_N (r8, (3 : Int32), x7) x9 e9 rfl _ _ _ (lv_sub hl [2, 1, 0] rfl) hw
        intro z9 o9 hb9 hk9 ls H locs hl hw
        unfold f_X4_fewestMinutes_b89 at hb9
        refine lv_iload hx hb dX4_fewestMinutes_89 (lv_at hl 2 rfl) ?_
        refine lv_bipush (v := (12 : Int32)) hx hb dX4_fewestMinutes_91 (by decide) ?_
        refine lv_icmp_gt (tgt := 121) hx hb dX4_fewestMinutes_93 (by decide) (fun c10 => ?_) (fun c10 => ?_)
        · have hb9 := cd_ite_t c10 hb9
          have z : some (Sum.inl (z9.1, z9.2.2)) = some o9 := hb9
          cases z
          exact K9 _ hk9 _ _ _ (lv_sub hl [1] rfl) hw
        · have hb9 := cd_ite_f c10 hb9
          refine lv_aload_n hx hb dX4_fewestMinutes_96 rfl (lv_at hl 0 rfl) ?_
          refine lv_iload hx hb dX4_fewestMinutes_97 (lv_at hl 2 rfl) ?_
          obtain ⟨r11, e11, hb9⟩ := cd_bind_some hb9
          refine cd_callVw (As := [.int z9.2.1]) (rest := []) (wr := ([] : va_W)) (wn := (pc_walk cI h r11)) C0 hw (c_X4_lengthenTo l G cI cZ sa sb h z9.2.2 z9.2.1 r11 e11) [0, 1, 2, 3] [] [0, 1, 2, 3] rfl rfl rfl rfl (by decide) rfl rfl 0 4 rfl rfl rfl (cwV 1 hts gX4_fewestMinutes_X4_lengthenTo rfl rfl rfl (by decide +kernel) ⟨Nat.le_of_ble_eq_true rfl, Nat.le_of_ble_eq_true rfl⟩) rfl hl.1 (lv_room (Nat.le_of_ble_eq_true rfl)) dX4_fewestMinutes_99 (fun H locs hw => ?_)
          refine lv_iload hx hb dX4_fewestMinutes_102 (lv_at hl 1 rfl) ?_
          refine lv_aload_n hx hb dX4_fewestMinutes_104 rfl (lv_at hl 0 rfl) ?_
          refine lv_iload hx hb dX4_fewestMinutes_105 (lv_at hl 2 rfl) ?_
          obtain ⟨r12, e12, hb9⟩ := cd_bind_some hb9
          refine cd_callV (As := [.int z9.2.1]) (rest := [.int z9.1]) C0 hw (c_X4_fewestOfLength l G cI cZ sa sb h r11 z9.2.1 r12 e12) [0, 1, 2, 3] rfl rfl 0 4 rfl rfl rfl (cwV 1 hts gX4_fewestMinutes_X4_fewestOfLength rfl rfl rfl (by decide +kernel) ⟨Nat.le_of_ble_eq_true rfl, Nat.le_of_ble_eq_true rfl⟩) rfl hl.1 (lv_room (Nat.le_of_ble_eq_true rfl)) dX4_fewestMinutes_107 (fun H locs hw => ?_)
          refine cd_mmin hx hb (hml.trans hl.1.symm) hown hL5 hL6 hL7 hL8 (Nat.le_of_ble_eq_true rfl) (Nat.le_of_ble_eq_true rfl) dX4_fewestMinutes_110 ?_
          refine lv_istore (lv' := [(4, .int (cd_min z9.1 r12)), (0, .ref (h 0)), (5, .int z9.2.1)]) hx hb dX4_fewestMinutes_113 hl (by decide) rfl (fun ls hl => ?_)
          refine lv_iinc (v := (z9.2.1 + (1 : Int32))) (lv' := [(5, .int (z9.2.1 + (1 : Int32))), (4, .int (cd_min z9.1 r12)), (0, .ref (h 0))]) hx hb dX4_fewestMinutes_115 hl (k := 2) rfl rfl (by decide) rfl (fun ls hl => ?_)
          refine lv_goto (tgt := 89) hx hb dX4_fewestMinutes_118 (by decide) ?_
          have z : some (Sum.inr ((cd_min z9.1 r12), (z9.2.1 + (1 : Int32)), r11)) = some o9 := hb9
          cases z
          exact hk9 _ _ _ (lv_sub hl [2, 1, 0] rfl) hw
      refine lv_if_ge (tgt := 67) hx hb dX4_fewestMinutes_49 (by decide) (fun c7 => ?_) (fun c7 => ?_)
      · have e7 := cd_ite_t c7 e7
        refine lv_aload_n hx hb dX4_fewestMinutes_67 rfl (lv_at hl 0 rfl) ?_
        refine va_get (D := G) (ci := 4) (v := .ref (h 3)) (C := RX4) (T := TX4) (N := 5) hx hb hts nw_X4_fewestMinutes_X4 hown hK hw.1 0 rfl rfl 2 (by decide) hL4 (fun _ h9 => h9) rfl dX4_fewestMinutes_68 ?_
        refine lv_iload_n hx hb dX4_fewestMinutes_71 rfl (lv_at hl 1 rfl) ?_
        refine lv_aload_n hx hb dX4_fewestMinutes_72 rfl (lv_at hl 0 rfl) ?_
        refine lv_iload_n hx hb dX4_fewestMinutes_73 rfl (lv_at hl 3 rfl) ?_
        refine lv_iconst (v := (1 : Int32)) hx hb dX4_fewestMinutes_74 (by decide) ?_
        obtain ⟨r13, e13, e7⟩ := cd_bind_some e7
        refine cd_callV (As := [.int (a0 + a1), .int (1 : Int32)]) (rest := [.int a0, .ref (h 3)]) C0 hw (c_X4_inTime l G cI cZ sa sb h t3 (a0 + a1) (1 : Int32) r13 e13) [0, 1, 2, 3] rfl rfl 0 4 rfl rfl rfl (cwV 2 hts gX4_fewestMinutes_X4_inTime rfl rfl rfl (by decide +kernel) ⟨Nat.le_of_ble_eq_true rfl, Nat.le_of_ble_eq_true rfl⟩) rfl hl.1 (lv_room (Nat.le_of_ble_eq_true rfl)) dX4_fewestMinutes_75 (fun H locs hw => ?_)
        obtain ⟨j14, e14, e7⟩ := cd_bind_some e7
        refine cd_iast (f := t3 2) hx hb hK hw 3 rfl e14 dX4_fewestMinutes_78 (fun H locs hw => ?_)
        have hw : cd_WS G A s.heap H locs ((pc_walk cI h (cd_set t3 2 j14 r13))) := (show ∀ (s9 : Nat → Nat → Int32) (y9 : Int32), cd_WS G A s.heap H locs (((pc_walk cI h s9)).set 3 (h 3, .inl (cI, 12, .inl (upd (s9 2) j14 y9)))) → cd_WS G A s.heap H locs ((pc_walk cI h (cd_set s9 2 j14 y9))) from fun _ _ hh => hh) t3 r13 hw
        have z : some (cd_set t3 2 j14 r13) = some x7 := e7
        cases z
        exact K7 _ _ _ (lv_sub hl [0] rfl) hw
      · have e7 := cd_ite_f c7 e7
        refine lv_aload_n hx hb dX4_fewestMinutes_52 rfl (lv_at hl 0 rfl) ?_
        refine va_get (D := G) (ci := 4) (v := .ref (h 2)) (C := RX4) (T := TX4) (N := 5) hx hb hts nw_X4_fewestMinutes_X4 hown hK hw.1 0 rfl rfl 1 (by decide) hL3 (fun _ h9 => h9) rfl dX4_fewestMinutes_53 ?_
        refine lv_iload_n hx hb dX4_fewestMinutes_56 rfl (lv_at hl 3 rfl) ?_
        refine lv_aload_n hx hb dX4_fewestMinutes_57 rfl (lv_at hl 0 rfl) ?_
        refine lv_iload_n hx hb dX4_fewestMinutes_58 rfl (lv_at hl 3 rfl) ?_
        refine lv_iconst (v := (1 : Int32)) hx hb dX4_fewestMinutes_59 (by decide) ?_
        obtain ⟨r15, e15, e7⟩ := cd_bind_some e7
        refine cd_callV (As := [.int (a0 + a1), .int (1 : Int32)]) (rest := [.int (a0 + a1), .ref (h 2)]) C0 hw (c_X4_inTime l G cI cZ sa sb h t3 (a0 + a1) (1 : Int32) r15 e15) [0, 1, 2, 3] rfl rfl 0 4 rfl rfl rfl (cwV 2 hts gX4_fewestMinutes_X4_inTime rfl rfl rfl (by decide +kernel) ⟨Nat.le_of_ble_eq_true rfl, Nat.le_of_ble_eq_true rfl⟩) rfl hl.1 (lv_room (Nat.le_of_ble_eq_true rfl)) dX4_fewestMinutes_60 (fun H locs hw => ?_)
        obtain ⟨j16, e16, e7⟩ := cd_bind_some e7
        refine cd_iast (f := t3 1) hx hb hK hw 2 rfl e16 dX4_fewestMinutes_63 (fun H locs hw => ?_)
        have hw : cd_WS G A s.heap H locs ((pc_walk cI h (cd_set t3 1 j16 r15))) := (show ∀ (s9 : Nat → Nat → Int32) (y9 : Int32), cd_WS G A s.heap H locs (((pc_walk cI h s9)).set 2 (h 2, .inl (cI, 12, .inl (upd (s9 1) j16 y9)))) → cd_WS G A s.heap H locs ((pc_walk cI h (cd_set s9 1 j16 y9))) from fun _ _ hh => hh) t3 r15 hw
        refine lv_goto (tgt := 79) hx hb dX4_fewestMinutes_64 (by decide) ?_
        have z : some (cd_set t3 1 j16 r15) = some x7 := e7
        cases z
        exact K7 _ _ _ (lv_sub hl [0] rfl) hw
    refine cd_iter_ind (body := f_X4_fewestMinutes_b17) (K := fun r => r = x3) (P := fun (z3 : Int32 × (Nat → Nat → Int32)) => ∀ (ls : Array Slot) (H : Heap) (locs : List Loc), lv_has ls 6 [(0, .ref (h 0)), (1, .int a0), (2, .int a1), (3, .int (a0 + a1)), (4, .int z3.1)] → cd_WS G A s.heap H locs ((pc_walk cI h z3.2)) → W p l e rm_X4_fewestMinutes s m ag below meth c H locs 0 0 Q (F0 m 17 ls [])) ?_ cd_N ((0 : Int32), V) x3 e3 rfl _ _ _ (lv_sub hl [2, 3, 4, 1, 0] rfl) hw
    intro z3 o3 hb3 hk3 ls H locs hl hw
    unfold f_X4_fewestMinutes_b17 at hb3
    refine lv_iload hx hb dX4_fewestMinutes_17 (lv_at hl 4 rfl) ?_
    refine lv_bipush (v := (12 : Int32)) hx hb dX4_fewestMinutes_19 (by decide) ?_
    refine lv_icmp_ge (tgt := 48) hx hb dX4_fewestMinutes_21 (by decide) (fun c4 => ?_) (fun c4 => ?_)
    · have hb3 := cd_ite_t c4 hb3
      have z : some (Sum.inl z3.2) = some o3 := hb3
      cases z
      exact K3 _ hk3 _ _ _ (lv_sub hl [0, 1, 2, 3] rfl) hw
    · have hb3 := cd_ite_f c4 hb3
      refine lv_aload_n hx hb dX4_fewestMinutes_24 rfl (lv_at hl 0 rfl) ?_
      refine va_get (D := G) (ci := 4) (v := .ref (h 2)) (C := RX4) (T := TX4) (N := 5) hx hb hts nw_X4_fewestMinutes_X4 hown hK hw.1 0 rfl rfl 1 (by decide) hL3 (fun _ h9 => h9) rfl dX4_fewestMinutes_25 ?_
      refine lv_iload hx hb dX4_fewestMinutes_28 (lv_at hl 4 rfl) ?_
      refine lv_ldc (v := (1000000 : Int32)) hx hb hown hL2 dX4_fewestMinutes_30 ?_
      obtain ⟨j5, e5, hb3⟩ := cd_bind_some hb3
      refine cd_iast (f := z3.2 1) hx hb hK hw 2 rfl e5 dX4_fewestMinutes_32 (fun H locs hw => ?_)
      have hw : cd_WS G A s.heap H locs ((pc_walk cI h (cd_set z3.2 1 j5 (1000000 : Int32)))) := (show ∀ (s9 : Nat → Nat → Int32) (y9 : Int32), cd_WS G A s.heap H locs (((pc_walk cI h s9)).set 2 (h 2, .inl (cI, 12, .inl (upd (s9 1) j5 y9)))) → cd_WS G A s.heap H locs ((pc_walk cI h (cd_set s9 1 j5 y9))) from fun _ _ hh => hh) z3.2 (1000000 : Int32) hw
      refine lv_aload_n hx hb dX4_fewestMinutes_33 rfl (lv_at hl 0 rfl) ?_
      refine va_get (D := G) (ci := 4) (v := .ref (h 3)) (C := RX4) (T := TX4) (N := 5) hx hb hts nw_X4_fewestMinutes_X4 hown hK hw.1 0 rfl rfl 2 (by decide) hL4 (fun _ h9 => h9) rfl dX4_fewestMinutes_34 ?_
      refine lv_iload hx hb dX4_fewestMinutes_37 (lv_at hl 4 rfl) ?_
      refine lv_ldc (v := (1000000 : Int32)) hx hb hown hL2 dX4_fewestMinutes_39 ?_
      obtain ⟨j6, e6, hb3⟩ := cd_bind_some hb3
      refine cd_iast (f := (cd_set z3.2 1 j5 (1000000 : Int32)) 2) hx hb hK hw 3 rfl e6 dX4_fewestMinutes_41 (fun H locs hw => ?_)
      have hw : cd_WS G A s.heap H locs ((pc_walk cI h (cd_set (cd_set z3.2 1 j5 (1000000 : Int32)) 2 j6 (1000000 : Int32)))) := (show ∀ (s9 : Nat → Nat → Int32) (y9 : Int32), cd_WS G A s.heap H locs (((pc_walk cI h s9)).set 3 (h 3, .inl (cI, 12, .inl (upd (s9 2) j6 y9)))) → cd_WS G A s.heap H locs ((pc_walk cI h (cd_set s9 2 j6 y9))) from fun _ _ hh => hh) (cd_set z3.2 1 j5 (1000000 : Int32)) (1000000 : Int32) hw
      refine lv_iinc (v := (z3.1 + (1 : Int32))) (lv' := [(4, .int (z3.1 + (1 : Int32))), (0, .ref (h 0)), (1, .int a0), (2, .int a1), (3, .int (a0 + a1))]) hx hb dX4_fewestMinutes_42 hl (k := 4) rfl rfl (by decide) rfl (fun ls hl => ?_)
      refine lv_goto (tgt := 17) hx hb dX4_fewestMinutes_45 (by decide) ?_
      have z : some (Sum.inr ((z3.1 + (1 : Int32)), (cd_set (cd_set z3.2 1 j5 (1000000 : Int32)) 2 j6 (1000000 : Int32)))) = some o3 := hb3
      cases z
      exact hk3 _ _ _ (lv_sub hl [1, 2, 3, 4, 0] rfl) hw
  · have hf := cd_ite_t c2 hf
    refine lv_ldc (v := (1000000 : Int32)) hx hb hown hL2 dX4_fewestMinutes_11 ?_
    have z : some ((1000000 : Int32), V) = some o := hf
    cases z
    rw [hQ]
    exact cd_reti C0 hw dX4_fewestMinutes_13
abbrev rm_X4_isNeeded : Room := { frames := 3, cells := 0, slots := 0, locals := 67 }
theorem nw_X4_isNeeded_X4 : ∀ w ∈ u_ws RX4 TX4 5, w ∈ wsX4_isNeeded := by decide +kernel
set_option maxHeartbeats 4000000 in
set_option maxRecDepth 100000 in
theorem c_X4_isNeeded (l : Launch) (G : va_G) (cI cZ : ClassId) (sa sb : Nat) (h ht : Nat → Nat) (V T : Nat → Nat → Int32) (a0 : Int32) (o : Int32 × (Nat → Nat → Int32)) (hf : f_X4_isNeeded a0 V T = some o) : cd_Ct l G cI cZ sa sb yX4_isNeeded wsX4_isNeeded rm_X4_isNeeded [.ref (h 0), .ref (ht 0), .int a0] ((pc_walk cI h V) ++ (pc_town cI ht T)) ((pc_walk cI h o.2) ++ (pc_town cI ht T)) (some (.int o.1)) := by
  refine cd_of (cc := cX4_isNeeded) (maxL := 5) (ret := (some .boolean)) (by decide) rfl (Nat.le_of_ble_eq_true rfl) ?_
  intro p e s m ag below meth c A ls Q C0 hl hw hQ
  have C0 : cd_CX G cI cZ sa sb p s m ag meth c cX4_isNeeded 5 (some .boolean) wsX4_isNeeded RX4 A := C0
  obtain ⟨⟨hx, hb, hml, hown, hts⟩, hr, hlocks, hA, hE⟩ := id C0
  have hK := hE.1
  have hL0 := hts (.fieldLink RX4 21 "CandleDebts$Walk" "west" "I") (by decide +kernel)
  have hL1 := hts (.fieldLink RX4 25 "CandleDebts$Walk" "east" "I") (by decide +kernel)
  have hL2 := hts (.fieldLink RX4 9 "CandleDebts$Walk" "limits" "[I") (by decide +kernel)
  have hL3 := hts (.constant RX4 38 (1000000)) (by decide +kernel)
  have hL4 := hts (.methodLink RX4 39 Lib.Math.min.name) (by decide +kernel)
  have hL5 := hts (.static Lib.Math.min.name) (by decide +kernel)
  have hL6 := hts (.initialized "java/lang/Math") (by decide +kernel)
  have hL7 := hts (.code Lib.Math.min.name Lib.Math.min.code 2 (some .int)) (by decide +kernel)
  have hL8 := hts (.methodLink RX4 45 Lib.Math.max.name) (by decide +kernel)
  have hL9 := hts (.static Lib.Math.max.name) (by decide +kernel)
  have hL10 := hts (.code Lib.Math.max.name Lib.Math.max.code 2 (some .int)) (by decide +kernel)
  have hl : lv_has ls 5 [(0, .ref (h 0)), (1, .ref (ht 0)), (2, .int a0)] := hl
  unfold f_X4_isNeeded at hf
  refine lv_aload_n hx hb dX4_isNeeded_0 rfl (lv_at hl 0 rfl) ?_
  refine lv_iload_n hx hb dX4_isNeeded_1 rfl (lv_at hl 2 rfl) ?_
  refine va_put (D := G) (ci := 4) (v := .int a0) (ty := .int) (C := RX4) (T := TX4) (N := 5) hx hb hts nw_X4_isNeeded_X4 tyX4 tyX4_ok nmX4 hown hK hw.1 hw.2.1 hw.2.2 0 rfl rfl 3 (by decide) hL0 (fun _ h9 => h9) rfl (by decide +kernel) rfl rfl (Nat.le_of_ble_eq_true rfl) dX4_isNeeded_2 (fun H locs hP hD hS => ?_)
  have hw : cd_WS G A s.heap H locs ((pc_walk cI h (cd_fld V 3 a0)) ++ (pc_town cI ht T)) := ⟨hP, hD, hS⟩
  refine lv_aload_n hx hb dX4_isNeeded_5 rfl (lv_at hl 0 rfl) ?_
  refine lv_iload_n hx hb dX4_isNeeded_6 rfl (lv_at hl 2 rfl) ?_
  refine va_put (D := G) (ci := 4) (v := .int a0) (ty := .int) (C := RX4) (T := TX4) (N := 5) hx hb hts nw_X4_isNeeded_X4 tyX4 tyX4_ok nmX4 hown hK hw.1 hw.2.1 hw.2.2 0 rfl rfl 4 (by decide) hL1 (fun _ h9 => h9) rfl (by decide +kernel) rfl rfl (Nat.le_of_ble_eq_true rfl) dX4_isNeeded_7 (fun H locs hP hD hS => ?_)
  have hw : cd_WS G A s.heap H locs ((pc_walk cI h (cd_fld (cd_fld V 3 a0) 4 a0)) ++ (pc_town cI ht T)) := ⟨hP, hD, hS⟩
  refine lv_iconst (v := (0 : Int32)) hx hb dX4_isNeeded_10 (by decide) ?_
  refine lv_istore_n (lv' := [(3, .int (0 : Int32)), (0, .ref (h 0)), (1, .ref (ht 0)), (2, .int a0)]) hx hb dX4_isNeeded_11 rfl hl (by decide) rfl (fun ls hl => ?_)
  obtain ⟨x1, e1, hf⟩ := cd_bind_some hf
  have K1 : ∀ (t1 : (Nat → Nat → Int32)), t1 = x1 → ∀ (ls : Array Slot) (H : Heap) (locs : List Loc), lv_has ls 5 [(0, .ref (h 0)), (2, .int a0)] → cd_WS G A s.heap H locs ((pc_walk cI h t1) ++ (pc_town cI ht T)) → W p l e rm_X4_isNeeded s m ag below meth c H locs 0 0 Q (F0 m 100 ls []) := by
    intro t1 hs_1
    subst hs_1
    intro ls H locs hl hw
    refine lv_aload_n hx hb dX4_isNeeded_100 rfl (lv_at hl 0 rfl) ?_
    refine va_get (D := G) (ci := 4) (v := .int (t1 3 0)) (C := RX4) (T := TX4) (N := 5) hx hb hts nw_X4_isNeeded_X4 hown hK hw.1 0 rfl rfl 3 (by decide) hL0 (fun _ h9 => h9) rfl dX4_isNeeded_101 ?_
    refine lv_iload_n hx hb dX4_isNeeded_104 rfl (lv_at hl 1 rfl) ?_
    obtain ⟨x9, e9, hf⟩ := cd_bind_some hf
    have K9 : ∀ (ls : Array Slot) (H : Heap) (locs : List Loc), lv_has ls 5 [] → cd_WS G A s.heap H locs ((pc_walk cI h t1) ++ (pc_town cI ht T)) → W p l e rm_X4_isNeeded s m ag below meth c H locs 0 0 Q (F0 m 121 ls [.int x9]) := by
      intro ls H locs hl hw
      obtain ⟨u10, e10, hf⟩ := cd_bind_some hf
      have z : some (x9, t1) = some o := hf
      cases z
      rw [hQ]
      exact cd_retz C0 hw (cd_zb_eq e10) dX4_isNeeded_121
    refine lv_icmp_lt (tgt := 116) hx hb dX4_isNeeded_105 (by decide) (fun c9 => ?_) (fun c9 => ?_)
    · have e9 := cd_ite_t c9 e9
      refine lv_iconst (v := (1 : Int32)) hx hb dX4_isNeeded_116 (by decide) ?_
      refine lv_goto (tgt := 121) hx hb dX4_isNeeded_117 (by decide) ?_
      have z : some (1 : Int32) = some x9 := e9
      cases z
      exact K9 _ _ _ (lv_sub hl [] rfl) hw
    · have e9 := cd_ite_f c9 e9
      refine lv_aload_n hx hb dX4_isNeeded_108 rfl (lv_at hl 0 rfl) ?_
      refine va_get (D := G) (ci := 4) (v := .int (t1 4 0)) (C := RX4) (T := TX4) (N := 5) hx hb hts nw_X4_isNeeded_X4 hown hK hw.1 0 rfl rfl 4 (by decide) hL1 (fun _ h9 => h9) rfl dX4_isNeeded_109 ?_
      refine lv_iload_n hx hb dX4_isNeeded_112 rfl (lv_at hl 1 rfl) ?_
      refine lv_icmp_le (tgt := 120) hx hb dX4_isNeeded_113 (by decide) (fun c11 => ?_) (fun c11 => ?_)
      · have e9 := cd_ite_t c11 e9
        refine lv_iconst (v := (0 : Int32)) hx hb dX4_isNeeded_120 (by decide) ?_
        have z : some (0 : Int32) = some x9 := e9
        cases z
        exact K9 _ _ _ (lv_sub hl [] rfl) hw
      · have e9 := cd_ite_f c11 e9
        refine lv_iconst (v := (1 : Int32)) hx hb dX4_isNeeded_116 (by decide) ?_
        refine lv_goto (tgt := 121) hx hb dX4_isNeeded_117 (by decide) ?_
        have z : some (1 : Int32) = some x9 := e9
        cases z
        exact K9 _ _ _ (lv_sub hl [] rfl) hw
  refine cd_iter_ind (body := (f_X4_isNeeded_b12 T)) (K := fun r => r = x1) (P := fun (z1 : Int32 × (Nat → Nat → Int32)) => ∀ (ls : Array Slot) (H : Heap) (locs : List Loc), lv_has ls 5 [(0, .ref (h 0)), (1, .ref (ht 0)), (2, .int a0), (3, .int z1.1)] → cd_WS G A s.heap H locs ((pc_walk cI h z1.2) ++ (pc_town cI ht T)) → W p l e rm_X4_isNeeded s m ag below meth c H locs 0 0 Q (F0 m 12 ls [])) ?_ cd_N ((0 : Int32), (cd_fld (cd_fld V 3 a0) 4 a0)) x1 e1 rfl _ _ _ (lv_sub hl [1, 2, 3, 0] rfl) hw
  intro z1 o1 hb1 hk1 ls H locs hl hw
  unfold f_X4_isNeeded_b12 at hb1
  refine lv_iload_n hx hb dX4_isNeeded_12 rfl (lv_at hl 3 rfl) ?_
  refine lv_bipush (v := (12 : Int32)) hx hb dX4_isNeeded_13 (by decide) ?_
  refine lv_icmp_ge (tgt := 100) hx hb dX4_isNeeded_15 (by decide) (fun c2 => ?_) (fun c2 => ?_)
  · have hb1 := cd_ite_t c2 hb1
    have z : some (Sum.inl z1.2) = some o1 := hb1
    cases z
    exact K1 _ hk1 _ _ _ (lv_sub hl [0, 2] rfl) hw
  · have hb1 := cd_ite_f c2 hb1
    refine lv_aload_n hx hb dX4_isNeeded_18 rfl (lv_at hl 1 rfl) ?_
    refine lv_iload_n hx hb dX4_isNeeded_19 rfl (lv_at hl 3 rfl) ?_
    obtain ⟨r3, e3, hb1⟩ := cd_bind_some hb1
    refine cd_callV (As := [.int z1.1]) (rest := []) C0 hw (c_X3_canBeAsked l G cI cZ sa sb ht T z1.1 r3 e3) [4, 5, 6, 7, 8, 9, 10, 11, 12, 13, 14] rfl rfl 0 3 rfl rfl rfl (cwV 1 hts gX4_isNeeded_X3_canBeAsked rfl rfl rfl (by decide +kernel) ⟨Nat.le_of_ble_eq_true rfl, Nat.le_of_ble_eq_true rfl⟩) rfl hl.1 (lv_room (Nat.le_of_ble_eq_true rfl)) dX4_isNeeded_20 (fun H locs hw => ?_)
    refine lv_istore (lv' := [(4, .int r3), (0, .ref (h 0)), (1, .ref (ht 0)), (2, .int a0), (3, .int z1.1)]) hx hb dX4_isNeeded_23 hl (by decide) rfl (fun ls hl => ?_)
    refine lv_aload_n hx hb dX4_isNeeded_25 rfl (lv_at hl 1 rfl) ?_
    refine va_get (D := G) (ci := 4) (v := .ref (h 1)) (C := RX4) (T := TX4) (N := 5) hx hb hts nw_X4_isNeeded_X4 hown hK hw.1 0 rfl rfl 0 (by decide) hL2 (fun _ h9 => h9) rfl dX4_isNeeded_26 ?_
    refine lv_iload_n hx hb dX4_isNeeded_29 rfl (lv_at hl 4 rfl) ?_
    refine lv_iload hx hb dX4_isNeeded_30 (lv_at hl 0 rfl) ?_
    obtain ⟨x4, e4, hb1⟩ := cd_bind_some hb1
    have K4 : ∀ (ls : Array Slot) (H : Heap) (locs : List Loc), lv_has ls 5 [(0, .ref (h 0)), (1, .ref (ht 0)), (2, .int a0), (3, .int z1.1), (4, .int r3)] → cd_WS G A s.heap H locs ((pc_walk cI h z1.2) ++ (pc_town cI ht T)) → W p l e rm_X4_isNeeded s m ag below meth c H locs 0 0 Q (F0 m 45 ls [.int x4, .int z1.1, .ref (h 1)]) := by
      intro ls H locs hl hw
      obtain ⟨j5, e5, hb1⟩ := cd_bind_some hb1
      refine cd_iast (f := z1.2 0) hx hb hK hw 1 rfl e5 dX4_isNeeded_45 (fun H locs hw => ?_)
      have hw : cd_WS G A s.heap H locs ((pc_walk cI h (cd_set z1.2 0 j5 x4)) ++ (pc_town cI ht T)) := (show ∀ (s9 : Nat → Nat → Int32) (y9 : Int32), cd_WS G A s.heap H locs (((pc_walk cI h s9) ++ (pc_town cI ht T)).set 1 (h 1, .inl (cI, 12, .inl (upd (s9 0) j5 y9)))) → cd_WS G A s.heap H locs ((pc_walk cI h (cd_set s9 0 j5 y9)) ++ (pc_town cI ht T)) from fun _ _ hh => hh) z1.2 x4 hw
      refine lv_aload_n hx hb dX4_isNeeded_46 rfl (lv_at hl 0 rfl) ?_
      refine lv_iload hx hb dX4_isNeeded_47 (lv_at hl 4 rfl) ?_
      obtain ⟨x6, e6, hb1⟩ := cd_bind_some hb1
      have K6 : ∀ (ls : Array Slot) (H : Heap) (locs : List Loc), lv_has ls 5 [(0, .ref (h 0)), (1, .ref (ht 0)), (2, .int a0), (3, .int z1.1), (4, .int r3)] → cd_WS G A s.heap H locs ((pc_walk cI h (cd_set z1.2 0 j5 x4)) ++ (pc_town cI ht T)) → W p l e rm_X4_isNeeded s m ag below meth c H locs 0 0 Q (F0 m 67 ls [.int x6, .ref (h 0)]) := by
        intro ls H locs hl hw
        refine va_put (D := G) (ci := 4) (v := .int x6) (ty := .int) (C := RX4) (T := TX4) (N := 5) hx hb hts nw_X4_isNeeded_X4 tyX4 tyX4_ok nmX4 hown hK hw.1 hw.2.1 hw.2.2 0 rfl rfl 3 (by decide) hL0 (fun _ h9 => h9) rfl (by decide +kernel) rfl rfl (Nat.le_of_ble_eq_true rfl) dX4_isNeeded_67 (fun H locs hP hD hS => ?_)
        have hw : cd_WS G A s.heap H locs ((pc_walk cI h (cd_fld (cd_set z1.2 0 j5 x4) 3 x6)) ++ (pc_town cI ht T)) := ⟨hP, hD, hS⟩
        refine lv_aload_n hx hb dX4_isNeeded_70 rfl (lv_at hl 0 rfl) ?_
        refine lv_iload hx hb dX4_isNeeded_71 (lv_at hl 4 rfl) ?_
        obtain ⟨x7, e7, hb1⟩ := cd_bind_some hb1
        have K7 : ∀ (ls : Array Slot) (H : Heap) (locs : List Loc), lv_has ls 5 [(0, .ref (h 0)), (1, .ref (ht 0)), (2, .int a0), (3, .int z1.1)] → cd_WS G A s.heap H locs ((pc_walk cI h (cd_fld (cd_set z1.2 0 j5 x4) 3 x6)) ++ (pc_town cI ht T)) → W p l e rm_X4_isNeeded s m ag below meth c H locs 0 0 Q (F0 m 91 ls [.int x7, .ref (h 0)]) := by
          intro ls H locs hl hw
          refine va_put (D := G) (ci := 4) (v := .int x7) (ty := .int) (C := RX4) (T := TX4) (N := 5) hx hb hts nw_X4_isNeeded_X4 tyX4 tyX4_ok nmX4 hown hK hw.1 hw.2.1 hw.2.2 0 rfl rfl 4 (by decide) hL1 (fun _ h9 => h9) rfl (by decide +kernel) rfl rfl (Nat.le_of_ble_eq_true rfl) dX4_isNeeded_91 (fun H locs hP hD hS => ?_)
          have hw : cd_WS G A s.heap H locs ((pc_walk cI h (cd_fld (cd_fld (cd_set z1.2 0 j5 x4) 3 x6) 4 x7)) ++ (pc_town cI ht T)) := ⟨hP, hD, hS⟩
          refine lv_iinc (v := (z1.1 + (1 : Int32))) (lv' := [(3, .int (z1.1 + (1 : Int32))), (0, .ref (h 0)), (1, .ref (ht 0)), (2, .int a0)]) hx hb dX4_isNeeded_94 hl (k := 3) rfl rfl (by decide) rfl (fun ls hl => ?_)
          refine lv_goto (tgt := 12) hx hb dX4_isNeeded_97 (by decide) ?_
          have z : some (Sum.inr ((z1.1 + (1 : Int32)), (cd_fld (cd_fld (cd_set z1.2 0 j5 x4) 3 x6) 4 x7))) = some o1 := hb1
          cases z
          exact hk1 _ _ _ (lv_sub hl [1, 2, 3, 0] rfl) hw
        refine lv_if_eq (tgt := 87) hx hb dX4_isNeeded_73 (by decide) (fun c7 => ?_) (fun c7 => ?_)
        · have e7 := cd_ite_t c7 e7
          refine lv_aload_n hx hb dX4_isNeeded_87 rfl (lv_at hl 0 rfl) ?_
          refine va_get (D := G) (ci := 4) (v := .int (z1.2 4 0)) (C := RX4) (T := TX4) (N := 5) hx hb hts nw_X4_isNeeded_X4 hown hK hw.1 0 rfl rfl 4 (by decide) hL1 (fun _ h9 => h9) rfl dX4_isNeeded_88 ?_
          have z : some (z1.2 4 0) = some x7 := e7
          cases z
          exact K7 _ _ _ (lv_sub hl [0, 1, 2, 3] rfl) hw
        · have e7 := cd_ite_f c7 e7
          refine lv_aload_n hx hb dX4_isNeeded_76 rfl (lv_at hl 0 rfl) ?_
          refine va_get (D := G) (ci := 4) (v := .int (z1.2 4 0)) (C := RX4) (T := TX4) (N := 5) hx hb hts nw_X4_isNeeded_X4 hown hK hw.1 0 rfl rfl 4 (by decide) hL1 (fun _ h9 => h9) rfl dX4_isNeeded_77 ?_
          refine lv_iload_n hx hb dX4_isNeeded_80 rfl (lv_at hl 3 rfl) ?_
          refine cd_mmax hx hb (hml.trans hl.1.symm) hown hL8 hL9 hL6 hL10 (Nat.le_of_ble_eq_true rfl) (Nat.le_of_ble_eq_true rfl) dX4_isNeeded_81 ?_
          refine lv_goto (tgt := 91) hx hb dX4_isNeeded_84 (by decide) ?_
          have z : some (cd_max (z1.2 4 0) z1.1) = some x7 := e7
          cases z
          exact K7 _ _ _ (lv_sub hl [0, 1, 2, 3] rfl) hw
      refine lv_if_eq (tgt := 63) hx hb dX4_isNeeded_49 (by decide) (fun c6 => ?_) (fun c6 => ?_)
      · have e6 := cd_ite_t c6 e6
        refine lv_aload_n hx hb dX4_isNeeded_63 rfl (lv_at hl 0 rfl) ?_
        refine va_get (D := G) (ci := 4) (v := .int (z1.2 3 0)) (C := RX4) (T := TX4) (N := 5) hx hb hts nw_X4_isNeeded_X4 hown hK hw.1 0 rfl rfl 3 (by decide) hL0 (fun _ h9 => h9) rfl dX4_isNeeded_64 ?_
        have z : some (z1.2 3 0) = some x6 := e6
        cases z
        exact K6 _ _ _ (lv_sub hl [0, 1, 2, 3, 4] rfl) hw
      · have e6 := cd_ite_f c6 e6
        refine lv_aload_n hx hb dX4_isNeeded_52 rfl (lv_at hl 0 rfl) ?_
        refine va_get (D := G) (ci := 4) (v := .int (z1.2 3 0)) (C := RX4) (T := TX4) (N := 5) hx hb hts nw_X4_isNeeded_X4 hown hK hw.1 0 rfl rfl 3 (by decide) hL0 (fun _ h9 => h9) rfl dX4_isNeeded_53 ?_
        refine lv_iload_n hx hb dX4_isNeeded_56 rfl (lv_at hl 3 rfl) ?_
        refine cd_mmin hx hb (hml.trans hl.1.symm) hown hL4 hL5 hL6 hL7 (Nat.le_of_ble_eq_true rfl) (Nat.le_of_ble_eq_true rfl) dX4_isNeeded_57 ?_
        refine lv_goto (tgt := 67) hx hb dX4_isNeeded_60 (by decide) ?_
        have z : some (cd_min (z1.2 3 0) z1.1) = some x6 := e6
        cases z
        exact K6 _ _ _ (lv_sub hl [0, 1, 2, 3, 4] rfl) hw
    refine lv_if_eq (tgt := 43) hx hb dX4_isNeeded_32 (by decide) (fun c4 => ?_) (fun c4 => ?_)
    · have e4 := cd_ite_t c4 e4
      refine lv_ldc (v := (1000000 : Int32)) hx hb hown hL3 dX4_isNeeded_43 ?_
      have z : some (1000000 : Int32) = some x4 := e4
      cases z
      exact K4 _ _ _ (lv_sub hl [1, 2, 3, 4, 0] rfl) hw
    · have e4 := cd_ite_f c4 e4
      refine lv_aload_n hx hb dX4_isNeeded_35 rfl (lv_at hl 2 rfl) ?_
      refine lv_iload_n hx hb dX4_isNeeded_36 rfl (lv_at hl 4 rfl) ?_
      obtain ⟨r8, e8, e4⟩ := cd_bind_some e4
      refine cd_callV (As := [.int z1.1]) (rest := [.int z1.1, .ref (h 1)]) C0 hw (c_X3_minutesLeft l G cI cZ sa sb ht T z1.1 r8 e8) [4, 5, 6, 7, 8, 9, 10, 11, 12, 13, 14] rfl rfl 0 3 rfl rfl rfl (cwV 1 hts gX4_isNeeded_X3_minutesLeft rfl rfl rfl (by decide +kernel) ⟨Nat.le_of_ble_eq_true rfl, Nat.le_of_ble_eq_true rfl⟩) rfl hl.1 (lv_room (Nat.le_of_ble_eq_true rfl)) dX4_isNeeded_37 (fun H locs hw => ?_)
      refine lv_goto (tgt := 45) hx hb dX4_isNeeded_40 (by decide) ?_
      have z : some r8 = some x4 := e4
      cases z
      exact K4 _ _ _ (lv_sub hl [1, 2, 3, 4, 0] rfl) hw
abbrev rm_X5_canBeRead : Room := { frames := 3, cells := 0, slots := 0, locals := 67 }
theorem nw_X5_canBeRead_X5 : ∀ w ∈ u_ws RX5 TX5 8, w ∈ wsX5_canBeRead := by decide +kernel
set_option maxHeartbeats 4000000 in
set_option maxRecDepth 100000 in
theorem c_X5_canBeRead (l : Launch) (G : va_G) (cI cZ : ClassId) (sa sb : Nat) (h ht h1 h2 hp hy hs hv hz : Nat → Nat) (K T : Nat → Nat → Int32) (a0 : Int32) (a1 : Int32) (o : Int32) (hf : f_X5_canBeRead a0 a1 K T = some o) : cd_Ct l G cI cZ sa sb yX5_canBeRead wsX5_canBeRead rm_X5_canBeRead [.ref (h 0), .int a0, .int a1] ((pc_top cZ h ht h1 h2 hp hy hv hz K) ++ (pc_town cI ht T)) ((pc_top cZ h ht h1 h2 hp hy hv hz K) ++ (pc_town cI ht T)) (some (.int o)) := by
  refine cd_of (cc := cX5_canBeRead) (maxL := 7) (ret := (some .boolean)) (by decide) rfl (Nat.le_of_ble_eq_true rfl) ?_
  intro p e s m ag below meth c A ls Q C0 hl hw hQ
  have C0 : cd_CX G cI cZ sa sb p s m ag meth c cX5_canBeRead 7 (some .boolean) wsX5_canBeRead RX5 A := C0
  obtain ⟨⟨hx, hb, hml, hown, hts⟩, hr, hlocks, hA, hE⟩ := id C0
  have hK := hE.1
  have hL0 := hts (.fieldLink RX5 12 "CandleDebts" "town" "LCandleDebts$Town;") (by decide +kernel)
  have hl : lv_has ls 7 [(0, .ref (h 0)), (1, .int a0), (2, .int a1)] := hl
  unfold f_X5_canBeRead at hf
  refine lv_iconst (v := (0 : Int32)) hx hb dX5_canBeRead_0 (by decide) ?_
  refine lv_istore_n (lv' := [(3, .int (0 : Int32)), (0, .ref (h 0)), (1, .int a0), (2, .int a1)]) hx hb dX5_canBeRead_1 rfl hl (by decide) rfl (fun ls hl => ?_)
  obtain ⟨x1, e1, hf⟩ := cd_bind_some hf
  have K1 : ∀ (t1 : Unit), Sum.inr t1 = x1 → ∀ (ls : Array Slot) (H : Heap) (locs : List Loc), lv_has ls 7 [] → cd_WS G A s.heap H locs ((pc_top cZ h ht h1 h2 hp hy hv hz K) ++ (pc_town cI ht T)) → W p l e rm_X5_canBeRead s m ag below meth c H locs 0 0 Q (F0 m 91 ls []) := by
    intro t1 hs_1
    subst hs_1
    intro ls H locs hl hw
    refine lv_iconst (v := (1 : Int32)) hx hb dX5_canBeRead_91 (by decide) ?_
    have z : some (1 : Int32) = some o := hf
    cases z
    rw [hQ]
    exact cd_retz C0 hw (Or.inr rfl) dX5_canBeRead_92
  refine cd_iter_ind (body := (f_X5_canBeRead_b2 a0 a1 T)) (K := fun r => r = x1) (P := fun (z1 : Int32) => ∀ (ls : Array Slot) (H : Heap) (locs : List Loc), lv_has ls 7 [(0, .ref (h 0)), (1, .int a0), (2, .int a1), (3, .int z1)] → cd_WS G A s.heap H locs ((pc_top cZ h ht h1 h2 hp hy hv hz K) ++ (pc_town cI ht T)) → W p l e rm_X5_canBeRead s m ag below meth c H locs 0 0 Q (F0 m 2 ls [])) ?_ cd_N (0 : Int32) x1 e1 rfl _ _ _ (lv_sub hl [1, 2, 3, 0] rfl) hw
  intro z1 o1 hb1 hk1 ls H locs hl hw
  unfold f_X5_canBeRead_b2 at hb1
  refine lv_iload_n hx hb dX5_canBeRead_2 rfl (lv_at hl 3 rfl) ?_
  refine lv_bipush (v := (12 : Int32)) hx hb dX5_canBeRead_3 (by decide) ?_
  refine lv_icmp_ge (tgt := 91) hx hb dX5_canBeRead_5 (by decide) (fun c2 => ?_) (fun c2 => ?_)
  · have hb1 := cd_ite_t c2 hb1
    have z : some (Sum.inl (Sum.inr ())) = some o1 := hb1
    cases z
    exact K1 _ hk1 _ _ _ (lv_sub hl [] rfl) hw
  · have hb1 := cd_ite_f c2 hb1
    refine lv_iload_n hx hb dX5_canBeRead_8 rfl (lv_at hl 1 rfl) ?_
    refine lv_iload_n hx hb dX5_canBeRead_9 rfl (lv_at hl 3 rfl) ?_
    obtain ⟨r3, e3, hb1⟩ := cd_bind_some hb1
    refine cd_callS (As := [.int a0, .int z1]) (rest := []) C0 hw (c_X5_holds l G cI cZ sa sb a0 z1 r3 e3) [] rfl rfl (va_cwS 2 hts gX5_canBeRead_X5_holds rfl rfl rfl (by decide +kernel) ⟨Nat.le_of_ble_eq_true rfl, Nat.le_of_ble_eq_true rfl⟩) rfl hl.1 (lv_room (Nat.le_of_ble_eq_true rfl)) dX5_canBeRead_10 (fun H locs hw => ?_)
    refine lv_if_ne (tgt := 19) hx hb dX5_canBeRead_13 (by decide) (fun c4 => ?_) (fun c4 => ?_)
    · have hb1 := cd_ite_f c4 hb1
      refine lv_aload_n hx hb dX5_canBeRead_19 rfl (lv_at hl 0 rfl) ?_
      refine va_get (D := G) (ci := 5) (v := .ref (ht 0)) (C := RX5) (T := TX5) (N := 8) hx hb hts nw_X5_canBeRead_X5 hown hK hw.1 0 rfl rfl 0 (by decide) hL0 (fun _ h9 => h9) rfl dX5_canBeRead_20 ?_
      refine lv_iload_n hx hb dX5_canBeRead_23 rfl (lv_at hl 3 rfl) ?_
      obtain ⟨r5, e5, hb1⟩ := cd_bind_some hb1
      refine cd_callV (As := [.int z1]) (rest := []) C0 hw (c_X3_minutesLeft l G cI cZ sa sb ht T z1 r5 e5) [2, 3, 4, 5, 6, 7, 8, 9, 10, 11, 12] rfl rfl 0 3 rfl rfl rfl (cwV 1 hts gX5_canBeRead_X3_minutesLeft rfl rfl rfl (by decide +kernel) ⟨Nat.le_of_ble_eq_true rfl, Nat.le_of_ble_eq_true rfl⟩) rfl hl.1 (lv_room (Nat.le_of_ble_eq_true rfl)) dX5_canBeRead_24 (fun H locs hw => ?_)
      refine lv_istore (lv' := [(4, .int r5), (0, .ref (h 0)), (1, .int a0), (2, .int a1), (3, .int z1)]) hx hb dX5_canBeRead_27 hl (by decide) rfl (fun ls hl => ?_)
      refine lv_iconst (v := (0 : Int32)) hx hb dX5_canBeRead_29 (by decide) ?_
      refine lv_istore (lv' := [(5, .int (0 : Int32)), (4, .int r5), (0, .ref (h 0)), (1, .int a0), (2, .int a1), (3, .int z1)]) hx hb dX5_canBeRead_30 hl (by decide) rfl (fun ls hl => ?_)
      refine lv_iconst (v := (0 : Int32)) hx hb dX5_canBeRead_32 (by decide) ?_
      refine lv_istore (lv' := [(6, .int (0 : Int32)), (5, .int (0 : Int32)), (4, .int r5), (0, .ref (h 0)), (1, .int a0), (2, .int a1), (3, .int z1)]) hx hb dX5_canBeRead_33 hl (by decide) rfl (fun ls hl => ?_)
      obtain ⟨x6, e6, hb1⟩ := cd_bind_some hb1
      have K6 : ∀ (t6 : Int32), t6 = x6 → ∀ (ls : Array Slot) (H : Heap) (locs : List Loc), lv_has ls 7 [(0, .ref (h 0)), (1, .int a0), (2, .int a1), (3, .int z1), (4, .int r5), (5, .int t6)] → cd_WS G A s.heap H locs ((pc_top cZ h ht h1 h2 hp hy hv hz K) ++ (pc_town cI ht T)) → W p l e rm_X5_canBeRead s m ag below meth c H locs 0 0 Q (F0 m 74 ls []) := by
        intro t6 hs_6
        subst hs_6
        intro ls H locs hl hw
        refine lv_iload hx hb dX5_canBeRead_74 (lv_at hl 5 rfl) ?_
        refine lv_iload_n hx hb dX5_canBeRead_76 rfl (lv_at hl 2 rfl) ?_
        refine lv_imul hx hb dX5_canBeRead_77 ?_
        refine lv_iload hx hb dX5_canBeRead_78 (lv_at hl 4 rfl) ?_
        refine lv_icmp_le (tgt := 85) hx hb dX5_canBeRead_80 (by decide) (fun c12 => ?_) (fun c12 => ?_)
        · have hb1 := cd_ite_t c12 hb1
          refine lv_iinc (v := (z1 + (1 : Int32))) (lv' := [(3, .int (z1 + (1 : Int32))), (0, .ref (h 0)), (1, .int a0), (2, .int a1), (4, .int r5), (5, .int t6)]) hx hb dX5_canBeRead_85 hl (k := 3) rfl rfl (by decide) rfl (fun ls hl => ?_)
          refine lv_goto (tgt := 2) hx hb dX5_canBeRead_88 (by decide) ?_
          have z : some (Sum.inr (z1 + (1 : Int32))) = some o1 := hb1
          cases z
          exact hk1 _ _ _ (lv_sub hl [1, 2, 3, 0] rfl) hw
        · have hb1 := cd_ite_f c12 hb1
          refine lv_iconst (v := (0 : Int32)) hx hb dX5_canBeRead_83 (by decide) ?_
          have z : some (Sum.inl (Sum.inl (0 : Int32))) = some o1 := hb1
          cases z
          have y1 : Sum.inl (0 : Int32) = x1 := hk1
          subst y1
          have z : some (0 : Int32) = some o := hf
          cases z
          rw [hQ]
          exact cd_retz C0 hw (Or.inl rfl) dX5_canBeRead_84
      refine cd_iter_ind (body := (f_X5_canBeRead_b35 a0 T r5)) (K := fun r => r = x6) (P := fun (z6 : Int32 × Int32) => ∀ (ls : Array Slot) (H : Heap) (locs : List Loc), lv_has ls 7 [(0, .ref (h 0)), (1, .int a0), (2, .int a1), (3, .int z1), (4, .int r5), (5, .int z6.1), (6, .int z6.2)] → cd_WS G A s.heap H locs ((pc_top cZ h ht h1 h2 hp hy hv hz K) ++ (pc_town cI ht T)) → W p l e rm_X5_canBeRead s m ag below meth c H locs 0 0 Q (F0 m 35 ls [])) ?_ cd_N ((0 : Int32), (0 : Int32)) x6 e6 rfl _ _ _ (lv_sub hl [3, 4, 5, 6, 2, 1, 0] rfl) hw
      intro z6 o6 hb6 hk6 ls H locs hl hw
      unfold f_X5_canBeRead_b35 at hb6
      refine lv_iload hx hb dX5_canBeRead_35 (lv_at hl 6 rfl) ?_
      refine lv_bipush (v := (12 : Int32)) hx hb dX5_canBeRead_37 (by decide) ?_
      refine lv_icmp_ge (tgt := 74) hx hb dX5_canBeRead_39 (by decide) (fun c7 => ?_) (fun c7 => ?_)
      · have hb6 := cd_ite_t c7 hb6
        have z : some (Sum.inl z6.1) = some o6 := hb6
        cases z
        exact K6 _ hk6 _ _ _ (lv_sub hl [0, 1, 2, 3, 4, 5] rfl) hw
      · have hb6 := cd_ite_f c7 hb6
        refine lv_iload_n hx hb dX5_canBeRead_42 rfl (lv_at hl 1 rfl) ?_
        refine lv_iload hx hb dX5_canBeRead_43 (lv_at hl 6 rfl) ?_
        obtain ⟨r8, e8, hb6⟩ := cd_bind_some hb6
        refine cd_callS (As := [.int a0, .int z6.2]) (rest := []) C0 hw (c_X5_holds l G cI cZ sa sb a0 z6.2 r8 e8) [] rfl rfl (va_cwS 2 hts gX5_canBeRead_X5_holds rfl rfl rfl (by decide +kernel) ⟨Nat.le_of_ble_eq_true rfl, Nat.le_of_ble_eq_true rfl⟩) rfl hl.1 (lv_room (Nat.le_of_ble_eq_true rfl)) dX5_canBeRead_45 (fun H locs hw => ?_)
        refine lv_if_eq (tgt := 68) hx hb dX5_canBeRead_48 (by decide) (fun c9 => ?_) (fun c9 => ?_)
        · have hb6 := cd_ite_t c9 hb6
          refine lv_iinc (v := (z6.2 + (1 : Int32))) (lv' := [(6, .int (z6.2 + (1 : Int32))), (0, .ref (h 0)), (1, .int a0), (2, .int a1), (3, .int z1), (4, .int r5), (5, .int z6.1)]) hx hb dX5_canBeRead_68 hl (k := 6) rfl rfl (by decide) rfl (fun ls hl => ?_)
          refine lv_goto (tgt := 35) hx hb dX5_canBeRead_71 (by decide) ?_
          have z : some (Sum.inr (z6.1, (z6.2 + (1 : Int32)))) = some o6 := hb6
          cases z
          exact hk6 _ _ _ (lv_sub hl [1, 2, 3, 4, 5, 6, 0] rfl) hw
        · have hb6 := cd_ite_f c9 hb6
          refine lv_aload_n hx hb dX5_canBeRead_51 rfl (lv_at hl 0 rfl) ?_
          refine va_get (D := G) (ci := 5) (v := .ref (ht 0)) (C := RX5) (T := TX5) (N := 8) hx hb hts nw_X5_canBeRead_X5 hown hK hw.1 0 rfl rfl 0 (by decide) hL0 (fun _ h9 => h9) rfl dX5_canBeRead_52 ?_
          refine lv_iload hx hb dX5_canBeRead_55 (lv_at hl 6 rfl) ?_
          obtain ⟨r10, e10, hb6⟩ := cd_bind_some hb6
          refine cd_callV (As := [.int z6.2]) (rest := []) C0 hw (c_X3_minutesLeft l G cI cZ sa sb ht T z6.2 r10 e10) [2, 3, 4, 5, 6, 7, 8, 9, 10, 11, 12] rfl rfl 0 3 rfl rfl rfl (cwV 1 hts gX5_canBeRead_X3_minutesLeft rfl rfl rfl (by decide +kernel) ⟨Nat.le_of_ble_eq_true rfl, Nat.le_of_ble_eq_true rfl⟩) rfl hl.1 (lv_room (Nat.le_of_ble_eq_true rfl)) dX5_canBeRead_57 (fun H locs hw => ?_)
          refine lv_iload hx hb dX5_canBeRead_60 (lv_at hl 4 rfl) ?_
          refine lv_icmp_gt (tgt := 68) hx hb dX5_canBeRead_62 (by decide) (fun c11 => ?_) (fun c11 => ?_)
          · have hb6 := cd_ite_t c11 hb6
            refine lv_iinc (v := (z6.2 + (1 : Int32))) (lv' := [(6, .int (z6.2 + (1 : Int32))), (0, .ref (h 0)), (1, .int a0), (2, .int a1), (3, .int z1), (4, .int r5), (5, .int z6.1)]) hx hb dX5_canBeRead_68 hl (k := 6) rfl rfl (by decide) rfl (fun ls hl => ?_)
            refine lv_goto (tgt := 35) hx hb dX5_canBeRead_71 (by decide) ?_
            have z : some (Sum.inr (z6.1, (z6.2 + (1 : Int32)))) = some o6 := hb6
            cases z
            exact hk6 _ _ _ (lv_sub hl [1, 2, 3, 4, 5, 6, 0] rfl) hw
          · have hb6 := cd_ite_f c11 hb6
            refine lv_iinc (v := (z6.1 + (1 : Int32))) (lv' := [(5, .int (z6.1 + (1 : Int32))), (0, .ref (h 0)), (1, .int a0), (2, .int a1), (3, .int z1), (4, .int r5), (6, .int z6.2)]) hx hb dX5_canBeRead_65 hl (k := 5) rfl rfl (by decide) rfl (fun ls hl => ?_)
            refine lv_iinc (v := (z6.2 + (1 : Int32))) (lv' := [(6, .int (z6.2 + (1 : Int32))), (5, .int (z6.1 + (1 : Int32))), (0, .ref (h 0)), (1, .int a0), (2, .int a1), (3, .int z1), (4, .int r5)]) hx hb dX5_canBeRead_68 hl (k := 6) rfl rfl (by decide) rfl (fun ls hl => ?_)
            refine lv_goto (tgt := 35) hx hb dX5_canBeRead_71 (by decide) ?_
            have z : some (Sum.inr ((z6.1 + (1 : Int32)), (z6.2 + (1 : Int32)))) = some o6 := hb6
            cases z
            exact hk6 _ _ _ (lv_sub hl [2, 3, 4, 5, 6, 1, 0] rfl) hw
    · have hb1 := cd_ite_t c4 hb1
      refine lv_goto (tgt := 85) hx hb dX5_canBeRead_16 (by decide) ?_
      refine lv_iinc (v := (z1 + (1 : Int32))) (lv' := [(3, .int (z1 + (1 : Int32))), (0, .ref (h 0)), (1, .int a0), (2, .int a1)]) hx hb dX5_canBeRead_85 hl (k := 3) rfl rfl (by decide) rfl (fun ls hl => ?_)
      refine lv_goto (tgt := 2) hx hb dX5_canBeRead_88 (by decide) ?_
      have z : some (Sum.inr (z1 + (1 : Int32))) = some o1 := hb1
      cases z
      exact hk1 _ _ _ (lv_sub hl [1, 2, 3, 0] rfl) hw
abbrev rm_X5_readableSet : Room := { frames := 4, cells := 0, slots := 0, locals := 93 }
theorem nw_X5_readableSet_X5 : ∀ w ∈ u_ws RX5 TX5 8, w ∈ wsX5_readableSet := by decide +kernel
set_option maxHeartbeats 4000000 in
set_option maxRecDepth 100000 in
theorem c_X5_readableSet (l : Launch) (G : va_G) (cI cZ : ClassId) (sa sb : Nat) (h ht h1 h2 hp hy hs hv hz : Nat → Nat) (K T : Nat → Nat → Int32) (a0 : Int32) (o : Int32) (hf : f_X5_readableSet a0 K T = some o) : cd_Ct l G cI cZ sa sb yX5_readableSet wsX5_readableSet rm_X5_readableSet [.ref (h 0), .int a0] ((pc_top cZ h ht h1 h2 hp hy hv hz K) ++ (pc_town cI ht T)) ((pc_top cZ h ht h1 h2 hp hy hv hz K) ++ (pc_town cI ht T)) (some (.int o)) := by
  refine cd_of (cc := cX5_readableSet) (maxL := 4) (ret := (some .int)) (by decide) rfl (Nat.le_of_ble_eq_true rfl) ?_
  intro p e s m ag below meth c A ls Q C0 hl hw hQ
  have C0 : cd_CX G cI cZ sa sb p s m ag meth c cX5_readableSet 4 (some .int) wsX5_readableSet RX5 A := C0
  obtain ⟨⟨hx, hb, hml, hown, hts⟩, hr, hlocks, hA, hE⟩ := id C0
  have hK := hE.1
  have hL0 := hts (.fieldLink RX5 12 "CandleDebts" "town" "LCandleDebts$Town;") (by decide +kernel)
  have hl : lv_has ls 4 [(0, .ref (h 0)), (1, .int a0)] := hl
  unfold f_X5_readableSet at hf
  refine lv_iconst (v := (0 : Int32)) hx hb dX5_readableSet_0 (by decide) ?_
  refine lv_istore_n (lv' := [(2, .int (0 : Int32)), (0, .ref (h 0)), (1, .int a0)]) hx hb dX5_readableSet_1 rfl hl (by decide) rfl (fun ls hl => ?_)
  refine lv_iconst (v := (0 : Int32)) hx hb dX5_readableSet_2 (by decide) ?_
  refine lv_istore_n (lv' := [(3, .int (0 : Int32)), (2, .int (0 : Int32)), (0, .ref (h 0)), (1, .int a0)]) hx hb dX5_readableSet_3 rfl hl (by decide) rfl (fun ls hl => ?_)
  obtain ⟨x1, e1, hf⟩ := cd_bind_some hf
  have K1 : ∀ (t1 : Int32), t1 = x1 → ∀ (ls : Array Slot) (H : Heap) (locs : List Loc), lv_has ls 4 [(2, .int t1)] → cd_WS G A s.heap H locs ((pc_top cZ h ht h1 h2 hp hy hv hz K) ++ (pc_town cI ht T)) → W p l e rm_X5_readableSet s m ag below meth c H locs 0 0 Q (F0 m 48 ls []) := by
    intro t1 hs_1
    subst hs_1
    intro ls H locs hl hw
    refine lv_iload_n hx hb dX5_readableSet_48 rfl (lv_at hl 0 rfl) ?_
    have z : some t1 = some o := hf
    cases z
    rw [hQ]
    exact cd_reti C0 hw dX5_readableSet_49
  refine cd_iter_ind (body := (f_X5_readableSet_b4 a0 K T)) (K := fun r => r = x1) (P := fun (z1 : Int32 × Int32) => ∀ (ls : Array Slot) (H : Heap) (locs : List Loc), lv_has ls 4 [(0, .ref (h 0)), (1, .int a0), (2, .int z1.1), (3, .int z1.2)] → cd_WS G A s.heap H locs ((pc_top cZ h ht h1 h2 hp hy hv hz K) ++ (pc_town cI ht T)) → W p l e rm_X5_readableSet s m ag below meth c H locs 0 0 Q (F0 m 4 ls [])) ?_ cd_N ((0 : Int32), (0 : Int32)) x1 e1 rfl _ _ _ (lv_sub hl [2, 3, 1, 0] rfl) hw
  intro z1 o1 hb1 hk1 ls H locs hl hw
  unfold f_X5_readableSet_b4 at hb1
  refine lv_iload_n hx hb dX5_readableSet_4 rfl (lv_at hl 3 rfl) ?_
  refine lv_bipush (v := (12 : Int32)) hx hb dX5_readableSet_5 (by decide) ?_
  refine lv_icmp_ge (tgt := 48) hx hb dX5_readableSet_7 (by decide) (fun c2 => ?_) (fun c2 => ?_)
  · have hb1 := cd_ite_t c2 hb1
    have z : some (Sum.inl z1.1) = some o1 := hb1
    cases z
    exact K1 _ hk1 _ _ _ (lv_sub hl [2] rfl) hw
  · have hb1 := cd_ite_f c2 hb1
    refine lv_aload_n hx hb dX5_readableSet_10 rfl (lv_at hl 0 rfl) ?_
    refine va_get (D := G) (ci := 5) (v := .ref (ht 0)) (C := RX5) (T := TX5) (N := 8) hx hb hts nw_X5_readableSet_X5 hown hK hw.1 0 rfl rfl 0 (by decide) hL0 (fun _ h9 => h9) rfl dX5_readableSet_11 ?_
    refine lv_iload_n hx hb dX5_readableSet_14 rfl (lv_at hl 3 rfl) ?_
    obtain ⟨r3, e3, hb1⟩ := cd_bind_some hb1
    refine cd_callV (As := [.int z1.2]) (rest := []) C0 hw (c_X3_isLit l G cI cZ sa sb ht T z1.2 r3 e3) [2, 3, 4, 5, 6, 7, 8, 9, 10, 11, 12] rfl rfl 0 3 rfl rfl rfl (cwV 1 hts gX5_readableSet_X3_isLit rfl rfl rfl (by decide +kernel) ⟨Nat.le_of_ble_eq_true rfl, Nat.le_of_ble_eq_true rfl⟩) rfl hl.1 (lv_room (Nat.le_of_ble_eq_true rfl)) dX5_readableSet_15 (fun H locs hw => ?_)
    refine lv_if_eq (tgt := 42) hx hb dX5_readableSet_18 (by decide) (fun c4 => ?_) (fun c4 => ?_)
    · have hb1 := cd_ite_t c4 hb1
      refine lv_iinc (v := (z1.2 + (1 : Int32))) (lv' := [(3, .int (z1.2 + (1 : Int32))), (0, .ref (h 0)), (1, .int a0), (2, .int z1.1)]) hx hb dX5_readableSet_42 hl (k := 3) rfl rfl (by decide) rfl (fun ls hl => ?_)
      refine lv_goto (tgt := 4) hx hb dX5_readableSet_45 (by decide) ?_
      have z : some (Sum.inr (z1.1, (z1.2 + (1 : Int32)))) = some o1 := hb1
      cases z
      exact hk1 _ _ _ (lv_sub hl [1, 2, 3, 0] rfl) hw
    · have hb1 := cd_ite_f c4 hb1
      refine lv_aload_n hx hb dX5_readableSet_21 rfl (lv_at hl 0 rfl) ?_
      refine lv_iload_n hx hb dX5_readableSet_22 rfl (lv_at hl 2 rfl) ?_
      refine lv_iload_n hx hb dX5_readableSet_23 rfl (lv_at hl 3 rfl) ?_
      obtain ⟨r5, e5, hb1⟩ := cd_bind_some hb1
      refine cd_callS (As := [.int z1.2]) (rest := [.int z1.1, .ref (h 0)]) C0 hw (c_X5_bit l G cI cZ sa sb z1.2 r5 e5) [] rfl rfl (va_cwS 1 hts gX5_readableSet_X5_bit rfl rfl rfl (by decide +kernel) ⟨Nat.le_of_ble_eq_true rfl, Nat.le_of_ble_eq_true rfl⟩) rfl hl.1 (lv_room (Nat.le_of_ble_eq_true rfl)) dX5_readableSet_24 (fun H locs hw => ?_)
      refine lv_ior hx hb dX5_readableSet_27 ?_
      refine lv_iload_n hx hb dX5_readableSet_28 rfl (lv_at hl 1 rfl) ?_
      obtain ⟨r6, e6, hb1⟩ := cd_bind_some hb1
      refine cd_callV (As := [.int (z1.1 ||| r5), .int a0]) (rest := []) C0 hw (c_X5_canBeRead l G cI cZ sa sb h ht h1 h2 hp hy hs hv hz K T (z1.1 ||| r5) a0 r6 e6) [0, 1, 2, 3, 4, 5, 6, 7, 8, 9, 10, 11, 12] rfl rfl 0 5 rfl rfl rfl (cwV 2 hts gX5_readableSet_X5_canBeRead rfl rfl rfl (by decide +kernel) ⟨Nat.le_of_ble_eq_true rfl, Nat.le_of_ble_eq_true rfl⟩) rfl hl.1 (lv_room (Nat.le_of_ble_eq_true rfl)) dX5_readableSet_29 (fun H locs hw => ?_)
      refine lv_if_eq (tgt := 42) hx hb dX5_readableSet_32 (by decide) (fun c7 => ?_) (fun c7 => ?_)
      · have hb1 := cd_ite_t c7 hb1
        refine lv_iinc (v := (z1.2 + (1 : Int32))) (lv' := [(3, .int (z1.2 + (1 : Int32))), (0, .ref (h 0)), (1, .int a0), (2, .int z1.1)]) hx hb dX5_readableSet_42 hl (k := 3) rfl rfl (by decide) rfl (fun ls hl => ?_)
        refine lv_goto (tgt := 4) hx hb dX5_readableSet_45 (by decide) ?_
        have z : some (Sum.inr (z1.1, (z1.2 + (1 : Int32)))) = some o1 := hb1
        cases z
        exact hk1 _ _ _ (lv_sub hl [1, 2, 3, 0] rfl) hw
      · have hb1 := cd_ite_f c7 hb1
        refine lv_iload_n hx hb dX5_readableSet_35 rfl (lv_at hl 2 rfl) ?_
        refine lv_iload_n hx hb dX5_readableSet_36 rfl (lv_at hl 3 rfl) ?_
        obtain ⟨r8, e8, hb1⟩ := cd_bind_some hb1
        refine cd_callS (As := [.int z1.2]) (rest := [.int z1.1]) C0 hw (c_X5_bit l G cI cZ sa sb z1.2 r8 e8) [] rfl rfl (va_cwS 1 hts gX5_readableSet_X5_bit rfl rfl rfl (by decide +kernel) ⟨Nat.le_of_ble_eq_true rfl, Nat.le_of_ble_eq_true rfl⟩) rfl hl.1 (lv_room (Nat.le_of_ble_eq_true rfl)) dX5_readableSet_37 (fun H locs hw => ?_)
        refine lv_ior hx hb dX5_readableSet_40 ?_
        refine lv_istore_n (lv' := [(2, .int (z1.1 ||| r8)), (0, .ref (h 0)), (1, .int a0), (3, .int z1.2)]) hx hb dX5_readableSet_41 rfl hl (by decide) rfl (fun ls hl => ?_)
        refine lv_iinc (v := (z1.2 + (1 : Int32))) (lv' := [(3, .int (z1.2 + (1 : Int32))), (2, .int (z1.1 ||| r8)), (0, .ref (h 0)), (1, .int a0)]) hx hb dX5_readableSet_42 hl (k := 3) rfl rfl (by decide) rfl (fun ls hl => ?_)
        refine lv_goto (tgt := 4) hx hb dX5_readableSet_45 (by decide) ?_
        have z : some (Sum.inr ((z1.1 ||| r8), (z1.2 + (1 : Int32)))) = some o1 := hb1
        cases z
        exact hk1 _ _ _ (lv_sub hl [2, 3, 1, 0] rfl) hw
abbrev rm_X5_accounts : Room := { frames := 5, cells := 0, slots := 0, locals := 116 }
set_option maxHeartbeats 4000000 in
set_option maxRecDepth 100000 in
theorem c_X5_accounts (l : Launch) (G : va_G) (cI cZ : ClassId) (sa sb : Nat) (h ht h1 h2 hp hy hs hv hz : Nat → Nat) (K T : Nat → Nat → Int32) (a0 : Int32) (a1 : Int32) (o : Int32) (hf : f_X5_accounts a0 a1 K T = some o) : cd_Ct l G cI cZ sa sb yX5_accounts wsX5_accounts rm_X5_accounts [.ref (h 0), .int a0, .int a1] ((pc_top cZ h ht h1 h2 hp hy hv hz K) ++ (pc_town cI ht T)) ((pc_top cZ h ht h1 h2 hp hy hv hz K) ++ (pc_town cI ht T)) (some (.int o)) := by
  refine cd_of (cc := cX5_accounts) (maxL := 4) (ret := (some .int)) (by decide) rfl (Nat.le_of_ble_eq_true rfl) ?_
  intro p e s m ag below meth c A ls Q C0 hl hw hQ
  have C0 : cd_CX G cI cZ sa sb p s m ag meth c cX5_accounts 4 (some .int) wsX5_accounts RX5 A := C0
  obtain ⟨⟨hx, hb, hml, hown, hts⟩, hr, hlocks, hA, hE⟩ := id C0
  have hK := hE.1
  have hl : lv_has ls 4 [(0, .ref (h 0)), (1, .int a0), (2, .int a1)] := hl
  unfold f_X5_accounts at hf
  refine lv_iload_n hx hb dX5_accounts_0 rfl (lv_at hl 1 rfl) ?_
  refine lv_iconst (v := (1 : Int32)) hx hb dX5_accounts_1 (by decide) ?_
  refine lv_bipush (v := (99 : Int32)) hx hb dX5_accounts_2 (by decide) ?_
  obtain ⟨r1, e1, hf⟩ := cd_bind_some hf
  refine cd_callS (As := [.int a0, .int (1 : Int32), .int (99 : Int32)]) (rest := []) C0 hw (c_X5_within l G cI cZ sa sb a0 (1 : Int32) (99 : Int32) r1 e1) [] rfl rfl (va_cwS 3 hts gX5_accounts_X5_within rfl rfl rfl (by decide +kernel) ⟨Nat.le_of_ble_eq_true rfl, Nat.le_of_ble_eq_true rfl⟩) rfl hl.1 (lv_room (Nat.le_of_ble_eq_true rfl)) dX5_accounts_4 (fun H locs hw => ?_)
  refine lv_if_eq (tgt := 19) hx hb dX5_accounts_7 (by decide) (fun c2 => ?_) (fun c2 => ?_)
  · have hf := cd_ite_t c2 hf
    refine lv_bipush (v := (-2 : Int32)) hx hb dX5_accounts_19 (by decide) ?_
    have z : some (-2 : Int32) = some o := hf
    cases z
    rw [hQ]
    exact cd_reti C0 hw dX5_accounts_21
  · have hf := cd_ite_f c2 hf
    refine lv_iload_n hx hb dX5_accounts_10 rfl (lv_at hl 2 rfl) ?_
    refine lv_iconst (v := (0 : Int32)) hx hb dX5_accounts_11 (by decide) ?_
    refine lv_iconst (v := (1 : Int32)) hx hb dX5_accounts_12 (by decide) ?_
    obtain ⟨r3, e3, hf⟩ := cd_bind_some hf
    refine cd_callS (As := [.int a1, .int (0 : Int32), .int (1 : Int32)]) (rest := []) C0 hw (c_X5_within l G cI cZ sa sb a1 (0 : Int32) (1 : Int32) r3 e3) [] rfl rfl (va_cwS 3 hts gX5_accounts_X5_within rfl rfl rfl (by decide +kernel) ⟨Nat.le_of_ble_eq_true rfl, Nat.le_of_ble_eq_true rfl⟩) rfl hl.1 (lv_room (Nat.le_of_ble_eq_true rfl)) dX5_accounts_13 (fun H locs hw => ?_)
    refine lv_if_ne (tgt := 22) hx hb dX5_accounts_16 (by decide) (fun c4 => ?_) (fun c4 => ?_)
    · have hf := cd_ite_f c4 hf
      refine lv_aload_n hx hb dX5_accounts_22 rfl (lv_at hl 0 rfl) ?_
      refine lv_iload_n hx hb dX5_accounts_23 rfl (lv_at hl 1 rfl) ?_
      obtain ⟨r5, e5, hf⟩ := cd_bind_some hf
      refine cd_callV (As := [.int a0]) (rest := []) C0 hw (c_X5_readableSet l G cI cZ sa sb h ht h1 h2 hp hy hs hv hz K T a0 r5 e5) [0, 1, 2, 3, 4, 5, 6, 7, 8, 9, 10, 11, 12] rfl rfl 0 5 rfl rfl rfl (cwV 1 hts gX5_accounts_X5_readableSet rfl rfl rfl (by decide +kernel) ⟨Nat.le_of_ble_eq_true rfl, Nat.le_of_ble_eq_true rfl⟩) rfl hl.1 (lv_room (Nat.le_of_ble_eq_true rfl)) dX5_accounts_24 (fun H locs hw => ?_)
      refine lv_istore_n (lv' := [(3, .int r5), (0, .ref (h 0)), (1, .int a0), (2, .int a1)]) hx hb dX5_accounts_27 rfl hl (by decide) rfl (fun ls hl => ?_)
      refine lv_iload_n hx hb dX5_accounts_28 rfl (lv_at hl 3 rfl) ?_
      obtain ⟨x6, e6, hf⟩ := cd_bind_some hf
      have K6 : ∀ (ls : Array Slot) (H : Heap) (locs : List Loc), lv_has ls 4 [] → cd_WS G A s.heap H locs ((pc_top cZ h ht h1 h2 hp hy hv hz K) ++ (pc_town cI ht T)) → W p l e rm_X5_accounts s m ag below meth c H locs 0 0 Q (F0 m 40 ls [.int x6]) := by
        intro ls H locs hl hw
        have z : some x6 = some o := hf
        cases z
        rw [hQ]
        exact cd_reti C0 hw dX5_accounts_40
      refine lv_if_ne (tgt := 39) hx hb dX5_accounts_29 (by decide) (fun c6 => ?_) (fun c6 => ?_)
      · have e6 := cd_ite_f c6 e6
        refine lv_iload_n hx hb dX5_accounts_39 rfl (lv_at hl 0 rfl) ?_
        have z : some r5 = some x6 := e6
        cases z
        exact K6 _ _ _ (lv_sub hl [] rfl) hw
      · have e6 := cd_ite_t c6 e6
        refine lv_iload_n hx hb dX5_accounts_32 rfl (lv_at hl 0 rfl) ?_
        obtain ⟨r7, e7, e6⟩ := cd_bind_some e6
        refine cd_callS (As := [.int r5]) (rest := []) C0 hw (c_J6_bitCount l G cI cZ sa sb r5 r7 e7) [] rfl rfl (va_cwS 1 hts gX5_accounts_J6_bitCount_0f7a4 rfl rfl rfl (by decide +kernel) ⟨Nat.le_of_ble_eq_true rfl, Nat.le_of_ble_eq_true rfl⟩) rfl hl.1 (lv_room (Nat.le_of_ble_eq_true rfl)) dX5_accounts_33 (fun H locs hw => ?_)
        refine lv_goto (tgt := 40) hx hb dX5_accounts_36 (by decide) ?_
        have z : some r7 = some x6 := e6
        cases z
        exact K6 _ _ _ (lv_sub hl [] rfl) hw
    · have hf := cd_ite_t c4 hf
      refine lv_bipush (v := (-2 : Int32)) hx hb dX5_accounts_19 (by decide) ?_
      have z : some (-2 : Int32) = some o := hf
      cases z
      rw [hQ]
      exact cd_reti C0 hw dX5_accounts_21
abbrev rm_X5_nightCanBe : Room := { frames := 5, cells := 0, slots := 0, locals := 114 }
theorem nw_X5_nightCanBe_X5 : ∀ w ∈ u_ws RX5 TX5 8, w ∈ wsX5_nightCanBe := by decide +kernel
set_option maxHeartbeats 4000000 in
set_option maxRecDepth 100000 in
theorem c_X5_nightCanBe (l : Launch) (G : va_G) (cI cZ : ClassId) (sa sb : Nat) (h ht h1 h2 hp hy hs hv hz : Nat → Nat) (K T P Y S : Nat → Nat → Int32) (o : Int32 × (Nat → Nat → Int32) × (Nat → Nat → Int32) × (Nat → Nat → Int32)) (hf : f_X5_nightCanBe K T P Y S = some o) : cd_Ct l G cI cZ sa sb yX5_nightCanBe wsX5_nightCanBe rm_X5_nightCanBe [.ref (h 0)] ((pc_top cZ h ht h1 h2 hp hy hv hz K) ++ (pc_town cI ht T) ++ (pc_pad cI hp P) ++ (pc_play hy hs Y) ++ (pc_town cI hs S)) ((pc_top cZ h ht h1 h2 hp hy hv hz K) ++ (pc_town cI ht T) ++ (pc_pad cI hp o.2.1) ++ (pc_play hy hs o.2.2.1) ++ (pc_town cI hs o.2.2.2)) (some (.int o.1)) := by
  refine cd_of (cc := cX5_nightCanBe) (maxL := 1) (ret := (some .boolean)) (by decide) rfl (Nat.le_of_ble_eq_true rfl) ?_
  intro p e s m ag below meth c A ls Q C0 hl hw hQ
  have C0 : cd_CX G cI cZ sa sb p s m ag meth c cX5_nightCanBe 1 (some .boolean) wsX5_nightCanBe RX5 A := C0
  obtain ⟨⟨hx, hb, hml, hown, hts⟩, hr, hlocks, hA, hE⟩ := id C0
  have hK := hE.1
  have hL0 := hts (.fieldLink RX5 29 "CandleDebts" "pad" "LCandleDebts$Pad;") (by decide +kernel)
  have hL1 := hts (.fieldLink RX5 36 "CandleDebts" "play" "LCandleDebts$Play;") (by decide +kernel)
  have hL2 := hts (.fieldLink RX5 12 "CandleDebts" "town" "LCandleDebts$Town;") (by decide +kernel)
  have hl : lv_has ls 1 [(0, .ref (h 0))] := hl
  unfold f_X5_nightCanBe at hf
  refine lv_aload_n hx hb dX5_nightCanBe_0 rfl (lv_at hl 0 rfl) ?_
  refine va_get (D := G) (ci := 5) (v := .ref (hp 0)) (C := RX5) (T := TX5) (N := 8) hx hb hts nw_X5_nightCanBe_X5 hown hK hw.1 0 rfl rfl 4 (by decide) hL0 (fun _ h9 => h9) rfl dX5_nightCanBe_1 ?_
  obtain ⟨r1, e1, hf⟩ := cd_bind_some hf
  refine cd_callVw (As := []) (rest := []) (wr := (pc_top cZ h ht h1 h2 hp hy hv hz K) ++ (pc_town cI ht T) ++ (pc_play hy hs Y) ++ (pc_town cI hs S)) (wn := (pc_top cZ h ht h1 h2 hp hy hv hz K) ++ (pc_town cI ht T) ++ (pc_pad cI hp r1.2) ++ (pc_play hy hs Y) ++ (pc_town cI hs S)) C0 hw (c_X0_firstFault l G cI cZ sa sb hp P r1 e1) [13, 14] [0, 1, 2, 3, 4, 5, 6, 7, 8, 9, 10, 11, 12, 15, 16, 17, 18, 19, 20, 21, 22, 23, 24, 25, 26] [0, 1, 2, 3, 4, 5, 6, 7, 8, 9, 10, 11, 12, 25, 26, 13, 14, 15, 16, 17, 18, 19, 20, 21, 22, 23, 24] rfl rfl rfl rfl (by decide) rfl rfl 0 0 rfl rfl rfl (cwV 0 hts gX5_nightCanBe_X0_firstFault rfl rfl rfl (by decide +kernel) ⟨Nat.le_of_ble_eq_true rfl, Nat.le_of_ble_eq_true rfl⟩) rfl hl.1 (lv_room (Nat.le_of_ble_eq_true rfl)) dX5_nightCanBe_4 (fun H locs hw => ?_)
  refine lv_bipush (v := (-6 : Int32)) hx hb dX5_nightCanBe_7 (by decide) ?_
  obtain ⟨x2, e2, hf⟩ := cd_bind_some hf
  have K2 : ∀ (ls : Array Slot) (H : Heap) (locs : List Loc), lv_has ls 1 [] → cd_WS G A s.heap H locs ((pc_top cZ h ht h1 h2 hp hy hv hz K) ++ (pc_town cI ht T) ++ (pc_pad cI hp x2.2.1) ++ (pc_play hy hs x2.2.2.1) ++ (pc_town cI hs x2.2.2.2)) → W p l e rm_X5_nightCanBe s m ag below meth c H locs 0 0 Q (F0 m 35 ls [.int x2.1]) := by
    intro ls H locs hl hw
    obtain ⟨u3, e3, hf⟩ := cd_bind_some hf
    have z : some (x2.1, x2.2.1, x2.2.2.1, x2.2.2.2) = some o := hf
    cases z
    rw [hQ]
    exact cd_retz C0 hw (cd_zb_eq e3) dX5_nightCanBe_35
  refine lv_icmp_ne (tgt := 34) hx hb dX5_nightCanBe_9 (by decide) (fun c2 => ?_) (fun c2 => ?_)
  · have e2 := cd_ite_f c2 e2
    refine lv_iconst (v := (0 : Int32)) hx hb dX5_nightCanBe_34 (by decide) ?_
    have z : some ((0 : Int32), r1.2, Y, S) = some x2 := e2
    cases z
    exact K2 _ _ _ (lv_sub hl [] rfl) hw
  · have e2 := cd_ite_t c2 e2
    refine lv_aload_n hx hb dX5_nightCanBe_12 rfl (lv_at hl 0 rfl) ?_
    refine va_get (D := G) (ci := 5) (v := .ref (hy 0)) (C := RX5) (T := TX5) (N := 8) hx hb hts nw_X5_nightCanBe_X5 hown hK hw.1 0 rfl rfl 5 (by decide) hL1 (fun _ h9 => h9) rfl dX5_nightCanBe_13 ?_
    refine lv_aload_n hx hb dX5_nightCanBe_16 rfl (lv_at hl 0 rfl) ?_
    refine va_get (D := G) (ci := 5) (v := .ref (ht 0)) (C := RX5) (T := TX5) (N := 8) hx hb hts nw_X5_nightCanBe_X5 hown hK hw.1 0 rfl rfl 0 (by decide) hL2 (fun _ h9 => h9) rfl dX5_nightCanBe_17 ?_
    refine lv_aload_n hx hb dX5_nightCanBe_20 rfl (lv_at hl 0 rfl) ?_
    refine va_get (D := G) (ci := 5) (v := .ref (hp 0)) (C := RX5) (T := TX5) (N := 8) hx hb hts nw_X5_nightCanBe_X5 hown hK hw.1 0 rfl rfl 4 (by decide) hL0 (fun _ h9 => h9) rfl dX5_nightCanBe_21 ?_
    obtain ⟨r4, e4, e2⟩ := cd_bind_some e2
    refine cd_callVw (As := [.ref (ht 0), .ref (hp 0)]) (rest := []) (wr := (pc_top cZ h ht h1 h2 hp hy hv hz K)) (wn := (pc_top cZ h ht h1 h2 hp hy hv hz K) ++ (pc_town cI ht T) ++ (pc_pad cI hp r4.2.2.2) ++ (pc_play hy hs r4.2.1) ++ (pc_town cI hs r4.2.2.1)) C0 hw (c_X1_night l G cI cZ sa sb hy hs ht hp Y S T r1.2 r4 e4) [15, 16, 17, 18, 19, 20, 21, 22, 23, 24, 25, 26, 2, 3, 4, 5, 6, 7, 8, 9, 10, 11, 12, 13, 14] [0, 1] [0, 1, 14, 15, 16, 17, 18, 19, 20, 21, 22, 23, 24, 25, 26, 2, 3, 4, 5, 6, 7, 8, 9, 10, 11, 12, 13] rfl rfl rfl rfl (by decide) rfl rfl 0 1 rfl rfl rfl (cwV 2 hts gX5_nightCanBe_X1_night rfl rfl rfl (by decide +kernel) ⟨Nat.le_of_ble_eq_true rfl, Nat.le_of_ble_eq_true rfl⟩) rfl hl.1 (lv_room (Nat.le_of_ble_eq_true rfl)) dX5_nightCanBe_24 (fun H locs hw => ?_)
    refine lv_if_eq (tgt := 34) hx hb dX5_nightCanBe_27 (by decide) (fun c5 => ?_) (fun c5 => ?_)
    · have e2 := cd_ite_t c5 e2
      refine lv_iconst (v := (0 : Int32)) hx hb dX5_nightCanBe_34 (by decide) ?_
      have z : some ((0 : Int32), r4.2.2.2, r4.2.1, r4.2.2.1) = some x2 := e2
      cases z
      exact K2 _ _ _ (lv_sub hl [] rfl) hw
    · have e2 := cd_ite_f c5 e2
      refine lv_iconst (v := (1 : Int32)) hx hb dX5_nightCanBe_30 (by decide) ?_
      refine lv_goto (tgt := 35) hx hb dX5_nightCanBe_31 (by decide) ?_
      have z : some ((1 : Int32), r4.2.2.2, r4.2.1, r4.2.2.1) = some x2 := e2
      cases z
      exact K2 _ _ _ (lv_sub hl [] rfl) hw
abbrev rm_X5_behind : Room := { frames := 6, cells := 0, slots := 0, locals := 134 }
theorem nw_X5_behind_X1 : ∀ w ∈ u_ws RX1 TX1 6, w ∈ wsX5_behind := by decide +kernel
theorem nw_X5_behind_X3 : ∀ w ∈ u_ws RX3 TX3 14, w ∈ wsX5_behind := by decide +kernel
theorem nw_X5_behind_X5 : ∀ w ∈ u_ws RX5 TX5 8, w ∈ wsX5_behind := by decide +kernel
set_option maxHeartbeats 4000000 in
set_option maxRecDepth 100000 in
theorem c_X5_behind (l : Launch) (G : va_G) (cI cZ : ClassId) (sa sb : Nat) (h ht h1 h2 hp hy hs hv hz : Nat → Nat) (K T P Y S : Nat → Nat → Int32) (a0 : Int32) (a1 : Int32) (o : Int32 × (Nat → Nat → Int32) × (Nat → Nat → Int32) × (Nat → Nat → Int32)) (hf : f_X5_behind a0 a1 K T P Y S = some o) : cd_Ct l G cI cZ sa sb yX5_behind wsX5_behind rm_X5_behind [.ref (h 0), .int a0, .int a1] ((pc_top cZ h ht h1 h2 hp hy hv hz K) ++ (pc_town cI ht T) ++ (pc_pad cI hp P) ++ (pc_play hy hs Y) ++ (pc_town cI hs S)) ((pc_top cZ h ht h1 h2 hp hy hv hz K) ++ (pc_town cI ht T) ++ (pc_pad cI hp o.2.1) ++ (pc_play hy hs o.2.2.1) ++ (pc_town cI hs o.2.2.2)) (some (.int o.1)) := by
  refine cd_of (cc := cX5_behind) (maxL := 3) (ret := (some .int)) (by decide) rfl (Nat.le_of_ble_eq_true rfl) ?_
  intro p e s m ag below meth c A ls Q C0 hl hw hQ
  have C0 : cd_CX G cI cZ sa sb p s m ag meth c cX5_behind 3 (some .int) wsX5_behind RX5 A := C0
  obtain ⟨⟨hx, hb, hml, hown, hts⟩, hr, hlocks, hA, hE⟩ := id C0
  have hK := hE.1
  have hL0 := hts (.fieldLink RX5 36 "CandleDebts" "play" "LCandleDebts$Play;") (by decide +kernel)
  have hL1 := hts (.fieldLink RX5 107 "CandleDebts$Play" "scene" "LCandleDebts$Town;") (by decide +kernel)
  have hL2 := hts (.fieldLink RX5 65 "CandleDebts$Town" "wax" "[I") (by decide +kernel)
  have hL3 := hts (.fieldLink RX5 117 "CandleDebts$Town" "sums" "[I") (by decide +kernel)
  have hL4 := hts (.fieldLink RX5 120 "CandleDebts$Town" "trimmed" "[I") (by decide +kernel)
  have hl : lv_has ls 3 [(0, .ref (h 0)), (1, .int a0), (2, .int a1)] := hl
  unfold f_X5_behind at hf
  refine lv_iload_n hx hb dX5_behind_0 rfl (lv_at hl 1 rfl) ?_
  obtain ⟨r1, e1, hf⟩ := cd_bind_some hf
  refine cd_callS (As := [.int a0]) (rest := []) C0 hw (c_X5_isCandle l G cI cZ sa sb a0 r1 e1) [] rfl rfl (va_cwS 1 hts gX5_behind_X5_isCandle rfl rfl rfl (by decide +kernel) ⟨Nat.le_of_ble_eq_true rfl, Nat.le_of_ble_eq_true rfl⟩) rfl hl.1 (lv_room (Nat.le_of_ble_eq_true rfl)) dX5_behind_1 (fun H locs hw => ?_)
  refine lv_if_ne (tgt := 9) hx hb dX5_behind_4 (by decide) (fun c2 => ?_) (fun c2 => ?_)
  · have hf := cd_ite_f c2 hf
    refine lv_iload_n hx hb dX5_behind_9 rfl (lv_at hl 2 rfl) ?_
    refine lv_iconst (v := (0 : Int32)) hx hb dX5_behind_10 (by decide) ?_
    refine lv_iconst (v := (3 : Int32)) hx hb dX5_behind_11 (by decide) ?_
    obtain ⟨r3, e3, hf⟩ := cd_bind_some hf
    refine cd_callS (As := [.int a1, .int (0 : Int32), .int (3 : Int32)]) (rest := []) C0 hw (c_X5_within l G cI cZ sa sb a1 (0 : Int32) (3 : Int32) r3 e3) [] rfl rfl (va_cwS 3 hts gX5_behind_X5_within rfl rfl rfl (by decide +kernel) ⟨Nat.le_of_ble_eq_true rfl, Nat.le_of_ble_eq_true rfl⟩) rfl hl.1 (lv_room (Nat.le_of_ble_eq_true rfl)) dX5_behind_12 (fun H locs hw => ?_)
    refine lv_if_ne (tgt := 21) hx hb dX5_behind_15 (by decide) (fun c4 => ?_) (fun c4 => ?_)
    · have hf := cd_ite_f c4 hf
      refine lv_aload_n hx hb dX5_behind_21 rfl (lv_at hl 0 rfl) ?_
      obtain ⟨r5, e5, hf⟩ := cd_bind_some hf
      refine cd_callVw (As := []) (rest := []) (wr := ([] : va_W)) (wn := (pc_top cZ h ht h1 h2 hp hy hv hz K) ++ (pc_town cI ht T) ++ (pc_pad cI hp r5.2.1) ++ (pc_play hy hs r5.2.2.1) ++ (pc_town cI hs r5.2.2.2)) C0 hw (c_X5_nightCanBe l G cI cZ sa sb h ht h1 h2 hp hy hs hv hz K T P Y S r5 e5) [0, 1, 2, 3, 4, 5, 6, 7, 8, 9, 10, 11, 12, 13, 14, 15, 16, 17, 18, 19, 20, 21, 22, 23, 24, 25, 26] [] [0, 1, 2, 3, 4, 5, 6, 7, 8, 9, 10, 11, 12, 13, 14, 15, 16, 17, 18, 19, 20, 21, 22, 23, 24, 25, 26] rfl rfl rfl rfl (by decide) rfl rfl 0 5 rfl rfl rfl (cwV 0 hts gX5_behind_X5_nightCanBe rfl rfl rfl (by decide +kernel) ⟨Nat.le_of_ble_eq_true rfl, Nat.le_of_ble_eq_true rfl⟩) rfl hl.1 (lv_room (Nat.le_of_ble_eq_true rfl)) dX5_behind_22 (fun H locs hw => ?_)
      refine lv_if_ne (tgt := 31) hx hb dX5_behind_25 (by decide) (fun c6 => ?_) (fun c6 => ?_)
      · have hf := cd_ite_f c6 hf
        refine lv_iload_n hx hb dX5_behind_31 rfl (lv_at hl 2 rfl) ?_
        by_cases c7_0 : a1 = (0 : Int32)
        · have hf := cd_ite_t c7_0 hf
          refine lv_tableIn (off := 28) (tgt := 60) hx hb dX5_behind_32 (by rw [c7_0]; decide) (by rw [c7_0]; decide) (by rw [c7_0]; rfl) (by decide) ?_
          refine lv_aload_n hx hb dX5_behind_60 rfl (lv_at hl 0 rfl) ?_
          refine va_get (D := G) (ci := 5) (v := .ref (hy 0)) (C := RX5) (T := TX5) (N := 8) hx hb hts nw_X5_behind_X5 hown hK hw.1 0 rfl rfl 5 (by decide) hL0 (fun _ h9 => h9) rfl dX5_behind_61 ?_
          refine va_get (D := G) (ci := 1) (v := .ref (hs 0)) (C := RX1) (T := TX1) (N := 6) hx hb hts nw_X5_behind_X1 hown hK hw.1 15 rfl rfl 0 (by decide) hL1 (fun _ h9 => h9) rfl dX5_behind_64 ?_
          refine va_get (D := G) (ci := 3) (v := .ref (hs 1)) (C := RX3) (T := TX3) (N := 14) hx hb hts nw_X5_behind_X3 hown hK hw.1 16 rfl rfl 0 (by decide) hL2 (fun _ h9 => h9) rfl dX5_behind_67 ?_
          refine lv_iload_n hx hb dX5_behind_70 rfl (lv_at hl 1 rfl) ?_
          obtain ⟨v8, e8, hf⟩ := cd_bind_some hf
          refine cd_iald hx hb hK hw 17 rfl e8 dX5_behind_71 ?_
          have z : some (v8, r5.2.1, r5.2.2.1, r5.2.2.2) = some o := hf
          cases z
          rw [hQ]
          exact cd_reti C0 hw dX5_behind_72
        · have hf := cd_ite_f c7_0 hf
          by_cases c7_1 : a1 = (1 : Int32)
          · have hf := cd_ite_t c7_1 hf
            refine lv_tableIn (off := 41) (tgt := 73) hx hb dX5_behind_32 (by rw [c7_1]; decide) (by rw [c7_1]; decide) (by rw [c7_1]; rfl) (by decide) ?_
            refine lv_aload_n hx hb dX5_behind_73 rfl (lv_at hl 0 rfl) ?_
            refine va_get (D := G) (ci := 5) (v := .ref (hy 0)) (C := RX5) (T := TX5) (N := 8) hx hb hts nw_X5_behind_X5 hown hK hw.1 0 rfl rfl 5 (by decide) hL0 (fun _ h9 => h9) rfl dX5_behind_74 ?_
            refine va_get (D := G) (ci := 1) (v := .ref (hs 0)) (C := RX1) (T := TX1) (N := 6) hx hb hts nw_X5_behind_X1 hown hK hw.1 15 rfl rfl 0 (by decide) hL1 (fun _ h9 => h9) rfl dX5_behind_77 ?_
            refine lv_iload_n hx hb dX5_behind_80 rfl (lv_at hl 1 rfl) ?_
            obtain ⟨r9, e9, hf⟩ := cd_bind_some hf
            refine cd_callV (As := [.int a0]) (rest := []) C0 hw (c_X3_isLit l G cI cZ sa sb hs r5.2.2.2 a0 r9 e9) [16, 17, 18, 19, 20, 21, 22, 23, 24, 25, 26] rfl rfl 0 3 rfl rfl rfl (cwV 1 hts gX5_behind_X3_isLit rfl rfl rfl (by decide +kernel) ⟨Nat.le_of_ble_eq_true rfl, Nat.le_of_ble_eq_true rfl⟩) rfl hl.1 (lv_room (Nat.le_of_ble_eq_true rfl)) dX5_behind_81 (fun H locs hw => ?_)
            obtain ⟨x10, e10, hf⟩ := cd_bind_some hf
            have K10 : ∀ (ls : Array Slot) (H : Heap) (locs : List Loc), lv_has ls 3 [] → cd_WS G A s.heap H locs ((pc_top cZ h ht h1 h2 hp hy hv hz K) ++ (pc_town cI ht T) ++ (pc_pad cI hp r5.2.1) ++ (pc_play hy hs r5.2.2.1) ++ (pc_town cI hs r5.2.2.2)) → W p l e rm_X5_behind s m ag below meth c H locs 0 0 Q (F0 m 92 ls [.int x10]) := by
              intro ls H locs hl hw
              have z : some (x10, r5.2.1, r5.2.2.1, r5.2.2.2) = some o := hf
              cases z
              rw [hQ]
              exact cd_reti C0 hw dX5_behind_92
            refine lv_if_eq (tgt := 91) hx hb dX5_behind_84 (by decide) (fun c10 => ?_) (fun c10 => ?_)
            · have e10 := cd_ite_t c10 e10
              refine lv_iconst (v := (0 : Int32)) hx hb dX5_behind_91 (by decide) ?_
              have z : some (0 : Int32) = some x10 := e10
              cases z
              exact K10 _ _ _ (lv_sub hl [] rfl) hw
            · have e10 := cd_ite_f c10 e10
              refine lv_iconst (v := (1 : Int32)) hx hb dX5_behind_87 (by decide) ?_
              refine lv_goto (tgt := 92) hx hb dX5_behind_88 (by decide) ?_
              have z : some (1 : Int32) = some x10 := e10
              cases z
              exact K10 _ _ _ (lv_sub hl [] rfl) hw
          · have hf := cd_ite_f c7_1 hf
            by_cases c7_2 : a1 = (2 : Int32)
            · have hf := cd_ite_t c7_2 hf
              refine lv_tableIn (off := 61) (tgt := 93) hx hb dX5_behind_32 (by rw [c7_2]; decide) (by rw [c7_2]; decide) (by rw [c7_2]; rfl) (by decide) ?_
              refine lv_aload_n hx hb dX5_behind_93 rfl (lv_at hl 0 rfl) ?_
              refine va_get (D := G) (ci := 5) (v := .ref (hy 0)) (C := RX5) (T := TX5) (N := 8) hx hb hts nw_X5_behind_X5 hown hK hw.1 0 rfl rfl 5 (by decide) hL0 (fun _ h9 => h9) rfl dX5_behind_94 ?_
              refine va_get (D := G) (ci := 1) (v := .ref (hs 0)) (C := RX1) (T := TX1) (N := 6) hx hb hts nw_X5_behind_X1 hown hK hw.1 15 rfl rfl 0 (by decide) hL1 (fun _ h9 => h9) rfl dX5_behind_97 ?_
              refine va_get (D := G) (ci := 3) (v := .ref (hs 6)) (C := RX3) (T := TX3) (N := 14) hx hb hts nw_X5_behind_X3 hown hK hw.1 16 rfl rfl 5 (by decide) hL3 (fun _ h9 => h9) rfl dX5_behind_100 ?_
              refine lv_iload_n hx hb dX5_behind_103 rfl (lv_at hl 1 rfl) ?_
              obtain ⟨v11, e11, hf⟩ := cd_bind_some hf
              refine cd_iald hx hb hK hw 22 rfl e11 dX5_behind_104 ?_
              have z : some (v11, r5.2.1, r5.2.2.1, r5.2.2.2) = some o := hf
              cases z
              rw [hQ]
              exact cd_reti C0 hw dX5_behind_105
            · have hf := cd_ite_f c7_2 hf
              refine lv_tableOut (tgt := 106) hx hb dX5_behind_32 (by have q0 : a1.toInt ≠ 0 := cd_ne c7_0; have q1 : a1.toInt ≠ 1 := cd_ne c7_1; have q2 : a1.toInt ≠ 2 := cd_ne c7_2; omega) (by decide) ?_
              refine lv_aload_n hx hb dX5_behind_106 rfl (lv_at hl 0 rfl) ?_
              refine va_get (D := G) (ci := 5) (v := .ref (hy 0)) (C := RX5) (T := TX5) (N := 8) hx hb hts nw_X5_behind_X5 hown hK hw.1 0 rfl rfl 5 (by decide) hL0 (fun _ h9 => h9) rfl dX5_behind_107 ?_
              refine va_get (D := G) (ci := 1) (v := .ref (hs 0)) (C := RX1) (T := TX1) (N := 6) hx hb hts nw_X5_behind_X1 hown hK hw.1 15 rfl rfl 0 (by decide) hL1 (fun _ h9 => h9) rfl dX5_behind_110 ?_
              refine va_get (D := G) (ci := 3) (v := .ref (hs 2)) (C := RX3) (T := TX3) (N := 14) hx hb hts nw_X5_behind_X3 hown hK hw.1 16 rfl rfl 1 (by decide) hL4 (fun _ h9 => h9) rfl dX5_behind_113 ?_
              refine lv_iload_n hx hb dX5_behind_116 rfl (lv_at hl 1 rfl) ?_
              obtain ⟨v12, e12, hf⟩ := cd_bind_some hf
              refine cd_iald hx hb hK hw 18 rfl e12 dX5_behind_117 ?_
              have z : some (v12, r5.2.1, r5.2.2.1, r5.2.2.2) = some o := hf
              cases z
              rw [hQ]
              exact cd_reti C0 hw dX5_behind_118
      · have hf := cd_ite_t c6 hf
        refine lv_bipush (v := (-5 : Int32)) hx hb dX5_behind_28 (by decide) ?_
        have z : some ((-5 : Int32), r5.2.1, r5.2.2.1, r5.2.2.2) = some o := hf
        cases z
        rw [hQ]
        exact cd_reti C0 hw dX5_behind_30
    · have hf := cd_ite_t c4 hf
      refine lv_bipush (v := (-2 : Int32)) hx hb dX5_behind_18 (by decide) ?_
      have z : some ((-2 : Int32), P, Y, S) = some o := hf
      cases z
      rw [hQ]
      exact cd_reti C0 hw dX5_behind_20
  · have hf := cd_ite_t c2 hf
    refine lv_iconst (v := (-1 : Int32)) hx hb dX5_behind_7 (by decide) ?_
    have z : some ((-1 : Int32), P, Y, S) = some o := hf
    cases z
    rw [hQ]
    exact cd_reti C0 hw dX5_behind_8
