abbrev rm_X6_wipe : Room := { frames := 0, cells := 0, slots := 0, locals := 0 }
theorem nw_X6_wipe_X6 : ∀ w ∈ u_ws RX6 TX6 22, w ∈ wsX6_wipe := by decide +kernel
set_option maxHeartbeats 4000000 in
set_option maxRecDepth 100000 in
theorem c_X6_wipe (l : Launch) (G : va_G) (cI cZ : ClassId) (sa sb : Nat) (h : Nat → Nat) (M : Nat → Nat → Int32) (o : Int32 × (Nat → Nat → Int32)) (hf : f_X6_wipe M = some o) : cd_Ct l G cI cZ sa sb yX6_wipe wsX6_wipe rm_X6_wipe [.ref (h 0)] ((pc_mod cI cZ h M)) ((pc_mod cI cZ h o.2)) (some (.int o.1)) := by
  refine cd_of (cc := cX6_wipe) (maxL := 2) (ret := (some .int)) (by decide) rfl (Nat.le_of_ble_eq_true rfl) ?_
  intro p e s m ag below meth c A ls Q C0 hl hw hQ
  have C0 : cd_CX G cI cZ sa sb p s m ag meth c cX6_wipe 2 (some .int) wsX6_wipe RX6 A := C0
  obtain ⟨⟨hx, hb, hml, hown, hts⟩, hr, hlocks, hA, hE⟩ := id C0
  have hK := hE.1
  have hL0 := hts (.fieldLink RX6 71 "CandleDebtsModel" "signs" "I") (by decide +kernel)
  have hl : lv_has ls 2 [(0, .ref (h 0))] := hl
  unfold f_X6_wipe at hf
  refine lv_aload_n hx hb dX6_wipe_0 rfl (lv_at hl 0 rfl) ?_
  refine va_get (D := G) (ci := 6) (v := .int (M 6 0)) (C := RX6) (T := TX6) (N := 22) hx hb hts nw_X6_wipe_X6 hown hK hw.1 0 rfl rfl 6 (by decide) hL0 (fun _ h9 => h9) rfl dX6_wipe_1 ?_
  refine lv_istore_n (lv' := [(1, .int (M 6 0)), (0, .ref (h 0))]) hx hb dX6_wipe_4 rfl hl (by decide) rfl (fun ls hl => ?_)
  refine lv_aload_n hx hb dX6_wipe_5 rfl (lv_at hl 1 rfl) ?_
  refine lv_iconst (v := (0 : Int32)) hx hb dX6_wipe_6 (by decide) ?_
  refine va_put (D := G) (ci := 6) (v := .int (0 : Int32)) (ty := .int) (C := RX6) (T := TX6) (N := 22) hx hb hts nw_X6_wipe_X6 tyX6 tyX6_ok nmX6 hown hK hw.1 hw.2.1 hw.2.2 0 rfl rfl 6 (by decide) hL0 (fun _ h9 => h9) rfl (by decide +kernel) rfl rfl (Nat.le_of_ble_eq_true rfl) dX6_wipe_7 (fun H locs hP hD hS => ?_)
  have hw : cd_WS G A s.heap H locs ((pc_mod cI cZ h (cd_fld M 6 (0 : Int32)))) := ⟨hP, hD, hS⟩
  refine lv_iload_n hx hb dX6_wipe_10 rfl (lv_at hl 0 rfl) ?_
  have z : some ((M 6 0), (cd_fld M 6 (0 : Int32))) = some o := hf
  cases z
  rw [hQ]
  exact cd_reti C0 hw dX6_wipe_11
abbrev rm_X6_year : Room := { frames := 3, cells := 0, slots := 0, locals := 66 }
theorem nw_X6_year_X6 : ∀ w ∈ u_ws RX6 TX6 22, w ∈ wsX6_year := by decide +kernel
set_option maxHeartbeats 4000000 in
set_option maxRecDepth 100000 in
theorem c_X6_year (l : Launch) (G : va_G) (cI cZ : ClassId) (sa sb : Nat) (h : Nat → Nat) (M : Nat → Nat → Int32) (a0 : Int32) (a1 : Int32) (a2 : Int32) (o : Int32 × (Nat → Nat → Int32)) (hf : f_X6_year a0 a1 a2 M = some o) : cd_Ct l G cI cZ sa sb yX6_year wsX6_year rm_X6_year [.ref (h 0), .int a0, .int a1, .int a2] ((pc_mod cI cZ h M)) ((pc_mod cI cZ h o.2)) (some (.int o.1)) := by
  refine cd_of (cc := cX6_year) (maxL := 9) (ret := (some .int)) (by decide) rfl (Nat.le_of_ble_eq_true rfl) ?_
  intro p e s m ag below meth c A ls Q C0 hl hw hQ
  have C0 : cd_CX G cI cZ sa sb p s m ag meth c cX6_year 9 (some .int) wsX6_year RX6 A := C0
  obtain ⟨⟨hx, hb, hml, hown, hts⟩, hr, hlocks, hA, hE⟩ := id C0
  have hK := hE.1
  have hL0 := hts (.constant RX6 197 (65537)) (by decide +kernel)
  have hL1 := hts (.fieldLink RX6 13 "CandleDebtsModel" "now" "[I") (by decide +kernel)
  have hL2 := hts (.fieldLink RX6 82 "CandleDebtsModel" "paid" "I") (by decide +kernel)
  have hl : lv_has ls 9 [(0, .ref (h 0)), (1, .int a0), (2, .int a1), (3, .int a2)] := hl
  unfold f_X6_year at hf
  refine lv_iload_n hx hb dX6_year_0 rfl (lv_at hl 1 rfl) ?_
  refine lv_iconst (v := (0 : Int32)) hx hb dX6_year_1 (by decide) ?_
  refine lv_sipush (v := (9999 : Int32)) hx hb dX6_year_2 (by decide) ?_
  obtain ⟨r1, e1, hf⟩ := cd_bind_some hf
  refine cd_callS (As := [.int a0, .int (0 : Int32), .int (9999 : Int32)]) (rest := []) C0 hw (c_X6_in l G cI cZ sa sb a0 (0 : Int32) (9999 : Int32) r1 e1) [] rfl rfl (va_cwS 3 hts gX6_year_X6_in rfl rfl rfl (by decide +kernel) ⟨Nat.le_of_ble_eq_true rfl, Nat.le_of_ble_eq_true rfl⟩) rfl hl.1 (lv_room (Nat.le_of_ble_eq_true rfl)) dX6_year_5 (fun H locs hw => ?_)
  refine lv_if_eq (tgt := 30) hx hb dX6_year_8 (by decide) (fun c2 => ?_) (fun c2 => ?_)
  · have hf := cd_ite_t c2 hf
    refine lv_bipush (v := (-2 : Int32)) hx hb dX6_year_30 (by decide) ?_
    have z : some ((-2 : Int32), M) = some o := hf
    cases z
    rw [hQ]
    exact cd_reti C0 hw dX6_year_32
  · have hf := cd_ite_f c2 hf
    refine lv_iload_n hx hb dX6_year_11 rfl (lv_at hl 2 rfl) ?_
    refine lv_iconst (v := (1 : Int32)) hx hb dX6_year_12 (by decide) ?_
    refine lv_bipush (v := (99 : Int32)) hx hb dX6_year_13 (by decide) ?_
    obtain ⟨r3, e3, hf⟩ := cd_bind_some hf
    refine cd_callS (As := [.int a1, .int (1 : Int32), .int (99 : Int32)]) (rest := []) C0 hw (c_X6_in l G cI cZ sa sb a1 (1 : Int32) (99 : Int32) r3 e3) [] rfl rfl (va_cwS 3 hts gX6_year_X6_in rfl rfl rfl (by decide +kernel) ⟨Nat.le_of_ble_eq_true rfl, Nat.le_of_ble_eq_true rfl⟩) rfl hl.1 (lv_room (Nat.le_of_ble_eq_true rfl)) dX6_year_15 (fun H locs hw => ?_)
    refine lv_if_eq (tgt := 30) hx hb dX6_year_18 (by decide) (fun c4 => ?_) (fun c4 => ?_)
    · have hf := cd_ite_t c4 hf
      refine lv_bipush (v := (-2 : Int32)) hx hb dX6_year_30 (by decide) ?_
      have z : some ((-2 : Int32), M) = some o := hf
      cases z
      rw [hQ]
      exact cd_reti C0 hw dX6_year_32
    · have hf := cd_ite_f c4 hf
      refine lv_iload_n hx hb dX6_year_21 rfl (lv_at hl 3 rfl) ?_
      refine lv_iconst (v := (0 : Int32)) hx hb dX6_year_22 (by decide) ?_
      refine lv_iconst (v := (2 : Int32)) hx hb dX6_year_23 (by decide) ?_
      obtain ⟨r5, e5, hf⟩ := cd_bind_some hf
      refine cd_callS (As := [.int a2, .int (0 : Int32), .int (2 : Int32)]) (rest := []) C0 hw (c_X6_in l G cI cZ sa sb a2 (0 : Int32) (2 : Int32) r5 e5) [] rfl rfl (va_cwS 3 hts gX6_year_X6_in rfl rfl rfl (by decide +kernel) ⟨Nat.le_of_ble_eq_true rfl, Nat.le_of_ble_eq_true rfl⟩) rfl hl.1 (lv_room (Nat.le_of_ble_eq_true rfl)) dX6_year_24 (fun H locs hw => ?_)
      refine lv_if_ne (tgt := 33) hx hb dX6_year_27 (by decide) (fun c6 => ?_) (fun c6 => ?_)
      · have hf := cd_ite_f c6 hf
        refine lv_aload_n hx hb dX6_year_33 rfl (lv_at hl 0 rfl) ?_
        obtain ⟨r7, e7, hf⟩ := cd_bind_some hf
        refine cd_callVw (As := []) (rest := []) (wr := ([] : va_W)) (wn := (pc_mod cI cZ h r7)) C0 hw (c_X6_asNow l G cI cZ sa sb h M r7 e7) [0, 1, 2, 3, 4, 5, 6, 7, 8, 9, 10, 11, 12, 13, 14] [] [0, 1, 2, 3, 4, 5, 6, 7, 8, 9, 10, 11, 12, 13, 14] rfl rfl rfl rfl (by decide) rfl rfl 0 6 rfl rfl rfl (cwV 0 hts gX6_year_X6_asNow rfl rfl rfl (by decide +kernel) ⟨Nat.le_of_ble_eq_true rfl, Nat.le_of_ble_eq_true rfl⟩) rfl hl.1 (lv_room (Nat.le_of_ble_eq_true rfl)) dX6_year_34 (fun H locs hw => ?_)
        refine lv_iload_n hx hb dX6_year_37 rfl (lv_at hl 1 rfl) ?_
        refine lv_istore (lv' := [(4, .int a0), (0, .ref (h 0)), (1, .int a0), (2, .int a1), (3, .int a2)]) hx hb dX6_year_38 hl (by decide) rfl (fun ls hl => ?_)
        refine lv_iconst (v := (0 : Int32)) hx hb dX6_year_40 (by decide) ?_
        refine lv_istore (lv' := [(5, .int (0 : Int32)), (4, .int a0), (0, .ref (h 0)), (1, .int a0), (2, .int a1), (3, .int a2)]) hx hb dX6_year_41 hl (by decide) rfl (fun ls hl => ?_)
        obtain ⟨x8, e8, hf⟩ := cd_bind_some hf
        have K8 : ∀ (t8 : (Nat → Nat → Int32)), t8 = x8 → ∀ (ls : Array Slot) (H : Heap) (locs : List Loc), lv_has ls 9 [(0, .ref (h 0)), (3, .int a2)] → cd_WS G A s.heap H locs ((pc_mod cI cZ h t8)) → W p l e rm_X6_year s m ag below meth c H locs 0 0 Q (F0 m 205 ls []) := by
          intro t8 hs_8
          subst hs_8
          intro ls H locs hl hw
          refine lv_iconst (v := (0 : Int32)) hx hb dX6_year_205 (by decide) ?_
          refine lv_istore (lv' := [(5, .int (0 : Int32)), (0, .ref (h 0)), (3, .int a2)]) hx hb dX6_year_206 hl (by decide) rfl (fun ls hl => ?_)
          refine lv_iconst (v := (0 : Int32)) hx hb dX6_year_208 (by decide) ?_
          refine lv_istore (lv' := [(6, .int (0 : Int32)), (5, .int (0 : Int32)), (0, .ref (h 0)), (3, .int a2)]) hx hb dX6_year_209 hl (by decide) rfl (fun ls hl => ?_)
          obtain ⟨x24, e24, hf⟩ := cd_bind_some hf
          have K24 : ∀ (t24 : Int32), t24 = x24 → ∀ (ls : Array Slot) (H : Heap) (locs : List Loc), lv_has ls 9 [(0, .ref (h 0)), (3, .int a2), (5, .int t24)] → cd_WS G A s.heap H locs ((pc_mod cI cZ h t8)) → W p l e rm_X6_year s m ag below meth c H locs 0 0 Q (F0 m 236 ls []) := by
            intro t24 hs_24
            subst hs_24
            intro ls H locs hl hw
            refine lv_iload_n hx hb dX6_year_236 rfl (lv_at hl 1 rfl) ?_
            obtain ⟨x27, e27, hf⟩ := cd_bind_some hf
            have K27 : ∀ (ls : Array Slot) (H : Heap) (locs : List Loc), lv_has ls 9 [] → cd_WS G A s.heap H locs ((pc_mod cI cZ h t8)) → W p l e rm_X6_year s m ag below meth c H locs 0 0 Q (F0 m 267 ls [.int x27]) := by
              intro ls H locs hl hw
              have z : some (x27, t8) = some o := hf
              cases z
              rw [hQ]
              exact cd_reti C0 hw dX6_year_267
            refine lv_if_ne (tgt := 247) hx hb dX6_year_237 (by decide) (fun c27 => ?_) (fun c27 => ?_)
            · have e27 := cd_ite_f c27 e27
              refine lv_iload_n hx hb dX6_year_247 rfl (lv_at hl 1 rfl) ?_
              refine lv_iconst (v := (1 : Int32)) hx hb dX6_year_248 (by decide) ?_
              refine lv_icmp_ne (tgt := 257) hx hb dX6_year_249 (by decide) (fun c28 => ?_) (fun c28 => ?_)
              · have e27 := cd_ite_f c28 e27
                refine lv_aload_n hx hb dX6_year_257 rfl (lv_at hl 0 rfl) ?_
                refine va_get (D := G) (ci := 6) (v := .ref (h 2)) (C := RX6) (T := TX6) (N := 22) hx hb hts nw_X6_year_X6 hown hK hw.1 0 rfl rfl 1 (by decide) hL1 (fun _ h9 => h9) rfl dX6_year_258 ?_
                refine lv_bipush (v := (66 : Int32)) hx hb dX6_year_261 (by decide) ?_
                obtain ⟨v29, e29, e27⟩ := cd_bind_some e27
                refine cd_iald hx hb hK hw 2 rfl e29 dX6_year_263 ?_
                obtain ⟨r30, e30, e27⟩ := cd_bind_some e27
                refine cd_callS (As := [.int v29]) (rest := []) C0 hw (c_X6_bits l G cI cZ sa sb v29 r30 e30) [] rfl rfl (va_cwS 1 hts gX6_year_X6_bits rfl rfl rfl (by decide +kernel) ⟨Nat.le_of_ble_eq_true rfl, Nat.le_of_ble_eq_true rfl⟩) rfl hl.1 (lv_room (Nat.le_of_ble_eq_true rfl)) dX6_year_264 (fun H locs hw => ?_)
                have z : some r30 = some x27 := e27
                cases z
                exact K27 _ _ _ (lv_sub hl [] rfl) hw
              · have e27 := cd_ite_t c28 e27
                refine lv_iload hx hb dX6_year_252 (lv_at hl 2 rfl) ?_
                refine lv_goto (tgt := 267) hx hb dX6_year_254 (by decide) ?_
                have z : some t24 = some x27 := e27
                cases z
                exact K27 _ _ _ (lv_sub hl [] rfl) hw
            · have e27 := cd_ite_t c27 e27
              refine lv_aload_n hx hb dX6_year_240 rfl (lv_at hl 0 rfl) ?_
              refine va_get (D := G) (ci := 6) (v := .int (t8 8 0)) (C := RX6) (T := TX6) (N := 22) hx hb hts nw_X6_year_X6 hown hK hw.1 0 rfl rfl 8 (by decide) hL2 (fun _ h9 => h9) rfl dX6_year_241 ?_
              refine lv_goto (tgt := 267) hx hb dX6_year_244 (by decide) ?_
              have z : some (t8 8 0) = some x27 := e27
              cases z
              exact K27 _ _ _ (lv_sub hl [] rfl) hw
          refine cd_iter_ind (body := (f_X6_year_b211 t8)) (K := fun r => r = x24) (P := fun (z24 : Int32 × Int32) => ∀ (ls : Array Slot) (H : Heap) (locs : List Loc), lv_has ls 9 [(0, .ref (h 0)), (3, .int a2), (5, .int z24.1), (6, .int z24.2)] → cd_WS G A s.heap H locs ((pc_mod cI cZ h t8)) → W p l e rm_X6_year s m ag below meth c H locs 0 0 Q (F0 m 211 ls [])) ?_ cd_N ((0 : Int32), (0 : Int32)) x24 e24 rfl _ _ _ (lv_sub hl [2, 3, 1, 0] rfl) hw
          intro z24 o24 hb24 hk24 ls H locs hl hw
          unfold f_X6_year_b211 at hb24
          refine lv_iload hx hb dX6_year_211 (lv_at hl 3 rfl) ?_
          refine lv_bipush (v := (12 : Int32)) hx hb dX6_year_213 (by decide) ?_
          refine lv_icmp_ge (tgt := 236) hx hb dX6_year_215 (by decide) (fun c25 => ?_) (fun c25 => ?_)
          · have hb24 := cd_ite_t c25 hb24
            have z : some (Sum.inl z24.1) = some o24 := hb24
            cases z
            exact K24 _ hk24 _ _ _ (lv_sub hl [0, 1, 2] rfl) hw
          · have hb24 := cd_ite_f c25 hb24
            refine lv_iload hx hb dX6_year_218 (lv_at hl 2 rfl) ?_
            refine lv_aload_n hx hb dX6_year_220 rfl (lv_at hl 0 rfl) ?_
            refine va_get (D := G) (ci := 6) (v := .ref (h 2)) (C := RX6) (T := TX6) (N := 22) hx hb hts nw_X6_year_X6 hown hK hw.1 0 rfl rfl 1 (by decide) hL1 (fun _ h9 => h9) rfl dX6_year_221 ?_
            refine lv_iload hx hb dX6_year_224 (lv_at hl 3 rfl) ?_
            obtain ⟨v26, e26, hb24⟩ := cd_bind_some hb24
            refine cd_iald hx hb hK hw 2 rfl e26 dX6_year_226 ?_
            refine lv_iadd hx hb dX6_year_227 ?_
            refine lv_istore (lv' := [(5, .int (z24.1 + v26)), (0, .ref (h 0)), (3, .int a2), (6, .int z24.2)]) hx hb dX6_year_228 hl (by decide) rfl (fun ls hl => ?_)
            refine lv_iinc (v := (z24.2 + (1 : Int32))) (lv' := [(6, .int (z24.2 + (1 : Int32))), (5, .int (z24.1 + v26)), (0, .ref (h 0)), (3, .int a2)]) hx hb dX6_year_230 hl (k := 3) rfl rfl (by decide) rfl (fun ls hl => ?_)
            refine lv_goto (tgt := 211) hx hb dX6_year_233 (by decide) ?_
            have z : some (Sum.inr ((z24.1 + v26), (z24.2 + (1 : Int32)))) = some o24 := hb24
            cases z
            exact hk24 _ _ _ (lv_sub hl [2, 3, 1, 0] rfl) hw
        refine cd_iter_ind (body := (f_X6_year_b43 a1)) (K := fun r => r = x8) (P := fun (z8 : Int32 × Int32 × (Nat → Nat → Int32)) => ∀ (ls : Array Slot) (H : Heap) (locs : List Loc), lv_has ls 9 [(0, .ref (h 0)), (2, .int a1), (3, .int a2), (4, .int z8.1), (5, .int z8.2.1)] → cd_WS G A s.heap H locs ((pc_mod cI cZ h z8.2.2)) → W p l e rm_X6_year s m ag below meth c H locs 0 0 Q (F0 m 43 ls [])) ?_ cd_N (a0, (0 : Int32), r7) x8 e8 rfl _ _ _ (lv_sub hl [2, 4, 5, 1, 0] rfl) hw
        intro z8 o8 hb8 hk8 ls H locs hl hw
        unfold f_X6_year_b43 at hb8
        refine lv_iload hx hb dX6_year_43 (lv_at hl 4 rfl) ?_
        refine lv_iload_n hx hb dX6_year_45 rfl (lv_at hl 1 rfl) ?_
        refine lv_icmp_ge (tgt := 205) hx hb dX6_year_46 (by decide) (fun c9 => ?_) (fun c9 => ?_)
        · have hb8 := cd_ite_t c9 hb8
          have z : some (Sum.inl z8.2.2) = some o8 := hb8
          cases z
          exact K8 _ hk8 _ _ _ (lv_sub hl [0, 2] rfl) hw
        · have hb8 := cd_ite_f c9 hb8
          refine lv_bipush (v := (75 : Int32)) hx hb dX6_year_49 (by decide) ?_
          refine lv_iload hx hb dX6_year_51 (lv_at hl 3 rfl) ?_
          refine lv_imul hx hb dX6_year_53 ?_
          refine lv_bipush (v := (74 : Int32)) hx hb dX6_year_54 (by decide) ?_
          refine lv_iadd hx hb dX6_year_56 ?_
          refine lv_ldc (v := (65537 : Int32)) hx hb hown hL0 dX6_year_57 ?_
          refine lv_irem hx hb dX6_year_59 (by decide) ?_
          refine lv_istore (lv' := [(4, .int ((((75 : Int32) * z8.1) + (74 : Int32)) - (((75 : Int32) * z8.1) + (74 : Int32)) / (65537 : Int32) * (65537 : Int32))), (0, .ref (h 0)), (2, .int a1), (3, .int a2), (5, .int z8.2.1)]) hx hb dX6_year_60 hl (by decide) rfl (fun ls hl => ?_)
          refine lv_iload hx hb dX6_year_62 (lv_at hl 0 rfl) ?_
          refine lv_bipush (v := (8 : Int32)) hx hb dX6_year_64 (by decide) ?_
          refine lv_irem hx hb dX6_year_66 (by decide) ?_
          refine lv_istore (lv' := [(6, .int (((((75 : Int32) * z8.1) + (74 : Int32)) - (((75 : Int32) * z8.1) + (74 : Int32)) / (65537 : Int32) * (65537 : Int32)) - ((((75 : Int32) * z8.1) + (74 : Int32)) - (((75 : Int32) * z8.1) + (74 : Int32)) / (65537 : Int32) * (65537 : Int32)) / (8 : Int32) * (8 : Int32))), (4, .int ((((75 : Int32) * z8.1) + (74 : Int32)) - (((75 : Int32) * z8.1) + (74 : Int32)) / (65537 : Int32) * (65537 : Int32))), (0, .ref (h 0)), (2, .int a1), (3, .int a2), (5, .int z8.2.1)]) hx hb dX6_year_67 hl (by decide) rfl (fun ls hl => ?_)
          refine lv_iload hx hb dX6_year_69 (lv_at hl 1 rfl) ?_
          refine lv_bipush (v := (8 : Int32)) hx hb dX6_year_71 (by decide) ?_
          refine lv_idiv hx hb dX6_year_73 (by decide) ?_
          refine lv_bipush (v := (12 : Int32)) hx hb dX6_year_74 (by decide) ?_
          refine lv_irem hx hb dX6_year_76 (by decide) ?_
          refine lv_istore (lv' := [(7, .int ((((((75 : Int32) * z8.1) + (74 : Int32)) - (((75 : Int32) * z8.1) + (74 : Int32)) / (65537 : Int32) * (65537 : Int32)) / (8 : Int32)) - (((((75 : Int32) * z8.1) + (74 : Int32)) - (((75 : Int32) * z8.1) + (74 : Int32)) / (65537 : Int32) * (65537 : Int32)) / (8 : Int32)) / (12 : Int32) * (12 : Int32))), (6, .int (((((75 : Int32) * z8.1) + (74 : Int32)) - (((75 : Int32) * z8.1) + (74 : Int32)) / (65537 : Int32) * (65537 : Int32)) - ((((75 : Int32) * z8.1) + (74 : Int32)) - (((75 : Int32) * z8.1) + (74 : Int32)) / (65537 : Int32) * (65537 : Int32)) / (8 : Int32) * (8 : Int32))), (4, .int ((((75 : Int32) * z8.1) + (74 : Int32)) - (((75 : Int32) * z8.1) + (74 : Int32)) / (65537 : Int32) * (65537 : Int32))), (0, .ref (h 0)), (2, .int a1), (3, .int a2), (5, .int z8.2.1)]) hx hb dX6_year_77 hl (by decide) rfl (fun ls hl => ?_)
          refine lv_iload hx hb dX6_year_79 (lv_at hl 1 rfl) ?_
          refine lv_iconst (v := (4 : Int32)) hx hb dX6_year_81 (by decide) ?_
          refine lv_icmp_ne (tgt := 111) hx hb dX6_year_82 (by decide) (fun c10 => ?_) (fun c10 => ?_)
          · have hb8 := cd_ite_f c10 hb8
            refine lv_iload hx hb dX6_year_111 (lv_at hl 1 rfl) ?_
            refine lv_if_ne (tgt := 125) hx hb dX6_year_113 (by decide) (fun c13 => ?_) (fun c13 => ?_)
            · have hb8 := cd_ite_f c13 hb8
              refine lv_iload hx hb dX6_year_125 (lv_at hl 1 rfl) ?_
              refine lv_iconst (v := (1 : Int32)) hx hb dX6_year_127 (by decide) ?_
              refine lv_icmp_ne (tgt := 140) hx hb dX6_year_128 (by decide) (fun c15 => ?_) (fun c15 => ?_)
              · have hb8 := cd_ite_f c15 hb8
                refine lv_iload hx hb dX6_year_140 (lv_at hl 1 rfl) ?_
                refine lv_iconst (v := (2 : Int32)) hx hb dX6_year_142 (by decide) ?_
                refine lv_icmp_ne (tgt := 155) hx hb dX6_year_143 (by decide) (fun c17 => ?_) (fun c17 => ?_)
                · have hb8 := cd_ite_f c17 hb8
                  refine lv_iload hx hb dX6_year_155 (lv_at hl 1 rfl) ?_
                  refine lv_iconst (v := (3 : Int32)) hx hb dX6_year_157 (by decide) ?_
                  refine lv_icmp_ne (tgt := 170) hx hb dX6_year_158 (by decide) (fun c19 => ?_) (fun c19 => ?_)
                  · have hb8 := cd_ite_f c19 hb8
                    refine lv_iload hx hb dX6_year_170 (lv_at hl 1 rfl) ?_
                    refine lv_iconst (v := (5 : Int32)) hx hb dX6_year_172 (by decide) ?_
                    refine lv_icmp_ne (tgt := 193) hx hb dX6_year_173 (by decide) (fun c21 => ?_) (fun c21 => ?_)
                    · have hb8 := cd_ite_f c21 hb8
                      refine lv_aload_n hx hb dX6_year_193 rfl (lv_at hl 3 rfl) ?_
                      obtain ⟨r23, e23, hb8⟩ := cd_bind_some hb8
                      refine cd_callVw (As := []) (rest := []) (wr := ([] : va_W)) (wn := (pc_mod cI cZ h r23.2)) C0 hw (c_X6_minute l G cI cZ sa sb h z8.2.2 r23 e23) [0, 1, 2, 3, 4, 5, 6, 7, 8, 9, 10, 11, 12, 13, 14] [] [0, 1, 2, 3, 4, 5, 6, 7, 8, 9, 10, 11, 12, 13, 14] rfl rfl rfl rfl (by decide) rfl rfl 0 6 rfl rfl rfl (cwV 0 hts gX6_year_X6_minute rfl rfl rfl (by decide +kernel) ⟨Nat.le_of_ble_eq_true rfl, Nat.le_of_ble_eq_true rfl⟩) rfl hl.1 (lv_room (Nat.le_of_ble_eq_true rfl)) dX6_year_194 (fun H locs hw => ?_)
                      refine lv_istore (lv' := [(8, .int r23.1), (7, .int ((((((75 : Int32) * z8.1) + (74 : Int32)) - (((75 : Int32) * z8.1) + (74 : Int32)) / (65537 : Int32) * (65537 : Int32)) / (8 : Int32)) - (((((75 : Int32) * z8.1) + (74 : Int32)) - (((75 : Int32) * z8.1) + (74 : Int32)) / (65537 : Int32) * (65537 : Int32)) / (8 : Int32)) / (12 : Int32) * (12 : Int32))), (6, .int (((((75 : Int32) * z8.1) + (74 : Int32)) - (((75 : Int32) * z8.1) + (74 : Int32)) / (65537 : Int32) * (65537 : Int32)) - ((((75 : Int32) * z8.1) + (74 : Int32)) - (((75 : Int32) * z8.1) + (74 : Int32)) / (65537 : Int32) * (65537 : Int32)) / (8 : Int32) * (8 : Int32))), (4, .int ((((75 : Int32) * z8.1) + (74 : Int32)) - (((75 : Int32) * z8.1) + (74 : Int32)) / (65537 : Int32) * (65537 : Int32))), (0, .ref (h 0)), (2, .int a1), (3, .int a2), (5, .int z8.2.1)]) hx hb dX6_year_197 hl (by decide) rfl (fun ls hl => ?_)
                      refine lv_iinc (v := (z8.2.1 + (1 : Int32))) (lv' := [(5, .int (z8.2.1 + (1 : Int32))), (8, .int r23.1), (7, .int ((((((75 : Int32) * z8.1) + (74 : Int32)) - (((75 : Int32) * z8.1) + (74 : Int32)) / (65537 : Int32) * (65537 : Int32)) / (8 : Int32)) - (((((75 : Int32) * z8.1) + (74 : Int32)) - (((75 : Int32) * z8.1) + (74 : Int32)) / (65537 : Int32) * (65537 : Int32)) / (8 : Int32)) / (12 : Int32) * (12 : Int32))), (6, .int (((((75 : Int32) * z8.1) + (74 : Int32)) - (((75 : Int32) * z8.1) + (74 : Int32)) / (65537 : Int32) * (65537 : Int32)) - ((((75 : Int32) * z8.1) + (74 : Int32)) - (((75 : Int32) * z8.1) + (74 : Int32)) / (65537 : Int32) * (65537 : Int32)) / (8 : Int32) * (8 : Int32))), (4, .int ((((75 : Int32) * z8.1) + (74 : Int32)) - (((75 : Int32) * z8.1) + (74 : Int32)) / (65537 : Int32) * (65537 : Int32))), (0, .ref (h 0)), (2, .int a1), (3, .int a2)]) hx hb dX6_year_199 hl (k := 7) rfl rfl (by decide) rfl (fun ls hl => ?_)
                      refine lv_goto (tgt := 43) hx hb dX6_year_202 (by decide) ?_
                      have z : some (Sum.inr (((((75 : Int32) * z8.1) + (74 : Int32)) - (((75 : Int32) * z8.1) + (74 : Int32)) / (65537 : Int32) * (65537 : Int32)), (z8.2.1 + (1 : Int32)), r23.2)) = some o8 := hb8
                      cases z
                      exact hk8 _ _ _ (lv_sub hl [5, 6, 7, 4, 0] rfl) hw
                    · have hb8 := cd_ite_t c21 hb8
                      refine lv_aload_n hx hb dX6_year_176 rfl (lv_at hl 3 rfl) ?_
                      refine lv_iload hx hb dX6_year_177 (lv_at hl 0 rfl) ?_
                      refine lv_iload hx hb dX6_year_179 (lv_at hl 2 rfl) ?_
                      refine lv_bipush (v := (96 : Int32)) hx hb dX6_year_181 (by decide) ?_
                      refine lv_idiv hx hb dX6_year_183 (by decide) ?_
                      refine lv_bipush (v := (10 : Int32)) hx hb dX6_year_184 (by decide) ?_
                      refine lv_irem hx hb dX6_year_186 (by decide) ?_
                      obtain ⟨r22, e22, hb8⟩ := cd_bind_some hb8
                      refine cd_callVw (As := [.int ((((((75 : Int32) * z8.1) + (74 : Int32)) - (((75 : Int32) * z8.1) + (74 : Int32)) / (65537 : Int32) * (65537 : Int32)) / (8 : Int32)) - (((((75 : Int32) * z8.1) + (74 : Int32)) - (((75 : Int32) * z8.1) + (74 : Int32)) / (65537 : Int32) * (65537 : Int32)) / (8 : Int32)) / (12 : Int32) * (12 : Int32)), .int ((((((75 : Int32) * z8.1) + (74 : Int32)) - (((75 : Int32) * z8.1) + (74 : Int32)) / (65537 : Int32) * (65537 : Int32)) / (96 : Int32)) - (((((75 : Int32) * z8.1) + (74 : Int32)) - (((75 : Int32) * z8.1) + (74 : Int32)) / (65537 : Int32) * (65537 : Int32)) / (96 : Int32)) / (10 : Int32) * (10 : Int32))]) (rest := []) (wr := ([] : va_W)) (wn := (pc_mod cI cZ h r22.2)) C0 hw (c_X6_blow l G cI cZ sa sb h z8.2.2 ((((((75 : Int32) * z8.1) + (74 : Int32)) - (((75 : Int32) * z8.1) + (74 : Int32)) / (65537 : Int32) * (65537 : Int32)) / (8 : Int32)) - (((((75 : Int32) * z8.1) + (74 : Int32)) - (((75 : Int32) * z8.1) + (74 : Int32)) / (65537 : Int32) * (65537 : Int32)) / (8 : Int32)) / (12 : Int32) * (12 : Int32)) ((((((75 : Int32) * z8.1) + (74 : Int32)) - (((75 : Int32) * z8.1) + (74 : Int32)) / (65537 : Int32) * (65537 : Int32)) / (96 : Int32)) - (((((75 : Int32) * z8.1) + (74 : Int32)) - (((75 : Int32) * z8.1) + (74 : Int32)) / (65537 : Int32) * (65537 : Int32)) / (96 : Int32)) / (10 : Int32) * (10 : Int32)) r22 e22) [0, 1, 2, 3, 4, 5, 6, 7, 8, 9, 10, 11, 12, 13, 14] [] [0, 1, 2, 3, 4, 5, 6, 7, 8, 9, 10, 11, 12, 13, 14] rfl rfl rfl rfl (by decide) rfl rfl 0 6 rfl rfl rfl (cwV 2 hts gX6_year_X6_blow rfl rfl rfl (by decide +kernel) ⟨Nat.le_of_ble_eq_true rfl, Nat.le_of_ble_eq_true rfl⟩) rfl hl.1 (lv_room (Nat.le_of_ble_eq_true rfl)) dX6_year_187 (fun H locs hw => ?_)
                      refine lv_goto (tgt := 197) hx hb dX6_year_190 (by decide) ?_
                      refine lv_istore (lv' := [(8, .int r22.1), (7, .int ((((((75 : Int32) * z8.1) + (74 : Int32)) - (((75 : Int32) * z8.1) + (74 : Int32)) / (65537 : Int32) * (65537 : Int32)) / (8 : Int32)) - (((((75 : Int32) * z8.1) + (74 : Int32)) - (((75 : Int32) * z8.1) + (74 : Int32)) / (65537 : Int32) * (65537 : Int32)) / (8 : Int32)) / (12 : Int32) * (12 : Int32))), (6, .int (((((75 : Int32) * z8.1) + (74 : Int32)) - (((75 : Int32) * z8.1) + (74 : Int32)) / (65537 : Int32) * (65537 : Int32)) - ((((75 : Int32) * z8.1) + (74 : Int32)) - (((75 : Int32) * z8.1) + (74 : Int32)) / (65537 : Int32) * (65537 : Int32)) / (8 : Int32) * (8 : Int32))), (4, .int ((((75 : Int32) * z8.1) + (74 : Int32)) - (((75 : Int32) * z8.1) + (74 : Int32)) / (65537 : Int32) * (65537 : Int32))), (0, .ref (h 0)), (2, .int a1), (3, .int a2), (5, .int z8.2.1)]) hx hb dX6_year_197 hl (by decide) rfl (fun ls hl => ?_)
                      refine lv_iinc (v := (z8.2.1 + (1 : Int32))) (lv' := [(5, .int (z8.2.1 + (1 : Int32))), (8, .int r22.1), (7, .int ((((((75 : Int32) * z8.1) + (74 : Int32)) - (((75 : Int32) * z8.1) + (74 : Int32)) / (65537 : Int32) * (65537 : Int32)) / (8 : Int32)) - (((((75 : Int32) * z8.1) + (74 : Int32)) - (((75 : Int32) * z8.1) + (74 : Int32)) / (65537 : Int32) * (65537 : Int32)) / (8 : Int32)) / (12 : Int32) * (12 : Int32))), (6, .int (((((75 : Int32) * z8.1) + (74 : Int32)) - (((75 : Int32) * z8.1) + (74 : Int32)) / (65537 : Int32) * (65537 : Int32)) - ((((75 : Int32) * z8.1) + (74 : Int32)) - (((75 : Int32) * z8.1) + (74 : Int32)) / (65537 : Int32) * (65537 : Int32)) / (8 : Int32) * (8 : Int32))), (4, .int ((((75 : Int32) * z8.1) + (74 : Int32)) - (((75 : Int32) * z8.1) + (74 : Int32)) / (65537 : Int32) * (65537 : Int32))), (0, .ref (h 0)), (2, .int a1), (3, .int a2)]) hx hb dX6_year_199 hl (k := 7) rfl rfl (by decide) rfl (fun ls hl => ?_)
                      refine lv_goto (tgt := 43) hx hb dX6_year_202 (by decide) ?_
                      have z : some (Sum.inr (((((75 : Int32) * z8.1) + (74 : Int32)) - (((75 : Int32) * z8.1) + (74 : Int32)) / (65537 : Int32) * (65537 : Int32)), (z8.2.1 + (1 : Int32)), r22.2)) = some o8 := hb8
                      cases z
                      exact hk8 _ _ _ (lv_sub hl [5, 6, 7, 4, 0] rfl) hw
                  · have hb8 := cd_ite_t c19 hb8
                    refine lv_aload_n hx hb dX6_year_161 rfl (lv_at hl 3 rfl) ?_
                    refine lv_iload hx hb dX6_year_162 (lv_at hl 0 rfl) ?_
                    obtain ⟨r20, e20, hb8⟩ := cd_bind_some hb8
                    refine cd_callVw (As := [.int ((((((75 : Int32) * z8.1) + (74 : Int32)) - (((75 : Int32) * z8.1) + (74 : Int32)) / (65537 : Int32) * (65537 : Int32)) / (8 : Int32)) - (((((75 : Int32) * z8.1) + (74 : Int32)) - (((75 : Int32) * z8.1) + (74 : Int32)) / (65537 : Int32) * (65537 : Int32)) / (8 : Int32)) / (12 : Int32) * (12 : Int32))]) (rest := []) (wr := ([] : va_W)) (wn := (pc_mod cI cZ h r20.2)) C0 hw (c_X6_trim l G cI cZ sa sb h z8.2.2 ((((((75 : Int32) * z8.1) + (74 : Int32)) - (((75 : Int32) * z8.1) + (74 : Int32)) / (65537 : Int32) * (65537 : Int32)) / (8 : Int32)) - (((((75 : Int32) * z8.1) + (74 : Int32)) - (((75 : Int32) * z8.1) + (74 : Int32)) / (65537 : Int32) * (65537 : Int32)) / (8 : Int32)) / (12 : Int32) * (12 : Int32)) r20 e20) [0, 1, 2, 3, 4, 5, 6, 7, 8, 9, 10, 11, 12, 13, 14] [] [0, 1, 2, 3, 4, 5, 6, 7, 8, 9, 10, 11, 12, 13, 14] rfl rfl rfl rfl (by decide) rfl rfl 0 6 rfl rfl rfl (cwV 1 hts gX6_year_X6_trim rfl rfl rfl (by decide +kernel) ⟨Nat.le_of_ble_eq_true rfl, Nat.le_of_ble_eq_true rfl⟩) rfl hl.1 (lv_room (Nat.le_of_ble_eq_true rfl)) dX6_year_164 (fun H locs hw => ?_)
                    refine lv_goto (tgt := 197) hx hb dX6_year_167 (by decide) ?_
                    refine lv_istore (lv' := [(8, .int r20.1), (7, .int ((((((75 : Int32) * z8.1) + (74 : Int32)) - (((75 : Int32) * z8.1) + (74 : Int32)) / (65537 : Int32) * (65537 : Int32)) / (8 : Int32)) - (((((75 : Int32) * z8.1) + (74 : Int32)) - (((75 : Int32) * z8.1) + (74 : Int32)) / (65537 : Int32) * (65537 : Int32)) / (8 : Int32)) / (12 : Int32) * (12 : Int32))), (6, .int (((((75 : Int32) * z8.1) + (74 : Int32)) - (((75 : Int32) * z8.1) + (74 : Int32)) / (65537 : Int32) * (65537 : Int32)) - ((((75 : Int32) * z8.1) + (74 : Int32)) - (((75 : Int32) * z8.1) + (74 : Int32)) / (65537 : Int32) * (65537 : Int32)) / (8 : Int32) * (8 : Int32))), (4, .int ((((75 : Int32) * z8.1) + (74 : Int32)) - (((75 : Int32) * z8.1) + (74 : Int32)) / (65537 : Int32) * (65537 : Int32))), (0, .ref (h 0)), (2, .int a1), (3, .int a2), (5, .int z8.2.1)]) hx hb dX6_year_197 hl (by decide) rfl (fun ls hl => ?_)
                    refine lv_iinc (v := (z8.2.1 + (1 : Int32))) (lv' := [(5, .int (z8.2.1 + (1 : Int32))), (8, .int r20.1), (7, .int ((((((75 : Int32) * z8.1) + (74 : Int32)) - (((75 : Int32) * z8.1) + (74 : Int32)) / (65537 : Int32) * (65537 : Int32)) / (8 : Int32)) - (((((75 : Int32) * z8.1) + (74 : Int32)) - (((75 : Int32) * z8.1) + (74 : Int32)) / (65537 : Int32) * (65537 : Int32)) / (8 : Int32)) / (12 : Int32) * (12 : Int32))), (6, .int (((((75 : Int32) * z8.1) + (74 : Int32)) - (((75 : Int32) * z8.1) + (74 : Int32)) / (65537 : Int32) * (65537 : Int32)) - ((((75 : Int32) * z8.1) + (74 : Int32)) - (((75 : Int32) * z8.1) + (74 : Int32)) / (65537 : Int32) * (65537 : Int32)) / (8 : Int32) * (8 : Int32))), (4, .int ((((75 : Int32) * z8.1) + (74 : Int32)) - (((75 : Int32) * z8.1) + (74 : Int32)) / (65537 : Int32) * (65537 : Int32))), (0, .ref (h 0)), (2, .int a1), (3, .int a2)]) hx hb dX6_year_199 hl (k := 7) rfl rfl (by decide) rfl (fun ls hl => ?_)
                    refine lv_goto (tgt := 43) hx hb dX6_year_202 (by decide) ?_
                    have z : some (Sum.inr (((((75 : Int32) * z8.1) + (74 : Int32)) - (((75 : Int32) * z8.1) + (74 : Int32)) / (65537 : Int32) * (65537 : Int32)), (z8.2.1 + (1 : Int32)), r20.2)) = some o8 := hb8
                    cases z
                    exact hk8 _ _ _ (lv_sub hl [5, 6, 7, 4, 0] rfl) hw
                · have hb8 := cd_ite_t c17 hb8
                  refine lv_aload_n hx hb dX6_year_146 rfl (lv_at hl 3 rfl) ?_
                  refine lv_iload hx hb dX6_year_147 (lv_at hl 0 rfl) ?_
                  obtain ⟨r18, e18, hb8⟩ := cd_bind_some hb8
                  refine cd_callVw (As := [.int ((((((75 : Int32) * z8.1) + (74 : Int32)) - (((75 : Int32) * z8.1) + (74 : Int32)) / (65537 : Int32) * (65537 : Int32)) / (8 : Int32)) - (((((75 : Int32) * z8.1) + (74 : Int32)) - (((75 : Int32) * z8.1) + (74 : Int32)) / (65537 : Int32) * (65537 : Int32)) / (8 : Int32)) / (12 : Int32) * (12 : Int32))]) (rest := []) (wr := ([] : va_W)) (wn := (pc_mod cI cZ h r18.2)) C0 hw (c_X6_askFor l G cI cZ sa sb h z8.2.2 ((((((75 : Int32) * z8.1) + (74 : Int32)) - (((75 : Int32) * z8.1) + (74 : Int32)) / (65537 : Int32) * (65537 : Int32)) / (8 : Int32)) - (((((75 : Int32) * z8.1) + (74 : Int32)) - (((75 : Int32) * z8.1) + (74 : Int32)) / (65537 : Int32) * (65537 : Int32)) / (8 : Int32)) / (12 : Int32) * (12 : Int32)) r18 e18) [0, 1, 2, 3, 4, 5, 6, 7, 8, 9, 10, 11, 12, 13, 14] [] [0, 1, 2, 3, 4, 5, 6, 7, 8, 9, 10, 11, 12, 13, 14] rfl rfl rfl rfl (by decide) rfl rfl 0 6 rfl rfl rfl (cwV 1 hts gX6_year_X6_askFor rfl rfl rfl (by decide +kernel) ⟨Nat.le_of_ble_eq_true rfl, Nat.le_of_ble_eq_true rfl⟩) rfl hl.1 (lv_room (Nat.le_of_ble_eq_true rfl)) dX6_year_149 (fun H locs hw => ?_)
                  refine lv_goto (tgt := 197) hx hb dX6_year_152 (by decide) ?_
                  refine lv_istore (lv' := [(8, .int r18.1), (7, .int ((((((75 : Int32) * z8.1) + (74 : Int32)) - (((75 : Int32) * z8.1) + (74 : Int32)) / (65537 : Int32) * (65537 : Int32)) / (8 : Int32)) - (((((75 : Int32) * z8.1) + (74 : Int32)) - (((75 : Int32) * z8.1) + (74 : Int32)) / (65537 : Int32) * (65537 : Int32)) / (8 : Int32)) / (12 : Int32) * (12 : Int32))), (6, .int (((((75 : Int32) * z8.1) + (74 : Int32)) - (((75 : Int32) * z8.1) + (74 : Int32)) / (65537 : Int32) * (65537 : Int32)) - ((((75 : Int32) * z8.1) + (74 : Int32)) - (((75 : Int32) * z8.1) + (74 : Int32)) / (65537 : Int32) * (65537 : Int32)) / (8 : Int32) * (8 : Int32))), (4, .int ((((75 : Int32) * z8.1) + (74 : Int32)) - (((75 : Int32) * z8.1) + (74 : Int32)) / (65537 : Int32) * (65537 : Int32))), (0, .ref (h 0)), (2, .int a1), (3, .int a2), (5, .int z8.2.1)]) hx hb dX6_year_197 hl (by decide) rfl (fun ls hl => ?_)
                  refine lv_iinc (v := (z8.2.1 + (1 : Int32))) (lv' := [(5, .int (z8.2.1 + (1 : Int32))), (8, .int r18.1), (7, .int ((((((75 : Int32) * z8.1) + (74 : Int32)) - (((75 : Int32) * z8.1) + (74 : Int32)) / (65537 : Int32) * (65537 : Int32)) / (8 : Int32)) - (((((75 : Int32) * z8.1) + (74 : Int32)) - (((75 : Int32) * z8.1) + (74 : Int32)) / (65537 : Int32) * (65537 : Int32)) / (8 : Int32)) / (12 : Int32) * (12 : Int32))), (6, .int (((((75 : Int32) * z8.1) + (74 : Int32)) - (((75 : Int32) * z8.1) + (74 : Int32)) / (65537 : Int32) * (65537 : Int32)) - ((((75 : Int32) * z8.1) + (74 : Int32)) - (((75 : Int32) * z8.1) + (74 : Int32)) / (65537 : Int32) * (65537 : Int32)) / (8 : Int32) * (8 : Int32))), (4, .int ((((75 : Int32) * z8.1) + (74 : Int32)) - (((75 : Int32) * z8.1) + (74 : Int32)) / (65537 : Int32) * (65537 : Int32))), (0, .ref (h 0)), (2, .int a1), (3, .int a2)]) hx hb dX6_year_199 hl (k := 7) rfl rfl (by decide) rfl (fun ls hl => ?_)
                  refine lv_goto (tgt := 43) hx hb dX6_year_202 (by decide) ?_
                  have z : some (Sum.inr (((((75 : Int32) * z8.1) + (74 : Int32)) - (((75 : Int32) * z8.1) + (74 : Int32)) / (65537 : Int32) * (65537 : Int32)), (z8.2.1 + (1 : Int32)), r18.2)) = some o8 := hb8
                  cases z
                  exact hk8 _ _ _ (lv_sub hl [5, 6, 7, 4, 0] rfl) hw
              · have hb8 := cd_ite_t c15 hb8
                refine lv_aload_n hx hb dX6_year_131 rfl (lv_at hl 3 rfl) ?_
                refine lv_iload hx hb dX6_year_132 (lv_at hl 0 rfl) ?_
                obtain ⟨r16, e16, hb8⟩ := cd_bind_some hb8
                refine cd_callVw (As := [.int ((((((75 : Int32) * z8.1) + (74 : Int32)) - (((75 : Int32) * z8.1) + (74 : Int32)) / (65537 : Int32) * (65537 : Int32)) / (8 : Int32)) - (((((75 : Int32) * z8.1) + (74 : Int32)) - (((75 : Int32) * z8.1) + (74 : Int32)) / (65537 : Int32) * (65537 : Int32)) / (8 : Int32)) / (12 : Int32) * (12 : Int32))]) (rest := []) (wr := ([] : va_W)) (wn := (pc_mod cI cZ h r16.2)) C0 hw (c_X6_snuffOut l G cI cZ sa sb h z8.2.2 ((((((75 : Int32) * z8.1) + (74 : Int32)) - (((75 : Int32) * z8.1) + (74 : Int32)) / (65537 : Int32) * (65537 : Int32)) / (8 : Int32)) - (((((75 : Int32) * z8.1) + (74 : Int32)) - (((75 : Int32) * z8.1) + (74 : Int32)) / (65537 : Int32) * (65537 : Int32)) / (8 : Int32)) / (12 : Int32) * (12 : Int32)) r16 e16) [0, 1, 2, 3, 4, 5, 6, 7, 8, 9, 10, 11, 12, 13, 14] [] [0, 1, 2, 3, 4, 5, 6, 7, 8, 9, 10, 11, 12, 13, 14] rfl rfl rfl rfl (by decide) rfl rfl 0 6 rfl rfl rfl (cwV 1 hts gX6_year_X6_snuffOut rfl rfl rfl (by decide +kernel) ⟨Nat.le_of_ble_eq_true rfl, Nat.le_of_ble_eq_true rfl⟩) rfl hl.1 (lv_room (Nat.le_of_ble_eq_true rfl)) dX6_year_134 (fun H locs hw => ?_)
                refine lv_goto (tgt := 197) hx hb dX6_year_137 (by decide) ?_
                refine lv_istore (lv' := [(8, .int r16.1), (7, .int ((((((75 : Int32) * z8.1) + (74 : Int32)) - (((75 : Int32) * z8.1) + (74 : Int32)) / (65537 : Int32) * (65537 : Int32)) / (8 : Int32)) - (((((75 : Int32) * z8.1) + (74 : Int32)) - (((75 : Int32) * z8.1) + (74 : Int32)) / (65537 : Int32) * (65537 : Int32)) / (8 : Int32)) / (12 : Int32) * (12 : Int32))), (6, .int (((((75 : Int32) * z8.1) + (74 : Int32)) - (((75 : Int32) * z8.1) + (74 : Int32)) / (65537 : Int32) * (65537 : Int32)) - ((((75 : Int32) * z8.1) + (74 : Int32)) - (((75 : Int32) * z8.1) + (74 : Int32)) / (65537 : Int32) * (65537 : Int32)) / (8 : Int32) * (8 : Int32))), (4, .int ((((75 : Int32) * z8.1) + (74 : Int32)) - (((75 : Int32) * z8.1) + (74 : Int32)) / (65537 : Int32) * (65537 : Int32))), (0, .ref (h 0)), (2, .int a1), (3, .int a2), (5, .int z8.2.1)]) hx hb dX6_year_197 hl (by decide) rfl (fun ls hl => ?_)
                refine lv_iinc (v := (z8.2.1 + (1 : Int32))) (lv' := [(5, .int (z8.2.1 + (1 : Int32))), (8, .int r16.1), (7, .int ((((((75 : Int32) * z8.1) + (74 : Int32)) - (((75 : Int32) * z8.1) + (74 : Int32)) / (65537 : Int32) * (65537 : Int32)) / (8 : Int32)) - (((((75 : Int32) * z8.1) + (74 : Int32)) - (((75 : Int32) * z8.1) + (74 : Int32)) / (65537 : Int32) * (65537 : Int32)) / (8 : Int32)) / (12 : Int32) * (12 : Int32))), (6, .int (((((75 : Int32) * z8.1) + (74 : Int32)) - (((75 : Int32) * z8.1) + (74 : Int32)) / (65537 : Int32) * (65537 : Int32)) - ((((75 : Int32) * z8.1) + (74 : Int32)) - (((75 : Int32) * z8.1) + (74 : Int32)) / (65537 : Int32) * (65537 : Int32)) / (8 : Int32) * (8 : Int32))), (4, .int ((((75 : Int32) * z8.1) + (74 : Int32)) - (((75 : Int32) * z8.1) + (74 : Int32)) / (65537 : Int32) * (65537 : Int32))), (0, .ref (h 0)), (2, .int a1), (3, .int a2)]) hx hb dX6_year_199 hl (k := 7) rfl rfl (by decide) rfl (fun ls hl => ?_)
                refine lv_goto (tgt := 43) hx hb dX6_year_202 (by decide) ?_
                have z : some (Sum.inr (((((75 : Int32) * z8.1) + (74 : Int32)) - (((75 : Int32) * z8.1) + (74 : Int32)) / (65537 : Int32) * (65537 : Int32)), (z8.2.1 + (1 : Int32)), r16.2)) = some o8 := hb8
                cases z
                exact hk8 _ _ _ (lv_sub hl [5, 6, 7, 4, 0] rfl) hw
            · have hb8 := cd_ite_t c13 hb8
              refine lv_aload_n hx hb dX6_year_116 rfl (lv_at hl 3 rfl) ?_
              refine lv_iload hx hb dX6_year_117 (lv_at hl 0 rfl) ?_
              obtain ⟨r14, e14, hb8⟩ := cd_bind_some hb8
              refine cd_callVw (As := [.int ((((((75 : Int32) * z8.1) + (74 : Int32)) - (((75 : Int32) * z8.1) + (74 : Int32)) / (65537 : Int32) * (65537 : Int32)) / (8 : Int32)) - (((((75 : Int32) * z8.1) + (74 : Int32)) - (((75 : Int32) * z8.1) + (74 : Int32)) / (65537 : Int32) * (65537 : Int32)) / (8 : Int32)) / (12 : Int32) * (12 : Int32))]) (rest := []) (wr := ([] : va_W)) (wn := (pc_mod cI cZ h r14.2)) C0 hw (c_X6_strike l G cI cZ sa sb h z8.2.2 ((((((75 : Int32) * z8.1) + (74 : Int32)) - (((75 : Int32) * z8.1) + (74 : Int32)) / (65537 : Int32) * (65537 : Int32)) / (8 : Int32)) - (((((75 : Int32) * z8.1) + (74 : Int32)) - (((75 : Int32) * z8.1) + (74 : Int32)) / (65537 : Int32) * (65537 : Int32)) / (8 : Int32)) / (12 : Int32) * (12 : Int32)) r14 e14) [0, 1, 2, 3, 4, 5, 6, 7, 8, 9, 10, 11, 12, 13, 14] [] [0, 1, 2, 3, 4, 5, 6, 7, 8, 9, 10, 11, 12, 13, 14] rfl rfl rfl rfl (by decide) rfl rfl 0 6 rfl rfl rfl (cwV 1 hts gX6_year_X6_strike rfl rfl rfl (by decide +kernel) ⟨Nat.le_of_ble_eq_true rfl, Nat.le_of_ble_eq_true rfl⟩) rfl hl.1 (lv_room (Nat.le_of_ble_eq_true rfl)) dX6_year_119 (fun H locs hw => ?_)
              refine lv_goto (tgt := 197) hx hb dX6_year_122 (by decide) ?_
              refine lv_istore (lv' := [(8, .int r14.1), (7, .int ((((((75 : Int32) * z8.1) + (74 : Int32)) - (((75 : Int32) * z8.1) + (74 : Int32)) / (65537 : Int32) * (65537 : Int32)) / (8 : Int32)) - (((((75 : Int32) * z8.1) + (74 : Int32)) - (((75 : Int32) * z8.1) + (74 : Int32)) / (65537 : Int32) * (65537 : Int32)) / (8 : Int32)) / (12 : Int32) * (12 : Int32))), (6, .int (((((75 : Int32) * z8.1) + (74 : Int32)) - (((75 : Int32) * z8.1) + (74 : Int32)) / (65537 : Int32) * (65537 : Int32)) - ((((75 : Int32) * z8.1) + (74 : Int32)) - (((75 : Int32) * z8.1) + (74 : Int32)) / (65537 : Int32) * (65537 : Int32)) / (8 : Int32) * (8 : Int32))), (4, .int ((((75 : Int32) * z8.1) + (74 : Int32)) - (((75 : Int32) * z8.1) + (74 : Int32)) / (65537 : Int32) * (65537 : Int32))), (0, .ref (h 0)), (2, .int a1), (3, .int a2), (5, .int z8.2.1)]) hx hb dX6_year_197 hl (by decide) rfl (fun ls hl => ?_)
              refine lv_iinc (v := (z8.2.1 + (1 : Int32))) (lv' := [(5, .int (z8.2.1 + (1 : Int32))), (8, .int r14.1), (7, .int ((((((75 : Int32) * z8.1) + (74 : Int32)) - (((75 : Int32) * z8.1) + (74 : Int32)) / (65537 : Int32) * (65537 : Int32)) / (8 : Int32)) - (((((75 : Int32) * z8.1) + (74 : Int32)) - (((75 : Int32) * z8.1) + (74 : Int32)) / (65537 : Int32) * (65537 : Int32)) / (8 : Int32)) / (12 : Int32) * (12 : Int32))), (6, .int (((((75 : Int32) * z8.1) + (74 : Int32)) - (((75 : Int32) * z8.1) + (74 : Int32)) / (65537 : Int32) * (65537 : Int32)) - ((((75 : Int32) * z8.1) + (74 : Int32)) - (((75 : Int32) * z8.1) + (74 : Int32)) / (65537 : Int32) * (65537 : Int32)) / (8 : Int32) * (8 : Int32))), (4, .int ((((75 : Int32) * z8.1) + (74 : Int32)) - (((75 : Int32) * z8.1) + (74 : Int32)) / (65537 : Int32) * (65537 : Int32))), (0, .ref (h 0)), (2, .int a1), (3, .int a2)]) hx hb dX6_year_199 hl (k := 7) rfl rfl (by decide) rfl (fun ls hl => ?_)
              refine lv_goto (tgt := 43) hx hb dX6_year_202 (by decide) ?_
              have z : some (Sum.inr (((((75 : Int32) * z8.1) + (74 : Int32)) - (((75 : Int32) * z8.1) + (74 : Int32)) / (65537 : Int32) * (65537 : Int32)), (z8.2.1 + (1 : Int32)), r14.2)) = some o8 := hb8
              cases z
              exact hk8 _ _ _ (lv_sub hl [5, 6, 7, 4, 0] rfl) hw
          · have hb8 := cd_ite_t c10 hb8
            refine lv_iload hx hb dX6_year_85 (lv_at hl 0 rfl) ?_
            refine lv_bipush (v := (11 : Int32)) hx hb dX6_year_87 (by decide) ?_
            refine lv_icmp_ge (tgt := 105) hx hb dX6_year_89 (by decide) (fun c11 => ?_) (fun c11 => ?_)
            · have hb8 := cd_ite_t c11 hb8
              refine lv_iconst (v := (0 : Int32)) hx hb dX6_year_105 (by decide) ?_
              refine lv_istore (lv' := [(8, .int (0 : Int32)), (7, .int ((((((75 : Int32) * z8.1) + (74 : Int32)) - (((75 : Int32) * z8.1) + (74 : Int32)) / (65537 : Int32) * (65537 : Int32)) / (8 : Int32)) - (((((75 : Int32) * z8.1) + (74 : Int32)) - (((75 : Int32) * z8.1) + (74 : Int32)) / (65537 : Int32) * (65537 : Int32)) / (8 : Int32)) / (12 : Int32) * (12 : Int32))), (6, .int (((((75 : Int32) * z8.1) + (74 : Int32)) - (((75 : Int32) * z8.1) + (74 : Int32)) / (65537 : Int32) * (65537 : Int32)) - ((((75 : Int32) * z8.1) + (74 : Int32)) - (((75 : Int32) * z8.1) + (74 : Int32)) / (65537 : Int32) * (65537 : Int32)) / (8 : Int32) * (8 : Int32))), (4, .int ((((75 : Int32) * z8.1) + (74 : Int32)) - (((75 : Int32) * z8.1) + (74 : Int32)) / (65537 : Int32) * (65537 : Int32))), (0, .ref (h 0)), (2, .int a1), (3, .int a2), (5, .int z8.2.1)]) hx hb dX6_year_106 hl (by decide) rfl (fun ls hl => ?_)
              refine lv_goto (tgt := 199) hx hb dX6_year_108 (by decide) ?_
              refine lv_iinc (v := (z8.2.1 + (1 : Int32))) (lv' := [(5, .int (z8.2.1 + (1 : Int32))), (8, .int (0 : Int32)), (7, .int ((((((75 : Int32) * z8.1) + (74 : Int32)) - (((75 : Int32) * z8.1) + (74 : Int32)) / (65537 : Int32) * (65537 : Int32)) / (8 : Int32)) - (((((75 : Int32) * z8.1) + (74 : Int32)) - (((75 : Int32) * z8.1) + (74 : Int32)) / (65537 : Int32) * (65537 : Int32)) / (8 : Int32)) / (12 : Int32) * (12 : Int32))), (6, .int (((((75 : Int32) * z8.1) + (74 : Int32)) - (((75 : Int32) * z8.1) + (74 : Int32)) / (65537 : Int32) * (65537 : Int32)) - ((((75 : Int32) * z8.1) + (74 : Int32)) - (((75 : Int32) * z8.1) + (74 : Int32)) / (65537 : Int32) * (65537 : Int32)) / (8 : Int32) * (8 : Int32))), (4, .int ((((75 : Int32) * z8.1) + (74 : Int32)) - (((75 : Int32) * z8.1) + (74 : Int32)) / (65537 : Int32) * (65537 : Int32))), (0, .ref (h 0)), (2, .int a1), (3, .int a2)]) hx hb dX6_year_199 hl (k := 7) rfl rfl (by decide) rfl (fun ls hl => ?_)
              refine lv_goto (tgt := 43) hx hb dX6_year_202 (by decide) ?_
              have z : some (Sum.inr (((((75 : Int32) * z8.1) + (74 : Int32)) - (((75 : Int32) * z8.1) + (74 : Int32)) / (65537 : Int32) * (65537 : Int32)), (z8.2.1 + (1 : Int32)), z8.2.2)) = some o8 := hb8
              cases z
              exact hk8 _ _ _ (lv_sub hl [5, 6, 7, 4, 0] rfl) hw
            · have hb8 := cd_ite_f c11 hb8
              refine lv_aload_n hx hb dX6_year_92 rfl (lv_at hl 3 rfl) ?_
              refine lv_iload hx hb dX6_year_93 (lv_at hl 0 rfl) ?_
              refine lv_iload hx hb dX6_year_95 (lv_at hl 0 rfl) ?_
              refine lv_iconst (v := (1 : Int32)) hx hb dX6_year_97 (by decide) ?_
              refine lv_iadd hx hb dX6_year_98 ?_
              obtain ⟨r12, e12, hb8⟩ := cd_bind_some hb8
              refine cd_callVw (As := [.int ((((((75 : Int32) * z8.1) + (74 : Int32)) - (((75 : Int32) * z8.1) + (74 : Int32)) / (65537 : Int32) * (65537 : Int32)) / (8 : Int32)) - (((((75 : Int32) * z8.1) + (74 : Int32)) - (((75 : Int32) * z8.1) + (74 : Int32)) / (65537 : Int32) * (65537 : Int32)) / (8 : Int32)) / (12 : Int32) * (12 : Int32)), .int (((((((75 : Int32) * z8.1) + (74 : Int32)) - (((75 : Int32) * z8.1) + (74 : Int32)) / (65537 : Int32) * (65537 : Int32)) / (8 : Int32)) - (((((75 : Int32) * z8.1) + (74 : Int32)) - (((75 : Int32) * z8.1) + (74 : Int32)) / (65537 : Int32) * (65537 : Int32)) / (8 : Int32)) / (12 : Int32) * (12 : Int32)) + (1 : Int32))]) (rest := []) (wr := ([] : va_W)) (wn := (pc_mod cI cZ h r12.2)) C0 hw (c_X6_lightFrom l G cI cZ sa sb h z8.2.2 ((((((75 : Int32) * z8.1) + (74 : Int32)) - (((75 : Int32) * z8.1) + (74 : Int32)) / (65537 : Int32) * (65537 : Int32)) / (8 : Int32)) - (((((75 : Int32) * z8.1) + (74 : Int32)) - (((75 : Int32) * z8.1) + (74 : Int32)) / (65537 : Int32) * (65537 : Int32)) / (8 : Int32)) / (12 : Int32) * (12 : Int32)) (((((((75 : Int32) * z8.1) + (74 : Int32)) - (((75 : Int32) * z8.1) + (74 : Int32)) / (65537 : Int32) * (65537 : Int32)) / (8 : Int32)) - (((((75 : Int32) * z8.1) + (74 : Int32)) - (((75 : Int32) * z8.1) + (74 : Int32)) / (65537 : Int32) * (65537 : Int32)) / (8 : Int32)) / (12 : Int32) * (12 : Int32)) + (1 : Int32)) r12 e12) [0, 1, 2, 3, 4, 5, 6, 7, 8, 9, 10, 11, 12, 13, 14] [] [0, 1, 2, 3, 4, 5, 6, 7, 8, 9, 10, 11, 12, 13, 14] rfl rfl rfl rfl (by decide) rfl rfl 0 6 rfl rfl rfl (cwV 2 hts gX6_year_X6_lightFrom rfl rfl rfl (by decide +kernel) ⟨Nat.le_of_ble_eq_true rfl, Nat.le_of_ble_eq_true rfl⟩) rfl hl.1 (lv_room (Nat.le_of_ble_eq_true rfl)) dX6_year_99 (fun H locs hw => ?_)
              refine lv_goto (tgt := 106) hx hb dX6_year_102 (by decide) ?_
              refine lv_istore (lv' := [(8, .int r12.1), (7, .int ((((((75 : Int32) * z8.1) + (74 : Int32)) - (((75 : Int32) * z8.1) + (74 : Int32)) / (65537 : Int32) * (65537 : Int32)) / (8 : Int32)) - (((((75 : Int32) * z8.1) + (74 : Int32)) - (((75 : Int32) * z8.1) + (74 : Int32)) / (65537 : Int32) * (65537 : Int32)) / (8 : Int32)) / (12 : Int32) * (12 : Int32))), (6, .int (((((75 : Int32) * z8.1) + (74 : Int32)) - (((75 : Int32) * z8.1) + (74 : Int32)) / (65537 : Int32) * (65537 : Int32)) - ((((75 : Int32) * z8.1) + (74 : Int32)) - (((75 : Int32) * z8.1) + (74 : Int32)) / (65537 : Int32) * (65537 : Int32)) / (8 : Int32) * (8 : Int32))), (4, .int ((((75 : Int32) * z8.1) + (74 : Int32)) - (((75 : Int32) * z8.1) + (74 : Int32)) / (65537 : Int32) * (65537 : Int32))), (0, .ref (h 0)), (2, .int a1), (3, .int a2), (5, .int z8.2.1)]) hx hb dX6_year_106 hl (by decide) rfl (fun ls hl => ?_)
              refine lv_goto (tgt := 199) hx hb dX6_year_108 (by decide) ?_
              refine lv_iinc (v := (z8.2.1 + (1 : Int32))) (lv' := [(5, .int (z8.2.1 + (1 : Int32))), (8, .int r12.1), (7, .int ((((((75 : Int32) * z8.1) + (74 : Int32)) - (((75 : Int32) * z8.1) + (74 : Int32)) / (65537 : Int32) * (65537 : Int32)) / (8 : Int32)) - (((((75 : Int32) * z8.1) + (74 : Int32)) - (((75 : Int32) * z8.1) + (74 : Int32)) / (65537 : Int32) * (65537 : Int32)) / (8 : Int32)) / (12 : Int32) * (12 : Int32))), (6, .int (((((75 : Int32) * z8.1) + (74 : Int32)) - (((75 : Int32) * z8.1) + (74 : Int32)) / (65537 : Int32) * (65537 : Int32)) - ((((75 : Int32) * z8.1) + (74 : Int32)) - (((75 : Int32) * z8.1) + (74 : Int32)) / (65537 : Int32) * (65537 : Int32)) / (8 : Int32) * (8 : Int32))), (4, .int ((((75 : Int32) * z8.1) + (74 : Int32)) - (((75 : Int32) * z8.1) + (74 : Int32)) / (65537 : Int32) * (65537 : Int32))), (0, .ref (h 0)), (2, .int a1), (3, .int a2)]) hx hb dX6_year_199 hl (k := 7) rfl rfl (by decide) rfl (fun ls hl => ?_)
              refine lv_goto (tgt := 43) hx hb dX6_year_202 (by decide) ?_
              have z : some (Sum.inr (((((75 : Int32) * z8.1) + (74 : Int32)) - (((75 : Int32) * z8.1) + (74 : Int32)) / (65537 : Int32) * (65537 : Int32)), (z8.2.1 + (1 : Int32)), r12.2)) = some o8 := hb8
              cases z
              exact hk8 _ _ _ (lv_sub hl [5, 6, 7, 4, 0] rfl) hw
      · have hf := cd_ite_t c6 hf
        refine lv_bipush (v := (-2 : Int32)) hx hb dX6_year_30 (by decide) ?_
        have z : some ((-2 : Int32), M) = some o := hf
        cases z
        rw [hQ]
        exact cd_reti C0 hw dX6_year_32
