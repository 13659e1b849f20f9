/-! the maker of the reference -/
def b_0 (j : Nat) : Nat := if 48 ≤ j ∧ j < 60 then 2 ^ (j - 48) else if 60 ≤ j ∧ j < 66 then 100 else if j = 67 then 20 else 0
abbrev rm_X6_init : Room := { frames := 1, cells := 14, slots := 1837, locals := 12 }
theorem nw_X6_init_X6 : ∀ w ∈ u_ws RX6 TX6 22, w ∈ wsX6_init := by decide +kernel
set_option maxHeartbeats 4000000 in
set_option maxRecDepth 100000 in
theorem c_X6_init (l : Launch) (G : va_G) (cI cZ : ClassId) (sa sb : Nat) (h0 : Nat) : cd_Ci l G cI cZ sa sb yX6_init wsX6_init rm_X6_init [.ref h0] [(h0, .inr (6, [.null, .null, .null, .null, .int 0, .null, .int 0, .null, .int 0, .int 0, .int 0, .int 0, .int 0, .int 0, .null, .null, .null, .null, .null, .null, .null, .null]))] (fun u : (Nat → Nat) × (Nat → Nat → Int32) => pc_mod cI cZ u.1 u.2) (fun u => u.1 0 = h0 ∧ (∀ j, j < 69 → u.2 0 j = nI (b_0 j)) ∧ ∀ k, k ≠ 0 → u.2 k = fun _ => 0) 14 1837 := by
  refine cd_ofI (cc := cX6_init) (maxL := 2) (by decide) rfl (Nat.le_of_ble_eq_true rfl) ?_
  intro p e s m ag below meth c A ls Q C0 hin hl hw hQ
  have C0 : cd_CX G cI cZ sa sb p s m ag meth c cX6_init 2 none wsX6_init RX6 A := C0
  obtain ⟨⟨hx, hb, hml, hown, hts⟩, hr, hlocks, hA, hE⟩ := id C0
  have hK := hE.1
  have hl : lv_has ls 2 [(0, .ref h0)] := hl
  have hw : cd_WS G A s.heap s.heap [] [(h0, .inr (6, [.null, .null, .null, .null, .int 0, .null, .int 0, .null, .int 0, .int 0, .int 0, .int 0, .int 0, .int 0, .null, .null, .null, .null, .null, .null, .null, .null]))] := hw
  refine lv_aload_n hx hb dX6_init_0 rfl (lv_at hl 0 rfl) ?_
  refine W.objInit hx hb hown (hts (.methodLink RX6 1 objectInit) (by decide +kernel)) (hts (.instanceMethod objectInit) (by decide +kernel)) (hts (.code objectInit ⟨#[0xb1]⟩ 1 none) (by decide +kernel)) rfl (by rw [hml]; exact hl.1) rfl dX6_init_1 (Nat.le_of_ble_eq_true rfl) (Nat.le_of_ble_eq_true rfl) ?_
  refine W.eq (g2 := F0 m 4 ls []) rfl ?_
  refine lv_aload_n hx hb dX6_init_4 rfl (lv_at hl 0 rfl) ?_
  refine lv_bipush (v := (69 : Int32)) hx hb dX6_init_5 (by decide) ?_
  refine cd_newi (N := 69) hx hb (hts (.arrayClass .int) (by decide +kernel)) hK hw hA (by decide) (by decide) (Nat.le_of_ble_eq_true rfl) (Nat.le_of_ble_eq_true rfl) (Nat.le_of_ble_eq_true rfl) dX6_init_7 (fun q1 H hw => ?_)
  have hw : cd_WS G A s.heap H [] [(h0, .inr (6, [.null, .null, .null, .null, .int 0, .null, .int 0, .null, .int 0, .int 0, .int 0, .int 0, .int 0, .int 0, .null, .null, .null, .null, .null, .null, .null, .null])), (q1, .inl (cI, 69, .inl (fun _ => 0)))] := hw
  refine va_putF (D := G) (ci := 6) (v := .ref q1) (ty := .array .int) (C := RX6) (T := TX6) (N := 22) hx hb hts nw_X6_init_X6 tyX6 tyX6_ok nmX6 hown hK hw.1 hw.2.1 hw.2.2 0 rfl rfl 0 (by decide) (hts (.fieldLink RX6 7 "CandleDebtsModel" "book" "[I") (by decide +kernel)) (fun _ h9 => h9) rfl hin rfl (by decide +kernel) rfl rfl (Nat.le_of_ble_eq_true rfl) dX6_init_9 (fun H locs hP hD hS => ?_)
  have hw : cd_WS G A s.heap H locs [(h0, .inr (6, [.ref q1, .null, .null, .null, .int 0, .null, .int 0, .null, .int 0, .int 0, .int 0, .int 0, .int 0, .int 0, .null, .null, .null, .null, .null, .null, .null, .null])), (q1, .inl (cI, 69, .inl (fun _ => 0)))] := ⟨hP, hD, hS⟩
  refine lv_aload_n hx hb dX6_init_12 rfl (lv_at hl 0 rfl) ?_
  refine lv_bipush (v := (69 : Int32)) hx hb dX6_init_13 (by decide) ?_
  refine cd_newi (N := 69) hx hb (hts (.arrayClass .int) (by decide +kernel)) hK hw hA (by decide) (by decide) (Nat.le_of_ble_eq_true rfl) (Nat.le_of_ble_eq_true rfl) (Nat.le_of_ble_eq_true rfl) dX6_init_15 (fun q2 H hw => ?_)
  have hw : cd_WS G A s.heap H locs [(h0, .inr (6, [.ref q1, .null, .null, .null, .int 0, .null, .int 0, .null, .int 0, .int 0, .int 0, .int 0, .int 0, .int 0, .null, .null, .null, .null, .null, .null, .null, .null])), (q1, .inl (cI, 69, .inl (fun _ => 0))), (q2, .inl (cI, 69, .inl (fun _ => 0)))] := hw
  refine va_putF (D := G) (ci := 6) (v := .ref q2) (ty := .array .int) (C := RX6) (T := TX6) (N := 22) hx hb hts nw_X6_init_X6 tyX6 tyX6_ok nmX6 hown hK hw.1 hw.2.1 hw.2.2 0 rfl rfl 1 (by decide) (hts (.fieldLink RX6 13 "CandleDebtsModel" "now" "[I") (by decide +kernel)) (fun _ h9 => h9) rfl hin rfl (by decide +kernel) rfl rfl (Nat.le_of_ble_eq_true rfl) dX6_init_17 (fun H locs hP hD hS => ?_)
  have hw : cd_WS G A s.heap H locs [(h0, .inr (6, [.ref q1, .ref q2, .null, .null, .int 0, .null, .int 0, .null, .int 0, .int 0, .int 0, .int 0, .int 0, .int 0, .null, .null, .null, .null, .null, .null, .null, .null])), (q1, .inl (cI, 69, .inl (fun _ => 0))), (q2, .inl (cI, 69, .inl (fun _ => 0)))] := ⟨hP, hD, hS⟩
  refine lv_aload_n hx hb dX6_init_20 rfl (lv_at hl 0 rfl) ?_
  refine lv_bipush (v := (12 : Int32)) hx hb dX6_init_21 (by decide) ?_
  refine cd_newi (N := 12) hx hb (hts (.arrayClass .int) (by decide +kernel)) hK hw hA (by decide) (by decide) (Nat.le_of_ble_eq_true rfl) (Nat.le_of_ble_eq_true rfl) (Nat.le_of_ble_eq_true rfl) dX6_init_23 (fun q3 H hw => ?_)
  have hw : cd_WS G A s.heap H locs [(h0, .inr (6, [.ref q1, .ref q2, .null, .null, .int 0, .null, .int 0, .null, .int 0, .int 0, .int 0, .int 0, .int 0, .int 0, .null, .null, .null, .null, .null, .null, .null, .null])), (q1, .inl (cI, 69, .inl (fun _ => 0))), (q2, .inl (cI, 69, .inl (fun _ => 0))), (q3, .inl (cI, 12, .inl (fun _ => 0)))] := hw
  refine va_putF (D := G) (ci := 6) (v := .ref q3) (ty := .array .int) (C := RX6) (T := TX6) (N := 22) hx hb hts nw_X6_init_X6 tyX6 tyX6_ok nmX6 hown hK hw.1 hw.2.1 hw.2.2 0 rfl rfl 2 (by decide) (hts (.fieldLink RX6 16 "CandleDebtsModel" "creditor" "[I") (by decide +kernel)) (fun _ h9 => h9) rfl hin rfl (by decide +kernel) rfl rfl (Nat.le_of_ble_eq_true rfl) dX6_init_25 (fun H locs hP hD hS => ?_)
  have hw : cd_WS G A s.heap H locs [(h0, .inr (6, [.ref q1, .ref q2, .ref q3, .null, .int 0, .null, .int 0, .null, .int 0, .int 0, .int 0, .int 0, .int 0, .int 0, .null, .null, .null, .null, .null, .null, .null, .null])), (q1, .inl (cI, 69, .inl (fun _ => 0))), (q2, .inl (cI, 69, .inl (fun _ => 0))), (q3, .inl (cI, 12, .inl (fun _ => 0)))] := ⟨hP, hD, hS⟩
  refine lv_aload_n hx hb dX6_init_28 rfl (lv_at hl 0 rfl) ?_
  refine lv_bipush (v := (12 : Int32)) hx hb dX6_init_29 (by decide) ?_
  refine cd_newi (N := 12) hx hb (hts (.arrayClass .int) (by decide +kernel)) hK hw hA (by decide) (by decide) (Nat.le_of_ble_eq_true rfl) (Nat.le_of_ble_eq_true rfl) (Nat.le_of_ble_eq_true rfl) dX6_init_31 (fun q4 H hw => ?_)
  have hw : cd_WS G A s.heap H locs [(h0, .inr (6, [.ref q1, .ref q2, .ref q3, .null, .int 0, .null, .int 0, .null, .int 0, .int 0, .int 0, .int 0, .int 0, .int 0, .null, .null, .null, .null, .null, .null, .null, .null])), (q1, .inl (cI, 69, .inl (fun _ => 0))), (q2, .inl (cI, 69, .inl (fun _ => 0))), (q3, .inl (cI, 12, .inl (fun _ => 0))), (q4, .inl (cI, 12, .inl (fun _ => 0)))] := hw
  refine va_putF (D := G) (ci := 6) (v := .ref q4) (ty := .array .int) (C := RX6) (T := TX6) (N := 22) hx hb hts nw_X6_init_X6 tyX6 tyX6_ok nmX6 hown hK hw.1 hw.2.1 hw.2.2 0 rfl rfl 3 (by decide) (hts (.fieldLink RX6 19 "CandleDebtsModel" "debtor" "[I") (by decide +kernel)) (fun _ h9 => h9) rfl hin rfl (by decide +kernel) rfl rfl (Nat.le_of_ble_eq_true rfl) dX6_init_33 (fun H locs hP hD hS => ?_)
  have hw : cd_WS G A s.heap H locs [(h0, .inr (6, [.ref q1, .ref q2, .ref q3, .ref q4, .int 0, .null, .int 0, .null, .int 0, .int 0, .int 0, .int 0, .int 0, .int 0, .null, .null, .null, .null, .null, .null, .null, .null])), (q1, .inl (cI, 69, .inl (fun _ => 0))), (q2, .inl (cI, 69, .inl (fun _ => 0))), (q3, .inl (cI, 12, .inl (fun _ => 0))), (q4, .inl (cI, 12, .inl (fun _ => 0)))] := ⟨hP, hD, hS⟩
  refine lv_aload_n hx hb dX6_init_36 rfl (lv_at hl 0 rfl) ?_
  refine lv_bipush (v := (16 : Int32)) hx hb dX6_init_37 (by decide) ?_
  refine cd_newi (N := 16) hx hb (hts (.arrayClass .int) (by decide +kernel)) hK hw hA (by decide) (by decide) (Nat.le_of_ble_eq_true rfl) (Nat.le_of_ble_eq_true rfl) (Nat.le_of_ble_eq_true rfl) dX6_init_39 (fun q5 H hw => ?_)
  have hw : cd_WS G A s.heap H locs [(h0, .inr (6, [.ref q1, .ref q2, .ref q3, .ref q4, .int 0, .null, .int 0, .null, .int 0, .int 0, .int 0, .int 0, .int 0, .int 0, .null, .null, .null, .null, .null, .null, .null, .null])), (q1, .inl (cI, 69, .inl (fun _ => 0))), (q2, .inl (cI, 69, .inl (fun _ => 0))), (q3, .inl (cI, 12, .inl (fun _ => 0))), (q4, .inl (cI, 12, .inl (fun _ => 0))), (q5, .inl (cI, 16, .inl (fun _ => 0)))] := hw
  refine va_putF (D := G) (ci := 6) (v := .ref q5) (ty := .array .int) (C := RX6) (T := TX6) (N := 22) hx hb hts nw_X6_init_X6 tyX6 tyX6_ok nmX6 hown hK hw.1 hw.2.1 hw.2.2 0 rfl rfl 5 (by decide) (hts (.fieldLink RX6 22 "CandleDebtsModel" "sight" "[I") (by decide +kernel)) (fun _ h9 => h9) rfl hin rfl (by decide +kernel) rfl rfl (Nat.le_of_ble_eq_true rfl) dX6_init_41 (fun H locs hP hD hS => ?_)
  have hw : cd_WS G A s.heap H locs [(h0, .inr (6, [.ref q1, .ref q2, .ref q3, .ref q4, .int 0, .ref q5, .int 0, .null, .int 0, .int 0, .int 0, .int 0, .int 0, .int 0, .null, .null, .null, .null, .null, .null, .null, .null])), (q1, .inl (cI, 69, .inl (fun _ => 0))), (q2, .inl (cI, 69, .inl (fun _ => 0))), (q3, .inl (cI, 12, .inl (fun _ => 0))), (q4, .inl (cI, 12, .inl (fun _ => 0))), (q5, .inl (cI, 16, .inl (fun _ => 0)))] := ⟨hP, hD, hS⟩
  refine lv_aload_n hx hb dX6_init_44 rfl (lv_at hl 0 rfl) ?_
  refine lv_bipush (v := (60 : Int32)) hx hb dX6_init_45 (by decide) ?_
  refine cd_newi (N := 60) hx hb (hts (.arrayClass .int) (by decide +kernel)) hK hw hA (by decide) (by decide) (Nat.le_of_ble_eq_true rfl) (Nat.le_of_ble_eq_true rfl) (Nat.le_of_ble_eq_true rfl) dX6_init_47 (fun q6 H hw => ?_)
  have hw : cd_WS G A s.heap H locs [(h0, .inr (6, [.ref q1, .ref q2, .ref q3, .ref q4, .int 0, .ref q5, .int 0, .null, .int 0, .int 0, .int 0, .int 0, .int 0, .int 0, .null, .null, .null, .null, .null, .null, .null, .null])), (q1, .inl (cI, 69, .inl (fun _ => 0))), (q2, .inl (cI, 69, .inl (fun _ => 0))), (q3, .inl (cI, 12, .inl (fun _ => 0))), (q4, .inl (cI, 12, .inl (fun _ => 0))), (q5, .inl (cI, 16, .inl (fun _ => 0))), (q6, .inl (cI, 60, .inl (fun _ => 0)))] := hw
  refine va_putF (D := G) (ci := 6) (v := .ref q6) (ty := .array .int) (C := RX6) (T := TX6) (N := 22) hx hb hts nw_X6_init_X6 tyX6 tyX6_ok nmX6 hown hK hw.1 hw.2.1 hw.2.2 0 rfl rfl 7 (by decide) (hts (.fieldLink RX6 25 "CandleDebtsModel" "pad" "[I") (by decide +kernel)) (fun _ h9 => h9) rfl hin rfl (by decide +kernel) rfl rfl (Nat.le_of_ble_eq_true rfl) dX6_init_49 (fun H locs hP hD hS => ?_)
  have hw : cd_WS G A s.heap H locs [(h0, .inr (6, [.ref q1, .ref q2, .ref q3, .ref q4, .int 0, .ref q5, .int 0, .ref q6, .int 0, .int 0, .int 0, .int 0, .int 0, .int 0, .null, .null, .null, .null, .null, .null, .null, .null])), (q1, .inl (cI, 69, .inl (fun _ => 0))), (q2, .inl (cI, 69, .inl (fun _ => 0))), (q3, .inl (cI, 12, .inl (fun _ => 0))), (q4, .inl (cI, 12, .inl (fun _ => 0))), (q5, .inl (cI, 16, .inl (fun _ => 0))), (q6, .inl (cI, 60, .inl (fun _ => 0)))] := ⟨hP, hD, hS⟩
  refine lv_aload_n hx hb dX6_init_52 rfl (lv_at hl 0 rfl) ?_
  refine lv_sipush (v := (288 : Int32)) hx hb dX6_init_53 (by decide) ?_
  refine cd_newi (N := 288) hx hb (hts (.arrayClass .int) (by decide +kernel)) hK hw hA (by decide) (by decide) (Nat.le_of_ble_eq_true rfl) (Nat.le_of_ble_eq_true rfl) (Nat.le_of_ble_eq_true rfl) dX6_init_56 (fun q7 H hw => ?_)
  have hw : cd_WS G A s.heap H locs [(h0, .inr (6, [.ref q1, .ref q2, .ref q3, .ref q4, .int 0, .ref q5, .int 0, .ref q6, .int 0, .int 0, .int 0, .int 0, .int 0, .int 0, .null, .null, .null, .null, .null, .null, .null, .null])), (q1, .inl (cI, 69, .inl (fun _ => 0))), (q2, .inl (cI, 69, .inl (fun _ => 0))), (q3, .inl (cI, 12, .inl (fun _ => 0))), (q4, .inl (cI, 12, .inl (fun _ => 0))), (q5, .inl (cI, 16, .inl (fun _ => 0))), (q6, .inl (cI, 60, .inl (fun _ => 0))), (q7, .inl (cI, 288, .inl (fun _ => 0)))] := hw
  refine va_putF (D := G) (ci := 6) (v := .ref q7) (ty := .array .int) (C := RX6) (T := TX6) (N := 22) hx hb hts nw_X6_init_X6 tyX6 tyX6_ok nmX6 hown hK hw.1 hw.2.1 hw.2.2 0 rfl rfl 14 (by decide) (hts (.fieldLink RX6 28 "CandleDebtsModel" "when" "[I") (by decide +kernel)) (fun _ h9 => h9) rfl hin rfl (by decide +kernel) rfl rfl (Nat.le_of_ble_eq_true rfl) dX6_init_58 (fun H locs hP hD hS => ?_)
  have hw : cd_WS G A s.heap H locs [(h0, .inr (6, [.ref q1, .ref q2, .ref q3, .ref q4, .int 0, .ref q5, .int 0, .ref q6, .int 0, .int 0, .int 0, .int 0, .int 0, .int 0, .ref q7, .null, .null, .null, .null, .null, .null, .null])), (q1, .inl (cI, 69, .inl (fun _ => 0))), (q2, .inl (cI, 69, .inl (fun _ => 0))), (q3, .inl (cI, 12, .inl (fun _ => 0))), (q4, .inl (cI, 12, .inl (fun _ => 0))), (q5, .inl (cI, 16, .inl (fun _ => 0))), (q6, .inl (cI, 60, .inl (fun _ => 0))), (q7, .inl (cI, 288, .inl (fun _ => 0)))] := ⟨hP, hD, hS⟩
  refine lv_aload_n hx hb dX6_init_61 rfl (lv_at hl 0 rfl) ?_
  refine lv_bipush (v := (12 : Int32)) hx hb dX6_init_62 (by decide) ?_
  refine cd_newi (N := 12) hx hb (hts (.arrayClass .int) (by decide +kernel)) hK hw hA (by decide) (by decide) (Nat.le_of_ble_eq_true rfl) (Nat.le_of_ble_eq_true rfl) (Nat.le_of_ble_eq_true rfl) dX6_init_64 (fun q8 H hw => ?_)
  have hw : cd_WS G A s.heap H locs [(h0, .inr (6, [.ref q1, .ref q2, .ref q3, .ref q4, .int 0, .ref q5, .int 0, .ref q6, .int 0, .int 0, .int 0, .int 0, .int 0, .int 0, .ref q7, .null, .null, .null, .null, .null, .null, .null])), (q1, .inl (cI, 69, .inl (fun _ => 0))), (q2, .inl (cI, 69, .inl (fun _ => 0))), (q3, .inl (cI, 12, .inl (fun _ => 0))), (q4, .inl (cI, 12, .inl (fun _ => 0))), (q5, .inl (cI, 16, .inl (fun _ => 0))), (q6, .inl (cI, 60, .inl (fun _ => 0))), (q7, .inl (cI, 288, .inl (fun _ => 0))), (q8, .inl (cI, 12, .inl (fun _ => 0)))] := hw
  refine va_putF (D := G) (ci := 6) (v := .ref q8) (ty := .array .int) (C := RX6) (T := TX6) (N := 22) hx hb hts nw_X6_init_X6 tyX6 tyX6_ok nmX6 hown hK hw.1 hw.2.1 hw.2.2 0 rfl rfl 15 (by decide) (hts (.fieldLink RX6 31 "CandleDebtsModel" "last" "[I") (by decide +kernel)) (fun _ h9 => h9) rfl hin rfl (by decide +kernel) rfl rfl (Nat.le_of_ble_eq_true rfl) dX6_init_66 (fun H locs hP hD hS => ?_)
  have hw : cd_WS G A s.heap H locs [(h0, .inr (6, [.ref q1, .ref q2, .ref q3, .ref q4, .int 0, .ref q5, .int 0, .ref q6, .int 0, .int 0, .int 0, .int 0, .int 0, .int 0, .ref q7, .ref q8, .null, .null, .null, .null, .null, .null])), (q1, .inl (cI, 69, .inl (fun _ => 0))), (q2, .inl (cI, 69, .inl (fun _ => 0))), (q3, .inl (cI, 12, .inl (fun _ => 0))), (q4, .inl (cI, 12, .inl (fun _ => 0))), (q5, .inl (cI, 16, .inl (fun _ => 0))), (q6, .inl (cI, 60, .inl (fun _ => 0))), (q7, .inl (cI, 288, .inl (fun _ => 0))), (q8, .inl (cI, 12, .inl (fun _ => 0)))] := ⟨hP, hD, hS⟩
  refine lv_aload_n hx hb dX6_init_69 rfl (lv_at hl 0 rfl) ?_
  refine lv_bipush (v := (12 : Int32)) hx hb dX6_init_70 (by decide) ?_
  refine cd_newi (N := 12) hx hb (hts (.arrayClass .int) (by decide +kernel)) hK hw hA (by decide) (by decide) (Nat.le_of_ble_eq_true rfl) (Nat.le_of_ble_eq_true rfl) (Nat.le_of_ble_eq_true rfl) dX6_init_72 (fun q9 H hw => ?_)
  have hw : cd_WS G A s.heap H locs [(h0, .inr (6, [.ref q1, .ref q2, .ref q3, .ref q4, .int 0, .ref q5, .int 0, .ref q6, .int 0, .int 0, .int 0, .int 0, .int 0, .int 0, .ref q7, .ref q8, .null, .null, .null, .null, .null, .null])), (q1, .inl (cI, 69, .inl (fun _ => 0))), (q2, .inl (cI, 69, .inl (fun _ => 0))), (q3, .inl (cI, 12, .inl (fun _ => 0))), (q4, .inl (cI, 12, .inl (fun _ => 0))), (q5, .inl (cI, 16, .inl (fun _ => 0))), (q6, .inl (cI, 60, .inl (fun _ => 0))), (q7, .inl (cI, 288, .inl (fun _ => 0))), (q8, .inl (cI, 12, .inl (fun _ => 0))), (q9, .inl (cI, 12, .inl (fun _ => 0)))] := hw
  refine va_putF (D := G) (ci := 6) (v := .ref q9) (ty := .array .int) (C := RX6) (T := TX6) (N := 22) hx hb hts nw_X6_init_X6 tyX6 tyX6_ok nmX6 hown hK hw.1 hw.2.1 hw.2.2 0 rfl rfl 16 (by decide) (hts (.fieldLink RX6 34 "CandleDebtsModel" "burns" "[I") (by decide +kernel)) (fun _ h9 => h9) rfl hin rfl (by decide +kernel) rfl rfl (Nat.le_of_ble_eq_true rfl) dX6_init_74 (fun H locs hP hD hS => ?_)
  have hw : cd_WS G A s.heap H locs [(h0, .inr (6, [.ref q1, .ref q2, .ref q3, .ref q4, .int 0, .ref q5, .int 0, .ref q6, .int 0, .int 0, .int 0, .int 0, .int 0, .int 0, .ref q7, .ref q8, .ref q9, .null, .null, .null, .null, .null])), (q1, .inl (cI, 69, .inl (fun _ => 0))), (q2, .inl (cI, 69, .inl (fun _ => 0))), (q3, .inl (cI, 12, .inl (fun _ => 0))), (q4, .inl (cI, 12, .inl (fun _ => 0))), (q5, .inl (cI, 16, .inl (fun _ => 0))), (q6, .inl (cI, 60, .inl (fun _ => 0))), (q7, .inl (cI, 288, .inl (fun _ => 0))), (q8, .inl (cI, 12, .inl (fun _ => 0))), (q9, .inl (cI, 12, .inl (fun _ => 0)))] := ⟨hP, hD, hS⟩
  refine lv_aload_n hx hb dX6_init_77 rfl (lv_at hl 0 rfl) ?_
  refine lv_sipush (v := (1000 : Int32)) hx hb dX6_init_78 (by decide) ?_
  refine cd_newi (N := 1000) hx hb (hts (.arrayClass .int) (by decide +kernel)) hK hw hA (by decide) (by decide) (Nat.le_of_ble_eq_true rfl) (Nat.le_of_ble_eq_true rfl) (Nat.le_of_ble_eq_true rfl) dX6_init_81 (fun q10 H hw => ?_)
  have hw : cd_WS G A s.heap H locs [(h0, .inr (6, [.ref q1, .ref q2, .ref q3, .ref q4, .int 0, .ref q5, .int 0, .ref q6, .int 0, .int 0, .int 0, .int 0, .int 0, .int 0, .ref q7, .ref q8, .ref q9, .null, .null, .null, .null, .null])), (q1, .inl (cI, 69, .inl (fun _ => 0))), (q2, .inl (cI, 69, .inl (fun _ => 0))), (q3, .inl (cI, 12, .inl (fun _ => 0))), (q4, .inl (cI, 12, .inl (fun _ => 0))), (q5, .inl (cI, 16, .inl (fun _ => 0))), (q6, .inl (cI, 60, .inl (fun _ => 0))), (q7, .inl (cI, 288, .inl (fun _ => 0))), (q8, .inl (cI, 12, .inl (fun _ => 0))), (q9, .inl (cI, 12, .inl (fun _ => 0))), (q10, .inl (cI, 1000, .inl (fun _ => 0)))] := hw
  refine va_putF (D := G) (ci := 6) (v := .ref q10) (ty := .array .int) (C := RX6) (T := TX6) (N := 22) hx hb hts nw_X6_init_X6 tyX6 tyX6_ok nmX6 hown hK hw.1 hw.2.1 hw.2.2 0 rfl rfl 17 (by decide) (hts (.fieldLink RX6 37 "CandleDebtsModel" "counts" "[I") (by decide +kernel)) (fun _ h9 => h9) rfl hin rfl (by decide +kernel) rfl rfl (Nat.le_of_ble_eq_true rfl) dX6_init_83 (fun H locs hP hD hS => ?_)
  have hw : cd_WS G A s.heap H locs [(h0, .inr (6, [.ref q1, .ref q2, .ref q3, .ref q4, .int 0, .ref q5, .int 0, .ref q6, .int 0, .int 0, .int 0, .int 0, .int 0, .int 0, .ref q7, .ref q8, .ref q9, .ref q10, .null, .null, .null, .null])), (q1, .inl (cI, 69, .inl (fun _ => 0))), (q2, .inl (cI, 69, .inl (fun _ => 0))), (q3, .inl (cI, 12, .inl (fun _ => 0))), (q4, .inl (cI, 12, .inl (fun _ => 0))), (q5, .inl (cI, 16, .inl (fun _ => 0))), (q6, .inl (cI, 60, .inl (fun _ => 0))), (q7, .inl (cI, 288, .inl (fun _ => 0))), (q8, .inl (cI, 12, .inl (fun _ => 0))), (q9, .inl (cI, 12, .inl (fun _ => 0))), (q10, .inl (cI, 1000, .inl (fun _ => 0)))] := ⟨hP, hD, hS⟩
  refine lv_aload_n hx hb dX6_init_86 rfl (lv_at hl 0 rfl) ?_
  refine lv_bipush (v := (13 : Int32)) hx hb dX6_init_87 (by decide) ?_
  refine cd_newi (N := 13) hx hb (hts (.arrayClass .int) (by decide +kernel)) hK hw hA (by decide) (by decide) (Nat.le_of_ble_eq_true rfl) (Nat.le_of_ble_eq_true rfl) (Nat.le_of_ble_eq_true rfl) dX6_init_89 (fun q11 H hw => ?_)
  have hw : cd_WS G A s.heap H locs [(h0, .inr (6, [.ref q1, .ref q2, .ref q3, .ref q4, .int 0, .ref q5, .int 0, .ref q6, .int 0, .int 0, .int 0, .int 0, .int 0, .int 0, .ref q7, .ref q8, .ref q9, .ref q10, .null, .null, .null, .null])), (q1, .inl (cI, 69, .inl (fun _ => 0))), (q2, .inl (cI, 69, .inl (fun _ => 0))), (q3, .inl (cI, 12, .inl (fun _ => 0))), (q4, .inl (cI, 12, .inl (fun _ => 0))), (q5, .inl (cI, 16, .inl (fun _ => 0))), (q6, .inl (cI, 60, .inl (fun _ => 0))), (q7, .inl (cI, 288, .inl (fun _ => 0))), (q8, .inl (cI, 12, .inl (fun _ => 0))), (q9, .inl (cI, 12, .inl (fun _ => 0))), (q10, .inl (cI, 1000, .inl (fun _ => 0))), (q11, .inl (cI, 13, .inl (fun _ => 0)))] := hw
  refine va_putF (D := G) (ci := 6) (v := .ref q11) (ty := .array .int) (C := RX6) (T := TX6) (N := 22) hx hb hts nw_X6_init_X6 tyX6 tyX6_ok nmX6 hown hK hw.1 hw.2.1 hw.2.2 0 rfl rfl 18 (by decide) (hts (.fieldLink RX6 40 "CandleDebtsModel" "row" "[I") (by decide +kernel)) (fun _ h9 => h9) rfl hin rfl (by decide +kernel) rfl rfl (Nat.le_of_ble_eq_true rfl) dX6_init_91 (fun H locs hP hD hS => ?_)
  have hw : cd_WS G A s.heap H locs [(h0, .inr (6, [.ref q1, .ref q2, .ref q3, .ref q4, .int 0, .ref q5, .int 0, .ref q6, .int 0, .int 0, .int 0, .int 0, .int 0, .int 0, .ref q7, .ref q8, .ref q9, .ref q10, .ref q11, .null, .null, .null])), (q1, .inl (cI, 69, .inl (fun _ => 0))), (q2, .inl (cI, 69, .inl (fun _ => 0))), (q3, .inl (cI, 12, .inl (fun _ => 0))), (q4, .inl (cI, 12, .inl (fun _ => 0))), (q5, .inl (cI, 16, .inl (fun _ => 0))), (q6, .inl (cI, 60, .inl (fun _ => 0))), (q7, .inl (cI, 288, .inl (fun _ => 0))), (q8, .inl (cI, 12, .inl (fun _ => 0))), (q9, .inl (cI, 12, .inl (fun _ => 0))), (q10, .inl (cI, 1000, .inl (fun _ => 0))), (q11, .inl (cI, 13, .inl (fun _ => 0)))] := ⟨hP, hD, hS⟩
  refine lv_aload_n hx hb dX6_init_94 rfl (lv_at hl 0 rfl) ?_
  refine lv_bipush (v := (32 : Int32)) hx hb dX6_init_95 (by decide) ?_
  refine cd_newz (N := 32) hx hb (hts (.arrayClass .boolean) (by decide +kernel)) hK hw hA (by decide) (by decide) (Nat.le_of_ble_eq_true rfl) (Nat.le_of_ble_eq_true rfl) (Nat.le_of_ble_eq_true rfl) dX6_init_97 (fun q12 H hw => ?_)
  have hw : cd_WS G A s.heap H locs [(h0, .inr (6, [.ref q1, .ref q2, .ref q3, .ref q4, .int 0, .ref q5, .int 0, .ref q6, .int 0, .int 0, .int 0, .int 0, .int 0, .int 0, .ref q7, .ref q8, .ref q9, .ref q10, .ref q11, .null, .null, .null])), (q1, .inl (cI, 69, .inl (fun _ => 0))), (q2, .inl (cI, 69, .inl (fun _ => 0))), (q3, .inl (cI, 12, .inl (fun _ => 0))), (q4, .inl (cI, 12, .inl (fun _ => 0))), (q5, .inl (cI, 16, .inl (fun _ => 0))), (q6, .inl (cI, 60, .inl (fun _ => 0))), (q7, .inl (cI, 288, .inl (fun _ => 0))), (q8, .inl (cI, 12, .inl (fun _ => 0))), (q9, .inl (cI, 12, .inl (fun _ => 0))), (q10, .inl (cI, 1000, .inl (fun _ => 0))), (q11, .inl (cI, 13, .inl (fun _ => 0))), (q12, .inl (cZ, 32, .inl (fun _ => 0)))] := hw
  refine va_putF (D := G) (ci := 6) (v := .ref q12) (ty := .array .boolean) (C := RX6) (T := TX6) (N := 22) hx hb hts nw_X6_init_X6 tyX6 tyX6_ok nmX6 hown hK hw.1 hw.2.1 hw.2.2 0 rfl rfl 19 (by decide) (hts (.fieldLink RX6 43 "CandleDebtsModel" "isMet" "[Z") (by decide +kernel)) (fun _ h9 => h9) rfl hin rfl (by decide +kernel) rfl rfl (Nat.le_of_ble_eq_true rfl) dX6_init_99 (fun H locs hP hD hS => ?_)
  have hw : cd_WS G A s.heap H locs [(h0, .inr (6, [.ref q1, .ref q2, .ref q3, .ref q4, .int 0, .ref q5, .int 0, .ref q6, .int 0, .int 0, .int 0, .int 0, .int 0, .int 0, .ref q7, .ref q8, .ref q9, .ref q10, .ref q11, .ref q12, .null, .null])), (q1, .inl (cI, 69, .inl (fun _ => 0))), (q2, .inl (cI, 69, .inl (fun _ => 0))), (q3, .inl (cI, 12, .inl (fun _ => 0))), (q4, .inl (cI, 12, .inl (fun _ => 0))), (q5, .inl (cI, 16, .inl (fun _ => 0))), (q6, .inl (cI, 60, .inl (fun _ => 0))), (q7, .inl (cI, 288, .inl (fun _ => 0))), (q8, .inl (cI, 12, .inl (fun _ => 0))), (q9, .inl (cI, 12, .inl (fun _ => 0))), (q10, .inl (cI, 1000, .inl (fun _ => 0))), (q11, .inl (cI, 13, .inl (fun _ => 0))), (q12, .inl (cZ, 32, .inl (fun _ => 0)))] := ⟨hP, hD, hS⟩
  refine lv_aload_n hx hb dX6_init_102 rfl (lv_at hl 0 rfl) ?_
  refine lv_sipush (v := (240 : Int32)) hx hb dX6_init_103 (by decide) ?_
  refine cd_newi (N := 240) hx hb (hts (.arrayClass .int) (by decide +kernel)) hK hw hA (by decide) (by decide) (Nat.le_of_ble_eq_true rfl) (Nat.le_of_ble_eq_true rfl) (Nat.le_of_ble_eq_true rfl) dX6_init_106 (fun q13 H hw => ?_)
  have hw : cd_WS G A s.heap H locs [(h0, .inr (6, [.ref q1, .ref q2, .ref q3, .ref q4, .int 0, .ref q5, .int 0, .ref q6, .int 0, .int 0, .int 0, .int 0, .int 0, .int 0, .ref q7, .ref q8, .ref q9, .ref q10, .ref q11, .ref q12, .null, .null])), (q1, .inl (cI, 69, .inl (fun _ => 0))), (q2, .inl (cI, 69, .inl (fun _ => 0))), (q3, .inl (cI, 12, .inl (fun _ => 0))), (q4, .inl (cI, 12, .inl (fun _ => 0))), (q5, .inl (cI, 16, .inl (fun _ => 0))), (q6, .inl (cI, 60, .inl (fun _ => 0))), (q7, .inl (cI, 288, .inl (fun _ => 0))), (q8, .inl (cI, 12, .inl (fun _ => 0))), (q9, .inl (cI, 12, .inl (fun _ => 0))), (q10, .inl (cI, 1000, .inl (fun _ => 0))), (q11, .inl (cI, 13, .inl (fun _ => 0))), (q12, .inl (cZ, 32, .inl (fun _ => 0))), (q13, .inl (cI, 240, .inl (fun _ => 0)))] := hw
  refine va_putF (D := G) (ci := 6) (v := .ref q13) (ty := .array .int) (C := RX6) (T := TX6) (N := 22) hx hb hts nw_X6_init_X6 tyX6 tyX6_ok nmX6 hown hK hw.1 hw.2.1 hw.2.2 0 rfl rfl 20 (by decide) (hts (.fieldLink RX6 47 "CandleDebtsModel" "image" "[I") (by decide +kernel)) (fun _ h9 => h9) rfl hin rfl (by decide +kernel) rfl rfl (Nat.le_of_ble_eq_true rfl) dX6_init_108 (fun H locs hP hD hS => ?_)
  have hw : cd_WS G A s.heap H locs [(h0, .inr (6, [.ref q1, .ref q2, .ref q3, .ref q4, .int 0, .ref q5, .int 0, .ref q6, .int 0, .int 0, .int 0, .int 0, .int 0, .int 0, .ref q7, .ref q8, .ref q9, .ref q10, .ref q11, .ref q12, .ref q13, .null])), (q1, .inl (cI, 69, .inl (fun _ => 0))), (q2, .inl (cI, 69, .inl (fun _ => 0))), (q3, .inl (cI, 12, .inl (fun _ => 0))), (q4, .inl (cI, 12, .inl (fun _ => 0))), (q5, .inl (cI, 16, .inl (fun _ => 0))), (q6, .inl (cI, 60, .inl (fun _ => 0))), (q7, .inl (cI, 288, .inl (fun _ => 0))), (q8, .inl (cI, 12, .inl (fun _ => 0))), (q9, .inl (cI, 12, .inl (fun _ => 0))), (q10, .inl (cI, 1000, .inl (fun _ => 0))), (q11, .inl (cI, 13, .inl (fun _ => 0))), (q12, .inl (cZ, 32, .inl (fun _ => 0))), (q13, .inl (cI, 240, .inl (fun _ => 0)))] := ⟨hP, hD, hS⟩
  refine lv_aload_n hx hb dX6_init_111 rfl (lv_at hl 0 rfl) ?_
  refine lv_iconst (v := (2 : Int32)) hx hb dX6_init_112 (by decide) ?_
  refine cd_newz (N := 2) hx hb (hts (.arrayClass .boolean) (by decide +kernel)) hK hw hA (by decide) (by decide) (Nat.le_of_ble_eq_true rfl) (Nat.le_of_ble_eq_true rfl) (Nat.le_of_ble_eq_true rfl) dX6_init_113 (fun q14 H hw => ?_)
  have hw : cd_WS G A s.heap H locs [(h0, .inr (6, [.ref q1, .ref q2, .ref q3, .ref q4, .int 0, .ref q5, .int 0, .ref q6, .int 0, .int 0, .int 0, .int 0, .int 0, .int 0, .ref q7, .ref q8, .ref q9, .ref q10, .ref q11, .ref q12, .ref q13, .null])), (q1, .inl (cI, 69, .inl (fun _ => 0))), (q2, .inl (cI, 69, .inl (fun _ => 0))), (q3, .inl (cI, 12, .inl (fun _ => 0))), (q4, .inl (cI, 12, .inl (fun _ => 0))), (q5, .inl (cI, 16, .inl (fun _ => 0))), (q6, .inl (cI, 60, .inl (fun _ => 0))), (q7, .inl (cI, 288, .inl (fun _ => 0))), (q8, .inl (cI, 12, .inl (fun _ => 0))), (q9, .inl (cI, 12, .inl (fun _ => 0))), (q10, .inl (cI, 1000, .inl (fun _ => 0))), (q11, .inl (cI, 13, .inl (fun _ => 0))), (q12, .inl (cZ, 32, .inl (fun _ => 0))), (q13, .inl (cI, 240, .inl (fun _ => 0))), (q14, .inl (cZ, 2, .inl (fun _ => 0)))] := hw
  refine va_putF (D := G) (ci := 6) (v := .ref q14) (ty := .array .boolean) (C := RX6) (T := TX6) (N := 22) hx hb hts nw_X6_init_X6 tyX6 tyX6_ok nmX6 hown hK hw.1 hw.2.1 hw.2.2 0 rfl rfl 21 (by decide) (hts (.fieldLink RX6 50 "CandleDebtsModel" "isKept" "[Z") (by decide +kernel)) (fun _ h9 => h9) rfl hin rfl (by decide +kernel) rfl rfl (Nat.le_of_ble_eq_true rfl) dX6_init_115 (fun H locs hP hD hS => ?_)
  have hw : cd_WS G A s.heap H locs [(h0, .inr (6, [.ref q1, .ref q2, .ref q3, .ref q4, .int 0, .ref q5, .int 0, .ref q6, .int 0, .int 0, .int 0, .int 0, .int 0, .int 0, .ref q7, .ref q8, .ref q9, .ref q10, .ref q11, .ref q12, .ref q13, .ref q14])), (q1, .inl (cI, 69, .inl (fun _ => 0))), (q2, .inl (cI, 69, .inl (fun _ => 0))), (q3, .inl (cI, 12, .inl (fun _ => 0))), (q4, .inl (cI, 12, .inl (fun _ => 0))), (q5, .inl (cI, 16, .inl (fun _ => 0))), (q6, .inl (cI, 60, .inl (fun _ => 0))), (q7, .inl (cI, 288, .inl (fun _ => 0))), (q8, .inl (cI, 12, .inl (fun _ => 0))), (q9, .inl (cI, 12, .inl (fun _ => 0))), (q10, .inl (cI, 1000, .inl (fun _ => 0))), (q11, .inl (cI, 13, .inl (fun _ => 0))), (q12, .inl (cZ, 32, .inl (fun _ => 0))), (q13, .inl (cI, 240, .inl (fun _ => 0))), (q14, .inl (cZ, 2, .inl (fun _ => 0)))] := ⟨hP, hD, hS⟩
  obtain ⟨h, hh⟩ : ∃ h : Nat → Nat, h = (fun k => ([h0, q1, q2, q3, q4, q5, q6, q7, q8, q9, q10, q11, q12, q13, q14] : List Nat).getD k 0) := ⟨_, rfl⟩
  have hw : cd_WS G A s.heap H locs (pc_mod cI cZ h (fun _ _ => 0)) := by rw [hh]; exact hw
  have hh0 : h 0 = h0 := by rw [hh]; rfl
  clear hh
  have hl : lv_has ls 2 [(0, .ref (h 0))] := by rw [hh0]; exact hl
  have hL0 := hts (.fieldLink RX6 7 "CandleDebtsModel" "book" "[I") (by decide +kernel)
  have last : ∀ (M : Nat → Nat → Int32) (ls : Array Slot) (H : Heap) (locs : List Loc), (∀ j, j < 69 → M 0 j = nI (if 48 ≤ j ∧ j < 60 then 2 ^ (j - 48) else if 60 ≤ j ∧ j < 66 then 100 else 0)) → (∀ k, k ≠ 0 → M k = fun _ => 0) → lv_has ls 2 [(0, .ref (h 0))] → cd_WS G A s.heap H locs (pc_mod cI cZ h M) → W p l e rm_X6_init s m ag below meth c H locs 14 1837 Q (F0 m 169 ls []) := by
    intro M ls H locs hq h0' hl hw
    refine lv_aload_n hx hb dX6_init_169 rfl (lv_at hl 0 rfl) ?_
    refine va_get (D := G) (ci := 6) (v := .ref (h 1)) (C := RX6) (T := TX6) (N := 22) hx hb hts nw_X6_init_X6 hown hK hw.1 0 rfl rfl 0 (by decide) hL0 (fun _ h9 => h9) rfl dX6_init_170 ?_
    refine lv_bipush (v := (67 : Int32)) hx hb dX6_init_173 (by decide) ?_
    refine lv_bipush (v := (20 : Int32)) hx hb dX6_init_175 (by decide) ?_
    refine cd_iast (f := M 0) (i := nI 67) hx hb hK hw 1 rfl (cd_ix_nI (show 67 < 69 by decide) (by decide)) dX6_init_177 (fun H locs hw => ?_)
    have hw : cd_WS G A s.heap H locs (pc_mod cI cZ h (cd_set M 0 67 (nI 20))) := (show ∀ (s9 : Nat → Nat → Int32) (y9 : Int32), cd_WS G A s.heap H locs (((pc_mod cI cZ h s9)).set 1 (h 1, .inl (cI, 69, .inl (upd (s9 0) (67) y9)))) → cd_WS G A s.heap H locs ((pc_mod cI cZ h (cd_set s9 0 (67) y9))) from fun _ _ hh => hh) M (nI 20) hw
    rw [hQ]
    refine cd_retc (h, cd_set M 0 67 (nI 20)) C0 hw ⟨hh0, fun j hj => ?_, fun k hk => ?_⟩ dX6_init_178
    · show cd_set M 0 67 (nI 20) 0 j = _
      rw [cd_set_s]
      unfold b_0
      by_cases ej : j = 67
      · subst ej; rw [pk_us]; rfl
      · rw [pk_un ej, hq j hj, if_neg ej]
    · show cd_set M 0 67 (nI 20) k = _
      rw [cd_set_n _ _ hk]; exact h0' k hk
  have loop2 : ∀ (n i : Nat) (M : Nat → Nat → Int32) (ls : Array Slot) (H : Heap) (locs : List Loc), n + i = 6 → (∀ j, j < 69 → M 0 j = nI (if 48 ≤ j ∧ j < 60 then 2 ^ (j - 48) else if 60 ≤ j ∧ j < 60 + i then 100 else 0)) → (∀ k, k ≠ 0 → M k = fun _ => 0) → lv_has ls 2 [(1, .int (nI i)), (0, .ref (h 0))] → cd_WS G A s.heap H locs (pc_mod cI cZ h M) → W p l e rm_X6_init s m ag below meth c H locs 14 1837 Q (F0 m 146 ls []) := by
    intro n
    induction n with
    | zero =>
      intro i M ls H locs hi hq h0' hl hw
      refine lv_iload_n hx hb dX6_init_146 rfl (lv_at hl 0 rfl) ?_
      refine lv_bipush (v := (6 : Int32)) hx hb dX6_init_147 (by decide) ?_
      refine lv_icmp_ge (tgt := 169) hx hb dX6_init_149 (by decide) (fun c2 => ?_) (fun c2 => ?_)
      · refine last M ls H locs (fun j hj => ?_) h0' (lv_sub hl [1] rfl) hw
        have e6 : i = 6 := by omega
        rw [hq j hj, e6]
      · exact absurd (nI_le (show 6 ≤ i by omega) (by omega)) c2
    | succ n ih =>
      intro i M ls H locs hi hq h0' hl hw
      refine lv_iload_n hx hb dX6_init_146 rfl (lv_at hl 0 rfl) ?_
      refine lv_bipush (v := (6 : Int32)) hx hb dX6_init_147 (by decide) ?_
      refine lv_icmp_ge (tgt := 169) hx hb dX6_init_149 (by decide) (fun c2 => ?_) (fun c2 => ?_)
      · exact absurd c2 (nI_ge (show i < 6 by omega) (by decide))
      · refine lv_aload_n hx hb dX6_init_152 rfl (lv_at hl 1 rfl) ?_
        refine va_get (D := G) (ci := 6) (v := .ref (h 1)) (C := RX6) (T := TX6) (N := 22) hx hb hts nw_X6_init_X6 hown hK hw.1 0 rfl rfl 0 (by decide) hL0 (fun _ h9 => h9) rfl dX6_init_153 ?_
        refine lv_bipush (v := (60 : Int32)) hx hb dX6_init_156 (by decide) ?_
        refine lv_iload_n hx hb dX6_init_158 rfl (lv_at hl 0 rfl) ?_
        refine lv_iadd hx hb dX6_init_159 ?_
        rw [show (60 : Int32) + nI i = nI (60 + i) from nI_add 60 i]
        refine lv_bipush (v := (100 : Int32)) hx hb dX6_init_160 (by decide) ?_
        refine cd_iast (f := M 0) hx hb hK hw 1 rfl (cd_ix_nI (show 60 + i < 69 by omega) (by decide)) dX6_init_162 (fun H locs hw => ?_)
        have hw : cd_WS G A s.heap H locs (pc_mod cI cZ h (cd_set M 0 (60 + i) (nI 100))) := (show ∀ (s9 : Nat → Nat → Int32) (y9 : Int32), cd_WS G A s.heap H locs (((pc_mod cI cZ h s9)).set 1 (h 1, .inl (cI, 69, .inl (upd (s9 0) (60 + i) y9)))) → cd_WS G A s.heap H locs ((pc_mod cI cZ h (cd_set s9 0 (60 + i) y9))) from fun _ _ hh => hh) M (nI 100) hw
        refine lv_iinc (v := nI (i + 1)) (lv' := [(1, .int (nI (i + 1))), (0, .ref (h 0))]) hx hb dX6_init_163 hl (k := 0) rfl (nI_1 i) (by decide) rfl (fun ls hl => ?_)
        refine lv_goto (tgt := 146) hx hb dX6_init_166 (by decide) ?_
        refine ih (i + 1) _ ls H locs (by omega) (fun j hj => ?_) (fun k hk => ?_) hl hw
        · rw [cd_set_s]
          by_cases ej : j = 60 + i
          · rw [ej, pk_us, if_neg (by omega), if_pos (by omega)]
          · rw [pk_un ej, hq j hj]
            by_cases e1 : 48 ≤ j ∧ j < 60
            · rw [if_pos e1, if_pos e1]
            · rw [if_neg e1, if_neg e1]
              by_cases e2 : 60 ≤ j ∧ j < 60 + i
              · rw [if_pos e2, if_pos (by omega)]
              · rw [if_neg e2, if_neg (by omega)]
        · rw [cd_set_n _ _ hk]; exact h0' k hk
  have loop1 : ∀ (n i : Nat) (M : Nat → Nat → Int32) (ls : Array Slot) (H : Heap) (locs : List Loc), n + i = 12 → (∀ j, j < 69 → M 0 j = nI (if 48 ≤ j ∧ j < 48 + i then 2 ^ (j - 48) else 0)) → (∀ k, k ≠ 0 → M k = fun _ => 0) → lv_has ls 2 [(1, .int (nI i)), (0, .ref (h 0))] → cd_WS G A s.heap H locs (pc_mod cI cZ h M) → W p l e rm_X6_init s m ag below meth c H locs 14 1837 Q (F0 m 120 ls []) := by
    intro n
    induction n with
    | zero =>
      intro i M ls H locs hi hq h0' hl hw
      refine lv_iload_n hx hb dX6_init_120 rfl (lv_at hl 0 rfl) ?_
      refine lv_bipush (v := (12 : Int32)) hx hb dX6_init_121 (by decide) ?_
      refine lv_icmp_ge (tgt := 144) hx hb dX6_init_123 (by decide) (fun c2 => ?_) (fun c2 => ?_)
      · refine lv_iconst (v := (0 : Int32)) hx hb dX6_init_144 (by decide) ?_
        refine lv_istore_n (lv' := [(1, .int (0 : Int32)), (0, .ref (h 0))]) hx hb dX6_init_145 rfl hl (by decide) rfl (fun ls hl => ?_)
        refine loop2 6 0 M ls H locs rfl (fun j hj => ?_) h0' hl hw
        have e12 : i = 12 := by omega
        rw [hq j hj, e12]
        by_cases e1 : 48 ≤ j ∧ j < 60
        · rw [if_pos e1, if_pos e1]
        · rw [if_neg e1, if_neg e1, if_neg (by omega)]
      · exact absurd (nI_le (show 12 ≤ i by omega) (by omega)) c2
    | succ n ih =>
      intro i M ls H locs hi hq h0' hl hw
      refine lv_iload_n hx hb dX6_init_120 rfl (lv_at hl 0 rfl) ?_
      refine lv_bipush (v := (12 : Int32)) hx hb dX6_init_121 (by decide) ?_
      refine lv_icmp_ge (tgt := 144) hx hb dX6_init_123 (by decide) (fun c2 => ?_) (fun c2 => ?_)
      · exact absurd c2 (nI_ge (show i < 12 by omega) (by decide))
      · refine lv_aload_n hx hb dX6_init_126 rfl (lv_at hl 1 rfl) ?_
        refine va_get (D := G) (ci := 6) (v := .ref (h 1)) (C := RX6) (T := TX6) (N := 22) hx hb hts nw_X6_init_X6 hown hK hw.1 0 rfl rfl 0 (by decide) hL0 (fun _ h9 => h9) rfl dX6_init_127 ?_
        refine lv_bipush (v := (48 : Int32)) hx hb dX6_init_130 (by decide) ?_
        refine lv_iload_n hx hb dX6_init_132 rfl (lv_at hl 0 rfl) ?_
        refine lv_iadd hx hb dX6_init_133 ?_
        rw [show (48 : Int32) + nI i = nI (48 + i) from nI_add 48 i]
        refine lv_iconst (v := (1 : Int32)) hx hb dX6_init_134 (by decide) ?_
        refine lv_iload_n hx hb dX6_init_135 rfl (lv_at hl 0 rfl) ?_
        refine lv_ishl hx hb dX6_init_136 ?_
        rw [q_shl (show i < 31 by omega)]
        refine cd_iast (f := M 0) hx hb hK hw 1 rfl (cd_ix_nI (show 48 + i < 69 by omega) (by decide)) dX6_init_137 (fun H locs hw => ?_)
        have hw : cd_WS G A s.heap H locs (pc_mod cI cZ h (cd_set M 0 (48 + i) (nI (2 ^ i)))) := (show ∀ (s9 : Nat → Nat → Int32) (y9 : Int32), cd_WS G A s.heap H locs (((pc_mod cI cZ h s9)).set 1 (h 1, .inl (cI, 69, .inl (upd (s9 0) (48 + i) y9)))) → cd_WS G A s.heap H locs ((pc_mod cI cZ h (cd_set s9 0 (48 + i) y9))) from fun _ _ hh => hh) M (nI (2 ^ i)) hw
        refine lv_iinc (v := nI (i + 1)) (lv' := [(1, .int (nI (i + 1))), (0, .ref (h 0))]) hx hb dX6_init_138 hl (k := 0) rfl (nI_1 i) (by decide) rfl (fun ls hl => ?_)
        refine lv_goto (tgt := 120) hx hb dX6_init_141 (by decide) ?_
        refine ih (i + 1) _ ls H locs (by omega) (fun j hj => ?_) (fun k hk => ?_) hl hw
        · rw [cd_set_s]
          by_cases ej : j = 48 + i
          · rw [ej, pk_us, if_pos (by omega), Nat.add_sub_cancel_left]
          · rw [pk_un ej, hq j hj]
            by_cases e2 : 48 ≤ j ∧ j < 48 + i
            · rw [if_pos e2, if_pos (by omega)]
            · rw [if_neg e2, if_neg (by omega)]
        · rw [cd_set_n _ _ hk]; exact h0' k hk
  refine lv_iconst (v := (0 : Int32)) hx hb dX6_init_118 (by decide) ?_
  refine lv_istore_n (lv' := [(1, .int (0 : Int32)), (0, .ref (h 0))]) hx hb dX6_init_119 rfl hl (by decide) rfl (fun ls hl => ?_)
  exact loop1 12 0 _ ls H locs rfl (fun j hj => by rw [if_neg (by omega)]; rfl) (fun k _ => rfl) hl hw
