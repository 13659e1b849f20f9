/-! the maker of a town -/
def g_0 : Nat → Nat → Nat := fun k j => if k = 6 then 2 ^ j else if k = 7 then 100 else if k = 12 then 20 else 0
theorem g_0_ok : q_ok g_0 := by
  intro k j hk hj
  have h12 : k < 14 ∧ j < 12 := ⟨hk, Nat.lt_of_lt_of_le hj (q_len_le k hk)⟩
  exact (show ∀ k, k < 14 → ∀ j, j < 12 → g_0 k j ≤ q_bd k by decide +kernel) k h12.1 j h12.2
abbrev rm_X3_init : Room := { frames := 1, cells := 10, slots := 106, locals := 20 }
theorem nw_X3_init_X3 : ∀ w ∈ u_ws RX3 TX3 14, w ∈ wsX3_init := by decide +kernel
set_option maxHeartbeats 4000000 in
set_option maxRecDepth 100000 in
theorem c_X3_init (l : Launch) (G : va_G) (cI cZ : ClassId) (sa sb : Nat) (h0 : Nat) : cd_Ci l G cI cZ sa sb yX3_init wsX3_init rm_X3_init [.ref h0] [(h0, .inr (3, [.null, .null, .null, .null, .null, .null, .null, .null, .null, .null, .int 0, .int 0, .int 0, .int 0]))] (fun u : (Nat → Nat) × (Nat → Nat → Int32) => pc_town cI u.1 u.2) (fun u => u.1 0 = h0 ∧ q_T u.2 g_0) 10 106 := by
  refine cd_ofI (cc := cX3_init) (maxL := 2) (by decide) rfl (Nat.le_of_ble_eq_true rfl) ?_
  intro p e s m ag below meth c A ls Q C0 hin hl hw hQ
  have C0 : cd_CX G cI cZ sa sb p s m ag meth c cX3_init 2 none wsX3_init RX3 A := C0
  obtain ⟨⟨hx, hb, hml, hown, hts⟩, hr, hlocks, hA, hE⟩ := id C0
  have hK := hE.1
  have hl : lv_has ls 2 [(0, .ref h0)] := hl
  have hw : cd_WS G A s.heap s.heap [] [(h0, .inr (3, [.null, .null, .null, .null, .null, .null, .null, .null, .null, .null, .int 0, .int 0, .int 0, .int 0]))] := hw
  refine lv_aload_n hx hb dX3_init_0 rfl (lv_at hl 0 rfl) ?_
  refine W.objInit hx hb hown (hts (.methodLink RX3 3 objectInit) (by decide +kernel)) (hts (.instanceMethod objectInit) (by decide +kernel)) (hts (.code objectInit ⟨#[0xb1]⟩ 1 none) (by decide +kernel)) rfl (by rw [hml]; exact hl.1) rfl dX3_init_1 (Nat.le_of_ble_eq_true rfl) (Nat.le_of_ble_eq_true rfl) ?_
  refine W.eq (g2 := F0 m 4 ls []) rfl ?_
  refine lv_aload_n hx hb dX3_init_4 rfl (lv_at hl 0 rfl) ?_
  refine lv_bipush (v := (12 : Int32)) hx hb dX3_init_5 (by decide) ?_
  refine cd_newi (N := 12) hx hb (hts (.arrayClass .int) (by decide +kernel)) hK hw hA (by decide) (by decide) (Nat.le_of_ble_eq_true rfl) (Nat.le_of_ble_eq_true rfl) (Nat.le_of_ble_eq_true rfl) dX3_init_7 (fun q1 H hw => ?_)
  have hw : cd_WS G A s.heap H [] [(h0, .inr (3, [.null, .null, .null, .null, .null, .null, .null, .null, .null, .null, .int 0, .int 0, .int 0, .int 0])), (q1, .inl (cI, 12, .inl (fun _ => 0)))] := hw
  refine va_putF (D := G) (ci := 3) (v := .ref q1) (ty := .array .int) (C := RX3) (T := TX3) (N := 14) hx hb hts nw_X3_init_X3 tyX3 tyX3_ok nmX3 hown hK hw.1 hw.2.1 hw.2.2 0 rfl rfl 0 (by decide) (hts (.fieldLink RX3 9 "CandleDebts$Town" "wax" "[I") (by decide +kernel)) (fun _ h9 => h9) rfl hin rfl (by decide +kernel) rfl rfl (Nat.le_of_ble_eq_true rfl) dX3_init_9 (fun H locs hP hD hS => ?_)
  have hw : cd_WS G A s.heap H locs [(h0, .inr (3, [.ref q1, .null, .null, .null, .null, .null, .null, .null, .null, .null, .int 0, .int 0, .int 0, .int 0])), (q1, .inl (cI, 12, .inl (fun _ => 0)))] := ⟨hP, hD, hS⟩
  refine lv_aload_n hx hb dX3_init_12 rfl (lv_at hl 0 rfl) ?_
  refine lv_bipush (v := (12 : Int32)) hx hb dX3_init_13 (by decide) ?_
  refine cd_newi (N := 12) hx hb (hts (.arrayClass .int) (by decide +kernel)) hK hw hA (by decide) (by decide) (Nat.le_of_ble_eq_true rfl) (Nat.le_of_ble_eq_true rfl) (Nat.le_of_ble_eq_true rfl) dX3_init_15 (fun q2 H hw => ?_)
  have hw : cd_WS G A s.heap H locs [(h0, .inr (3, [.ref q1, .null, .null, .null, .null, .null, .null, .null, .null, .null, .int 0, .int 0, .int 0, .int 0])), (q1, .inl (cI, 12, .inl (fun _ => 0))), (q2, .inl (cI, 12, .inl (fun _ => 0)))] := hw
  refine va_putF (D := G) (ci := 3) (v := .ref q2) (ty := .array .int) (C := RX3) (T := TX3) (N := 14) hx hb hts nw_X3_init_X3 tyX3 tyX3_ok nmX3 hown hK hw.1 hw.2.1 hw.2.2 0 rfl rfl 1 (by decide) (hts (.fieldLink RX3 15 "CandleDebts$Town" "trimmed" "[I") (by decide +kernel)) (fun _ h9 => h9) rfl hin rfl (by decide +kernel) rfl rfl (Nat.le_of_ble_eq_true rfl) dX3_init_17 (fun H locs hP hD hS => ?_)
  have hw : cd_WS G A s.heap H locs [(h0, .inr (3, [.ref q1, .ref q2, .null, .null, .null, .null, .null, .null, .null, .null, .int 0, .int 0, .int 0, .int 0])), (q1, .inl (cI, 12, .inl (fun _ => 0))), (q2, .inl (cI, 12, .inl (fun _ => 0)))] := ⟨hP, hD, hS⟩
  refine lv_aload_n hx hb dX3_init_20 rfl (lv_at hl 0 rfl) ?_
  refine lv_bipush (v := (12 : Int32)) hx hb dX3_init_21 (by decide) ?_
  refine cd_newi (N := 12) hx hb (hts (.arrayClass .int) (by decide +kernel)) hK hw hA (by decide) (by decide) (Nat.le_of_ble_eq_true rfl) (Nat.le_of_ble_eq_true rfl) (Nat.le_of_ble_eq_true rfl) dX3_init_23 (fun q3 H hw => ?_)
  have hw : cd_WS G A s.heap H locs [(h0, .inr (3, [.ref q1, .ref q2, .null, .null, .null, .null, .null, .null, .null, .null, .int 0, .int 0, .int 0, .int 0])), (q1, .inl (cI, 12, .inl (fun _ => 0))), (q2, .inl (cI, 12, .inl (fun _ => 0))), (q3, .inl (cI, 12, .inl (fun _ => 0)))] := hw
  refine va_putF (D := G) (ci := 3) (v := .ref q3) (ty := .array .int) (C := RX3) (T := TX3) (N := 14) hx hb hts nw_X3_init_X3 tyX3 tyX3_ok nmX3 hown hK hw.1 hw.2.1 hw.2.2 0 rfl rfl 2 (by decide) (hts (.fieldLink RX3 18 "CandleDebts$Town" "draughts" "[I") (by decide +kernel)) (fun _ h9 => h9) rfl hin rfl (by decide +kernel) rfl rfl (Nat.le_of_ble_eq_true rfl) dX3_init_25 (fun H locs hP hD hS => ?_)
  have hw : cd_WS G A s.heap H locs [(h0, .inr (3, [.ref q1, .ref q2, .ref q3, .null, .null, .null, .null, .null, .null, .null, .int 0, .int 0, .int 0, .int 0])), (q1, .inl (cI, 12, .inl (fun _ => 0))), (q2, .inl (cI, 12, .inl (fun _ => 0))), (q3, .inl (cI, 12, .inl (fun _ => 0)))] := ⟨hP, hD, hS⟩
  refine lv_aload_n hx hb dX3_init_28 rfl (lv_at hl 0 rfl) ?_
  refine lv_bipush (v := (12 : Int32)) hx hb dX3_init_29 (by decide) ?_
  refine cd_newi (N := 12) hx hb (hts (.arrayClass .int) (by decide +kernel)) hK hw hA (by decide) (by decide) (Nat.le_of_ble_eq_true rfl) (Nat.le_of_ble_eq_true rfl) (Nat.le_of_ble_eq_true rfl) dX3_init_31 (fun q4 H hw => ?_)
  have hw : cd_WS G A s.heap H locs [(h0, .inr (3, [.ref q1, .ref q2, .ref q3, .null, .null, .null, .null, .null, .null, .null, .int 0, .int 0, .int 0, .int 0])), (q1, .inl (cI, 12, .inl (fun _ => 0))), (q2, .inl (cI, 12, .inl (fun _ => 0))), (q3, .inl (cI, 12, .inl (fun _ => 0))), (q4, .inl (cI, 12, .inl (fun _ => 0)))] := hw
  refine va_putF (D := G) (ci := 3) (v := .ref q4) (ty := .array .int) (C := RX3) (T := TX3) (N := 14) hx hb hts nw_X3_init_X3 tyX3 tyX3_ok nmX3 hown hK hw.1 hw.2.1 hw.2.2 0 rfl rfl 3 (by decide) (hts (.fieldLink RX3 21 "CandleDebts$Town" "creditors" "[I") (by decide +kernel)) (fun _ h9 => h9) rfl hin rfl (by decide +kernel) rfl rfl (Nat.le_of_ble_eq_true rfl) dX3_init_33 (fun H locs hP hD hS => ?_)
  have hw : cd_WS G A s.heap H locs [(h0, .inr (3, [.ref q1, .ref q2, .ref q3, .ref q4, .null, .null, .null, .null, .null, .null, .int 0, .int 0, .int 0, .int 0])), (q1, .inl (cI, 12, .inl (fun _ => 0))), (q2, .inl (cI, 12, .inl (fun _ => 0))), (q3, .inl (cI, 12, .inl (fun _ => 0))), (q4, .inl (cI, 12, .inl (fun _ => 0)))] := ⟨hP, hD, hS⟩
  refine lv_aload_n hx hb dX3_init_36 rfl (lv_at hl 0 rfl) ?_
  refine lv_bipush (v := (12 : Int32)) hx hb dX3_init_37 (by decide) ?_
  refine cd_newi (N := 12) hx hb (hts (.arrayClass .int) (by decide +kernel)) hK hw hA (by decide) (by decide) (Nat.le_of_ble_eq_true rfl) (Nat.le_of_ble_eq_true rfl) (Nat.le_of_ble_eq_true rfl) dX3_init_39 (fun q5 H hw => ?_)
  have hw : cd_WS G A s.heap H locs [(h0, .inr (3, [.ref q1, .ref q2, .ref q3, .ref q4, .null, .null, .null, .null, .null, .null, .int 0, .int 0, .int 0, .int 0])), (q1, .inl (cI, 12, .inl (fun _ => 0))), (q2, .inl (cI, 12, .inl (fun _ => 0))), (q3, .inl (cI, 12, .inl (fun _ => 0))), (q4, .inl (cI, 12, .inl (fun _ => 0))), (q5, .inl (cI, 12, .inl (fun _ => 0)))] := hw
  refine va_putF (D := G) (ci := 3) (v := .ref q5) (ty := .array .int) (C := RX3) (T := TX3) (N := 14) hx hb hts nw_X3_init_X3 tyX3 tyX3_ok nmX3 hown hK hw.1 hw.2.1 hw.2.2 0 rfl rfl 4 (by decide) (hts (.fieldLink RX3 24 "CandleDebts$Town" "debtors" "[I") (by decide +kernel)) (fun _ h9 => h9) rfl hin rfl (by decide +kernel) rfl rfl (Nat.le_of_ble_eq_true rfl) dX3_init_41 (fun H locs hP hD hS => ?_)
  have hw : cd_WS G A s.heap H locs [(h0, .inr (3, [.ref q1, .ref q2, .ref q3, .ref q4, .ref q5, .null, .null, .null, .null, .null, .int 0, .int 0, .int 0, .int 0])), (q1, .inl (cI, 12, .inl (fun _ => 0))), (q2, .inl (cI, 12, .inl (fun _ => 0))), (q3, .inl (cI, 12, .inl (fun _ => 0))), (q4, .inl (cI, 12, .inl (fun _ => 0))), (q5, .inl (cI, 12, .inl (fun _ => 0)))] := ⟨hP, hD, hS⟩
  refine lv_aload_n hx hb dX3_init_44 rfl (lv_at hl 0 rfl) ?_
  refine lv_bipush (v := (12 : Int32)) hx hb dX3_init_45 (by decide) ?_
  refine cd_newi (N := 12) hx hb (hts (.arrayClass .int) (by decide +kernel)) hK hw hA (by decide) (by decide) (Nat.le_of_ble_eq_true rfl) (Nat.le_of_ble_eq_true rfl) (Nat.le_of_ble_eq_true rfl) dX3_init_47 (fun q6 H hw => ?_)
  have hw : cd_WS G A s.heap H locs [(h0, .inr (3, [.ref q1, .ref q2, .ref q3, .ref q4, .ref q5, .null, .null, .null, .null, .null, .int 0, .int 0, .int 0, .int 0])), (q1, .inl (cI, 12, .inl (fun _ => 0))), (q2, .inl (cI, 12, .inl (fun _ => 0))), (q3, .inl (cI, 12, .inl (fun _ => 0))), (q4, .inl (cI, 12, .inl (fun _ => 0))), (q5, .inl (cI, 12, .inl (fun _ => 0))), (q6, .inl (cI, 12, .inl (fun _ => 0)))] := hw
  refine va_putF (D := G) (ci := 3) (v := .ref q6) (ty := .array .int) (C := RX3) (T := TX3) (N := 14) hx hb hts nw_X3_init_X3 tyX3 tyX3_ok nmX3 hown hK hw.1 hw.2.1 hw.2.2 0 rfl rfl 5 (by decide) (hts (.fieldLink RX3 27 "CandleDebts$Town" "sums" "[I") (by decide +kernel)) (fun _ h9 => h9) rfl hin rfl (by decide +kernel) rfl rfl (Nat.le_of_ble_eq_true rfl) dX3_init_49 (fun H locs hP hD hS => ?_)
  have hw : cd_WS G A s.heap H locs [(h0, .inr (3, [.ref q1, .ref q2, .ref q3, .ref q4, .ref q5, .ref q6, .null, .null, .null, .null, .int 0, .int 0, .int 0, .int 0])), (q1, .inl (cI, 12, .inl (fun _ => 0))), (q2, .inl (cI, 12, .inl (fun _ => 0))), (q3, .inl (cI, 12, .inl (fun _ => 0))), (q4, .inl (cI, 12, .inl (fun _ => 0))), (q5, .inl (cI, 12, .inl (fun _ => 0))), (q6, .inl (cI, 12, .inl (fun _ => 0)))] := ⟨hP, hD, hS⟩
  refine lv_aload_n hx hb dX3_init_52 rfl (lv_at hl 0 rfl) ?_
  refine lv_bipush (v := (12 : Int32)) hx hb dX3_init_53 (by decide) ?_
  refine cd_newi (N := 12) hx hb (hts (.arrayClass .int) (by decide +kernel)) hK hw hA (by decide) (by decide) (Nat.le_of_ble_eq_true rfl) (Nat.le_of_ble_eq_true rfl) (Nat.le_of_ble_eq_true rfl) dX3_init_55 (fun q7 H hw => ?_)
  have hw : cd_WS G A s.heap H locs [(h0, .inr (3, [.ref q1, .ref q2, .ref q3, .ref q4, .ref q5, .ref q6, .null, .null, .null, .null, .int 0, .int 0, .int 0, .int 0])), (q1, .inl (cI, 12, .inl (fun _ => 0))), (q2, .inl (cI, 12, .inl (fun _ => 0))), (q3, .inl (cI, 12, .inl (fun _ => 0))), (q4, .inl (cI, 12, .inl (fun _ => 0))), (q5, .inl (cI, 12, .inl (fun _ => 0))), (q6, .inl (cI, 12, .inl (fun _ => 0))), (q7, .inl (cI, 12, .inl (fun _ => 0)))] := hw
  refine va_putF (D := G) (ci := 3) (v := .ref q7) (ty := .array .int) (C := RX3) (T := TX3) (N := 14) hx hb hts nw_X3_init_X3 tyX3 tyX3_ok nmX3 hown hK hw.1 hw.2.1 hw.2.2 0 rfl rfl 6 (by decide) (hts (.fieldLink RX3 30 "CandleDebts$Town" "groups" "[I") (by decide +kernel)) (fun _ h9 => h9) rfl hin rfl (by decide +kernel) rfl rfl (Nat.le_of_ble_eq_true rfl) dX3_init_57 (fun H locs hP hD hS => ?_)
  have hw : cd_WS G A s.heap H locs [(h0, .inr (3, [.ref q1, .ref q2, .ref q3, .ref q4, .ref q5, .ref q6, .ref q7, .null, .null, .null, .int 0, .int 0, .int 0, .int 0])), (q1, .inl (cI, 12, .inl (fun _ => 0))), (q2, .inl (cI, 12, .inl (fun _ => 0))), (q3, .inl (cI, 12, .inl (fun _ => 0))), (q4, .inl (cI, 12, .inl (fun _ => 0))), (q5, .inl (cI, 12, .inl (fun _ => 0))), (q6, .inl (cI, 12, .inl (fun _ => 0))), (q7, .inl (cI, 12, .inl (fun _ => 0)))] := ⟨hP, hD, hS⟩
  refine lv_aload_n hx hb dX3_init_60 rfl (lv_at hl 0 rfl) ?_
  refine lv_bipush (v := (6 : Int32)) hx hb dX3_init_61 (by decide) ?_
  refine cd_newi (N := 6) hx hb (hts (.arrayClass .int) (by decide +kernel)) hK hw hA (by decide) (by decide) (Nat.le_of_ble_eq_true rfl) (Nat.le_of_ble_eq_true rfl) (Nat.le_of_ble_eq_true rfl) dX3_init_63 (fun q8 H hw => ?_)
  have hw : cd_WS G A s.heap H locs [(h0, .inr (3, [.ref q1, .ref q2, .ref q3, .ref q4, .ref q5, .ref q6, .ref q7, .null, .null, .null, .int 0, .int 0, .int 0, .int 0])), (q1, .inl (cI, 12, .inl (fun _ => 0))), (q2, .inl (cI, 12, .inl (fun _ => 0))), (q3, .inl (cI, 12, .inl (fun _ => 0))), (q4, .inl (cI, 12, .inl (fun _ => 0))), (q5, .inl (cI, 12, .inl (fun _ => 0))), (q6, .inl (cI, 12, .inl (fun _ => 0))), (q7, .inl (cI, 12, .inl (fun _ => 0))), (q8, .inl (cI, 6, .inl (fun _ => 0)))] := hw
  refine va_putF (D := G) (ci := 3) (v := .ref q8) (ty := .array .int) (C := RX3) (T := TX3) (N := 14) hx hb hts nw_X3_init_X3 tyX3 tyX3_ok nmX3 hown hK hw.1 hw.2.1 hw.2.2 0 rfl rfl 7 (by decide) (hts (.fieldLink RX3 33 "CandleDebts$Town" "purses" "[I") (by decide +kernel)) (fun _ h9 => h9) rfl hin rfl (by decide +kernel) rfl rfl (Nat.le_of_ble_eq_true rfl) dX3_init_65 (fun H locs hP hD hS => ?_)
  have hw : cd_WS G A s.heap H locs [(h0, .inr (3, [.ref q1, .ref q2, .ref q3, .ref q4, .ref q5, .ref q6, .ref q7, .ref q8, .null, .null, .int 0, .int 0, .int 0, .int 0])), (q1, .inl (cI, 12, .inl (fun _ => 0))), (q2, .inl (cI, 12, .inl (fun _ => 0))), (q3, .inl (cI, 12, .inl (fun _ => 0))), (q4, .inl (cI, 12, .inl (fun _ => 0))), (q5, .inl (cI, 12, .inl (fun _ => 0))), (q6, .inl (cI, 12, .inl (fun _ => 0))), (q7, .inl (cI, 12, .inl (fun _ => 0))), (q8, .inl (cI, 6, .inl (fun _ => 0)))] := ⟨hP, hD, hS⟩
  refine lv_aload_n hx hb dX3_init_68 rfl (lv_at hl 0 rfl) ?_
  refine lv_bipush (v := (8 : Int32)) hx hb dX3_init_69 (by decide) ?_
  refine cd_newi (N := 8) hx hb (hts (.arrayClass .int) (by decide +kernel)) hK hw hA (by decide) (by decide) (Nat.le_of_ble_eq_true rfl) (Nat.le_of_ble_eq_true rfl) (Nat.le_of_ble_eq_true rfl) dX3_init_71 (fun q9 H hw => ?_)
  have hw : cd_WS G A s.heap H locs [(h0, .inr (3, [.ref q1, .ref q2, .ref q3, .ref q4, .ref q5, .ref q6, .ref q7, .ref q8, .null, .null, .int 0, .int 0, .int 0, .int 0])), (q1, .inl (cI, 12, .inl (fun _ => 0))), (q2, .inl (cI, 12, .inl (fun _ => 0))), (q3, .inl (cI, 12, .inl (fun _ => 0))), (q4, .inl (cI, 12, .inl (fun _ => 0))), (q5, .inl (cI, 12, .inl (fun _ => 0))), (q6, .inl (cI, 12, .inl (fun _ => 0))), (q7, .inl (cI, 12, .inl (fun _ => 0))), (q8, .inl (cI, 6, .inl (fun _ => 0))), (q9, .inl (cI, 8, .inl (fun _ => 0)))] := hw
  refine va_putF (D := G) (ci := 3) (v := .ref q9) (ty := .array .int) (C := RX3) (T := TX3) (N := 14) hx hb hts nw_X3_init_X3 tyX3 tyX3_ok nmX3 hown hK hw.1 hw.2.1 hw.2.2 0 rfl rfl 8 (by decide) (hts (.fieldLink RX3 36 "CandleDebts$Town" "sightCandles" "[I") (by decide +kernel)) (fun _ h9 => h9) rfl hin rfl (by decide +kernel) rfl rfl (Nat.le_of_ble_eq_true rfl) dX3_init_73 (fun H locs hP hD hS => ?_)
  have hw : cd_WS G A s.heap H locs [(h0, .inr (3, [.ref q1, .ref q2, .ref q3, .ref q4, .ref q5, .ref q6, .ref q7, .ref q8, .ref q9, .null, .int 0, .int 0, .int 0, .int 0])), (q1, .inl (cI, 12, .inl (fun _ => 0))), (q2, .inl (cI, 12, .inl (fun _ => 0))), (q3, .inl (cI, 12, .inl (fun _ => 0))), (q4, .inl (cI, 12, .inl (fun _ => 0))), (q5, .inl (cI, 12, .inl (fun _ => 0))), (q6, .inl (cI, 12, .inl (fun _ => 0))), (q7, .inl (cI, 12, .inl (fun _ => 0))), (q8, .inl (cI, 6, .inl (fun _ => 0))), (q9, .inl (cI, 8, .inl (fun _ => 0)))] := ⟨hP, hD, hS⟩
  refine lv_aload_n hx hb dX3_init_76 rfl (lv_at hl 0 rfl) ?_
  refine lv_bipush (v := (8 : Int32)) hx hb dX3_init_77 (by decide) ?_
  refine cd_newi (N := 8) hx hb (hts (.arrayClass .int) (by decide +kernel)) hK hw hA (by decide) (by decide) (Nat.le_of_ble_eq_true rfl) (Nat.le_of_ble_eq_true rfl) (Nat.le_of_ble_eq_true rfl) dX3_init_79 (fun q10 H hw => ?_)
  have hw : cd_WS G A s.heap H locs [(h0, .inr (3, [.ref q1, .ref q2, .ref q3, .ref q4, .ref q5, .ref q6, .ref q7, .ref q8, .ref q9, .null, .int 0, .int 0, .int 0, .int 0])), (q1, .inl (cI, 12, .inl (fun _ => 0))), (q2, .inl (cI, 12, .inl (fun _ => 0))), (q3, .inl (cI, 12, .inl (fun _ => 0))), (q4, .inl (cI, 12, .inl (fun _ => 0))), (q5, .inl (cI, 12, .inl (fun _ => 0))), (q6, .inl (cI, 12, .inl (fun _ => 0))), (q7, .inl (cI, 12, .inl (fun _ => 0))), (q8, .inl (cI, 6, .inl (fun _ => 0))), (q9, .inl (cI, 8, .inl (fun _ => 0))), (q10, .inl (cI, 8, .inl (fun _ => 0)))] := hw
  refine va_putF (D := G) (ci := 3) (v := .ref q10) (ty := .array .int) (C := RX3) (T := TX3) (N := 14) hx hb hts nw_X3_init_X3 tyX3 tyX3_ok nmX3 hown hK hw.1 hw.2.1 hw.2.2 0 rfl rfl 9 (by decide) (hts (.fieldLink RX3 39 "CandleDebts$Town" "sightLosses" "[I") (by decide +kernel)) (fun _ h9 => h9) rfl hin rfl (by decide +kernel) rfl rfl (Nat.le_of_ble_eq_true rfl) dX3_init_81 (fun H locs hP hD hS => ?_)
  have hw : cd_WS G A s.heap H locs [(h0, .inr (3, [.ref q1, .ref q2, .ref q3, .ref q4, .ref q5, .ref q6, .ref q7, .ref q8, .ref q9, .ref q10, .int 0, .int 0, .int 0, .int 0])), (q1, .inl (cI, 12, .inl (fun _ => 0))), (q2, .inl (cI, 12, .inl (fun _ => 0))), (q3, .inl (cI, 12, .inl (fun _ => 0))), (q4, .inl (cI, 12, .inl (fun _ => 0))), (q5, .inl (cI, 12, .inl (fun _ => 0))), (q6, .inl (cI, 12, .inl (fun _ => 0))), (q7, .inl (cI, 12, .inl (fun _ => 0))), (q8, .inl (cI, 6, .inl (fun _ => 0))), (q9, .inl (cI, 8, .inl (fun _ => 0))), (q10, .inl (cI, 8, .inl (fun _ => 0)))] := ⟨hP, hD, hS⟩
  obtain ⟨h, hh⟩ : ∃ h : Nat → Nat, h = (fun k => ([h0, q1, q2, q3, q4, q5, q6, q7, q8, q9, q10] : List Nat).getD k 0) := ⟨_, rfl⟩
  have hw : cd_WS G A s.heap H locs (pc_town cI h (fun _ _ => 0)) := by rw [hh]; exact hw
  have hh0 : h 0 = h0 := by rw [hh]; rfl
  clear hh
  have hl : lv_has ls 2 [(0, .ref (h 0))] := by rw [hh0]; exact hl
  refine lv_aload_n hx hb dX3_init_84 rfl (lv_at hl 0 rfl) ?_
  refine lv_bipush (v := (20 : Int32)) hx hb dX3_init_85 (by decide) ?_
  refine va_put (D := G) (ci := 3) (v := .int (20 : Int32)) (ty := .int) (C := RX3) (T := TX3) (N := 14) hx hb hts nw_X3_init_X3 tyX3 tyX3_ok nmX3 hown hK hw.1 hw.2.1 hw.2.2 0 rfl rfl 12 (by decide) (hts (.fieldLink RX3 42 "CandleDebts$Town" "matchesLeft" "I") (by decide +kernel)) (fun _ h9 => h9) rfl (by decide +kernel) rfl rfl (Nat.le_of_ble_eq_true rfl) dX3_init_87 (fun H locs hP hD hS => ?_)
  have hw : cd_WS G A s.heap H locs (pc_town cI h (cd_fld (fun _ _ => 0) 12 (nI 20))) := ⟨hP, hD, hS⟩
  have hL0 := hts (.fieldLink RX3 30 "CandleDebts$Town" "groups" "[I") (by decide +kernel)
  have hL1 := hts (.initialized RX5) (by decide +kernel)
  have hL2 := hts (.static yX5_bit) (by decide +kernel)
  have hL3 := hts (.fieldLink RX3 33 "CandleDebts$Town" "purses" "[I") (by decide +kernel)
  have loop2 : ∀ (n i : Nat) (T : Nat → Nat → Int32) (ls : Array Slot) (H : Heap) (locs : List Loc), n + i = 6 → (∀ k j, k < 14 → j < q_len k → (k = 7 → j < i) → T k j = nI (g_0 k j)) → lv_has ls 2 [(1, .int (nI i)), (0, .ref (h 0))] → cd_WS G A s.heap H locs (pc_town cI h T) → W p l e rm_X3_init s m ag below meth c H locs 10 106 Q (F0 m 116 ls []) := by
    intro n
    induction n with
    | zero =>
      intro i T ls H locs hi hq hl hw
      refine lv_iload_n hx hb dX3_init_116 rfl (lv_at hl 0 rfl) ?_
      refine lv_bipush (v := (6 : Int32)) hx hb dX3_init_117 (by decide) ?_
      refine lv_icmp_ge (tgt := 136) hx hb dX3_init_119 (by decide) (fun c2 => ?_) (fun c2 => ?_)
      · rw [hQ]
        exact cd_retc (h, T) C0 hw ⟨hh0, fun k j h1 h2 => hq k j h1 h2 (fun e7 => by subst e7; have h3 : j < 6 := h2; omega)⟩ dX3_init_136
      · exact absurd (nI_le (show 6 ≤ i by omega) (by omega)) c2
    | succ n ih =>
      intro i T ls H locs hi hq hl hw
      refine lv_iload_n hx hb dX3_init_116 rfl (lv_at hl 0 rfl) ?_
      refine lv_bipush (v := (6 : Int32)) hx hb dX3_init_117 (by decide) ?_
      refine lv_icmp_ge (tgt := 136) hx hb dX3_init_119 (by decide) (fun c2 => ?_) (fun c2 => ?_)
      · exact absurd c2 (nI_ge (show i < 6 by omega) (by decide))
      · refine lv_aload_n hx hb dX3_init_122 rfl (lv_at hl 1 rfl) ?_
        refine va_get (D := G) (ci := 3) (v := .ref (h 8)) (C := RX3) (T := TX3) (N := 14) hx hb hts nw_X3_init_X3 hown hK hw.1 0 rfl rfl 7 (by decide) hL3 (fun _ h9 => h9) rfl dX3_init_123 ?_
        refine lv_iload_n hx hb dX3_init_126 rfl (lv_at hl 0 rfl) ?_
        refine lv_bipush (v := (100 : Int32)) hx hb dX3_init_127 (by decide) ?_
        refine cd_iast (f := T 7) hx hb hK hw 8 rfl (cd_ix_nI (show i < 6 by omega) (by decide)) dX3_init_129 (fun H locs hw => ?_)
        have hw : cd_WS G A s.heap H locs (pc_town cI h (cd_set T 7 i (nI 100))) := (show ∀ (s9 : Nat → Nat → Int32) (y9 : Int32), cd_WS G A s.heap H locs (((pc_town cI h s9)).set 8 (h 8, .inl (cI, 6, .inl (upd (s9 7) i y9)))) → cd_WS G A s.heap H locs ((pc_town cI h (cd_set s9 7 i y9))) from fun _ _ hh => hh) T (nI 100) hw
        refine lv_iinc (v := nI (i + 1)) (lv' := [(1, .int (nI (i + 1))), (0, .ref (h 0))]) hx hb dX3_init_130 hl (k := 0) rfl (nI_1 i) (by decide) rfl (fun ls hl => ?_)
        refine lv_goto (tgt := 116) hx hb dX3_init_133 (by decide) ?_
        refine ih (i + 1) _ ls H locs (by omega) (fun k j h1 h2 h3 => ?_) hl hw
        by_cases e7 : k = 7
        · subst e7
          rw [cd_set_s]
          by_cases ej : j = i
          · rw [ej, pk_us]; rfl
          · rw [pk_un ej]; exact hq 7 j h1 h2 (fun _ => by have := h3 rfl; omega)
        · rw [cd_set_n _ _ e7]; exact hq k j h1 h2 (fun x => absurd x e7)
  have loop1 : ∀ (n i : Nat) (T : Nat → Nat → Int32) (ls : Array Slot) (H : Heap) (locs : List Loc), n + i = 12 → (∀ k j, k < 14 → j < q_len k → k ≠ 7 → (k = 6 → j < i) → T k j = nI (g_0 k j)) → lv_has ls 2 [(1, .int (nI i)), (0, .ref (h 0))] → cd_WS G A s.heap H locs (pc_town cI h T) → W p l e rm_X3_init s m ag below meth c H locs 10 106 Q (F0 m 92 ls []) := by
    intro n
    induction n with
    | zero =>
      intro i T ls H locs hi hq hl hw
      refine lv_iload_n hx hb dX3_init_92 rfl (lv_at hl 0 rfl) ?_
      refine lv_bipush (v := (12 : Int32)) hx hb dX3_init_93 (by decide) ?_
      refine lv_icmp_ge (tgt := 114) hx hb dX3_init_95 (by decide) (fun c2 => ?_) (fun c2 => ?_)
      · refine lv_iconst (v := (0 : Int32)) hx hb dX3_init_114 (by decide) ?_
        refine lv_istore_n (lv' := [(1, .int (0 : Int32)), (0, .ref (h 0))]) hx hb dX3_init_115 rfl hl (by decide) rfl (fun ls hl => ?_)
        refine loop2 6 0 T ls H locs rfl (fun k j h1 h2 h3 => ?_) hl hw
        by_cases e7 : k = 7
        · exact absurd (h3 e7) (Nat.not_lt_zero j)
        · exact hq k j h1 h2 e7 (fun e6 => by subst e6; have h3 : j < 12 := h2; omega)
      · exact absurd (nI_le (show 12 ≤ i by omega) (by omega)) c2
    | succ n ih =>
      intro i T ls H locs hi hq hl hw
      refine lv_iload_n hx hb dX3_init_92 rfl (lv_at hl 0 rfl) ?_
      refine lv_bipush (v := (12 : Int32)) hx hb dX3_init_93 (by decide) ?_
      refine lv_icmp_ge (tgt := 114) hx hb dX3_init_95 (by decide) (fun c2 => ?_) (fun c2 => ?_)
      · exact absurd c2 (nI_ge (show i < 12 by omega) (by decide))
      · refine lv_aload_n hx hb dX3_init_98 rfl (lv_at hl 1 rfl) ?_
        refine va_get (D := G) (ci := 3) (v := .ref (h 7)) (C := RX3) (T := TX3) (N := 14) hx hb hts nw_X3_init_X3 hown hK hw.1 0 rfl rfl 6 (by decide) hL0 (fun _ h9 => h9) rfl dX3_init_99 ?_
        refine lv_iload_n hx hb dX3_init_102 rfl (lv_at hl 0 rfl) ?_
        refine lv_iload_n hx hb dX3_init_103 rfl (lv_at hl 0 rfl) ?_
        refine cd_callSN (As := [.int (nI i)]) (rest := [.int (nI i), .ref (h 7)]) C0 hw (c_X5_bit l G cI cZ sa sb (nI i) (nI (2 ^ i)) (e_bit (show i < 31 by omega))) [] rfl rfl ⟨va_cnB 1 hts ggX3_init_X5_bit rfl rfl rfl (hE.2.1 (.methodLinkNest RX3 46 yX5_bit RX5) (by simp [cd_nest])) hL1 (by decide +kernel) ⟨Nat.le_of_ble_eq_true rfl, Nat.le_of_ble_eq_true rfl⟩, hL2, trivial⟩ rfl hl.1 (lv_room (Nat.le_of_ble_eq_true rfl)) dX3_init_104 (fun H locs hw => ?_) ⟨Nat.le_of_ble_eq_true rfl, Nat.le_of_ble_eq_true rfl⟩
        refine cd_iast (f := T 6) hx hb hK hw 7 rfl (cd_ix_nI (show i < 12 by omega) (by decide)) dX3_init_107 (fun H locs hw => ?_)
        have hw : cd_WS G A s.heap H locs (pc_town cI h (cd_set T 6 i (nI (2 ^ i)))) := (show ∀ (s9 : Nat → Nat → Int32) (y9 : Int32), cd_WS G A s.heap H locs (((pc_town cI h s9)).set 7 (h 7, .inl (cI, 12, .inl (upd (s9 6) i y9)))) → cd_WS G A s.heap H locs ((pc_town cI h (cd_set s9 6 i y9))) from fun _ _ hh => hh) T (nI (2 ^ i)) hw
        refine lv_iinc (v := nI (i + 1)) (lv' := [(1, .int (nI (i + 1))), (0, .ref (h 0))]) hx hb dX3_init_108 hl (k := 0) rfl (nI_1 i) (by decide) rfl (fun ls hl => ?_)
        refine lv_goto (tgt := 92) hx hb dX3_init_111 (by decide) ?_
        refine ih (i + 1) _ ls H locs (by omega) (fun k j h1 h2 h7 h3 => ?_) hl hw
        by_cases e6 : k = 6
        · subst e6
          rw [cd_set_s]
          by_cases ej : j = i
          · rw [ej, pk_us]; rfl
          · rw [pk_un ej]; exact hq 6 j h1 h2 h7 (fun _ => by have := h3 rfl; omega)
        · rw [cd_set_n _ _ e6]; exact hq k j h1 h2 h7 (fun x => absurd x e6)
  refine lv_iconst (v := (0 : Int32)) hx hb dX3_init_90 (by decide) ?_
  refine lv_istore_n (lv' := [(1, .int (0 : Int32)), (0, .ref (h 0))]) hx hb dX3_init_91 rfl hl (by decide) rfl (fun ls hl => ?_)
  refine loop1 12 0 _ ls H locs rfl (fun k j h1 h2 h7 h6 => ?_) hl hw
  by_cases e6 : k = 6
  · exact absurd (h6 e6) (Nat.not_lt_zero j)
  · unfold g_0
    rw [if_neg e6, if_neg h7]
    by_cases e12 : k = 12
    · subst e12; rfl
    · rw [cd_fld_n _ _ e12, if_neg e12]; rfl
