/-! the law: what it starts from -/
theorem lw_st_rw {s : State} {b : Nat} {A : Nat → Prop} (hgv : (Jvm.Cond.and given_1 narrow_1).before #[Value.ref b] s = true) (hl : (Cond.laysStatic RX5 "ROW_WORTH" "[I").before #[Value.ref b] s = true) (hini : (Cond.initialized RX5).before #[Value.ref b] s = true) (hA : ∀ a : Nat, a < s.heap.size → ¬ A a) : ∃ t : Nat, va_Z RX5 "ROW_WORTH" "[I" (.ref t) A s s.heap ∧ va_T .int t 13 (fun j => .int (cd_rw j)) A s s.heap := by
  have hs := flat_of_before _ hgv
  have e0 := va_eqt (hs (.eq (.length (.static "CandleDebts" "ROW_WORTH" "[I")) (.int 13)) (by decide +kernel))
  have q0 := va_eqt (hs (.eq (.elem (.static "CandleDebts" "ROW_WORTH" "[I") (.int 0)) (.int 0)) (by decide +kernel))
  have q1 := va_eqt (hs (.eq (.elem (.static "CandleDebts" "ROW_WORTH" "[I") (.int 1)) (.int 1)) (by decide +kernel))
  have q2 := va_eqt (hs (.eq (.elem (.static "CandleDebts" "ROW_WORTH" "[I") (.int 2)) (.int 1)) (by decide +kernel))
  have q3 := va_eqt (hs (.eq (.elem (.static "CandleDebts" "ROW_WORTH" "[I") (.int 3)) (.int 2)) (by decide +kernel))
  have q4 := va_eqt (hs (.eq (.elem (.static "CandleDebts" "ROW_WORTH" "[I") (.int 4)) (.int 0)) (by decide +kernel))
  have q5 := va_eqt (hs (.eq (.elem (.static "CandleDebts" "ROW_WORTH" "[I") (.int 5)) (.int 3)) (by decide +kernel))
  have q6 := va_eqt (hs (.eq (.elem (.static "CandleDebts" "ROW_WORTH" "[I") (.int 6)) (.int 1)) (by decide +kernel))
  have q7 := va_eqt (hs (.eq (.elem (.static "CandleDebts" "ROW_WORTH" "[I") (.int 7)) (.int 1)) (by decide +kernel))
  have q8 := va_eqt (hs (.eq (.elem (.static "CandleDebts" "ROW_WORTH" "[I") (.int 8)) (.int 0)) (by decide +kernel))
  have q9 := va_eqt (hs (.eq (.elem (.static "CandleDebts" "ROW_WORTH" "[I") (.int 9)) (.int 3)) (by decide +kernel))
  have q10 := va_eqt (hs (.eq (.elem (.static "CandleDebts" "ROW_WORTH" "[I") (.int 10)) (.int 3)) (by decide +kernel))
  have q11 := va_eqt (hs (.eq (.elem (.static "CandleDebts" "ROW_WORTH" "[I") (.int 11)) (.int 2)) (by decide +kernel))
  have q12 := va_eqt (hs (.eq (.elem (.static "CandleDebts" "ROW_WORTH" "[I") (.int 12)) (.int 2)) (by decide +kernel))
  obtain ⟨t, h1, h2⟩ := va_Tof (tm := .static "CandleDebts" "ROW_WORTH" "[I") (ty := .int) (N := 13) (f := fun j => .int (cd_rw j)) (A := A) (by decide) (hs (.arrayOf (.static "CandleDebts" "ROW_WORTH" "[I") .int) (by decide +kernel)) e0 (fun j hj => by
    rcases (show j = 0 ∨ j = 1 ∨ j = 2 ∨ j = 3 ∨ j = 4 ∨ j = 5 ∨ j = 6 ∨ j = 7 ∨ j = 8 ∨ j = 9 ∨ j = 10 ∨ j = 11 ∨ j = 12 by omega) with rfl | rfl | rfl | rfl | rfl | rfl | rfl | rfl | rfl | rfl | rfl | rfl | rfl
    · exact q0
    · exact q1
    · exact q2
    · exact q3
    · exact q4
    · exact q5
    · exact q6
    · exact q7
    · exact q8
    · exact q9
    · exact q10
    · exact q11
    · exact q12) hA
  exact ⟨t, va_Zof hl hini h1 hA, h2⟩
theorem lw_st_dk {s : State} {b : Nat} {A : Nat → Prop} (hgv : (Jvm.Cond.and given_1 narrow_1).before #[Value.ref b] s = true) (hl : (Cond.laysStatic RX5 "DRAWN_KINDS" "[I").before #[Value.ref b] s = true) (hini : (Cond.initialized RX5).before #[Value.ref b] s = true) (hA : ∀ a : Nat, a < s.heap.size → ¬ A a) : ∃ t : Nat, va_Z RX5 "DRAWN_KINDS" "[I" (.ref t) A s s.heap ∧ va_T .int t 8 (fun j => .int (cd_dk j)) A s s.heap := by
  have hs := flat_of_before _ hgv
  have e0 := va_eqt (hs (.eq (.length (.static "CandleDebts" "DRAWN_KINDS" "[I")) (.int 8)) (by decide +kernel))
  have q0 := va_eqt (hs (.eq (.elem (.static "CandleDebts" "DRAWN_KINDS" "[I") (.int 0)) (.int 42)) (by decide +kernel))
  have q1 := va_eqt (hs (.eq (.elem (.static "CandleDebts" "DRAWN_KINDS" "[I") (.int 1)) (.int 45)) (by decide +kernel))
  have q2 := va_eqt (hs (.eq (.elem (.static "CandleDebts" "DRAWN_KINDS" "[I") (.int 2)) (.int 33)) (by decide +kernel))
  have q3 := va_eqt (hs (.eq (.elem (.static "CandleDebts" "DRAWN_KINDS" "[I") (.int 3)) (.int 94)) (by decide +kernel))
  have q4 := va_eqt (hs (.eq (.elem (.static "CandleDebts" "DRAWN_KINDS" "[I") (.int 4)) (.int 62)) (by decide +kernel))
  have q5 := va_eqt (hs (.eq (.elem (.static "CandleDebts" "DRAWN_KINDS" "[I") (.int 5)) (.int 119)) (by decide +kernel))
  have q6 := va_eqt (hs (.eq (.elem (.static "CandleDebts" "DRAWN_KINDS" "[I") (.int 6)) (.int 46)) (by decide +kernel))
  have q7 := va_eqt (hs (.eq (.elem (.static "CandleDebts" "DRAWN_KINDS" "[I") (.int 7)) (.int 46)) (by decide +kernel))
  obtain ⟨t, h1, h2⟩ := va_Tof (tm := .static "CandleDebts" "DRAWN_KINDS" "[I") (ty := .int) (N := 8) (f := fun j => .int (cd_dk j)) (A := A) (by decide) (hs (.arrayOf (.static "CandleDebts" "DRAWN_KINDS" "[I") .int) (by decide +kernel)) e0 (fun j hj => by
    rcases (show j = 0 ∨ j = 1 ∨ j = 2 ∨ j = 3 ∨ j = 4 ∨ j = 5 ∨ j = 6 ∨ j = 7 by omega) with rfl | rfl | rfl | rfl | rfl | rfl | rfl | rfl
    · exact q0
    · exact q1
    · exact q2
    · exact q3
    · exact q4
    · exact q5
    · exact q6
    · exact q7) hA
  exact ⟨t, va_Zof hl hini h1 hA, h2⟩
set_option maxRecDepth 20000 in
theorem lw_nest : ∀ w ∈ cd_nest, w ∈ lw_tbl := by decide +kernel
theorem lw_NX {s : State} {b : Nat} (hts : ∀ w ∈ lw_tbl, w.before #[Value.ref b] s = true) : cd_NX s := by
  intro w hw
  have h := hts w (lw_nest w hw)
  rcases cd_nest_kind w hw with ⟨a, i, x, q, rfl⟩ | ⟨a, i, b, n, d, q, rfl⟩
  · exact va_Nw.of rfl h
  · exact va_Nw.of rfl h
theorem lw_K {s : State} {b : Nat} (hts : ∀ w ∈ lw_tbl, w.before #[Value.ref b] s = true) : ∃ (G : va_G) (cI cZ : ClassId), va_K G vwCl [(cI, .int), (cZ, .boolean)] s := by
  have tb : ∀ w ∈ tables_1, w.before #[Value.ref b] s = true := fun w h => hts w (List.mem_append_right _ h)
  obtain ⟨c0, i0, k0⟩ := u_known (C := RX0) (T := TX0) (N := 6) (n := 6) hts inX0 (tb _ lw_p1.2.1)
  obtain ⟨c1, i1, k1⟩ := u_known (C := RX1) (T := TX1) (N := 6) (n := 6) hts inX1 (tb _ lw_p6.2.1)
  obtain ⟨c2, i2, k2⟩ := u_known (C := RX2) (T := TX2) (N := 3) (n := 3) hts inX2 (tb _ lw_p19.2.1)
  obtain ⟨c3, i3, k3⟩ := u_known (C := RX3) (T := TX3) (N := 14) (n := 14) hts inX3 (tb _ lw_p0.2.1)
  obtain ⟨c4, i4, k4⟩ := u_known (C := RX4) (T := TX4) (N := 5) (n := 5) hts inX4 (tb _ lw_p13.2.1)
  obtain ⟨c5, i5, k5⟩ := u_known (C := RX5) (T := TX5) (N := 8) (n := 8) hts inX5 (tb _ lw_p12.2.1)
  obtain ⟨c6, i6, k6⟩ := u_known (C := RX6) (T := TX6) (N := 22) (n := 22) hts inX6 (tb _ lw_p24.2.1)
  obtain ⟨cI, kI, pI, fI, eI, gI⟩ := Cond.arrayClass_spec (hts (.arrayClass .int) (List.mem_of_getElem? (i := 139) (by decide +kernel)))
  obtain ⟨cZ, kZ, pZ, fZ, eZ, gZ⟩ := Cond.arrayClass_spec (hts (.arrayClass .boolean) (List.mem_of_getElem? (i := 171) (by decide +kernel)))
  refine ⟨(fun k => ([c0, c1, c2, c3, c4, c5, c6] : List ClassId).getD k c0, fun k => ([i0, i1, i2, i3, i4, i5, i6] : List (Nat → Nat)).getD k i0), cI, cZ, fun k q hq => ?_, fun k q hq => ?_⟩
  · match k, hq with
    | 0, hq => cases hq; exact k0
    | 1, hq => cases hq; exact k1
    | 2, hq => cases hq; exact k2
    | 3, hq => cases hq; exact k3
    | 4, hq => cases hq; exact k4
    | 5, hq => cases hq; exact k5
    | 6, hq => cases hq; exact k6
    | k + 7, hq => simp [vwCl] at hq
  · match k, hq with
    | 0, hq => cases hq; exact ⟨fun n z => ⟨fun k h => (by cases h), kI, eI, pI, gI⟩, fI⟩
    | 1, hq => cases hq; exact ⟨fun n z => ⟨fun k h => (by cases h), kZ, eZ, pZ, gZ⟩, fZ⟩
    | k + 2, hq => simp at hq
theorem lw_b0 : ∀ k, k < 14 → q_of k < 69 → ∀ j, j < 12 → j < q_len k → q_of k + j < 69 ∧ b_0 (q_of k + j) = g_0 k j := by decide +kernel
theorem lw_R0 {T T1 T2 M : Nat → Nat → Int32} (hT : q_T T g_0) (h0 : ∀ j, j < 69 → M 0 j = nI (b_0 j)) (hz : ∀ k, k ≠ 0 → M k = fun _ => 0) : lw_R (fun _ _ => 0) T T1 T2 (fun _ _ => 0) M := by
  refine ⟨g_0, fun _ => 0, 0, ⟨hT, fun k j hk ho hj => ?_, ⟨fun j hj => ?_, fun j hj => ?_⟩, ⟨?_, fun i hi => ⟨?_, ?_⟩⟩, g_0_ok⟩, ⟨by decide, fun i hi => absurd hi (Nat.not_lt_zero i)⟩, ⟨rfl, fun i hi => absurd hi (Nat.not_lt_zero i)⟩, ⟨?_, fun i hi => absurd hi (Nat.not_lt_zero i)⟩, ⟨false, rfl, ?_, fun h => absurd h (by decide)⟩, ⟨false, rfl, ?_, fun h => absurd h (by decide)⟩⟩
  · have q := lw_b0 k hk ho j (Nat.lt_of_lt_of_le hj (q_len_le k hk)) hj
    rw [h0 _ q.1, q.2]
  · rw [hz 2 (by decide)]; rfl
  · rw [hz 3 (by decide)]; rfl
  · rw [hz 4 (by decide)]; rfl
  · rw [hz 5 (by decide)]; rfl
  · rw [hz 5 (by decide)]; rfl
  · rw [hz 6 (by decide)]; rfl
  · rw [hz 21 (by decide)]; rfl
  · rw [hz 21 (by decide)]; rfl
