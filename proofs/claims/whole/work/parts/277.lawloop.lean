/-! the law: its loop -/
theorem lw_nat (x : Int32) : ∃ k : Nat, x = nI k := ⟨x.toBitVec.toNat, by
  apply Int32.toBitVec_inj.1
  show x.toBitVec = BitVec.ofNat 32 x.toBitVec.toNat
  simp⟩
theorem lw_31 (x : Int32) : ∃ j : Nat, j < 32 ∧ x &&& (31 : Int32) = nI j := by
  obtain ⟨k, rfl⟩ := lw_nat x
  exact ⟨k &&& 31, Nat.lt_succ_of_le Nat.and_le_right, q_and k 31⟩
section LOOP
variable {p : Program} {l : Launch} {e : Env} {s : State} {m : MethodId} {below : List Frame} {meth : Method} {c : Code} {Q : State → Prop} {G : va_G} {cI cZ : ClassId} {t1 t2 : Nat} {A : Nat → Prop} {b L : Nat} {xs : Nat → Int32} {h ht h1 h2 hp hy hs hv hz hm : Nat → Nat}
set_option maxHeartbeats 4000000 in
set_option maxRecDepth 100000 in
theorem lw_loop (C0 : cd_CX G cI cZ t1 t2 p s m #[Value.ref b] meth c code 4 ret wsL_law RL A) (hX : va_X b L xs s s.heap) (hbl : b < s.heap.size) (hbA : ¬ A b) (hL : L ≤ 384)
    (ke : ∀ (ls : Array Slot) (H : Heap) (locs : List Loc), va_S A s.heap H locs → W p l e room_1 s m #[Value.ref b] below meth c H locs 72 2623 Q (F0 m 1043 ls [])) : ∀ (n i : Nat) (K T T1 T2 P Y S V Z M : Nat → Nat → Int32) (ls : Array Slot) (H : Heap) (locs : List Loc), L < i + 6 * n → i ≤ 1000 → lw_R K T T1 T2 P M → cd_WS G A s.heap H locs (pc_all cI cZ h ht h1 h2 hp hy hs hv hz hm K T T1 T2 P Y S V Z M) → lv_has ls 4 [(3, .int (nI i)), (2, .ref (hm 0)), (1, .ref (h 0)), (0, .ref b)] → W p l e room_1 s m #[Value.ref b] below meth c H locs 72 2623 Q (F0 m 18 ls []) := by
  intro n
  induction n with
  | zero =>
    intro i K T T1 T2 P Y S V Z M ls H locs hn hi1 hR hw hl
    obtain ⟨⟨hx, hb, hml, hown, hts⟩, hr, hlocks, hA, hE⟩ := id C0
    refine lv_iload_n hx hb dL_law_18 rfl (lv_at hl 0 rfl) ?_
    refine lv_aload_n hx hb dL_law_19 rfl (lv_at hl 3 rfl) ?_
    refine va_slen hx hb hX hbl hbA hw.2.2 dL_law_20 ?_
    refine lv_bipush (v := nI 6) hx hb dL_law_21 (by decide) ?_
    refine lv_isub hx hb dL_law_23 ?_
    refine lv_icmp_gt (tgt := 1043) hx hb dL_law_24 (by decide) (fun c2 => ?_) (fun c2 => ?_)
    · exact ke ls H locs hw.2.2
    · exact absurd (show nI L - nI 6 < nI i by rw [cd_lt, pk_sub_toInt (by omega) (by decide), nI_toInt (by omega)]; omega) c2
  | succ n ih =>
    intro i K T T1 T2 P Y S V Z M ls H locs hn hi1 hR hw hl
    obtain ⟨⟨hx, hb, hml, hown, hts⟩, hr, hlocks, hA, hE⟩ := id C0
    refine lv_iload_n hx hb dL_law_18 rfl (lv_at hl 0 rfl) ?_
    refine lv_aload_n hx hb dL_law_19 rfl (lv_at hl 3 rfl) ?_
    refine va_slen hx hb hX hbl hbA hw.2.2 dL_law_20 ?_
    refine lv_bipush (v := nI 6) hx hb dL_law_21 (by decide) ?_
    refine lv_isub hx hb dL_law_23 ?_
    refine lv_icmp_gt (tgt := 1043) hx hb dL_law_24 (by decide) (fun c2 => ?_) (fun c2 => ?_)
    · exact ke ls H locs hw.2.2
    · have hi : i + 6 ≤ L := by
        have c3 : ¬ nI L - nI 6 < nI i := c2
        rw [cd_lt, pk_sub_toInt (by omega) (by decide), nI_toInt (by omega)] at c3
        omega
      have kk : ∀ (K T T1 T2 P Y S V Z M : Nat → Nat → Int32) (ls : Array Slot) (H : Heap) (locs : List Loc), lw_R K T T1 T2 P M → cd_WS G A s.heap H locs (pc_all cI cZ h ht h1 h2 hp hy hs hv hz hm K T T1 T2 P Y S V Z M) → lv_has ls 4 [(3, .int (nI i)), (2, .ref (hm 0)), (1, .ref (h 0)), (0, .ref b)] → W p l e room_1 s m #[Value.ref b] below meth c H locs 72 2623 Q (F0 m 1037 ls []) := by
        intro K T T1 T2 P Y S V Z M ls H locs hR hw hl
        refine lv_iinc (v := nI (i + 6)) (lv' := [(3, .int (nI (i + 6))), (2, .ref (hm 0)), (1, .ref (h 0)), (0, .ref b)]) hx hb dL_law_1037 hl (k := 0) rfl (nI_add i 6) (by decide) rfl (fun ls hl => ?_)
        refine lv_goto (tgt := 18) hx hb dL_law_1040 (by decide) ?_
        exact ih (i + 6) K T T1 T2 P Y S V Z M ls H locs (by omega) (by omega) hR hw hl
      refine lv_aload_n hx hb dL_law_27 rfl (lv_at hl 3 rfl) ?_
      refine lv_iload_n hx hb dL_law_28 rfl (lv_at hl 0 rfl) ?_
      refine va_sld hx hb hX hbl hbA hw.2.2 (nI_in (show i < L by omega) (by omega)) dL_law_29 ?_
      refine lv_bipush (v := (31 : Int32)) hx hb dL_law_30 (by decide) ?_
      refine lv_iand hx hb dL_law_32 ?_
      obtain ⟨j, hj, ej⟩ := lw_31 (xs (nI i).toNatClampNeg)
      rw [ej]
      rcases (show j = 0 ∨ j = 1 ∨ j = 2 ∨ j = 3 ∨ j = 4 ∨ j = 5 ∨ j = 6 ∨ j = 7 ∨ j = 8 ∨ j = 9 ∨ j = 10 ∨ j = 11 ∨ j = 12 ∨ j = 13 ∨ j = 14 ∨ j = 15 ∨ j = 16 ∨ j = 17 ∨ j = 18 ∨ j = 19 ∨ j = 20 ∨ j = 21 ∨ j = 22 ∨ j = 23 ∨ j = 24 ∨ j = 25 ∨ j = 26 ∨ j = 27 ∨ j = 28 ∨ j = 29 ∨ j = 30 ∨ j = 31 by omega) with rfl | rfl | rfl | rfl | rfl | rfl | rfl | rfl | rfl | rfl | rfl | rfl | rfl | rfl | rfl | rfl | rfl | rfl | rfl | rfl | rfl | rfl | rfl | rfl | rfl | rfl | rfl | rfl | rfl | rfl | rfl | rfl
      · refine lv_tableIn (off := 139) (tgt := 172) hx hb dL_law_33 (by decide) (by decide) (by decide) (by decide) ?_
        exact lw_c_0 C0 hX hbl hbA hi hL hR hw hl kk
      · refine lv_tableIn (off := 202) (tgt := 235) hx hb dL_law_33 (by decide) (by decide) (by decide) (by decide) ?_
        exact lw_c_1 C0 hX hbl hbA hi hL hR hw hl kk
      · refine lv_tableIn (off := 235) (tgt := 268) hx hb dL_law_33 (by decide) (by decide) (by decide) (by decide) ?_
        exact lw_c_2 C0 hX hbl hbA hi hL hR hw hl kk
      · refine lv_tableIn (off := 268) (tgt := 301) hx hb dL_law_33 (by decide) (by decide) (by decide) (by decide) ?_
        exact lw_c_3 C0 hX hbl hbA hi hL hR hw hl kk
      · refine lv_tableIn (off := 291) (tgt := 324) hx hb dL_law_33 (by decide) (by decide) (by decide) (by decide) ?_
        exact lw_c_4 C0 hX hbl hbA hi hL hR hw hl kk
      · refine lv_tableIn (off := 314) (tgt := 347) hx hb dL_law_33 (by decide) (by decide) (by decide) (by decide) ?_
        exact lw_c_5 C0 hX hbl hbA hi hL hR hw hl kk
      · refine lv_tableIn (off := 327) (tgt := 360) hx hb dL_law_33 (by decide) (by decide) (by decide) (by decide) ?_
        exact lw_c_6 C0 hX hbl hbA hi hL hR hw hl kk
      · refine lv_tableIn (off := 340) (tgt := 373) hx hb dL_law_33 (by decide) (by decide) (by decide) (by decide) ?_
        exact lw_c_7 C0 hX hbl hbA hi hL hR hw hl kk
      · refine lv_tableIn (off := 363) (tgt := 396) hx hb dL_law_33 (by decide) (by decide) (by decide) (by decide) ?_
        exact lw_c_8 C0 hX hbl hbA hi hL hR hw hl kk
      · refine lv_tableIn (off := 376) (tgt := 409) hx hb dL_law_33 (by decide) (by decide) (by decide) (by decide) ?_
        exact lw_c_9 C0 hX hbl hbA hi hL hR hw hl kk
      · refine lv_tableIn (off := 409) (tgt := 442) hx hb dL_law_33 (by decide) (by decide) (by decide) (by decide) ?_
        exact lw_c_10 C0 hX hbl hbA hi hL hR hw hl kk
      · refine lv_tableIn (off := 432) (tgt := 465) hx hb dL_law_33 (by decide) (by decide) (by decide) (by decide) ?_
        exact lw_c_11 C0 hX hbl hbA hi hL hR hw hl kk
      · refine lv_tableIn (off := 455) (tgt := 488) hx hb dL_law_33 (by decide) (by decide) (by decide) (by decide) ?_
        exact lw_c_12 C0 hX hbl hbA hi hL hR hw hl kk
      · refine lv_tableIn (off := 478) (tgt := 511) hx hb dL_law_33 (by decide) (by decide) (by decide) (by decide) ?_
        exact lw_c_13 C0 hX hbl hbA hi hL hR hw hl kk
      · refine lv_tableIn (off := 501) (tgt := 534) hx hb dL_law_33 (by decide) (by decide) (by decide) (by decide) ?_
        exact lw_c_14 C0 hX hbl hbA hi hL hR hw hl kk
      · refine lv_tableIn (off := 524) (tgt := 557) hx hb dL_law_33 (by decide) (by decide) (by decide) (by decide) ?_
        exact lw_c_15 C0 hX hbl hbA hi hL hR hw hl kk
      · refine lv_tableIn (off := 547) (tgt := 580) hx hb dL_law_33 (by decide) (by decide) (by decide) (by decide) ?_
        exact lw_c_16 C0 hX hbl hbA hi hL hR hw hl kk
      · refine lv_tableIn (off := 580) (tgt := 613) hx hb dL_law_33 (by decide) (by decide) (by decide) (by decide) ?_
        exact lw_c_17 C0 hX hbl hbA hi hL hR hw hl kk
      · refine lv_tableIn (off := 613) (tgt := 646) hx hb dL_law_33 (by decide) (by decide) (by decide) (by decide) ?_
        exact lw_c_18 C0 hX hbl hbA hi hL hR hw hl kk
      · refine lv_tableIn (off := 636) (tgt := 669) hx hb dL_law_33 (by decide) (by decide) (by decide) (by decide) ?_
        exact lw_c_19 C0 hX hbl hbA hi hL hR hw hl kk
      · refine lv_tableIn (off := 669) (tgt := 702) hx hb dL_law_33 (by decide) (by decide) (by decide) (by decide) ?_
        exact lw_c_20 C0 hX hbl hbA hi hL hR hw hl kk
      · refine lv_tableIn (off := 702) (tgt := 735) hx hb dL_law_33 (by decide) (by decide) (by decide) (by decide) ?_
        exact lw_c_21 C0 hX hbl hbA hi hL hR hw hl kk
      · refine lv_tableIn (off := 715) (tgt := 748) hx hb dL_law_33 (by decide) (by decide) (by decide) (by decide) ?_
        exact lw_c_22 C0 hX hbl hbA hi hL hR hw hl kk
      · refine lv_tableIn (off := 738) (tgt := 771) hx hb dL_law_33 (by decide) (by decide) (by decide) (by decide) ?_
        exact lw_c_23 C0 hX hbl hbA hi hL hR hw hl kk
      · refine lv_tableIn (off := 761) (tgt := 794) hx hb dL_law_33 (by decide) (by decide) (by decide) (by decide) ?_
        exact lw_c_24 C0 hX hbl hbA hi hL hR hw hl kk
      · refine lv_tableIn (off := 784) (tgt := 817) hx hb dL_law_33 (by decide) (by decide) (by decide) (by decide) ?_
        exact lw_c_25 C0 hX hbl hbA hi hL hR hw hl kk
      · refine lv_tableIn (off := 838) (tgt := 871) hx hb dL_law_33 (by decide) (by decide) (by decide) (by decide) ?_
        exact lw_c_26 C0 hX hbl hbA hi hL hR hw hl kk
      · refine lv_tableIn (off := 892) (tgt := 925) hx hb dL_law_33 (by decide) (by decide) (by decide) (by decide) ?_
        exact lw_c_27 C0 hX hbl hbA hi hL hR hw hl kk
      · refine lv_tableIn (off := 935) (tgt := 968) hx hb dL_law_33 (by decide) (by decide) (by decide) (by decide) ?_
        exact lw_c_28 C0 hX hbl hbA hi hL hR hw hl kk
      · refine lv_tableIn (off := 958) (tgt := 991) hx hb dL_law_33 (by decide) (by decide) (by decide) (by decide) ?_
        exact lw_c_29 C0 hX hbl hbA hi hL hR hw hl kk
      · refine lv_tableIn (off := 981) (tgt := 1014) hx hb dL_law_33 (by decide) (by decide) (by decide) (by decide) ?_
        exact lw_c_30 C0 hX hbl hbA hi hL hR hw hl kk
      · refine lv_tableOut (tgt := 1037) hx hb dL_law_33 (by decide) (by decide) ?_
        exact kk K T T1 T2 P Y S V Z M ls H locs hR hw hl
end LOOP
