/-! the law: words 18 .. -/
section LAWC
variable {p : Program} {l : Launch} {e : Env} {s : State} {m : MethodId} {below : List Frame} {meth : Method} {c : Code} {H : Heap} {locs : List Loc} {Q : State → Prop} {G : va_G} {cI cZ : ClassId} {t1 t2 : Nat} {A : Nat → Prop} {ls : Array Slot} {b L i : Nat} {xs : Nat → Int32} {h ht h1 h2 hp hy hs hv hz hm : Nat → Nat} {K T T1 T2 P Y S V Z M : Nat → Nat → Int32}
set_option maxHeartbeats 4000000 in
set_option maxRecDepth 100000 in
theorem lw_c_18 (C0 : cd_CX G cI cZ t1 t2 p s m #[Value.ref b] meth c code 4 ret wsL_law RL A) (hX : va_X b L xs s s.heap) (hbl : b < s.heap.size) (hbA : ¬ A b) (hi : i + 6 ≤ L) (hL : L ≤ 384) (hR : lw_R K T T1 T2 P M) (hw : cd_WS G A s.heap H locs (pc_all cI cZ h ht h1 h2 hp hy hs hv hz hm K T T1 T2 P Y S V Z M)) (hl : lv_has ls 4 [(3, .int (nI i)), (2, .ref (hm 0)), (1, .ref (h 0)), (0, .ref b)])
    (kk : ∀ (K T T1 T2 P Y S V Z M : Nat → Nat → Int32) (ls : Array Slot) (H : Heap) (locs : List Loc), lw_R K T T1 T2 P M → cd_WS G A s.heap H locs (pc_all cI cZ h ht h1 h2 hp hy hs hv hz hm K T T1 T2 P Y S V Z M) → lv_has ls 4 [(3, .int (nI i)), (2, .ref (hm 0)), (1, .ref (h 0)), (0, .ref b)] → W p l e room_1 s m #[Value.ref b] below meth c H locs 72 2623 Q (F0 m 1037 ls [])) : W p l e room_1 s m #[Value.ref b] below meth c H locs 72 2623 Q (F0 m 646 ls []) := by
  obtain ⟨⟨hx, hb, hml, hown, hts⟩, hr, hlocks, hA, hE⟩ := id C0
  obtain ⟨g, sg, n, hXX, hd, hP, h6, i0, i1⟩ := id hR
  obtain ⟨v, e1, e2⟩ := m_jubilee hXX K (xs (i + 1))
  refine lv_aload_n hx hb dL_law_646 rfl (lv_at hl 2 rfl) ?_
  refine lw_ld (j := 1) hx hb hX hbl hbA hi hL hw.2.2 hl (by decide) (by decide) dL_law_647 dL_law_648 dL_law_649 dL_law_650 dL_law_651 ?_
  refine lw_call_kt (As := [.int (xs (i + 1))]) (rest := []) C0 hw (c_X5_jubilee l G cI cZ t1 t2 h ht h1 h2 hp hy hs hv hz K T (xs (i + 1)) v e1) (cwV 1 hts gL_law_X5_jubilee rfl rfl rfl (by decide +kernel) ⟨Nat.le_of_ble_eq_true rfl, Nat.le_of_ble_eq_true rfl⟩) rfl hl.1 (lv_room (Nat.le_of_ble_eq_true rfl)) dL_law_652 (fun H locs hw => ?_)
  refine lv_aload_n hx hb dL_law_655 rfl (lv_at hl 1 rfl) ?_
  refine lw_ld (j := 1) hx hb hX hbl hbA hi hL hw.2.2 hl (by decide) (by decide) dL_law_656 dL_law_657 dL_law_658 dL_law_659 dL_law_660 ?_
  refine lw_call_m (As := [.int (xs (i + 1))]) (rest := [.int v]) C0 hw (c_X6_jubilee l G cI cZ t1 t2 hm M (xs (i + 1)) v e2) (cwV 1 hts gL_law_X6_jubilee rfl rfl rfl (by decide +kernel) ⟨Nat.le_of_ble_eq_true rfl, Nat.le_of_ble_eq_true rfl⟩) rfl hl.1 (lv_room (Nat.le_of_ble_eq_true rfl)) dL_law_661 (fun H locs hw => ?_)
  refine lv_icmp_eq (tgt := 1037) hx hb dL_law_664 (by decide) (fun _ => ?_) (fun c9 => absurd rfl c9)
  exact kk K T T1 T2 P Y S V Z M ls H locs (hR) hw hl
set_option maxHeartbeats 4000000 in
set_option maxRecDepth 100000 in
theorem lw_c_19 (C0 : cd_CX G cI cZ t1 t2 p s m #[Value.ref b] meth c code 4 ret wsL_law RL A) (hX : va_X b L xs s s.heap) (hbl : b < s.heap.size) (hbA : ¬ A b) (hi : i + 6 ≤ L) (hL : L ≤ 384) (hR : lw_R K T T1 T2 P M) (hw : cd_WS G A s.heap H locs (pc_all cI cZ h ht h1 h2 hp hy hs hv hz hm K T T1 T2 P Y S V Z M)) (hl : lv_has ls 4 [(3, .int (nI i)), (2, .ref (hm 0)), (1, .ref (h 0)), (0, .ref b)])
    (kk : ∀ (K T T1 T2 P Y S V Z M : Nat → Nat → Int32) (ls : Array Slot) (H : Heap) (locs : List Loc), lw_R K T T1 T2 P M → cd_WS G A s.heap H locs (pc_all cI cZ h ht h1 h2 hp hy hs hv hz hm K T T1 T2 P Y S V Z M) → lv_has ls 4 [(3, .int (nI i)), (2, .ref (hm 0)), (1, .ref (h 0)), (0, .ref b)] → W p l e room_1 s m #[Value.ref b] below meth c H locs 72 2623 Q (F0 m 1037 ls [])) : W p l e room_1 s m #[Value.ref b] below meth c H locs 72 2623 Q (F0 m 669 ls []) := by
  obtain ⟨⟨hx, hb, hml, hown, hts⟩, hr, hlocks, hA, hE⟩ := id C0
  obtain ⟨g, sg, n, hXX, hd, hP, h6, i0, i1⟩ := id hR
  obtain ⟨v, e1, e2⟩ := m_trims hXX K (xs (i + 1)) (xs (i + 2))
  refine lv_aload_n hx hb dL_law_669 rfl (lv_at hl 2 rfl) ?_
  refine lw_ld (j := 1) hx hb hX hbl hbA hi hL hw.2.2 hl (by decide) (by decide) dL_law_670 dL_law_671 dL_law_672 dL_law_673 dL_law_674 ?_
  refine lw_ld (j := 2) hx hb hX hbl hbA hi hL hw.2.2 hl (by decide) (by decide) dL_law_675 dL_law_676 dL_law_677 dL_law_678 dL_law_679 ?_
  refine lw_call_kt (As := [.int (xs (i + 1)), .int (xs (i + 2))]) (rest := []) C0 hw (c_X5_trims l G cI cZ t1 t2 h ht h1 h2 hp hy hs hv hz K T (xs (i + 1)) (xs (i + 2)) v e1) (cwV 2 hts gL_law_X5_trims rfl rfl rfl (by decide +kernel) ⟨Nat.le_of_ble_eq_true rfl, Nat.le_of_ble_eq_true rfl⟩) rfl hl.1 (lv_room (Nat.le_of_ble_eq_true rfl)) dL_law_680 (fun H locs hw => ?_)
  refine lv_aload_n hx hb dL_law_683 rfl (lv_at hl 1 rfl) ?_
  refine lw_ld (j := 1) hx hb hX hbl hbA hi hL hw.2.2 hl (by decide) (by decide) dL_law_684 dL_law_685 dL_law_686 dL_law_687 dL_law_688 ?_
  refine lw_ld (j := 2) hx hb hX hbl hbA hi hL hw.2.2 hl (by decide) (by decide) dL_law_689 dL_law_690 dL_law_691 dL_law_692 dL_law_693 ?_
  refine lw_call_m (As := [.int (xs (i + 1)), .int (xs (i + 2))]) (rest := [.int v]) C0 hw (c_X6_trims l G cI cZ t1 t2 hm M (xs (i + 1)) (xs (i + 2)) v e2) (cwV 2 hts gL_law_X6_trims rfl rfl rfl (by decide +kernel) ⟨Nat.le_of_ble_eq_true rfl, Nat.le_of_ble_eq_true rfl⟩) rfl hl.1 (lv_room (Nat.le_of_ble_eq_true rfl)) dL_law_694 (fun H locs hw => ?_)
  refine lv_icmp_eq (tgt := 1037) hx hb dL_law_697 (by decide) (fun _ => ?_) (fun c9 => absurd rfl c9)
  exact kk K T T1 T2 P Y S V Z M ls H locs (hR) hw hl
set_option maxHeartbeats 4000000 in
set_option maxRecDepth 100000 in
theorem lw_c_20 (C0 : cd_CX G cI cZ t1 t2 p s m #[Value.ref b] meth c code 4 ret wsL_law RL A) (hX : va_X b L xs s s.heap) (hbl : b < s.heap.size) (hbA : ¬ A b) (hi : i + 6 ≤ L) (hL : L ≤ 384) (hR : lw_R K T T1 T2 P M) (hw : cd_WS G A s.heap H locs (pc_all cI cZ h ht h1 h2 hp hy hs hv hz hm K T T1 T2 P Y S V Z M)) (hl : lv_has ls 4 [(3, .int (nI i)), (2, .ref (hm 0)), (1, .ref (h 0)), (0, .ref b)])
    (kk : ∀ (K T T1 T2 P Y S V Z M : Nat → Nat → Int32) (ls : Array Slot) (H : Heap) (locs : List Loc), lw_R K T T1 T2 P M → cd_WS G A s.heap H locs (pc_all cI cZ h ht h1 h2 hp hy hs hv hz hm K T T1 T2 P Y S V Z M) → lv_has ls 4 [(3, .int (nI i)), (2, .ref (hm 0)), (1, .ref (h 0)), (0, .ref b)] → W p l e room_1 s m #[Value.ref b] below meth c H locs 72 2623 Q (F0 m 1037 ls [])) : W p l e room_1 s m #[Value.ref b] below meth c H locs 72 2623 Q (F0 m 702 ls []) := by
  obtain ⟨⟨hx, hb, hml, hown, hts⟩, hr, hlocks, hA, hE⟩ := id C0
  obtain ⟨g, sg, n, hXX, hd, hP, h6, i0, i1⟩ := id hR
  obtain ⟨v, T', M', g', e1, e2, hX', ho⟩ := m_seen hXX K (xs (i + 1)) (xs (i + 2))
  refine lv_aload_n hx hb dL_law_702 rfl (lv_at hl 2 rfl) ?_
  refine lw_ld (j := 1) hx hb hX hbl hbA hi hL hw.2.2 hl (by decide) (by decide) dL_law_703 dL_law_704 dL_law_705 dL_law_706 dL_law_707 ?_
  refine lw_ld (j := 2) hx hb hX hbl hbA hi hL hw.2.2 hl (by decide) (by decide) dL_law_708 dL_law_709 dL_law_710 dL_law_711 dL_law_712 ?_
  refine lw_call_kt (As := [.int (xs (i + 1)), .int (xs (i + 2))]) (rest := []) C0 hw (c_X5_seen l G cI cZ t1 t2 h ht h1 h2 hp hy hs hv hz K T (xs (i + 1)) (xs (i + 2)) (v, T') e1) (cwV 2 hts gL_law_X5_seen rfl rfl rfl (by decide +kernel) ⟨Nat.le_of_ble_eq_true rfl, Nat.le_of_ble_eq_true rfl⟩) rfl hl.1 (lv_room (Nat.le_of_ble_eq_true rfl)) dL_law_713 (fun H locs hw => ?_)
  refine lv_aload_n hx hb dL_law_716 rfl (lv_at hl 1 rfl) ?_
  refine lw_ld (j := 1) hx hb hX hbl hbA hi hL hw.2.2 hl (by decide) (by decide) dL_law_717 dL_law_718 dL_law_719 dL_law_720 dL_law_721 ?_
  refine lw_ld (j := 2) hx hb hX hbl hbA hi hL hw.2.2 hl (by decide) (by decide) dL_law_722 dL_law_723 dL_law_724 dL_law_725 dL_law_726 ?_
  refine lw_call_m (As := [.int (xs (i + 1)), .int (xs (i + 2))]) (rest := [.int v]) C0 hw (c_X6_seen l G cI cZ t1 t2 hm M (xs (i + 1)) (xs (i + 2)) (v, M') e2) (cwV 2 hts gL_law_X6_seen rfl rfl rfl (by decide +kernel) ⟨Nat.le_of_ble_eq_true rfl, Nat.le_of_ble_eq_true rfl⟩) rfl hl.1 (lv_room (Nat.le_of_ble_eq_true rfl)) dL_law_727 (fun H locs hw => ?_)
  refine lv_icmp_eq (tgt := 1037) hx hb dL_law_730 (by decide) (fun _ => ?_) (fun c9 => absurd rfl c9)
  exact kk K T' T1 T2 P Y S V Z M' ls H locs (⟨g', sg, n, hX', hd, hP, h6.oth ho, i0.same ho.2.2.1 ho.2.2.2, i1.same ho.2.2.1 ho.2.2.2⟩) hw hl
set_option maxHeartbeats 4000000 in
set_option maxRecDepth 100000 in
theorem lw_c_21 (C0 : cd_CX G cI cZ t1 t2 p s m #[Value.ref b] meth c code 4 ret wsL_law RL A) (hX : va_X b L xs s s.heap) (hbl : b < s.heap.size) (hbA : ¬ A b) (hi : i + 6 ≤ L) (hL : L ≤ 384) (hR : lw_R K T T1 T2 P M) (hw : cd_WS G A s.heap H locs (pc_all cI cZ h ht h1 h2 hp hy hs hv hz hm K T T1 T2 P Y S V Z M)) (hl : lv_has ls 4 [(3, .int (nI i)), (2, .ref (hm 0)), (1, .ref (h 0)), (0, .ref b)])
    (kk : ∀ (K T T1 T2 P Y S V Z M : Nat → Nat → Int32) (ls : Array Slot) (H : Heap) (locs : List Loc), lw_R K T T1 T2 P M → cd_WS G A s.heap H locs (pc_all cI cZ h ht h1 h2 hp hy hs hv hz hm K T T1 T2 P Y S V Z M) → lv_has ls 4 [(3, .int (nI i)), (2, .ref (hm 0)), (1, .ref (h 0)), (0, .ref b)] → W p l e room_1 s m #[Value.ref b] below meth c H locs 72 2623 Q (F0 m 1037 ls [])) : W p l e room_1 s m #[Value.ref b] below meth c H locs 72 2623 Q (F0 m 735 ls []) := by
  obtain ⟨⟨hx, hb, hml, hown, hts⟩, hr, hlocks, hA, hE⟩ := id C0
  obtain ⟨g, sg, n, hXX, hd, hP, h6, i0, i1⟩ := id hR
  obtain ⟨v, T', M', g', e1, e2, hX', ho⟩ := m_forget hXX K 
  refine lv_aload_n hx hb dL_law_735 rfl (lv_at hl 2 rfl) ?_
  refine lw_call_kt (As := []) (rest := []) C0 hw (c_X5_forget l G cI cZ t1 t2 h ht h1 h2 hp hy hs hv hz K T  (v, T') e1) (cwV 0 hts gL_law_X5_forget rfl rfl rfl (by decide +kernel) ⟨Nat.le_of_ble_eq_true rfl, Nat.le_of_ble_eq_true rfl⟩) rfl hl.1 (lv_room (Nat.le_of_ble_eq_true rfl)) dL_law_736 (fun H locs hw => ?_)
  refine lv_aload_n hx hb dL_law_739 rfl (lv_at hl 1 rfl) ?_
  refine lw_call_m (As := []) (rest := [.int v]) C0 hw (c_X6_forget l G cI cZ t1 t2 hm M  (v, M') e2) (cwV 0 hts gL_law_X6_forget rfl rfl rfl (by decide +kernel) ⟨Nat.le_of_ble_eq_true rfl, Nat.le_of_ble_eq_true rfl⟩) rfl hl.1 (lv_room (Nat.le_of_ble_eq_true rfl)) dL_law_740 (fun H locs hw => ?_)
  refine lv_icmp_eq (tgt := 1037) hx hb dL_law_743 (by decide) (fun _ => ?_) (fun c9 => absurd rfl c9)
  exact kk K T' T1 T2 P Y S V Z M' ls H locs (⟨g', sg, n, hX', hd, hP, h6.oth ho, i0.same ho.2.2.1 ho.2.2.2, i1.same ho.2.2.1 ho.2.2.2⟩) hw hl
set_option maxHeartbeats 4000000 in
set_option maxRecDepth 100000 in
theorem lw_c_22 (C0 : cd_CX G cI cZ t1 t2 p s m #[Value.ref b] meth c code 4 ret wsL_law RL A) (hX : va_X b L xs s s.heap) (hbl : b < s.heap.size) (hbA : ¬ A b) (hi : i + 6 ≤ L) (hL : L ≤ 384) (hR : lw_R K T T1 T2 P M) (hw : cd_WS G A s.heap H locs (pc_all cI cZ h ht h1 h2 hp hy hs hv hz hm K T T1 T2 P Y S V Z M)) (hl : lv_has ls 4 [(3, .int (nI i)), (2, .ref (hm 0)), (1, .ref (h 0)), (0, .ref b)])
    (kk : ∀ (K T T1 T2 P Y S V Z M : Nat → Nat → Int32) (ls : Array Slot) (H : Heap) (locs : List Loc), lw_R K T T1 T2 P M → cd_WS G A s.heap H locs (pc_all cI cZ h ht h1 h2 hp hy hs hv hz hm K T T1 T2 P Y S V Z M) → lv_has ls 4 [(3, .int (nI i)), (2, .ref (hm 0)), (1, .ref (h 0)), (0, .ref b)] → W p l e room_1 s m #[Value.ref b] below meth c H locs 72 2623 Q (F0 m 1037 ls [])) : W p l e room_1 s m #[Value.ref b] below meth c H locs 72 2623 Q (F0 m 748 ls []) := by
  obtain ⟨⟨hx, hb, hml, hown, hts⟩, hr, hlocks, hA, hE⟩ := id C0
  obtain ⟨g, sg, n, hXX, hd, hP, h6, i0, i1⟩ := id hR
  obtain ⟨v, Z', M', e1, e2, hsm⟩ := m_sneezes hXX K Z (xs (i + 1))
  refine lv_aload_n hx hb dL_law_748 rfl (lv_at hl 2 rfl) ?_
  refine lw_ld (j := 1) hx hb hX hbl hbA hi hL hw.2.2 hl (by decide) (by decide) dL_law_749 dL_law_750 dL_law_751 dL_law_752 dL_law_753 ?_
  refine lw_call_ktz (As := [.int (xs (i + 1))]) (rest := []) C0 hw (c_X5_sneezes l G cI cZ t1 t2 h ht h1 h2 hp hy hs hv hz K T Z (xs (i + 1)) (v, Z') e1) (cwV 1 hts gL_law_X5_sneezes rfl rfl rfl (by decide +kernel) ⟨Nat.le_of_ble_eq_true rfl, Nat.le_of_ble_eq_true rfl⟩) rfl hl.1 (lv_room (Nat.le_of_ble_eq_true rfl)) dL_law_754 (fun H locs hw => ?_)
  refine lv_aload_n hx hb dL_law_757 rfl (lv_at hl 1 rfl) ?_
  refine lw_ld (j := 1) hx hb hX hbl hbA hi hL hw.2.2 hl (by decide) (by decide) dL_law_758 dL_law_759 dL_law_760 dL_law_761 dL_law_762 ?_
  refine lw_call_m (As := [.int (xs (i + 1))]) (rest := [.int v]) C0 hw (c_X6_sneezes l G cI cZ t1 t2 hm M (xs (i + 1)) (v, M') e2) (cwV 1 hts gL_law_X6_sneezes rfl rfl rfl (by decide +kernel) ⟨Nat.le_of_ble_eq_true rfl, Nat.le_of_ble_eq_true rfl⟩) rfl hl.1 (lv_room (Nat.le_of_ble_eq_true rfl)) dL_law_763 (fun H locs hw => ?_)
  refine lv_icmp_eq (tgt := 1037) hx hb dL_law_766 (by decide) (fun _ => ?_) (fun c9 => absurd rfl c9)
  exact kk K T T1 T2 P Y S V Z' M' ls H locs (lw_R.sm hR hsm) hw hl
set_option maxHeartbeats 4000000 in
set_option maxRecDepth 100000 in
theorem lw_c_23 (C0 : cd_CX G cI cZ t1 t2 p s m #[Value.ref b] meth c code 4 ret wsL_law RL A) (hX : va_X b L xs s s.heap) (hbl : b < s.heap.size) (hbA : ¬ A b) (hi : i + 6 ≤ L) (hL : L ≤ 384) (hR : lw_R K T T1 T2 P M) (hw : cd_WS G A s.heap H locs (pc_all cI cZ h ht h1 h2 hp hy hs hv hz hm K T T1 T2 P Y S V Z M)) (hl : lv_has ls 4 [(3, .int (nI i)), (2, .ref (hm 0)), (1, .ref (h 0)), (0, .ref b)])
    (kk : ∀ (K T T1 T2 P Y S V Z M : Nat → Nat → Int32) (ls : Array Slot) (H : Heap) (locs : List Loc), lw_R K T T1 T2 P M → cd_WS G A s.heap H locs (pc_all cI cZ h ht h1 h2 hp hy hs hv hz hm K T T1 T2 P Y S V Z M) → lv_has ls 4 [(3, .int (nI i)), (2, .ref (hm 0)), (1, .ref (h 0)), (0, .ref b)] → W p l e room_1 s m #[Value.ref b] below meth c H locs 72 2623 Q (F0 m 1037 ls [])) : W p l e room_1 s m #[Value.ref b] below meth c H locs 72 2623 Q (F0 m 771 ls []) := by
  obtain ⟨⟨hx, hb, hml, hown, hts⟩, hr, hlocks, hA, hE⟩ := id C0
  obtain ⟨g, sg, n, hXX, hd, hP, h6, i0, i1⟩ := id hR
  obtain ⟨v, Z', M', e1, e2, hsm⟩ := m_look hXX K Z (xs (i + 1))
  refine lv_aload_n hx hb dL_law_771 rfl (lv_at hl 2 rfl) ?_
  refine lw_ld (j := 1) hx hb hX hbl hbA hi hL hw.2.2 hl (by decide) (by decide) dL_law_772 dL_law_773 dL_law_774 dL_law_775 dL_law_776 ?_
  refine lw_call_ktz (As := [.int (xs (i + 1))]) (rest := []) C0 hw (c_X5_look l G cI cZ t1 t2 h ht h1 h2 hp hy hs hv hz K T Z (xs (i + 1)) (v, Z') e1) (cwV 1 hts gL_law_X5_look rfl rfl rfl (by decide +kernel) ⟨Nat.le_of_ble_eq_true rfl, Nat.le_of_ble_eq_true rfl⟩) rfl hl.1 (lv_room (Nat.le_of_ble_eq_true rfl)) dL_law_777 (fun H locs hw => ?_)
  refine lv_aload_n hx hb dL_law_780 rfl (lv_at hl 1 rfl) ?_
  refine lw_ld (j := 1) hx hb hX hbl hbA hi hL hw.2.2 hl (by decide) (by decide) dL_law_781 dL_law_782 dL_law_783 dL_law_784 dL_law_785 ?_
  refine lw_call_m (As := [.int (xs (i + 1))]) (rest := [.int v]) C0 hw (c_X6_look l G cI cZ t1 t2 hm M (xs (i + 1)) (v, M') e2) (cwV 1 hts gL_law_X6_look rfl rfl rfl (by decide +kernel) ⟨Nat.le_of_ble_eq_true rfl, Nat.le_of_ble_eq_true rfl⟩) rfl hl.1 (lv_room (Nat.le_of_ble_eq_true rfl)) dL_law_786 (fun H locs hw => ?_)
  refine lv_icmp_eq (tgt := 1037) hx hb dL_law_789 (by decide) (fun _ => ?_) (fun c9 => absurd rfl c9)
  exact kk K T T1 T2 P Y S V Z' M' ls H locs (lw_R.sm hR hsm) hw hl
end LAWC
