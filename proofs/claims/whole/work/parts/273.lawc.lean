/-! the law: words 12 .. -/
section LAWC
variable {p : Program} {l : Launch} {e : Env} {s : State} {m : MethodId} {below : List Frame} {meth : Method} {c : Code} {H : Heap} {locs : List Loc} {Q : State → Prop} {G : va_G} {cI cZ : ClassId} {t1 t2 : Nat} {A : Nat → Prop} {ls : Array Slot} {b L i : Nat} {xs : Nat → Int32} {h ht h1 h2 hp hy hs hv hz hm : Nat → Nat} {K T T1 T2 P Y S V Z M : Nat → Nat → Int32}
set_option maxHeartbeats 4000000 in
set_option maxRecDepth 100000 in
theorem lw_c_12 (C0 : cd_CX G cI cZ t1 t2 p s m #[Value.ref b] meth c code 4 ret wsL_law RL A) (hX : va_X b L xs s s.heap) (hbl : b < s.heap.size) (hbA : ¬ A b) (hi : i + 6 ≤ L) (hL : L ≤ 384) (hR : lw_R K T T1 T2 P M) (hw : cd_WS G A s.heap H locs (pc_all cI cZ h ht h1 h2 hp hy hs hv hz hm K T T1 T2 P Y S V Z M)) (hl : lv_has ls 4 [(3, .int (nI i)), (2, .ref (hm 0)), (1, .ref (h 0)), (0, .ref b)])
    (kk : ∀ (K T T1 T2 P Y S V Z M : Nat → Nat → Int32) (ls : Array Slot) (H : Heap) (locs : List Loc), lw_R K T T1 T2 P M → cd_WS G A s.heap H locs (pc_all cI cZ h ht h1 h2 hp hy hs hv hz hm K T T1 T2 P Y S V Z M) → lv_has ls 4 [(3, .int (nI i)), (2, .ref (hm 0)), (1, .ref (h 0)), (0, .ref b)] → W p l e room_1 s m #[Value.ref b] below meth c H locs 72 2623 Q (F0 m 1037 ls [])) : W p l e room_1 s m #[Value.ref b] below meth c H locs 72 2623 Q (F0 m 488 ls []) := by
  obtain ⟨⟨hx, hb, hml, hown, hts⟩, hr, hlocks, hA, hE⟩ := id C0
  obtain ⟨g, sg, n, hXX, hd, hP, h6, i0, i1⟩ := id hR
  obtain ⟨v, M', e1, e2, hsm⟩ := m_lasts hXX K (xs (i + 1))
  refine lv_aload_n hx hb dL_law_488 rfl (lv_at hl 2 rfl) ?_
  refine lw_ld (j := 1) hx hb hX hbl hbA hi hL hw.2.2 hl (by decide) (by decide) dL_law_489 dL_law_490 dL_law_491 dL_law_492 dL_law_493 ?_
  refine lw_call_kt (As := [.int (xs (i + 1))]) (rest := []) C0 hw (c_X5_lasts l G cI cZ t1 t2 h ht h1 h2 hp hy hs hv hz K T (xs (i + 1)) v e1) (cwV 1 hts gL_law_X5_lasts rfl rfl rfl (by decide +kernel) ⟨Nat.le_of_ble_eq_true rfl, Nat.le_of_ble_eq_true rfl⟩) rfl hl.1 (lv_room (Nat.le_of_ble_eq_true rfl)) dL_law_494 (fun H locs hw => ?_)
  refine lv_aload_n hx hb dL_law_497 rfl (lv_at hl 1 rfl) ?_
  refine lw_ld (j := 1) hx hb hX hbl hbA hi hL hw.2.2 hl (by decide) (by decide) dL_law_498 dL_law_499 dL_law_500 dL_law_501 dL_law_502 ?_
  refine lw_call_m (As := [.int (xs (i + 1))]) (rest := [.int v]) C0 hw (c_X6_lasts l G cI cZ t1 t2 hm M (xs (i + 1)) (v, M') e2) (cwV 1 hts gL_law_X6_lasts rfl rfl rfl (by decide +kernel) ⟨Nat.le_of_ble_eq_true rfl, Nat.le_of_ble_eq_true rfl⟩) rfl hl.1 (lv_room (Nat.le_of_ble_eq_true rfl)) dL_law_503 (fun H locs hw => ?_)
  refine lv_icmp_eq (tgt := 1037) hx hb dL_law_506 (by decide) (fun _ => ?_) (fun c9 => absurd rfl c9)
  exact kk K T T1 T2 P Y S V Z M' ls H locs (lw_R.sm hR hsm) hw hl
set_option maxHeartbeats 4000000 in
set_option maxRecDepth 100000 in
theorem lw_c_13 (C0 : cd_CX G cI cZ t1 t2 p s m #[Value.ref b] meth c code 4 ret wsL_law RL A) (hX : va_X b L xs s s.heap) (hbl : b < s.heap.size) (hbA : ¬ A b) (hi : i + 6 ≤ L) (hL : L ≤ 384) (hR : lw_R K T T1 T2 P M) (hw : cd_WS G A s.heap H locs (pc_all cI cZ h ht h1 h2 hp hy hs hv hz hm K T T1 T2 P Y S V Z M)) (hl : lv_has ls 4 [(3, .int (nI i)), (2, .ref (hm 0)), (1, .ref (h 0)), (0, .ref b)])
    (kk : ∀ (K T T1 T2 P Y S V Z M : Nat → Nat → Int32) (ls : Array Slot) (H : Heap) (locs : List Loc), lw_R K T T1 T2 P M → cd_WS G A s.heap H locs (pc_all cI cZ h ht h1 h2 hp hy hs hv hz hm K T T1 T2 P Y S V Z M) → lv_has ls 4 [(3, .int (nI i)), (2, .ref (hm 0)), (1, .ref (h 0)), (0, .ref b)] → W p l e room_1 s m #[Value.ref b] below meth c H locs 72 2623 Q (F0 m 1037 ls [])) : W p l e room_1 s m #[Value.ref b] below meth c H locs 72 2623 Q (F0 m 511 ls []) := by
  obtain ⟨⟨hx, hb, hml, hown, hts⟩, hr, hlocks, hA, hE⟩ := id C0
  obtain ⟨g, sg, n, hXX, hd, hP, h6, i0, i1⟩ := id hR
  obtain ⟨v, e1, e2⟩ := m_joined hXX K (xs (i + 1))
  refine lv_aload_n hx hb dL_law_511 rfl (lv_at hl 2 rfl) ?_
  refine lw_ld (j := 1) hx hb hX hbl hbA hi hL hw.2.2 hl (by decide) (by decide) dL_law_512 dL_law_513 dL_law_514 dL_law_515 dL_law_516 ?_
  refine lw_call_kt (As := [.int (xs (i + 1))]) (rest := []) C0 hw (c_X5_joined l G cI cZ t1 t2 h ht h1 h2 hp hy hs hv hz K T (xs (i + 1)) v e1) (cwV 1 hts gL_law_X5_joined rfl rfl rfl (by decide +kernel) ⟨Nat.le_of_ble_eq_true rfl, Nat.le_of_ble_eq_true rfl⟩) rfl hl.1 (lv_room (Nat.le_of_ble_eq_true rfl)) dL_law_517 (fun H locs hw => ?_)
  refine lv_aload_n hx hb dL_law_520 rfl (lv_at hl 1 rfl) ?_
  refine lw_ld (j := 1) hx hb hX hbl hbA hi hL hw.2.2 hl (by decide) (by decide) dL_law_521 dL_law_522 dL_law_523 dL_law_524 dL_law_525 ?_
  refine lw_call_m (As := [.int (xs (i + 1))]) (rest := [.int v]) C0 hw (c_X6_joined l G cI cZ t1 t2 hm M (xs (i + 1)) v e2) (cwV 1 hts gL_law_X6_joined rfl rfl rfl (by decide +kernel) ⟨Nat.le_of_ble_eq_true rfl, Nat.le_of_ble_eq_true rfl⟩) rfl hl.1 (lv_room (Nat.le_of_ble_eq_true rfl)) dL_law_526 (fun H locs hw => ?_)
  refine lv_icmp_eq (tgt := 1037) hx hb dL_law_529 (by decide) (fun _ => ?_) (fun c9 => absurd rfl c9)
  exact kk K T T1 T2 P Y S V Z M ls H locs (hR) hw hl
set_option maxHeartbeats 4000000 in
set_option maxRecDepth 100000 in
theorem lw_c_14 (C0 : cd_CX G cI cZ t1 t2 p s m #[Value.ref b] meth c code 4 ret wsL_law RL A) (hX : va_X b L xs s s.heap) (hbl : b < s.heap.size) (hbA : ¬ A b) (hi : i + 6 ≤ L) (hL : L ≤ 384) (hR : lw_R K T T1 T2 P M) (hw : cd_WS G A s.heap H locs (pc_all cI cZ h ht h1 h2 hp hy hs hv hz hm K T T1 T2 P Y S V Z M)) (hl : lv_has ls 4 [(3, .int (nI i)), (2, .ref (hm 0)), (1, .ref (h 0)), (0, .ref b)])
    (kk : ∀ (K T T1 T2 P Y S V Z M : Nat → Nat → Int32) (ls : Array Slot) (H : Heap) (locs : List Loc), lw_R K T T1 T2 P M → cd_WS G A s.heap H locs (pc_all cI cZ h ht h1 h2 hp hy hs hv hz hm K T T1 T2 P Y S V Z M) → lv_has ls 4 [(3, .int (nI i)), (2, .ref (hm 0)), (1, .ref (h 0)), (0, .ref b)] → W p l e room_1 s m #[Value.ref b] below meth c H locs 72 2623 Q (F0 m 1037 ls [])) : W p l e room_1 s m #[Value.ref b] below meth c H locs 72 2623 Q (F0 m 534 ls []) := by
  obtain ⟨⟨hx, hb, hml, hown, hts⟩, hr, hlocks, hA, hE⟩ := id C0
  obtain ⟨g, sg, n, hXX, hd, hP, h6, i0, i1⟩ := id hR
  obtain ⟨v, e1, e2⟩ := m_may hXX K (xs (i + 1))
  refine lv_aload_n hx hb dL_law_534 rfl (lv_at hl 2 rfl) ?_
  refine lw_ld (j := 1) hx hb hX hbl hbA hi hL hw.2.2 hl (by decide) (by decide) dL_law_535 dL_law_536 dL_law_537 dL_law_538 dL_law_539 ?_
  refine lw_call_kt (As := [.int (xs (i + 1))]) (rest := []) C0 hw (c_X5_may l G cI cZ t1 t2 h ht h1 h2 hp hy hs hv hz K T (xs (i + 1)) v e1) (cwV 1 hts gL_law_X5_may rfl rfl rfl (by decide +kernel) ⟨Nat.le_of_ble_eq_true rfl, Nat.le_of_ble_eq_true rfl⟩) rfl hl.1 (lv_room (Nat.le_of_ble_eq_true rfl)) dL_law_540 (fun H locs hw => ?_)
  refine lv_aload_n hx hb dL_law_543 rfl (lv_at hl 1 rfl) ?_
  refine lw_ld (j := 1) hx hb hX hbl hbA hi hL hw.2.2 hl (by decide) (by decide) dL_law_544 dL_law_545 dL_law_546 dL_law_547 dL_law_548 ?_
  refine lw_call_m (As := [.int (xs (i + 1))]) (rest := [.int v]) C0 hw (c_X6_may l G cI cZ t1 t2 hm M (xs (i + 1)) v e2) (cwV 1 hts gL_law_X6_may rfl rfl rfl (by decide +kernel) ⟨Nat.le_of_ble_eq_true rfl, Nat.le_of_ble_eq_true rfl⟩) rfl hl.1 (lv_room (Nat.le_of_ble_eq_true rfl)) dL_law_549 (fun H locs hw => ?_)
  refine lv_icmp_eq (tgt := 1037) hx hb dL_law_552 (by decide) (fun _ => ?_) (fun c9 => absurd rfl c9)
  exact kk K T T1 T2 P Y S V Z M ls H locs (hR) hw hl
set_option maxHeartbeats 4000000 in
set_option maxRecDepth 100000 in
theorem lw_c_15 (C0 : cd_CX G cI cZ t1 t2 p s m #[Value.ref b] meth c code 4 ret wsL_law RL A) (hX : va_X b L xs s s.heap) (hbl : b < s.heap.size) (hbA : ¬ A b) (hi : i + 6 ≤ L) (hL : L ≤ 384) (hR : lw_R K T T1 T2 P M) (hw : cd_WS G A s.heap H locs (pc_all cI cZ h ht h1 h2 hp hy hs hv hz hm K T T1 T2 P Y S V Z M)) (hl : lv_has ls 4 [(3, .int (nI i)), (2, .ref (hm 0)), (1, .ref (h 0)), (0, .ref b)])
    (kk : ∀ (K T T1 T2 P Y S V Z M : Nat → Nat → Int32) (ls : Array Slot) (H : Heap) (locs : List Loc), lw_R K T T1 T2 P M → cd_WS G A s.heap H locs (pc_all cI cZ h ht h1 h2 hp hy hs hv hz hm K T T1 T2 P Y S V Z M) → lv_has ls 4 [(3, .int (nI i)), (2, .ref (hm 0)), (1, .ref (h 0)), (0, .ref b)] → W p l e room_1 s m #[Value.ref b] below meth c H locs 72 2623 Q (F0 m 1037 ls [])) : W p l e room_1 s m #[Value.ref b] below meth c H locs 72 2623 Q (F0 m 557 ls []) := by
  obtain ⟨⟨hx, hb, hml, hown, hts⟩, hr, hlocks, hA, hE⟩ := id C0
  obtain ⟨g, sg, n, hXX, hd, hP, h6, i0, i1⟩ := id hR
  obtain ⟨v, e1, e2⟩ := m_net hXX K (xs (i + 1))
  refine lv_aload_n hx hb dL_law_557 rfl (lv_at hl 2 rfl) ?_
  refine lw_ld (j := 1) hx hb hX hbl hbA hi hL hw.2.2 hl (by decide) (by decide) dL_law_558 dL_law_559 dL_law_560 dL_law_561 dL_law_562 ?_
  refine lw_call_kt (As := [.int (xs (i + 1))]) (rest := []) C0 hw (c_X5_net l G cI cZ t1 t2 h ht h1 h2 hp hy hs hv hz K T (xs (i + 1)) v e1) (cwV 1 hts gL_law_X5_net rfl rfl rfl (by decide +kernel) ⟨Nat.le_of_ble_eq_true rfl, Nat.le_of_ble_eq_true rfl⟩) rfl hl.1 (lv_room (Nat.le_of_ble_eq_true rfl)) dL_law_563 (fun H locs hw => ?_)
  refine lv_aload_n hx hb dL_law_566 rfl (lv_at hl 1 rfl) ?_
  refine lw_ld (j := 1) hx hb hX hbl hbA hi hL hw.2.2 hl (by decide) (by decide) dL_law_567 dL_law_568 dL_law_569 dL_law_570 dL_law_571 ?_
  refine lw_call_m (As := [.int (xs (i + 1))]) (rest := [.int v]) C0 hw (c_X6_net l G cI cZ t1 t2 hm M (xs (i + 1)) v e2) (cwV 1 hts gL_law_X6_net rfl rfl rfl (by decide +kernel) ⟨Nat.le_of_ble_eq_true rfl, Nat.le_of_ble_eq_true rfl⟩) rfl hl.1 (lv_room (Nat.le_of_ble_eq_true rfl)) dL_law_572 (fun H locs hw => ?_)
  refine lv_icmp_eq (tgt := 1037) hx hb dL_law_575 (by decide) (fun _ => ?_) (fun c9 => absurd rfl c9)
  exact kk K T T1 T2 P Y S V Z M ls H locs (hR) hw hl
set_option maxHeartbeats 4000000 in
set_option maxRecDepth 100000 in
theorem lw_c_16 (C0 : cd_CX G cI cZ t1 t2 p s m #[Value.ref b] meth c code 4 ret wsL_law RL A) (hX : va_X b L xs s s.heap) (hbl : b < s.heap.size) (hbA : ¬ A b) (hi : i + 6 ≤ L) (hL : L ≤ 384) (hR : lw_R K T T1 T2 P M) (hw : cd_WS G A s.heap H locs (pc_all cI cZ h ht h1 h2 hp hy hs hv hz hm K T T1 T2 P Y S V Z M)) (hl : lv_has ls 4 [(3, .int (nI i)), (2, .ref (hm 0)), (1, .ref (h 0)), (0, .ref b)])
    (kk : ∀ (K T T1 T2 P Y S V Z M : Nat → Nat → Int32) (ls : Array Slot) (H : Heap) (locs : List Loc), lw_R K T T1 T2 P M → cd_WS G A s.heap H locs (pc_all cI cZ h ht h1 h2 hp hy hs hv hz hm K T T1 T2 P Y S V Z M) → lv_has ls 4 [(3, .int (nI i)), (2, .ref (hm 0)), (1, .ref (h 0)), (0, .ref b)] → W p l e room_1 s m #[Value.ref b] below meth c H locs 72 2623 Q (F0 m 1037 ls [])) : W p l e room_1 s m #[Value.ref b] below meth c H locs 72 2623 Q (F0 m 580 ls []) := by
  obtain ⟨⟨hx, hb, hml, hown, hts⟩, hr, hlocks, hA, hE⟩ := id C0
  obtain ⟨g, sg, n, hXX, hd, hP, h6, i0, i1⟩ := id hR
  obtain ⟨v, V', M', e1, e2, hsm⟩ := m_round hXX K V (xs (i + 1)) (xs (i + 2))
  refine lv_aload_n hx hb dL_law_580 rfl (lv_at hl 2 rfl) ?_
  refine lw_ld (j := 1) hx hb hX hbl hbA hi hL hw.2.2 hl (by decide) (by decide) dL_law_581 dL_law_582 dL_law_583 dL_law_584 dL_law_585 ?_
  refine lw_ld (j := 2) hx hb hX hbl hbA hi hL hw.2.2 hl (by decide) (by decide) dL_law_586 dL_law_587 dL_law_588 dL_law_589 dL_law_590 ?_
  refine lw_call_ktv (As := [.int (xs (i + 1)), .int (xs (i + 2))]) (rest := []) C0 hw (c_X5_round l G cI cZ t1 t2 h ht h1 h2 hp hy hs hv hz K T V (xs (i + 1)) (xs (i + 2)) (v, V') e1) (cwV 2 hts gL_law_X5_round rfl rfl rfl (by decide +kernel) ⟨Nat.le_of_ble_eq_true rfl, Nat.le_of_ble_eq_true rfl⟩) rfl hl.1 (lv_room (Nat.le_of_ble_eq_true rfl)) dL_law_591 (fun H locs hw => ?_)
  refine lv_aload_n hx hb dL_law_594 rfl (lv_at hl 1 rfl) ?_
  refine lw_ld (j := 1) hx hb hX hbl hbA hi hL hw.2.2 hl (by decide) (by decide) dL_law_595 dL_law_596 dL_law_597 dL_law_598 dL_law_599 ?_
  refine lw_ld (j := 2) hx hb hX hbl hbA hi hL hw.2.2 hl (by decide) (by decide) dL_law_600 dL_law_601 dL_law_602 dL_law_603 dL_law_604 ?_
  refine lw_call_m (As := [.int (xs (i + 1)), .int (xs (i + 2))]) (rest := [.int v]) C0 hw (c_X6_round l G cI cZ t1 t2 hm M (xs (i + 1)) (xs (i + 2)) (v, M') e2) (cwV 2 hts gL_law_X6_round rfl rfl rfl (by decide +kernel) ⟨Nat.le_of_ble_eq_true rfl, Nat.le_of_ble_eq_true rfl⟩) rfl hl.1 (lv_room (Nat.le_of_ble_eq_true rfl)) dL_law_605 (fun H locs hw => ?_)
  refine lv_icmp_eq (tgt := 1037) hx hb dL_law_608 (by decide) (fun _ => ?_) (fun c9 => absurd rfl c9)
  exact kk K T T1 T2 P Y S V' Z M' ls H locs (lw_R.sm hR hsm) hw hl
set_option maxHeartbeats 4000000 in
set_option maxRecDepth 100000 in
theorem lw_c_17 (C0 : cd_CX G cI cZ t1 t2 p s m #[Value.ref b] meth c code 4 ret wsL_law RL A) (hX : va_X b L xs s s.heap) (hbl : b < s.heap.size) (hbA : ¬ A b) (hi : i + 6 ≤ L) (hL : L ≤ 384) (hR : lw_R K T T1 T2 P M) (hw : cd_WS G A s.heap H locs (pc_all cI cZ h ht h1 h2 hp hy hs hv hz hm K T T1 T2 P Y S V Z M)) (hl : lv_has ls 4 [(3, .int (nI i)), (2, .ref (hm 0)), (1, .ref (h 0)), (0, .ref b)])
    (kk : ∀ (K T T1 T2 P Y S V Z M : Nat → Nat → Int32) (ls : Array Slot) (H : Heap) (locs : List Loc), lw_R K T T1 T2 P M → cd_WS G A s.heap H locs (pc_all cI cZ h ht h1 h2 hp hy hs hv hz hm K T T1 T2 P Y S V Z M) → lv_has ls 4 [(3, .int (nI i)), (2, .ref (hm 0)), (1, .ref (h 0)), (0, .ref b)] → W p l e room_1 s m #[Value.ref b] below meth c H locs 72 2623 Q (F0 m 1037 ls [])) : W p l e room_1 s m #[Value.ref b] below meth c H locs 72 2623 Q (F0 m 613 ls []) := by
  obtain ⟨⟨hx, hb, hml, hown, hts⟩, hr, hlocks, hA, hE⟩ := id C0
  obtain ⟨g, sg, n, hXX, hd, hP, h6, i0, i1⟩ := id hR
  obtain ⟨v, M', e1, e2, hsm⟩ := m_accounts hXX K (xs (i + 1)) (xs (i + 2))
  refine lv_aload_n hx hb dL_law_613 rfl (lv_at hl 2 rfl) ?_
  refine lw_ld (j := 1) hx hb hX hbl hbA hi hL hw.2.2 hl (by decide) (by decide) dL_law_614 dL_law_615 dL_law_616 dL_law_617 dL_law_618 ?_
  refine lw_ld (j := 2) hx hb hX hbl hbA hi hL hw.2.2 hl (by decide) (by decide) dL_law_619 dL_law_620 dL_law_621 dL_law_622 dL_law_623 ?_
  refine lw_call_kt (As := [.int (xs (i + 1)), .int (xs (i + 2))]) (rest := []) C0 hw (c_X5_accounts l G cI cZ t1 t2 h ht h1 h2 hp hy hs hv hz K T (xs (i + 1)) (xs (i + 2)) v e1) (cwV 2 hts gL_law_X5_accounts rfl rfl rfl (by decide +kernel) ⟨Nat.le_of_ble_eq_true rfl, Nat.le_of_ble_eq_true rfl⟩) rfl hl.1 (lv_room (Nat.le_of_ble_eq_true rfl)) dL_law_624 (fun H locs hw => ?_)
  refine lv_aload_n hx hb dL_law_627 rfl (lv_at hl 1 rfl) ?_
  refine lw_ld (j := 1) hx hb hX hbl hbA hi hL hw.2.2 hl (by decide) (by decide) dL_law_628 dL_law_629 dL_law_630 dL_law_631 dL_law_632 ?_
  refine lw_ld (j := 2) hx hb hX hbl hbA hi hL hw.2.2 hl (by decide) (by decide) dL_law_633 dL_law_634 dL_law_635 dL_law_636 dL_law_637 ?_
  refine lw_call_m (As := [.int (xs (i + 1)), .int (xs (i + 2))]) (rest := [.int v]) C0 hw (c_X6_accounts l G cI cZ t1 t2 hm M (xs (i + 1)) (xs (i + 2)) (v, M') e2) (cwV 2 hts gL_law_X6_accounts rfl rfl rfl (by decide +kernel) ⟨Nat.le_of_ble_eq_true rfl, Nat.le_of_ble_eq_true rfl⟩) rfl hl.1 (lv_room (Nat.le_of_ble_eq_true rfl)) dL_law_638 (fun H locs hw => ?_)
  refine lv_icmp_eq (tgt := 1037) hx hb dL_law_641 (by decide) (fun _ => ?_) (fun c9 => absurd rfl c9)
  exact kk K T T1 T2 P Y S V Z M' ls H locs (lw_R.sm hR hsm) hw hl
end LAWC
