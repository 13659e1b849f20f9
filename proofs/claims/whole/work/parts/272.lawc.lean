/-! the law: words 6 .. -/
section LAWC
variable {p : Program} {l : Launch} {e : Env} {s : State} {m : MethodId} {below : List Frame} {meth : Method} {c : Code} {H : Heap} {locs : List Loc} {Q : State → Prop} {G : va_G} {cI cZ : ClassId} {t1 t2 : Nat} {A : Nat → Prop} {ls : Array Slot} {b L i : Nat} {xs : Nat → Int32} {h ht h1 h2 hp hy hs hv hz hm : Nat → Nat} {K T T1 T2 P Y S V Z M : Nat → Nat → Int32}
set_option maxHeartbeats 4000000 in
set_option maxRecDepth 100000 in
theorem lw_c_6 (C0 : cd_CX G cI cZ t1 t2 p s m #[Value.ref b] meth c code 4 ret wsL_law RL A) (hX : va_X b L xs s s.heap) (hbl : b < s.heap.size) (hbA : ¬ A b) (hi : i + 6 ≤ L) (hL : L ≤ 384) (hR : lw_R K T T1 T2 P M) (hw : cd_WS G A s.heap H locs (pc_all cI cZ h ht h1 h2 hp hy hs hv hz hm K T T1 T2 P Y S V Z M)) (hl : lv_has ls 4 [(3, .int (nI i)), (2, .ref (hm 0)), (1, .ref (h 0)), (0, .ref b)])
    (kk : ∀ (K T T1 T2 P Y S V Z M : Nat → Nat → Int32) (ls : Array Slot) (H : Heap) (locs : List Loc), lw_R K T T1 T2 P M → cd_WS G A s.heap H locs (pc_all cI cZ h ht h1 h2 hp hy hs hv hz hm K T T1 T2 P Y S V Z M) → lv_has ls 4 [(3, .int (nI i)), (2, .ref (hm 0)), (1, .ref (h 0)), (0, .ref b)] → W p l e room_1 s m #[Value.ref b] below meth c H locs 72 2623 Q (F0 m 1037 ls [])) : W p l e room_1 s m #[Value.ref b] below meth c H locs 72 2623 Q (F0 m 360 ls []) := by
  obtain ⟨⟨hx, hb, hml, hown, hts⟩, hr, hlocks, hA, hE⟩ := id C0
  obtain ⟨g, sg, n, hXX, hd, hP, h6, i0, i1⟩ := id hR
  obtain ⟨v, P', e1, e2, p0, p1⟩ := m_fault hd hP h6 K 
  refine lv_aload_n hx hb dL_law_360 rfl (lv_at hl 2 rfl) ?_
  refine lw_call_kp (As := []) (rest := []) C0 hw (c_X5_fault l G cI cZ t1 t2 h ht h1 h2 hp hy hs hv hz K P  (v, P') e1) (cwV 0 hts gL_law_X5_fault rfl rfl rfl (by decide +kernel) ⟨Nat.le_of_ble_eq_true rfl, Nat.le_of_ble_eq_true rfl⟩) rfl hl.1 (lv_room (Nat.le_of_ble_eq_true rfl)) dL_law_361 (fun H locs hw => ?_)
  refine lv_aload_n hx hb dL_law_364 rfl (lv_at hl 1 rfl) ?_
  refine lw_call_m (As := []) (rest := [.int v]) C0 hw (c_X6_fault l G cI cZ t1 t2 hm M  v e2) (cwV 0 hts gL_law_X6_fault rfl rfl rfl (by decide +kernel) ⟨Nat.le_of_ble_eq_true rfl, Nat.le_of_ble_eq_true rfl⟩) rfl hl.1 (lv_room (Nat.le_of_ble_eq_true rfl)) dL_law_365 (fun H locs hw => ?_)
  refine lv_icmp_eq (tgt := 1037) hx hb dL_law_368 (by decide) (fun _ => ?_) (fun c9 => absurd rfl c9)
  exact kk K T T1 T2 P' Y S V Z M ls H locs (hR.pd p0 p1) hw hl
set_option maxHeartbeats 4000000 in
set_option maxRecDepth 100000 in
theorem lw_c_7 (C0 : cd_CX G cI cZ t1 t2 p s m #[Value.ref b] meth c code 4 ret wsL_law RL A) (hX : va_X b L xs s s.heap) (hbl : b < s.heap.size) (hbA : ¬ A b) (hi : i + 6 ≤ L) (hL : L ≤ 384) (hR : lw_R K T T1 T2 P M) (hw : cd_WS G A s.heap H locs (pc_all cI cZ h ht h1 h2 hp hy hs hv hz hm K T T1 T2 P Y S V Z M)) (hl : lv_has ls 4 [(3, .int (nI i)), (2, .ref (hm 0)), (1, .ref (h 0)), (0, .ref b)])
    (kk : ∀ (K T T1 T2 P Y S V Z M : Nat → Nat → Int32) (ls : Array Slot) (H : Heap) (locs : List Loc), lw_R K T T1 T2 P M → cd_WS G A s.heap H locs (pc_all cI cZ h ht h1 h2 hp hy hs hv hz hm K T T1 T2 P Y S V Z M) → lv_has ls 4 [(3, .int (nI i)), (2, .ref (hm 0)), (1, .ref (h 0)), (0, .ref b)] → W p l e room_1 s m #[Value.ref b] below meth c H locs 72 2623 Q (F0 m 1037 ls [])) : W p l e room_1 s m #[Value.ref b] below meth c H locs 72 2623 Q (F0 m 373 ls []) := by
  obtain ⟨⟨hx, hb, hml, hown, hts⟩, hr, hlocks, hA, hE⟩ := id C0
  obtain ⟨g, sg, n, hXX, hd, hP, h6, i0, i1⟩ := id hR
  obtain ⟨v, P', Y', S', M', e1, e2, hsm, p0, p1⟩ := m_judge hXX hd hP h6 K Y S (xs (i + 1))
  refine lv_aload_n hx hb dL_law_373 rfl (lv_at hl 2 rfl) ?_
  refine lw_ld (j := 1) hx hb hX hbl hbA hi hL hw.2.2 hl (by decide) (by decide) dL_law_374 dL_law_375 dL_law_376 dL_law_377 dL_law_378 ?_
  refine lw_call_ktpys (As := [.int (xs (i + 1))]) (rest := []) C0 hw (c_X5_judge l G cI cZ t1 t2 h ht h1 h2 hp hy hs hv hz K T P Y S (xs (i + 1)) (v, P', Y', S') e1) (cwV 1 hts gL_law_X5_judge rfl rfl rfl (by decide +kernel) ⟨Nat.le_of_ble_eq_true rfl, Nat.le_of_ble_eq_true rfl⟩) rfl hl.1 (lv_room (Nat.le_of_ble_eq_true rfl)) dL_law_379 (fun H locs hw => ?_)
  refine lv_aload_n hx hb dL_law_382 rfl (lv_at hl 1 rfl) ?_
  refine lw_ld (j := 1) hx hb hX hbl hbA hi hL hw.2.2 hl (by decide) (by decide) dL_law_383 dL_law_384 dL_law_385 dL_law_386 dL_law_387 ?_
  refine lw_call_m (As := [.int (xs (i + 1))]) (rest := [.int v]) C0 hw (c_X6_judge l G cI cZ t1 t2 hm M (xs (i + 1)) (v, M') e2) (cwV 1 hts gL_law_X6_judge rfl rfl rfl (by decide +kernel) ⟨Nat.le_of_ble_eq_true rfl, Nat.le_of_ble_eq_true rfl⟩) rfl hl.1 (lv_room (Nat.le_of_ble_eq_true rfl)) dL_law_388 (fun H locs hw => ?_)
  refine lv_icmp_eq (tgt := 1037) hx hb dL_law_391 (by decide) (fun _ => ?_) (fun c9 => absurd rfl c9)
  exact kk K T T1 T2 P' Y' S' V Z M' ls H locs ((lw_R.sm hR hsm).pd p0 p1) hw hl
set_option maxHeartbeats 4000000 in
set_option maxRecDepth 100000 in
theorem lw_c_8 (C0 : cd_CX G cI cZ t1 t2 p s m #[Value.ref b] meth c code 4 ret wsL_law RL A) (hX : va_X b L xs s s.heap) (hbl : b < s.heap.size) (hbA : ¬ A b) (hi : i + 6 ≤ L) (hL : L ≤ 384) (hR : lw_R K T T1 T2 P M) (hw : cd_WS G A s.heap H locs (pc_all cI cZ h ht h1 h2 hp hy hs hv hz hm K T T1 T2 P Y S V Z M)) (hl : lv_has ls 4 [(3, .int (nI i)), (2, .ref (hm 0)), (1, .ref (h 0)), (0, .ref b)])
    (kk : ∀ (K T T1 T2 P Y S V Z M : Nat → Nat → Int32) (ls : Array Slot) (H : Heap) (locs : List Loc), lw_R K T T1 T2 P M → cd_WS G A s.heap H locs (pc_all cI cZ h ht h1 h2 hp hy hs hv hz hm K T T1 T2 P Y S V Z M) → lv_has ls 4 [(3, .int (nI i)), (2, .ref (hm 0)), (1, .ref (h 0)), (0, .ref b)] → W p l e room_1 s m #[Value.ref b] below meth c H locs 72 2623 Q (F0 m 1037 ls [])) : W p l e room_1 s m #[Value.ref b] below meth c H locs 72 2623 Q (F0 m 396 ls []) := by
  obtain ⟨⟨hx, hb, hml, hown, hts⟩, hr, hlocks, hA, hE⟩ := id C0
  obtain ⟨g, sg, n, hXX, hd, hP, h6, i0, i1⟩ := id hR
  obtain ⟨v, T', P', Y', S', M', g', n', e1, e2, hX', hd', hP', h6', m20, m21⟩ := m_done hXX hd hP h6 K Y S 
  refine lv_aload_n hx hb dL_law_396 rfl (lv_at hl 2 rfl) ?_
  refine lw_call_ktpys (As := []) (rest := []) C0 hw (c_X5_done l G cI cZ t1 t2 h ht h1 h2 hp hy hs hv hz K T P Y S  (v, T', P', Y', S') e1) (cwV 0 hts gL_law_X5_done rfl rfl rfl (by decide +kernel) ⟨Nat.le_of_ble_eq_true rfl, Nat.le_of_ble_eq_true rfl⟩) rfl hl.1 (lv_room (Nat.le_of_ble_eq_true rfl)) dL_law_397 (fun H locs hw => ?_)
  refine lv_aload_n hx hb dL_law_400 rfl (lv_at hl 1 rfl) ?_
  refine lw_call_m (As := []) (rest := [.int v]) C0 hw (c_X6_done l G cI cZ t1 t2 hm M  (v, M') e2) (cwV 0 hts gL_law_X6_done rfl rfl rfl (by decide +kernel) ⟨Nat.le_of_ble_eq_true rfl, Nat.le_of_ble_eq_true rfl⟩) rfl hl.1 (lv_room (Nat.le_of_ble_eq_true rfl)) dL_law_401 (fun H locs hw => ?_)
  refine lv_icmp_eq (tgt := 1037) hx hb dL_law_404 (by decide) (fun _ => ?_) (fun c9 => absurd rfl c9)
  exact kk K T' T1 T2 P' Y' S' V Z M' ls H locs (⟨g', sg, n', hX', hd', hP', h6', i0.same m20 m21, i1.same m20 m21⟩) hw hl
set_option maxHeartbeats 4000000 in
set_option maxRecDepth 100000 in
theorem lw_c_9 (C0 : cd_CX G cI cZ t1 t2 p s m #[Value.ref b] meth c code 4 ret wsL_law RL A) (hX : va_X b L xs s s.heap) (hbl : b < s.heap.size) (hbA : ¬ A b) (hi : i + 6 ≤ L) (hL : L ≤ 384) (hR : lw_R K T T1 T2 P M) (hw : cd_WS G A s.heap H locs (pc_all cI cZ h ht h1 h2 hp hy hs hv hz hm K T T1 T2 P Y S V Z M)) (hl : lv_has ls 4 [(3, .int (nI i)), (2, .ref (hm 0)), (1, .ref (h 0)), (0, .ref b)])
    (kk : ∀ (K T T1 T2 P Y S V Z M : Nat → Nat → Int32) (ls : Array Slot) (H : Heap) (locs : List Loc), lw_R K T T1 T2 P M → cd_WS G A s.heap H locs (pc_all cI cZ h ht h1 h2 hp hy hs hv hz hm K T T1 T2 P Y S V Z M) → lv_has ls 4 [(3, .int (nI i)), (2, .ref (hm 0)), (1, .ref (h 0)), (0, .ref b)] → W p l e room_1 s m #[Value.ref b] below meth c H locs 72 2623 Q (F0 m 1037 ls [])) : W p l e room_1 s m #[Value.ref b] below meth c H locs 72 2623 Q (F0 m 409 ls []) := by
  obtain ⟨⟨hx, hb, hml, hown, hts⟩, hr, hlocks, hA, hE⟩ := id C0
  obtain ⟨g, sg, n, hXX, hd, hP, h6, i0, i1⟩ := id hR
  obtain ⟨v, P', Y', S', M', e1, e2, hsm, p0, p1⟩ := m_behind hXX hd hP h6 K Y S (xs (i + 1)) (xs (i + 2))
  refine lv_aload_n hx hb dL_law_409 rfl (lv_at hl 2 rfl) ?_
  refine lw_ld (j := 1) hx hb hX hbl hbA hi hL hw.2.2 hl (by decide) (by decide) dL_law_410 dL_law_411 dL_law_412 dL_law_413 dL_law_414 ?_
  refine lw_ld (j := 2) hx hb hX hbl hbA hi hL hw.2.2 hl (by decide) (by decide) dL_law_415 dL_law_416 dL_law_417 dL_law_418 dL_law_419 ?_
  refine lw_call_ktpys (As := [.int (xs (i + 1)), .int (xs (i + 2))]) (rest := []) C0 hw (c_X5_behind l G cI cZ t1 t2 h ht h1 h2 hp hy hs hv hz K T P Y S (xs (i + 1)) (xs (i + 2)) (v, P', Y', S') e1) (cwV 2 hts gL_law_X5_behind rfl rfl rfl (by decide +kernel) ⟨Nat.le_of_ble_eq_true rfl, Nat.le_of_ble_eq_true rfl⟩) rfl hl.1 (lv_room (Nat.le_of_ble_eq_true rfl)) dL_law_420 (fun H locs hw => ?_)
  refine lv_aload_n hx hb dL_law_423 rfl (lv_at hl 1 rfl) ?_
  refine lw_ld (j := 1) hx hb hX hbl hbA hi hL hw.2.2 hl (by decide) (by decide) dL_law_424 dL_law_425 dL_law_426 dL_law_427 dL_law_428 ?_
  refine lw_ld (j := 2) hx hb hX hbl hbA hi hL hw.2.2 hl (by decide) (by decide) dL_law_429 dL_law_430 dL_law_431 dL_law_432 dL_law_433 ?_
  refine lw_call_m (As := [.int (xs (i + 1)), .int (xs (i + 2))]) (rest := [.int v]) C0 hw (c_X6_behind l G cI cZ t1 t2 hm M (xs (i + 1)) (xs (i + 2)) (v, M') e2) (cwV 2 hts gL_law_X6_behind rfl rfl rfl (by decide +kernel) ⟨Nat.le_of_ble_eq_true rfl, Nat.le_of_ble_eq_true rfl⟩) rfl hl.1 (lv_room (Nat.le_of_ble_eq_true rfl)) dL_law_434 (fun H locs hw => ?_)
  refine lv_icmp_eq (tgt := 1037) hx hb dL_law_437 (by decide) (fun _ => ?_) (fun c9 => absurd rfl c9)
  exact kk K T T1 T2 P' Y' S' V Z M' ls H locs ((lw_R.sm hR hsm).pd p0 p1) hw hl
set_option maxHeartbeats 4000000 in
set_option maxRecDepth 100000 in
theorem lw_c_10 (C0 : cd_CX G cI cZ t1 t2 p s m #[Value.ref b] meth c code 4 ret wsL_law RL A) (hX : va_X b L xs s s.heap) (hbl : b < s.heap.size) (hbA : ¬ A b) (hi : i + 6 ≤ L) (hL : L ≤ 384) (hR : lw_R K T T1 T2 P M) (hw : cd_WS G A s.heap H locs (pc_all cI cZ h ht h1 h2 hp hy hs hv hz hm K T T1 T2 P Y S V Z M)) (hl : lv_has ls 4 [(3, .int (nI i)), (2, .ref (hm 0)), (1, .ref (h 0)), (0, .ref b)])
    (kk : ∀ (K T T1 T2 P Y S V Z M : Nat → Nat → Int32) (ls : Array Slot) (H : Heap) (locs : List Loc), lw_R K T T1 T2 P M → cd_WS G A s.heap H locs (pc_all cI cZ h ht h1 h2 hp hy hs hv hz hm K T T1 T2 P Y S V Z M) → lv_has ls 4 [(3, .int (nI i)), (2, .ref (hm 0)), (1, .ref (h 0)), (0, .ref b)] → W p l e room_1 s m #[Value.ref b] below meth c H locs 72 2623 Q (F0 m 1037 ls [])) : W p l e room_1 s m #[Value.ref b] below meth c H locs 72 2623 Q (F0 m 442 ls []) := by
  obtain ⟨⟨hx, hb, hml, hown, hts⟩, hr, hlocks, hA, hE⟩ := id C0
  obtain ⟨g, sg, n, hXX, hd, hP, h6, i0, i1⟩ := id hR
  obtain ⟨v, P', Y', S', M', e1, e2, hsm, p0, p1⟩ := m_has hXX hd hP h6 K Y S (xs (i + 1))
  refine lv_aload_n hx hb dL_law_442 rfl (lv_at hl 2 rfl) ?_
  refine lw_ld (j := 1) hx hb hX hbl hbA hi hL hw.2.2 hl (by decide) (by decide) dL_law_443 dL_law_444 dL_law_445 dL_law_446 dL_law_447 ?_
  refine lw_call_ktpys (As := [.int (xs (i + 1))]) (rest := []) C0 hw (c_X5_has l G cI cZ t1 t2 h ht h1 h2 hp hy hs hv hz K T P Y S (xs (i + 1)) (v, P', Y', S') e1) (cwV 1 hts gL_law_X5_has rfl rfl rfl (by decide +kernel) ⟨Nat.le_of_ble_eq_true rfl, Nat.le_of_ble_eq_true rfl⟩) rfl hl.1 (lv_room (Nat.le_of_ble_eq_true rfl)) dL_law_448 (fun H locs hw => ?_)
  refine lv_aload_n hx hb dL_law_451 rfl (lv_at hl 1 rfl) ?_
  refine lw_ld (j := 1) hx hb hX hbl hbA hi hL hw.2.2 hl (by decide) (by decide) dL_law_452 dL_law_453 dL_law_454 dL_law_455 dL_law_456 ?_
  refine lw_call_m (As := [.int (xs (i + 1))]) (rest := [.int v]) C0 hw (c_X6_has l G cI cZ t1 t2 hm M (xs (i + 1)) (v, M') e2) (cwV 1 hts gL_law_X6_has rfl rfl rfl (by decide +kernel) ⟨Nat.le_of_ble_eq_true rfl, Nat.le_of_ble_eq_true rfl⟩) rfl hl.1 (lv_room (Nat.le_of_ble_eq_true rfl)) dL_law_457 (fun H locs hw => ?_)
  refine lv_icmp_eq (tgt := 1037) hx hb dL_law_460 (by decide) (fun _ => ?_) (fun c9 => absurd rfl c9)
  exact kk K T T1 T2 P' Y' S' V Z M' ls H locs ((lw_R.sm hR hsm).pd p0 p1) hw hl
set_option maxHeartbeats 4000000 in
set_option maxRecDepth 100000 in
theorem lw_c_11 (C0 : cd_CX G cI cZ t1 t2 p s m #[Value.ref b] meth c code 4 ret wsL_law RL A) (hX : va_X b L xs s s.heap) (hbl : b < s.heap.size) (hbA : ¬ A b) (hi : i + 6 ≤ L) (hL : L ≤ 384) (hR : lw_R K T T1 T2 P M) (hw : cd_WS G A s.heap H locs (pc_all cI cZ h ht h1 h2 hp hy hs hv hz hm K T T1 T2 P Y S V Z M)) (hl : lv_has ls 4 [(3, .int (nI i)), (2, .ref (hm 0)), (1, .ref (h 0)), (0, .ref b)])
    (kk : ∀ (K T T1 T2 P Y S V Z M : Nat → Nat → Int32) (ls : Array Slot) (H : Heap) (locs : List Loc), lw_R K T T1 T2 P M → cd_WS G A s.heap H locs (pc_all cI cZ h ht h1 h2 hp hy hs hv hz hm K T T1 T2 P Y S V Z M) → lv_has ls 4 [(3, .int (nI i)), (2, .ref (hm 0)), (1, .ref (h 0)), (0, .ref b)] → W p l e room_1 s m #[Value.ref b] below meth c H locs 72 2623 Q (F0 m 1037 ls [])) : W p l e room_1 s m #[Value.ref b] below meth c H locs 72 2623 Q (F0 m 465 ls []) := by
  obtain ⟨⟨hx, hb, hml, hown, hts⟩, hr, hlocks, hA, hE⟩ := id C0
  obtain ⟨g, sg, n, hXX, hd, hP, h6, i0, i1⟩ := id hR
  obtain ⟨v, P', Y', S', M', e1, e2, hsm, p0, p1⟩ := m_then hXX hd hP h6 K Y S (xs (i + 1))
  refine lv_aload_n hx hb dL_law_465 rfl (lv_at hl 2 rfl) ?_
  refine lw_ld (j := 1) hx hb hX hbl hbA hi hL hw.2.2 hl (by decide) (by decide) dL_law_466 dL_law_467 dL_law_468 dL_law_469 dL_law_470 ?_
  refine lw_call_ktpys (As := [.int (xs (i + 1))]) (rest := []) C0 hw (c_X5_then l G cI cZ t1 t2 h ht h1 h2 hp hy hs hv hz K T P Y S (xs (i + 1)) (v, P', Y', S') e1) (cwV 1 hts gL_law_X5_then rfl rfl rfl (by decide +kernel) ⟨Nat.le_of_ble_eq_true rfl, Nat.le_of_ble_eq_true rfl⟩) rfl hl.1 (lv_room (Nat.le_of_ble_eq_true rfl)) dL_law_471 (fun H locs hw => ?_)
  refine lv_aload_n hx hb dL_law_474 rfl (lv_at hl 1 rfl) ?_
  refine lw_ld (j := 1) hx hb hX hbl hbA hi hL hw.2.2 hl (by decide) (by decide) dL_law_475 dL_law_476 dL_law_477 dL_law_478 dL_law_479 ?_
  refine lw_call_m (As := [.int (xs (i + 1))]) (rest := [.int v]) C0 hw (c_X6_then l G cI cZ t1 t2 hm M (xs (i + 1)) (v, M') e2) (cwV 1 hts gL_law_X6_then rfl rfl rfl (by decide +kernel) ⟨Nat.le_of_ble_eq_true rfl, Nat.le_of_ble_eq_true rfl⟩) rfl hl.1 (lv_room (Nat.le_of_ble_eq_true rfl)) dL_law_480 (fun H locs hw => ?_)
  refine lv_icmp_eq (tgt := 1037) hx hb dL_law_483 (by decide) (fun _ => ?_) (fun c9 => absurd rfl c9)
  exact kk K T T1 T2 P' Y' S' V Z M' ls H locs ((lw_R.sm hR hsm).pd p0 p1) hw hl
end LAWC
