/-! the law: calls over its world -/
theorem lw_cnt2 {a : Nat} : ∀ (l : List Nat) (i j : Nat), i < j → l[i]? = some a → l[j]? = some a → 2 ≤ l.count a
  | [], i, j, _, h, _ => by simp at h
  | x :: l, 0, 0, h, _, _ => absurd h (Nat.lt_irrefl 0)
  | x :: l, 0, j + 1, _, h1, h2 => by
    have e : x = a := Option.some.inj h1
    have h3 : a ∈ l := List.mem_of_getElem? h2
    have h4 : 0 < l.count a := List.count_pos_iff.mpr h3
    rw [List.count_cons, e, if_pos (by simp)]
    omega
  | x :: l, i + 1, 0, h, _, _ => absurd h (Nat.not_lt_zero _)
  | x :: l, i + 1, j + 1, h, h1, h2 => by
    have := lw_cnt2 l i j (by omega) h1 h2
    rw [List.count_cons]
    omega
theorem lw_cnt1 {a : Nat} : ∀ (l : List Nat), (∀ i j : Nat, l[i]? = some a → l[j]? = some a → i = j) → l.count a ≤ 1
  | [], _ => by simp
  | x :: l, h => by
    rw [List.count_cons]
    by_cases e : x = a
    · have h0 : l.count a = 0 := List.count_eq_zero.mpr fun hm => by
        obtain ⟨j, hj⟩ := List.getElem?_of_mem hm
        have := h 0 (j + 1) (by rw [e]; rfl) hj
        omega
      rw [h0]
      split <;> omega
    · have h1 := lw_cnt1 l fun i j hi hj => by
        have := h (i + 1) (j + 1) hi hj
        omega
      rw [if_neg (by simpa using e)]
      omega
/-- all cells of the second are cells of the first, no address oftener -/
def lw_pm (w wn : va_W) : Prop := (∀ q, q ∈ wn → q ∈ w) ∧ ∀ a : Nat, (wn.map Prod.fst).count a ≤ (w.map Prod.fst).count a
theorem cd_WS.pm {G : va_G} {A : Nat → Prop} {H0 H : Heap} {locs : List Loc} {w wn : va_W} (hw : cd_WS G A H0 H locs w) (h : lw_pm w wn) : cd_WS G A H0 H locs wn := by
  have at' : ∀ q, q ∈ wn → ∃ i, w[i]? = some q := fun q hq => List.getElem?_of_mem (h.1 q hq)
  refine ⟨fun k q hq => ?_, ⟨fun i j x y hx hy e => ?_, fun k q hq => ?_⟩, hw.2.2⟩
  · obtain ⟨i, hi⟩ := at' q (List.mem_of_getElem? hq)
    exact hw.1 i q hi
  · have c1 : (w.map Prod.fst).count x.1 ≤ 1 := lw_cnt1 _ fun i j hi hj => by
      rw [List.getElem?_map] at hi hj
      cases hu : w[i]? with
      | none => rw [hu] at hi; cases hi
      | some u =>
        cases hv : w[j]? with
        | none => rw [hv] at hj; cases hj
        | some v =>
          rw [hu] at hi
          rw [hv] at hj
          exact hw.2.1.1 i j u v hu hv ((Option.some.inj hi).trans (Option.some.inj hj).symm)
    have c2 := h.2 x.1
    have gx : (wn.map Prod.fst)[i]? = some x.1 := by rw [List.getElem?_map, hx]; rfl
    have gy : (wn.map Prod.fst)[j]? = some x.1 := by rw [List.getElem?_map, hy, e]; rfl
    rcases Nat.lt_trichotomy i j with q | q | q
    · have := lw_cnt2 _ i j q gx gy; omega
    · exact q
    · have := lw_cnt2 _ j i q gy gx; omega
  · obtain ⟨i, hi⟩ := at' q (List.mem_of_getElem? hq)
    exact hw.2.1.2 i q hi
section LAWT
variable {p : Program} {l : Launch} {e : Env} {R : Room} {s : State} {m : MethodId} {args : Array Value} {below : List Frame} {meth : Method} {c : Code} {H : Heap} {locs : List Loc} {cells slots : Nat} {Q : State → Prop} {G : va_G} {cI cZ : ClassId} {t1 t2 : Nat} {cc : ByteArray} {nL : Nat} {ret : Option FieldType} {Ts : List Cond} {own : String} {A : Nat → Prop} {pc : Nat} {ls : Array Slot} {y : MethodName} {bytes : ByteArray} {maxL n index : Nat} {retc : Option FieldType} {wsc : List Cond} {rm : Room} {C : String} {b : Nat} {As rest : List Value} {X wc w1 : va_W} {ov : Option Value}
/-- a virtual call whose cells stand at the world's end -/
theorem cd_callVt (C0 : cd_CX G cI cZ t1 t2 p s m args meth c cc nL ret Ts own A) (hw : cd_WS G A s.heap H locs (X ++ wc)) (hM : cd_Ct l G cI cZ t1 t2 y wsc rm (.ref b :: As) wc w1 ov) (q0 ci : Nat) {fs : List Value} {q : vw_C} (hq : wc[q0]? = some (b, .inr (ci, fs))) (hci : vwCl[ci]? = some q) (hqC : q.1 = C)
    (cw : CallW R s args own C index y bytes maxL retc wsc rm 0 0 n) (hn : As.length = n) (hsize : ls.size = nL) (hroom : 2 * (F0 m pc ls (As.reverse ++ .ref b :: rest)).monitorRoom + (rest.map fun v => v.category).sum ≤ 8) (hdg : decode cc pc = .ok (.invokevirtual index, 3))
    (kk : ∀ (H1 : Heap) (locs1 : List Loc), cd_WS G A s.heap H1 locs1 (X ++ w1) → W p l e R s m args below meth c H1 locs1 cells slots Q (F0 m (pc + 3) ls (ov.toList ++ rest))) (hcs : cells + 0 ≤ R.cells ∧ slots + 0 ≤ R.slots) : W p l e R s m args below meth c H locs cells slots Q (F0 m pc ls (As.reverse ++ .ref b :: rest)) := by
  have hwc : cd_WS G A s.heap H locs wc := hw.pm ⟨fun q hq => List.mem_append_right _ hq, fun a => by rw [List.map_append, List.count_append]; omega⟩
  have hwX : cd_WS G A s.heap H locs X := hw.pm ⟨fun q hq => List.mem_append_left _ hq, fun a => by rw [List.map_append, List.count_append]; omega⟩
  have hF : ∀ q, va_A wc H.size q → A q := fun q hq => by
    rcases hq with ⟨k, e, hk⟩ | hk
    · exact hwc.2.1.2 k _ hk
    · exact C0.2.2.2.1 q (Nat.le_trans hw.2.2.1 hk)
  have hpre : ∀ U : State, U.heap = H → s.WarmedH U.vm → cd_PE G cI cZ t1 t2 (.ref b :: As) wc H.size (.ref b :: As).toArray U := fun U hU hW => ⟨rfl, by rw [hU], by rw [hU]; exact hwc.1, hwc.2.1.weaken (fun _ _ _ _ => trivial), C0.2.2.2.2.to hw.2.2 hF hU hW⟩
  have hrv := va_recv C0.2.2.2.2.1 hwc.1 hci hq
  rw [hqC] at hrv
  have apart : ∀ (k : Nat) (x : Nat × va_E), X[k]? = some x → x.1 < H.size ∧ ¬ va_A wc H.size x.1 := fun k x hx => by
    have hl := (hwX.1 k x hx).lt
    refine ⟨hl, fun hin => ?_⟩
    rcases hin with ⟨j, e, hj⟩ | hj
    · have hk : k < X.length := (List.getElem?_eq_some_iff.mp hx).1
      have h1 : (X ++ wc)[k]? = some x := by rw [List.getElem?_append_left hk]; exact hx
      have h2 : (X ++ wc)[X.length + j]? = some (x.1, e) := by rw [List.getElem?_append_right (by omega), Nat.add_sub_cancel_left]; exact hj
      have := hw.2.1.1 k (X.length + j) x (x.1, e) h1 h2 rfl
      omega
    · omega
  refine cd_core (wn := X ++ w1) (va_runV C0.1 (hM H.size) cw ⟨cd_blind G cI cZ t1 t2 _ wc H.size, hrv, hpre⟩ rfl hn hsize rfl hroom hdg hcs) hw hF (fun H1 g1 g2 g3 => ?_) kk
  have split : ∀ (k : Nat) (x : Nat × va_E), (X ++ w1)[k]? = some x → (k < X.length ∧ X[k]? = some x) ∨ (X.length ≤ k ∧ w1[k - X.length]? = some x) := fun k x hx => by
    rcases Nat.lt_or_ge k X.length with h | h
    · rw [List.getElem?_append_left h] at hx; exact Or.inl ⟨h, hx⟩
    · rw [List.getElem?_append_right h] at hx; exact Or.inr ⟨h, hx⟩
  refine ⟨fun k x hx => ?_, fun i j x y hx hy e => ?_, fun k x hx => ?_⟩
  · rcases split k x hx with ⟨_, h⟩ | ⟨_, h⟩
    · exact (hwX.1 k x h).kept (g3 x.1 (apart k x h).1 (apart k x h).2)
    · exact g1 _ x h
  · rcases split i x hx with ⟨hi, h⟩ | ⟨hi, h⟩ <;> rcases split j y hy with ⟨hj, h'⟩ | ⟨hj, h'⟩
    · exact hwX.2.1.1 i j x y h h' e
    · exact absurd (e ▸ g2.2 _ y h' : va_A wc H.size x.1) (apart i x h).2
    · exact absurd (e.symm ▸ g2.2 _ x h : va_A wc H.size y.1) (apart j y h').2
    · have := g2.1 _ _ x y h h' e
      omega
  · rcases split k x hx with ⟨_, h⟩ | ⟨_, h⟩
    · exact hwX.2.1.2 k x h
    · exact hF _ (g2.2 _ x h)
end LAWT
section LAWK
variable {p : Program} {l : Launch} {e : Env} {s : State} {m : MethodId} {below : List Frame} {meth : Method} {c : Code} {H : Heap} {locs : List Loc} {Q : State → Prop} {G : va_G} {cI cZ : ClassId} {t1 t2 : Nat} {A : Nat → Prop} {ls : Array Slot} {b L i : Nat} {xs : Nat → Int32} {h ht h1 h2 hp hy hs hv hz hm : Nat → Nat} {K T T1 T2 P Y S V Z M : Nat → Nat → Int32} {y : MethodName} {bytes : ByteArray} {maxL n index pc : Nat} {retc : Option FieldType} {wsc : List Cond} {rm : Room} {As rest : List Value} {ov : Option Value}
theorem lw_pm_kt (b0 b1 b2 b3 b4 b5 b6 b7 b8 b9 : va_W) : lw_pm (b0 ++ b1 ++ b2 ++ b3 ++ b4 ++ b5 ++ b6 ++ b7 ++ b8 ++ b9) ((b2 ++ b3 ++ b4 ++ b5 ++ b6 ++ b7 ++ b8 ++ b9) ++ (b0 ++ b1)) ∧ lw_pm ((b2 ++ b3 ++ b4 ++ b5 ++ b6 ++ b7 ++ b8 ++ b9) ++ (b0 ++ b1)) (b0 ++ b1 ++ b2 ++ b3 ++ b4 ++ b5 ++ b6 ++ b7 ++ b8 ++ b9) := by
  refine ⟨⟨fun q hq => ?_, fun a => ?_⟩, ⟨fun q hq => ?_, fun a => ?_⟩⟩
  · simp only [List.mem_append] at hq ⊢
    rcases hq with ((((((((h | h) | h) | h) | h) | h) | h) | h) | (h | h)) <;> simp [h]
  · simp only [List.map_append, List.count_append]; omega
  · simp only [List.mem_append] at hq ⊢
    rcases hq with (((((((((h | h) | h) | h) | h) | h) | h) | h) | h) | h) <;> simp [h]
  · simp only [List.map_append, List.count_append]; omega
set_option maxHeartbeats 4000000 in
set_option maxRecDepth 100000 in
theorem lw_call_kt {K' T' : Nat → Nat → Int32} (C0 : cd_CX G cI cZ t1 t2 p s m #[Value.ref b] meth c code 4 ret wsL_law RL A) (hw : cd_WS G A s.heap H locs (pc_all cI cZ h ht h1 h2 hp hy hs hv hz hm K T T1 T2 P Y S V Z M)) (hM : cd_Ct l G cI cZ t1 t2 y wsc rm (.ref (h 0) :: As) ((pc_top cZ h ht h1 h2 hp hy hv hz K) ++ (pc_town cI ht T)) ((pc_top cZ h ht h1 h2 hp hy hv hz K') ++ (pc_town cI ht T')) ov) (cw : CallW room_1 s #[Value.ref b] RL RX5 index y bytes maxL retc wsc rm 0 0 n) (hn : As.length = n) (hsize : ls.size = 4) (hroom : 2 * (F0 m pc ls (As.reverse ++ .ref (h 0) :: rest)).monitorRoom + (rest.map fun v => v.category).sum ≤ 8) (hdg : decode code pc = .ok (.invokevirtual index, 3))
    (kk : ∀ (H1 : Heap) (locs1 : List Loc), cd_WS G A s.heap H1 locs1 (pc_all cI cZ h ht h1 h2 hp hy hs hv hz hm K' T' T1 T2 P Y S V Z M) → W p l e room_1 s m #[Value.ref b] below meth c H1 locs1 72 2623 Q (F0 m (pc + 3) ls (ov.toList ++ rest))) : W p l e room_1 s m #[Value.ref b] below meth c H locs 72 2623 Q (F0 m pc ls (As.reverse ++ .ref (h 0) :: rest)) :=
  cd_callVt C0 (hw.pm (lw_pm_kt _ _ _ _ _ _ _ _ _ _).1) hM 0 5 rfl rfl rfl cw hn hsize hroom hdg (fun H1 locs1 hw1 => kk H1 locs1 (hw1.pm (lw_pm_kt _ _ _ _ _ _ _ _ _ _).2)) ⟨Nat.le_of_ble_eq_true rfl, Nat.le_of_ble_eq_true rfl⟩
theorem lw_pm_kp (b0 b1 b2 b3 b4 b5 b6 b7 b8 b9 : va_W) : lw_pm (b0 ++ b1 ++ b2 ++ b3 ++ b4 ++ b5 ++ b6 ++ b7 ++ b8 ++ b9) ((b1 ++ b2 ++ b3 ++ b5 ++ b6 ++ b7 ++ b8 ++ b9) ++ (b0 ++ b4)) ∧ lw_pm ((b1 ++ b2 ++ b3 ++ b5 ++ b6 ++ b7 ++ b8 ++ b9) ++ (b0 ++ b4)) (b0 ++ b1 ++ b2 ++ b3 ++ b4 ++ b5 ++ b6 ++ b7 ++ b8 ++ b9) := by
  refine ⟨⟨fun q hq => ?_, fun a => ?_⟩, ⟨fun q hq => ?_, fun a => ?_⟩⟩
  · simp only [List.mem_append] at hq ⊢
    rcases hq with ((((((((h | h) | h) | h) | h) | h) | h) | h) | (h | h)) <;> simp [h]
  · simp only [List.map_append, List.count_append]; omega
  · simp only [List.mem_append] at hq ⊢
    rcases hq with (((((((((h | h) | h) | h) | h) | h) | h) | h) | h) | h) <;> simp [h]
  · simp only [List.map_append, List.count_append]; omega
set_option maxHeartbeats 4000000 in
set_option maxRecDepth 100000 in
theorem lw_call_kp {K' P' : Nat → Nat → Int32} (C0 : cd_CX G cI cZ t1 t2 p s m #[Value.ref b] meth c code 4 ret wsL_law RL A) (hw : cd_WS G A s.heap H locs (pc_all cI cZ h ht h1 h2 hp hy hs hv hz hm K T T1 T2 P Y S V Z M)) (hM : cd_Ct l G cI cZ t1 t2 y wsc rm (.ref (h 0) :: As) ((pc_top cZ h ht h1 h2 hp hy hv hz K) ++ (pc_pad cI hp P)) ((pc_top cZ h ht h1 h2 hp hy hv hz K') ++ (pc_pad cI hp P')) ov) (cw : CallW room_1 s #[Value.ref b] RL RX5 index y bytes maxL retc wsc rm 0 0 n) (hn : As.length = n) (hsize : ls.size = 4) (hroom : 2 * (F0 m pc ls (As.reverse ++ .ref (h 0) :: rest)).monitorRoom + (rest.map fun v => v.category).sum ≤ 8) (hdg : decode code pc = .ok (.invokevirtual index, 3))
    (kk : ∀ (H1 : Heap) (locs1 : List Loc), cd_WS G A s.heap H1 locs1 (pc_all cI cZ h ht h1 h2 hp hy hs hv hz hm K' T T1 T2 P' Y S V Z M) → W p l e room_1 s m #[Value.ref b] below meth c H1 locs1 72 2623 Q (F0 m (pc + 3) ls (ov.toList ++ rest))) : W p l e room_1 s m #[Value.ref b] below meth c H locs 72 2623 Q (F0 m pc ls (As.reverse ++ .ref (h 0) :: rest)) :=
  cd_callVt C0 (hw.pm (lw_pm_kp _ _ _ _ _ _ _ _ _ _).1) hM 0 5 rfl rfl rfl cw hn hsize hroom hdg (fun H1 locs1 hw1 => kk H1 locs1 (hw1.pm (lw_pm_kp _ _ _ _ _ _ _ _ _ _).2)) ⟨Nat.le_of_ble_eq_true rfl, Nat.le_of_ble_eq_true rfl⟩
theorem lw_pm_ktpys (b0 b1 b2 b3 b4 b5 b6 b7 b8 b9 : va_W) : lw_pm (b0 ++ b1 ++ b2 ++ b3 ++ b4 ++ b5 ++ b6 ++ b7 ++ b8 ++ b9) ((b2 ++ b3 ++ b7 ++ b8 ++ b9) ++ (b0 ++ b1 ++ b4 ++ b5 ++ b6)) ∧ lw_pm ((b2 ++ b3 ++ b7 ++ b8 ++ b9) ++ (b0 ++ b1 ++ b4 ++ b5 ++ b6)) (b0 ++ b1 ++ b2 ++ b3 ++ b4 ++ b5 ++ b6 ++ b7 ++ b8 ++ b9) := by
  refine ⟨⟨fun q hq => ?_, fun a => ?_⟩, ⟨fun q hq => ?_, fun a => ?_⟩⟩
  · simp only [List.mem_append] at hq ⊢
    rcases hq with (((((h | h) | h) | h) | h) | ((((h | h) | h) | h) | h)) <;> simp [h]
  · simp only [List.map_append, List.count_append]; omega
  · simp only [List.mem_append] at hq ⊢
    rcases hq with (((((((((h | h) | h) | h) | h) | h) | h) | h) | h) | h) <;> simp [h]
  · simp only [List.map_append, List.count_append]; omega
set_option maxHeartbeats 4000000 in
set_option maxRecDepth 100000 in
theorem lw_call_ktpys {K' T' P' Y' S' : Nat → Nat → Int32} (C0 : cd_CX G cI cZ t1 t2 p s m #[Value.ref b] meth c code 4 ret wsL_law RL A) (hw : cd_WS G A s.heap H locs (pc_all cI cZ h ht h1 h2 hp hy hs hv hz hm K T T1 T2 P Y S V Z M)) (hM : cd_Ct l G cI cZ t1 t2 y wsc rm (.ref (h 0) :: As) ((pc_top cZ h ht h1 h2 hp hy hv hz K) ++ (pc_town cI ht T) ++ (pc_pad cI hp P) ++ (pc_play hy hs Y) ++ (pc_town cI hs S)) ((pc_top cZ h ht h1 h2 hp hy hv hz K') ++ (pc_town cI ht T') ++ (pc_pad cI hp P') ++ (pc_play hy hs Y') ++ (pc_town cI hs S')) ov) (cw : CallW room_1 s #[Value.ref b] RL RX5 index y bytes maxL retc wsc rm 0 0 n) (hn : As.length = n) (hsize : ls.size = 4) (hroom : 2 * (F0 m pc ls (As.reverse ++ .ref (h 0) :: rest)).monitorRoom + (rest.map fun v => v.category).sum ≤ 8) (hdg : decode code pc = .ok (.invokevirtual index, 3))
    (kk : ∀ (H1 : Heap) (locs1 : List Loc), cd_WS G A s.heap H1 locs1 (pc_all cI cZ h ht h1 h2 hp hy hs hv hz hm K' T' T1 T2 P' Y' S' V Z M) → W p l e room_1 s m #[Value.ref b] below meth c H1 locs1 72 2623 Q (F0 m (pc + 3) ls (ov.toList ++ rest))) : W p l e room_1 s m #[Value.ref b] below meth c H locs 72 2623 Q (F0 m pc ls (As.reverse ++ .ref (h 0) :: rest)) :=
  cd_callVt C0 (hw.pm (lw_pm_ktpys _ _ _ _ _ _ _ _ _ _).1) hM 0 5 rfl rfl rfl cw hn hsize hroom hdg (fun H1 locs1 hw1 => kk H1 locs1 (hw1.pm (lw_pm_ktpys _ _ _ _ _ _ _ _ _ _).2)) ⟨Nat.le_of_ble_eq_true rfl, Nat.le_of_ble_eq_true rfl⟩
theorem lw_pm_ktv (b0 b1 b2 b3 b4 b5 b6 b7 b8 b9 : va_W) : lw_pm (b0 ++ b1 ++ b2 ++ b3 ++ b4 ++ b5 ++ b6 ++ b7 ++ b8 ++ b9) ((b2 ++ b3 ++ b4 ++ b5 ++ b6 ++ b8 ++ b9) ++ (b0 ++ b1 ++ b7)) ∧ lw_pm ((b2 ++ b3 ++ b4 ++ b5 ++ b6 ++ b8 ++ b9) ++ (b0 ++ b1 ++ b7)) (b0 ++ b1 ++ b2 ++ b3 ++ b4 ++ b5 ++ b6 ++ b7 ++ b8 ++ b9) := by
  refine ⟨⟨fun q hq => ?_, fun a => ?_⟩, ⟨fun q hq => ?_, fun a => ?_⟩⟩
  · simp only [List.mem_append] at hq ⊢
    rcases hq with (((((((h | h) | h) | h) | h) | h) | h) | ((h | h) | h)) <;> simp [h]
  · simp only [List.map_append, List.count_append]; omega
  · simp only [List.mem_append] at hq ⊢
    rcases hq with (((((((((h | h) | h) | h) | h) | h) | h) | h) | h) | h) <;> simp [h]
  · simp only [List.map_append, List.count_append]; omega
set_option maxHeartbeats 4000000 in
set_option maxRecDepth 100000 in
theorem lw_call_ktv {K' T' V' : Nat → Nat → Int32} (C0 : cd_CX G cI cZ t1 t2 p s m #[Value.ref b] meth c code 4 ret wsL_law RL A) (hw : cd_WS G A s.heap H locs (pc_all cI cZ h ht h1 h2 hp hy hs hv hz hm K T T1 T2 P Y S V Z M)) (hM : cd_Ct l G cI cZ t1 t2 y wsc rm (.ref (h 0) :: As) ((pc_top cZ h ht h1 h2 hp hy hv hz K) ++ (pc_town cI ht T) ++ (pc_walk cI hv V)) ((pc_top cZ h ht h1 h2 hp hy hv hz K') ++ (pc_town cI ht T') ++ (pc_walk cI hv V')) ov) (cw : CallW room_1 s #[Value.ref b] RL RX5 index y bytes maxL retc wsc rm 0 0 n) (hn : As.length = n) (hsize : ls.size = 4) (hroom : 2 * (F0 m pc ls (As.reverse ++ .ref (h 0) :: rest)).monitorRoom + (rest.map fun v => v.category).sum ≤ 8) (hdg : decode code pc = .ok (.invokevirtual index, 3))
    (kk : ∀ (H1 : Heap) (locs1 : List Loc), cd_WS G A s.heap H1 locs1 (pc_all cI cZ h ht h1 h2 hp hy hs hv hz hm K' T' T1 T2 P Y S V' Z M) → W p l e room_1 s m #[Value.ref b] below meth c H1 locs1 72 2623 Q (F0 m (pc + 3) ls (ov.toList ++ rest))) : W p l e room_1 s m #[Value.ref b] below meth c H locs 72 2623 Q (F0 m pc ls (As.reverse ++ .ref (h 0) :: rest)) :=
  cd_callVt C0 (hw.pm (lw_pm_ktv _ _ _ _ _ _ _ _ _ _).1) hM 0 5 rfl rfl rfl cw hn hsize hroom hdg (fun H1 locs1 hw1 => kk H1 locs1 (hw1.pm (lw_pm_ktv _ _ _ _ _ _ _ _ _ _).2)) ⟨Nat.le_of_ble_eq_true rfl, Nat.le_of_ble_eq_true rfl⟩
theorem lw_pm_ktz (b0 b1 b2 b3 b4 b5 b6 b7 b8 b9 : va_W) : lw_pm (b0 ++ b1 ++ b2 ++ b3 ++ b4 ++ b5 ++ b6 ++ b7 ++ b8 ++ b9) ((b2 ++ b3 ++ b4 ++ b5 ++ b6 ++ b7 ++ b9) ++ (b0 ++ b1 ++ b8)) ∧ lw_pm ((b2 ++ b3 ++ b4 ++ b5 ++ b6 ++ b7 ++ b9) ++ (b0 ++ b1 ++ b8)) (b0 ++ b1 ++ b2 ++ b3 ++ b4 ++ b5 ++ b6 ++ b7 ++ b8 ++ b9) := by
  refine ⟨⟨fun q hq => ?_, fun a => ?_⟩, ⟨fun q hq => ?_, fun a => ?_⟩⟩
  · simp only [List.mem_append] at hq ⊢
    rcases hq with (((((((h | h) | h) | h) | h) | h) | h) | ((h | h) | h)) <;> simp [h]
  · simp only [List.map_append, List.count_append]; omega
  · simp only [List.mem_append] at hq ⊢
    rcases hq with (((((((((h | h) | h) | h) | h) | h) | h) | h) | h) | h) <;> simp [h]
  · simp only [List.map_append, List.count_append]; omega
set_option maxHeartbeats 4000000 in
set_option maxRecDepth 100000 in
theorem lw_call_ktz {K' T' Z' : Nat → Nat → Int32} (C0 : cd_CX G cI cZ t1 t2 p s m #[Value.ref b] meth c code 4 ret wsL_law RL A) (hw : cd_WS G A s.heap H locs (pc_all cI cZ h ht h1 h2 hp hy hs hv hz hm K T T1 T2 P Y S V Z M)) (hM : cd_Ct l G cI cZ t1 t2 y wsc rm (.ref (h 0) :: As) ((pc_top cZ h ht h1 h2 hp hy hv hz K) ++ (pc_town cI ht T) ++ (pc_snz cI hz Z)) ((pc_top cZ h ht h1 h2 hp hy hv hz K') ++ (pc_town cI ht T') ++ (pc_snz cI hz Z')) ov) (cw : CallW room_1 s #[Value.ref b] RL RX5 index y bytes maxL retc wsc rm 0 0 n) (hn : As.length = n) (hsize : ls.size = 4) (hroom : 2 * (F0 m pc ls (As.reverse ++ .ref (h 0) :: rest)).monitorRoom + (rest.map fun v => v.category).sum ≤ 8) (hdg : decode code pc = .ok (.invokevirtual index, 3))
    (kk : ∀ (H1 : Heap) (locs1 : List Loc), cd_WS G A s.heap H1 locs1 (pc_all cI cZ h ht h1 h2 hp hy hs hv hz hm K' T' T1 T2 P Y S V Z' M) → W p l e room_1 s m #[Value.ref b] below meth c H1 locs1 72 2623 Q (F0 m (pc + 3) ls (ov.toList ++ rest))) : W p l e room_1 s m #[Value.ref b] below meth c H locs 72 2623 Q (F0 m pc ls (As.reverse ++ .ref (h 0) :: rest)) :=
  cd_callVt C0 (hw.pm (lw_pm_ktz _ _ _ _ _ _ _ _ _ _).1) hM 0 5 rfl rfl rfl cw hn hsize hroom hdg (fun H1 locs1 hw1 => kk H1 locs1 (hw1.pm (lw_pm_ktz _ _ _ _ _ _ _ _ _ _).2)) ⟨Nat.le_of_ble_eq_true rfl, Nat.le_of_ble_eq_true rfl⟩
theorem lw_pm_k (b0 b1 b2 b3 b4 b5 b6 b7 b8 b9 : va_W) : lw_pm (b0 ++ b1 ++ b2 ++ b3 ++ b4 ++ b5 ++ b6 ++ b7 ++ b8 ++ b9) ((b1 ++ b2 ++ b3 ++ b4 ++ b5 ++ b6 ++ b7 ++ b8 ++ b9) ++ (b0)) ∧ lw_pm ((b1 ++ b2 ++ b3 ++ b4 ++ b5 ++ b6 ++ b7 ++ b8 ++ b9) ++ (b0)) (b0 ++ b1 ++ b2 ++ b3 ++ b4 ++ b5 ++ b6 ++ b7 ++ b8 ++ b9) := by
  refine ⟨⟨fun q hq => ?_, fun a => ?_⟩, ⟨fun q hq => ?_, fun a => ?_⟩⟩
  · simp only [List.mem_append] at hq ⊢
    rcases hq with (((((((((h | h) | h) | h) | h) | h) | h) | h) | h) | h) <;> simp [h]
  · simp only [List.map_append, List.count_append]; omega
  · simp only [List.mem_append] at hq ⊢
    rcases hq with (((((((((h | h) | h) | h) | h) | h) | h) | h) | h) | h) <;> simp [h]
  · simp only [List.map_append, List.count_append]; omega
set_option maxHeartbeats 4000000 in
set_option maxRecDepth 100000 in
theorem lw_call_k {K' : Nat → Nat → Int32} (C0 : cd_CX G cI cZ t1 t2 p s m #[Value.ref b] meth c code 4 ret wsL_law RL A) (hw : cd_WS G A s.heap H locs (pc_all cI cZ h ht h1 h2 hp hy hs hv hz hm K T T1 T2 P Y S V Z M)) (hM : cd_Ct l G cI cZ t1 t2 y wsc rm (.ref (h 0) :: As) ((pc_top cZ h ht h1 h2 hp hy hv hz K)) ((pc_top cZ h ht h1 h2 hp hy hv hz K')) ov) (cw : CallW room_1 s #[Value.ref b] RL RX5 index y bytes maxL retc wsc rm 0 0 n) (hn : As.length = n) (hsize : ls.size = 4) (hroom : 2 * (F0 m pc ls (As.reverse ++ .ref (h 0) :: rest)).monitorRoom + (rest.map fun v => v.category).sum ≤ 8) (hdg : decode code pc = .ok (.invokevirtual index, 3))
    (kk : ∀ (H1 : Heap) (locs1 : List Loc), cd_WS G A s.heap H1 locs1 (pc_all cI cZ h ht h1 h2 hp hy hs hv hz hm K' T T1 T2 P Y S V Z M) → W p l e room_1 s m #[Value.ref b] below meth c H1 locs1 72 2623 Q (F0 m (pc + 3) ls (ov.toList ++ rest))) : W p l e room_1 s m #[Value.ref b] below meth c H locs 72 2623 Q (F0 m pc ls (As.reverse ++ .ref (h 0) :: rest)) :=
  cd_callVt C0 (hw.pm (lw_pm_k _ _ _ _ _ _ _ _ _ _).1) hM 0 5 rfl rfl rfl cw hn hsize hroom hdg (fun H1 locs1 hw1 => kk H1 locs1 (hw1.pm (lw_pm_k _ _ _ _ _ _ _ _ _ _).2)) ⟨Nat.le_of_ble_eq_true rfl, Nat.le_of_ble_eq_true rfl⟩
theorem lw_pm_ktys (b0 b1 b2 b3 b4 b5 b6 b7 b8 b9 : va_W) : lw_pm (b0 ++ b1 ++ b2 ++ b3 ++ b4 ++ b5 ++ b6 ++ b7 ++ b8 ++ b9) ((b2 ++ b3 ++ b4 ++ b7 ++ b8 ++ b9) ++ (b0 ++ b1 ++ b5 ++ b6)) ∧ lw_pm ((b2 ++ b3 ++ b4 ++ b7 ++ b8 ++ b9) ++ (b0 ++ b1 ++ b5 ++ b6)) (b0 ++ b1 ++ b2 ++ b3 ++ b4 ++ b5 ++ b6 ++ b7 ++ b8 ++ b9) := by
  refine ⟨⟨fun q hq => ?_, fun a => ?_⟩, ⟨fun q hq => ?_, fun a => ?_⟩⟩
  · simp only [List.mem_append] at hq ⊢
    rcases hq with ((((((h | h) | h) | h) | h) | h) | (((h | h) | h) | h)) <;> simp [h]
  · simp only [List.map_append, List.count_append]; omega
  · simp only [List.mem_append] at hq ⊢
    rcases hq with (((((((((h | h) | h) | h) | h) | h) | h) | h) | h) | h) <;> simp [h]
  · simp only [List.map_append, List.count_append]; omega
set_option maxHeartbeats 4000000 in
set_option maxRecDepth 100000 in
theorem lw_call_ktys {K' T' Y' S' : Nat → Nat → Int32} (C0 : cd_CX G cI cZ t1 t2 p s m #[Value.ref b] meth c code 4 ret wsL_law RL A) (hw : cd_WS G A s.heap H locs (pc_all cI cZ h ht h1 h2 hp hy hs hv hz hm K T T1 T2 P Y S V Z M)) (hM : cd_Ct l G cI cZ t1 t2 y wsc rm (.ref (h 0) :: As) ((pc_top cZ h ht h1 h2 hp hy hv hz K) ++ (pc_town cI ht T) ++ (pc_play hy hs Y) ++ (pc_town cI hs S)) ((pc_top cZ h ht h1 h2 hp hy hv hz K') ++ (pc_town cI ht T') ++ (pc_play hy hs Y') ++ (pc_town cI hs S')) ov) (cw : CallW room_1 s #[Value.ref b] RL RX5 index y bytes maxL retc wsc rm 0 0 n) (hn : As.length = n) (hsize : ls.size = 4) (hroom : 2 * (F0 m pc ls (As.reverse ++ .ref (h 0) :: rest)).monitorRoom + (rest.map fun v => v.category).sum ≤ 8) (hdg : decode code pc = .ok (.invokevirtual index, 3))
    (kk : ∀ (H1 : Heap) (locs1 : List Loc), cd_WS G A s.heap H1 locs1 (pc_all cI cZ h ht h1 h2 hp hy hs hv hz hm K' T' T1 T2 P Y' S' V Z M) → W p l e room_1 s m #[Value.ref b] below meth c H1 locs1 72 2623 Q (F0 m (pc + 3) ls (ov.toList ++ rest))) : W p l e room_1 s m #[Value.ref b] below meth c H locs 72 2623 Q (F0 m pc ls (As.reverse ++ .ref (h 0) :: rest)) :=
  cd_callVt C0 (hw.pm (lw_pm_ktys _ _ _ _ _ _ _ _ _ _).1) hM 0 5 rfl rfl rfl cw hn hsize hroom hdg (fun H1 locs1 hw1 => kk H1 locs1 (hw1.pm (lw_pm_ktys _ _ _ _ _ _ _ _ _ _).2)) ⟨Nat.le_of_ble_eq_true rfl, Nat.le_of_ble_eq_true rfl⟩
theorem lw_pm_ktij (b0 b1 b2 b3 b4 b5 b6 b7 b8 b9 : va_W) : lw_pm (b0 ++ b1 ++ b2 ++ b3 ++ b4 ++ b5 ++ b6 ++ b7 ++ b8 ++ b9) ((b4 ++ b5 ++ b6 ++ b7 ++ b8 ++ b9) ++ (b0 ++ b1 ++ b2 ++ b3)) ∧ lw_pm ((b4 ++ b5 ++ b6 ++ b7 ++ b8 ++ b9) ++ (b0 ++ b1 ++ b2 ++ b3)) (b0 ++ b1 ++ b2 ++ b3 ++ b4 ++ b5 ++ b6 ++ b7 ++ b8 ++ b9) := by
  refine ⟨⟨fun q hq => ?_, fun a => ?_⟩, ⟨fun q hq => ?_, fun a => ?_⟩⟩
  · simp only [List.mem_append] at hq ⊢
    rcases hq with ((((((h | h) | h) | h) | h) | h) | (((h | h) | h) | h)) <;> simp [h]
  · simp only [List.map_append, List.count_append]; omega
  · simp only [List.mem_append] at hq ⊢
    rcases hq with (((((((((h | h) | h) | h) | h) | h) | h) | h) | h) | h) <;> simp [h]
  · simp only [List.map_append, List.count_append]; omega
set_option maxHeartbeats 4000000 in
set_option maxRecDepth 100000 in
theorem lw_call_ktij {K' T' T1' T2' : Nat → Nat → Int32} (C0 : cd_CX G cI cZ t1 t2 p s m #[Value.ref b] meth c code 4 ret wsL_law RL A) (hw : cd_WS G A s.heap H locs (pc_all cI cZ h ht h1 h2 hp hy hs hv hz hm K T T1 T2 P Y S V Z M)) (hM : cd_Ct l G cI cZ t1 t2 y wsc rm (.ref (h 0) :: As) ((pc_top cZ h ht h1 h2 hp hy hv hz K) ++ (pc_town cI ht T) ++ (pc_town cI h1 T1) ++ (pc_town cI h2 T2)) ((pc_top cZ h ht h1 h2 hp hy hv hz K') ++ (pc_town cI ht T') ++ (pc_town cI h1 T1') ++ (pc_town cI h2 T2')) ov) (cw : CallW room_1 s #[Value.ref b] RL RX5 index y bytes maxL retc wsc rm 0 0 n) (hn : As.length = n) (hsize : ls.size = 4) (hroom : 2 * (F0 m pc ls (As.reverse ++ .ref (h 0) :: rest)).monitorRoom + (rest.map fun v => v.category).sum ≤ 8) (hdg : decode code pc = .ok (.invokevirtual index, 3))
    (kk : ∀ (H1 : Heap) (locs1 : List Loc), cd_WS G A s.heap H1 locs1 (pc_all cI cZ h ht h1 h2 hp hy hs hv hz hm K' T' T1' T2' P Y S V Z M) → W p l e room_1 s m #[Value.ref b] below meth c H1 locs1 72 2623 Q (F0 m (pc + 3) ls (ov.toList ++ rest))) : W p l e room_1 s m #[Value.ref b] below meth c H locs 72 2623 Q (F0 m pc ls (As.reverse ++ .ref (h 0) :: rest)) :=
  cd_callVt C0 (hw.pm (lw_pm_ktij _ _ _ _ _ _ _ _ _ _).1) hM 0 5 rfl rfl rfl cw hn hsize hroom hdg (fun H1 locs1 hw1 => kk H1 locs1 (hw1.pm (lw_pm_ktij _ _ _ _ _ _ _ _ _ _).2)) ⟨Nat.le_of_ble_eq_true rfl, Nat.le_of_ble_eq_true rfl⟩
theorem lw_pm_ktp (b0 b1 b2 b3 b4 b5 b6 b7 b8 b9 : va_W) : lw_pm (b0 ++ b1 ++ b2 ++ b3 ++ b4 ++ b5 ++ b6 ++ b7 ++ b8 ++ b9) ((b2 ++ b3 ++ b5 ++ b6 ++ b7 ++ b8 ++ b9) ++ (b0 ++ b1 ++ b4)) ∧ lw_pm ((b2 ++ b3 ++ b5 ++ b6 ++ b7 ++ b8 ++ b9) ++ (b0 ++ b1 ++ b4)) (b0 ++ b1 ++ b2 ++ b3 ++ b4 ++ b5 ++ b6 ++ b7 ++ b8 ++ b9) := by
  refine ⟨⟨fun q hq => ?_, fun a => ?_⟩, ⟨fun q hq => ?_, fun a => ?_⟩⟩
  · simp only [List.mem_append] at hq ⊢
    rcases hq with (((((((h | h) | h) | h) | h) | h) | h) | ((h | h) | h)) <;> simp [h]
  · simp only [List.map_append, List.count_append]; omega
  · simp only [List.mem_append] at hq ⊢
    rcases hq with (((((((((h | h) | h) | h) | h) | h) | h) | h) | h) | h) <;> simp [h]
  · simp only [List.map_append, List.count_append]; omega
set_option maxHeartbeats 4000000 in
set_option maxRecDepth 100000 in
theorem lw_call_ktp {K' T' P' : Nat → Nat → Int32} (C0 : cd_CX G cI cZ t1 t2 p s m #[Value.ref b] meth c code 4 ret wsL_law RL A) (hw : cd_WS G A s.heap H locs (pc_all cI cZ h ht h1 h2 hp hy hs hv hz hm K T T1 T2 P Y S V Z M)) (hM : cd_Ct l G cI cZ t1 t2 y wsc rm (.ref (h 0) :: As) ((pc_top cZ h ht h1 h2 hp hy hv hz K) ++ (pc_town cI ht T) ++ (pc_pad cI hp P)) ((pc_top cZ h ht h1 h2 hp hy hv hz K') ++ (pc_town cI ht T') ++ (pc_pad cI hp P')) ov) (cw : CallW room_1 s #[Value.ref b] RL RX5 index y bytes maxL retc wsc rm 0 0 n) (hn : As.length = n) (hsize : ls.size = 4) (hroom : 2 * (F0 m pc ls (As.reverse ++ .ref (h 0) :: rest)).monitorRoom + (rest.map fun v => v.category).sum ≤ 8) (hdg : decode code pc = .ok (.invokevirtual index, 3))
    (kk : ∀ (H1 : Heap) (locs1 : List Loc), cd_WS G A s.heap H1 locs1 (pc_all cI cZ h ht h1 h2 hp hy hs hv hz hm K' T' T1 T2 P' Y S V Z M) → W p l e room_1 s m #[Value.ref b] below meth c H1 locs1 72 2623 Q (F0 m (pc + 3) ls (ov.toList ++ rest))) : W p l e room_1 s m #[Value.ref b] below meth c H locs 72 2623 Q (F0 m pc ls (As.reverse ++ .ref (h 0) :: rest)) :=
  cd_callVt C0 (hw.pm (lw_pm_ktp _ _ _ _ _ _ _ _ _ _).1) hM 0 5 rfl rfl rfl cw hn hsize hroom hdg (fun H1 locs1 hw1 => kk H1 locs1 (hw1.pm (lw_pm_ktp _ _ _ _ _ _ _ _ _ _).2)) ⟨Nat.le_of_ble_eq_true rfl, Nat.le_of_ble_eq_true rfl⟩
theorem lw_pm_m (b0 b1 b2 b3 b4 b5 b6 b7 b8 b9 : va_W) : lw_pm (b0 ++ b1 ++ b2 ++ b3 ++ b4 ++ b5 ++ b6 ++ b7 ++ b8 ++ b9) ((b0 ++ b1 ++ b2 ++ b3 ++ b4 ++ b5 ++ b6 ++ b7 ++ b8) ++ (b9)) ∧ lw_pm ((b0 ++ b1 ++ b2 ++ b3 ++ b4 ++ b5 ++ b6 ++ b7 ++ b8) ++ (b9)) (b0 ++ b1 ++ b2 ++ b3 ++ b4 ++ b5 ++ b6 ++ b7 ++ b8 ++ b9) := by
  refine ⟨⟨fun q hq => ?_, fun a => ?_⟩, ⟨fun q hq => ?_, fun a => ?_⟩⟩
  · simp only [List.mem_append] at hq ⊢
    rcases hq with (((((((((h | h) | h) | h) | h) | h) | h) | h) | h) | h) <;> simp [h]
  · simp only [List.map_append, List.count_append]; omega
  · simp only [List.mem_append] at hq ⊢
    rcases hq with (((((((((h | h) | h) | h) | h) | h) | h) | h) | h) | h) <;> simp [h]
  · simp only [List.map_append, List.count_append]; omega
set_option maxHeartbeats 4000000 in
set_option maxRecDepth 100000 in
theorem lw_call_m {M' : Nat → Nat → Int32} (C0 : cd_CX G cI cZ t1 t2 p s m #[Value.ref b] meth c code 4 ret wsL_law RL A) (hw : cd_WS G A s.heap H locs (pc_all cI cZ h ht h1 h2 hp hy hs hv hz hm K T T1 T2 P Y S V Z M)) (hM : cd_Ct l G cI cZ t1 t2 y wsc rm (.ref (hm 0) :: As) ((pc_mod cI cZ hm M)) ((pc_mod cI cZ hm M')) ov) (cw : CallW room_1 s #[Value.ref b] RL RX6 index y bytes maxL retc wsc rm 0 0 n) (hn : As.length = n) (hsize : ls.size = 4) (hroom : 2 * (F0 m pc ls (As.reverse ++ .ref (hm 0) :: rest)).monitorRoom + (rest.map fun v => v.category).sum ≤ 8) (hdg : decode code pc = .ok (.invokevirtual index, 3))
    (kk : ∀ (H1 : Heap) (locs1 : List Loc), cd_WS G A s.heap H1 locs1 (pc_all cI cZ h ht h1 h2 hp hy hs hv hz hm K T T1 T2 P Y S V Z M') → W p l e room_1 s m #[Value.ref b] below meth c H1 locs1 72 2623 Q (F0 m (pc + 3) ls (ov.toList ++ rest))) : W p l e room_1 s m #[Value.ref b] below meth c H locs 72 2623 Q (F0 m pc ls (As.reverse ++ .ref (hm 0) :: rest)) :=
  cd_callVt C0 (hw.pm (lw_pm_m _ _ _ _ _ _ _ _ _ _).1) hM 0 6 rfl rfl rfl cw hn hsize hroom hdg (fun H1 locs1 hw1 => kk H1 locs1 (hw1.pm (lw_pm_m _ _ _ _ _ _ _ _ _ _).2)) ⟨Nat.le_of_ble_eq_true rfl, Nat.le_of_ble_eq_true rfl⟩
end LAWK
