abbrev vwCl : List vw_C := [(RX0, TX0, 6), (RX1, TX1, 6), (RX2, TX2, 3), (RX3, TX3, 14), (RX4, TX4, 5), (RX5, TX5, 8), (RX6, TX6, 22)]
/-! the environment, the contract of a method over a pure function, calls, returns -/
abbrev cd_nest : List Cond := [.methodLinkNest RX3 46 yX5_bit RX5, .methodLinkNest RX5 28 yX0_init RX5, .methodLinkNest RX5 35 yX1_init RX5, .methodLinkNest RX5 42 yX4_init RX5, .methodLinkNest RX5 49 yX2_init RX5, .methodLinkNest RX0 50 yX5_within RX5, .methodLinkNest RX3 96 yX5_holds RX5, .methodLinkNest RX1 106 yX5_holds RX5, .methodLinkNest RX4 48 yX5_isCandle RX5, .methodLinkNest RX2 73 yX5_within RX5, .methodLinkNest RX1 71 yX5_isCandle RX5, .fieldLinkNest RX1 67 "CandleDebts" "DRAWN_KINDS" "[I" RX5]
def cd_NX (U : State) : Prop := ∀ w ∈ cd_nest, va_Nw w U
theorem cd_nest_kind : ∀ w ∈ cd_nest, (∃ a i x h, w = .methodLinkNest a i x h) ∨ (∃ a i b n d h, w = .fieldLinkNest a i b n d h) := by
  intro w hw
  simp only [cd_nest, List.mem_cons, List.not_mem_nil, or_false] at hw
  rcases hw with rfl | rfl | rfl | rfl | rfl | rfl | rfl | rfl | rfl | rfl | rfl | rfl
  all_goals first | exact Or.inl ⟨_, _, _, _, rfl⟩ | exact Or.inr ⟨_, _, _, _, _, _, rfl⟩
theorem cd_NX.warm {s U : State} (h : cd_NX s) (hW : s.WarmedH U.vm) : cd_NX U := by
  intro w hw
  have h1 := h w hw
  rcases cd_nest_kind w hw with ⟨a, i, x, q, rfl⟩ | ⟨a, i, b, n, d, q, rfl⟩
  · exact va_Nw.warmM hW h1
  · exact va_Nw.warmF hW h1
theorem cd_NX.same {u U : State} (h : cd_NX u) (e : u.vm = U.vm) : cd_NX U := by
  intro w hw
  have h1 := h w hw
  rcases cd_nest_kind w hw with ⟨a, i, x, q, rfl⟩ | ⟨a, i, b, n, d, q, rfl⟩
  · exact va_Nw.same rfl e h1
  · exact va_Nw.same rfl e h1
def cd_rw : Nat → Int32 := fun j => ([0, 1, 1, 2, 0, 3, 1, 1, 0, 3, 3, 2, 2] : List Int32).getD j 0
def cd_dk : Nat → Int32 := fun j => ([42, 45, 33, 94, 62, 119, 46, 46] : List Int32).getD j 0
def cd_SX (t1 t2 : Nat) (A : Nat → Prop) (U : State) (H : Heap) : Prop :=
  va_Z RX5 "ROW_WORTH" "[I" (.ref t1) A U H ∧ va_T .int t1 13 (fun j => .int (cd_rw j)) A U H ∧ va_Z RX5 "DRAWN_KINDS" "[I" (.ref t2) A U H ∧ va_T .int t2 8 (fun j => .int (cd_dk j)) A U H
def cd_EX (G : va_G) (cI cZ : ClassId) (t1 t2 : Nat) (A : Nat → Prop) (U : State) (H : Heap) : Prop :=
  va_K G vwCl [(cI, .int), (cZ, .boolean)] U ∧ cd_NX U ∧ cd_SX t1 t2 A U H
theorem cd_EX.to {G : va_G} {cI cZ : ClassId} {t1 t2 : Nat} {A B : Nat → Prop} {s U : State} {H : Heap} {locs : List Loc} (h : cd_EX G cI cZ t1 t2 A s s.heap) (hS : va_S A s.heap H locs) (hB : ∀ q, B q → A q) (hU : U.heap = H) (hW : s.WarmedH U.vm) : cd_EX G cI cZ t1 t2 B U U.heap := by
  obtain ⟨h1, h2, h3, h4, h5, h6⟩ := h
  rw [hU]
  have kp : ∀ a : Nat, a < s.heap.size → ¬ A a → H[a]? = s.heap[a]? := fun a h1 h2 => hS.2.1 a h1 h2
  exact ⟨va_K.moved hW.alike h1, h2.warm hW, ((h3.kept kp).narrow hB).moved hW.alike, ((h4.kept kp).narrow hB).moved hW.alike, ((h5.kept kp).narrow hB).moved hW.alike, ((h6.kept kp).narrow hB).moved hW.alike⟩
def cd_QE (G : va_G) (A : Nat → Prop) (w' : va_W) (ov : Option Value) : Array Value → State → Outcome → State → Prop :=
  fun _ st oc t => (oc = .returned ov ∧ va_P G vwCl w' t.heap ∧ va_D A w') ∧ va_F A st t
def cd_PE (G : va_G) (cI cZ : ClassId) (t1 t2 : Nat) (av : List Value) (w : va_W) (sz : Nat) : Array Value → State → Prop :=
  va_Pc av (fun U => U.heap.size = sz ∧ va_P G vwCl w U.heap ∧ va_D (fun _ => True) w ∧ cd_EX G cI cZ t1 t2 (va_A w sz) U U.heap)
/-- the contract: from the world w, with the arguments av, method y ends with ov and the world w' -/
def cd_Ct (l : Launch) (G : va_G) (cI cZ : ClassId) (t1 t2 : Nat) (y : MethodName) (ws : List Cond) (rm : Room) (av : List Value) (w w' : va_W) (ov : Option Value) : Prop :=
  ∀ sz : Nat, Met l y ws rm (cd_PE G cI cZ t1 t2 av w sz) (cd_QE G (va_A w sz) w' ov) 0 0 (va_A w sz)
def cd_WS (G : va_G) (A : Nat → Prop) (H0 H : Heap) (locs : List Loc) (w : va_W) : Prop := va_P G vwCl w H ∧ va_D A w ∧ va_S A H0 H locs
def cd_CX (G : va_G) (cI cZ : ClassId) (t1 t2 : Nat) (p : Program) (s : State) (m : MethodId) (args : Array Value) (meth : Method) (c : Code) (cc : ByteArray) (nL : Nat) (ret : Option FieldType) (Ts : List Cond) (own : String) (A : Nat → Prop) : Prop :=
  CallFix p m c cc nL s args Ts own ∧ meth.sig.returnType = ret ∧ meth.locks = false ∧ (∀ q : Nat, s.heap.size ≤ q → A q) ∧ cd_EX G cI cZ t1 t2 A s s.heap
theorem cd_blind (G : va_G) (cI cZ : ClassId) (t1 t2 : Nat) (av : List Value) (w : va_W) (sz : Nat) : FrameBlind (cd_PE G cI cZ t1 t2 av w sz) := by
  intro a U g mk q
  obtain ⟨q0, q1, q2, q3, h1, h2, h3, h4, h5, h6⟩ := q
  exact ⟨q0, q1, q2, q3, va_K.moved (u := U) (U := U.calling g mk a) (Vm.Alike.refl U.vm) h1, h2.same (u := U) (U := U.calling g mk a) rfl, h3.moved (Vm.Alike.refl U.vm), h4.moved (Vm.Alike.refl U.vm), h5.moved (Vm.Alike.refl U.vm), h6.moved (Vm.Alike.refl U.vm)⟩
set_option maxHeartbeats 1000000 in
theorem cd_of {l : Launch} {G : va_G} {cI cZ : ClassId} {t1 t2 : Nat} {y : MethodName} {ws ws' : List Cond} {rm : Room} {av : List Value} {w w' : va_W} {ov : Option Value} {cc : ByteArray} {maxL : Nat} {ret : Option FieldType} (hy : plainName y.cls = true) (hw : ws = Cond.code y cc maxL ret :: ws') (hn : (lg_sl av).length ≤ maxL)
    (body : ∀ (p : Program) (e : Env) (s : State) (m : MethodId) (ag : Array Value) (below : List Frame) (meth : Method) (c : Code) (A : Nat → Prop) (ls : Array Slot) (Q : State → Prop), cd_CX G cI cZ t1 t2 p s m ag meth c cc maxL ret ws y.cls A → lv_has ls maxL (lv_args 0 av) → cd_WS G A s.heap s.heap [] w → Q = MQ below (cd_QE G A w' ov) ag s 0 0 A → W p l e rm s m ag below meth c s.heap [] 0 0 Q (F0 m 0 ls [])) : cd_Ct l G cI cZ t1 t2 y ws rm av w w' ov := by
  intro sz
  refine Met.ofW (cc := cc) (maxL := maxL) (ret := ret) hy hw ?_
  intro p e s m args below meth c s₁ B hml hv
  obtain ⟨rfl, hsz, hP, hD0, hE⟩ := hv
  have hts := atoms_spec (ws := ws) B.pre
  have hown : s.vm.findClass y.cls = some m.cls := findClass_of_methodNamed B.named
  subst hsz
  have hD := hD0.self (sz := s.heap.size)
  rw [lg_entry_eq]
  exact body p e s m _ below meth c (va_A w s.heap.size) _ _ ⟨⟨B.exec, B.bytes, hml, hown, hts⟩, B.returns, B.notSynchronized, fun q h => Or.inr h, hE⟩ (lv_entry av hn) ⟨hP, hD, va_S.rf⟩ rfl
section CDK
variable {p : Program} {l : Launch} {e : Env} {R : Room} {s : State} {m : MethodId} {args : Array Value} {below : List Frame} {meth : Method} {c : Code} {H : Heap} {locs : List Loc} {cells slots : Nat} {Q : State → Prop} {G : va_G} {cI cZ : ClassId} {t1 t2 : Nat} {cc : ByteArray} {nL : Nat} {ret : Option FieldType} {Ts : List Cond} {own : String} {A : Nat → Prop} {w : va_W} {pc : Nat} {ls : Array Slot}
theorem cd_reti {v : Int32} (C0 : cd_CX G cI cZ t1 t2 p s m args meth c cc nL (some .int) Ts own A) (hw : cd_WS G A s.heap H locs w) (hdg : decode cc pc = .ok (.ireturn, 1)) : W p l e R s m args below meth c H locs 0 0 (MQ below (cd_QE G A w (some (.int v))) args s 0 0 A) (F0 m pc ls [.int v]) := by
  obtain ⟨⟨hx, hb, -, -, -⟩, hr, hlocks, -, -⟩ := C0
  exact W.iret hx hb hr (fun t ht hW => ⟨⟨rfl, by rw [ht]; exact hw.1, hw.2.1⟩, hw.2.2.F ht⟩) hw.2.2.2.2 hdg hlocks
theorem cd_retz {v : Int32} (C0 : cd_CX G cI cZ t1 t2 p s m args meth c cc nL (some .boolean) Ts own A) (hw : cd_WS G A s.heap H locs w) (hz : v = 0 ∨ v = 1) (hdg : decode cc pc = .ok (.ireturn, 1)) : W p l e R s m args below meth c H locs 0 0 (MQ below (cd_QE G A w (some (.int v))) args s 0 0 A) (F0 m pc ls [.int v]) := by
  obtain ⟨⟨hx, hb, -, -, -⟩, hr, hlocks, -, -⟩ := C0
  have hn : narrow .boolean (.int v) = .int v := by rcases hz with rfl | rfl <;> rfl
  exact W.zret hx hb hr hn (fun t ht hW => ⟨⟨rfl, by rw [ht]; exact hw.1, hw.2.1⟩, hw.2.2.F ht⟩) hw.2.2.2.2 hdg hlocks
theorem cd_retl {v : Int64} (C0 : cd_CX G cI cZ t1 t2 p s m args meth c cc nL (some .long) Ts own A) (hw : cd_WS G A s.heap H locs w) (hdg : decode cc pc = .ok (.lreturn, 1)) : W p l e R s m args below meth c H locs 0 0 (MQ below (cd_QE G A w (some (.long v))) args s 0 0 A) (F0 m pc ls [.long v]) := by
  obtain ⟨⟨hx, hb, -, -, -⟩, hr, hlocks, -, -⟩ := C0
  exact W.lret hx hb hr (fun t ht hW => ⟨⟨rfl, by rw [ht]; exact hw.1, hw.2.1⟩, hw.2.2.F ht⟩) hw.2.2.2.2 hdg hlocks
theorem cd_retv (C0 : cd_CX G cI cZ t1 t2 p s m args meth c cc nL none Ts own A) (hw : cd_WS G A s.heap H locs w) (hdg : decode cc pc = .ok (.return_, 1)) : W p l e R s m args below meth c H locs 0 0 (MQ below (cd_QE G A w none) args s 0 0 A) (F0 m pc ls []) := by
  obtain ⟨⟨hx, hb, -, -, -⟩, hr, hlocks, -, -⟩ := C0
  exact W.vret hx hb hr (fun t ht hW => ⟨⟨rfl, by rw [ht]; exact hw.1, hw.2.1⟩, hw.2.2.F ht⟩) hw.2.2.2.2 hdg hlocks
theorem cd_reta {v : Nat} {n : String} (C0 : cd_CX G cI cZ t1 t2 p s m args meth c cc nL (some (.object n)) Ts own A) (hw : cd_WS G A s.heap H locs w) (hdg : decode cc pc = .ok (.areturn, 1)) : W p l e R s m args below meth c H locs 0 0 (MQ below (cd_QE G A w (some (.ref v))) args s 0 0 A) (F0 m pc ls [.ref v]) := by
  obtain ⟨⟨hx, hb, -, -, -⟩, hr, hlocks, -, -⟩ := C0
  exact W.aret hx hb hr (Or.inl ⟨_, rfl⟩) (Or.inr ⟨_, rfl⟩) (fun t ht hW => ⟨⟨rfl, by rw [ht]; exact hw.1, hw.2.1⟩, hw.2.2.F ht⟩) hw.2.2.2.2 hdg hlocks
theorem cd_core {wc w1 wn : va_W} {ov : Option Value} {st0 rest : List Value} {a : Array Value} (hr : va_Run p l e R s m args below meth c H locs cells slots 0 0 (F0 m pc ls st0) rest (cd_QE G (va_A wc H.size) w1 ov a) (va_A wc H.size)) (hw : cd_WS G A s.heap H locs w) (hF : ∀ q, va_A wc H.size q → A q)
    (hN : ∀ H1 : Heap, va_P G vwCl w1 H1 → va_D (va_A wc H.size) w1 → (∀ q : Nat, q < H.size → ¬ va_A wc H.size q → H1[q]? = H[q]?) → va_P G vwCl wn H1 ∧ va_D A wn)
    (kk : ∀ (H1 : Heap) (locs1 : List Loc), cd_WS G A s.heap H1 locs1 wn → W p l e R s m args below meth c H1 locs1 cells slots Q (F0 m (pc + 3) ls (ov.toList ++ rest))) : W p l e R s m args below meth c H locs cells slots Q (F0 m pc ls st0) := by
  intro T hT X
  obtain ⟨v, st₀, t, T', L, h0, X', hL, e1, e2, ⟨⟨hv, hp, hd⟩, hz, hk⟩, st⟩ := hr T hT X
  cases hv
  rw [h0] at hz hk
  obtain ⟨n1, n2⟩ := hN T'.heap (by rw [e1]; exact hp) hd (fun q h1 h2 => by rw [e1]; exact hk q h1 h2)
  have hS := hw.2.2
  obtain ⟨t2, a1, b1⟩ := kk T'.heap (locs ++ L) ⟨n1, n2, ⟨Nat.le_trans hS.1 (by rw [e1]; exact hz), fun q h1 h2 => by rw [e1, hk q (Nat.lt_of_lt_of_le h1 hS.1) (fun z => h2 (hF q z))]; exact hS.2.1 q h1 h2, fun q hq => by
      rcases List.mem_append.mp hq with h | h
      · exact hS.2.2 q h
      · exact hF _ (hL q h)⟩⟩ T' rfl X'
  exact ⟨t2, st t2 a1, b1⟩
/-- the world behind a call that leaves its cells as they were -/
theorem cd_ro {wc : va_W} {H1 : Heap} (hw : cd_WS G A s.heap H locs w) (isC : List Nat) (hC : isC.map (fun i => w[i]?) = wc.map some) (hP1 : va_P G vwCl wc H1) (hk : ∀ q : Nat, q < H.size → ¬ va_A wc H.size q → H1[q]? = H[q]?) : va_P G vwCl w H1 ∧ va_D A w := by
  refine ⟨fun k q hq => ?_, hw.2.1⟩
  by_cases hin : va_A wc H.size q.1
  · rcases hin with ⟨j, e, hj⟩ | hj
    · have h1 : (isC.map (fun i => w[i]?))[j]? = some (some (q.1, e)) := by rw [hC, List.getElem?_map, hj]; rfl
      rw [List.getElem?_map] at h1
      cases hi : isC[j]? with
      | none => rw [hi] at h1; cases h1
      | some i =>
        rw [hi] at h1
        have h2 : w[i]? = some (q.1, e) := Option.some.inj h1
        have h3 : k = i := hw.2.1.1 k i q (q.1, e) hq h2 rfl
        subst h3
        have h4 : q = (q.1, e) := Option.some.inj (hq.symm.trans h2)
        have h5 := hP1 j _ hj
        rw [← h4] at h5
        exact h5
    · exact absurd (hw.1 k q hq).lt (by omega)
  · exact (hw.1 k q hq).kept (hk q.1 (hw.1 k q hq).lt hin)
/-- the world behind a call that changes its cells -/
theorem cd_rw' {wc wr w1 wn : va_W} {H1 : Heap} (hw : cd_WS G A s.heap H locs w) (hF : ∀ q, va_A wc H.size q → A q) (isC isR isN : List Nat) (hC : isC.map (fun i => w[i]?) = wc.map some) (hR : isR.map (fun i => w[i]?) = wr.map some) (hn : va_nd isR = true) (hdis : ∀ i ∈ isR, i ∉ isC) (hN : isN.map (fun i => (wr ++ w1)[i]?) = wn.map some) (hnn : va_nd isN = true)
    (hP1 : va_P G vwCl w1 H1) (hD1 : va_D (va_A wc H.size) w1) (hk : ∀ q : Nat, q < H.size → ¬ va_A wc H.size q → H1[q]? = H[q]?) : va_P G vwCl wn H1 ∧ va_D A wn := by
  obtain ⟨g1, g2⟩ := va_join (wr := wr) (w1 := w1) hw.1 hw.2.1 isC isR hC hR hn hdis hk hF hP1 hD1
  refine ⟨fun k q hq => ?_, g2.sub isN hnn hN⟩
  have h1 : (isN.map (fun i => (wr ++ w1)[i]?))[k]? = some (some q) := by rw [hN, List.getElem?_map, hq]; rfl
  rw [List.getElem?_map] at h1
  cases hi : isN[k]? with
  | none => rw [hi] at h1; cases h1
  | some i => rw [hi] at h1; exact g1 i q (Option.some.inj h1)
theorem cd_subP {wc : va_W} (hw : cd_WS G A s.heap H locs w) (isC : List Nat) (hC : isC.map (fun i => w[i]?) = wc.map some) : va_P G vwCl wc H := by
  intro k q hq
  have h1 : (isC.map (fun i => w[i]?))[k]? = some (some q) := by rw [hC, List.getElem?_map, hq]; rfl
  rw [List.getElem?_map] at h1
  cases hi : isC[k]? with
  | none => rw [hi] at h1; cases h1
  | some i => rw [hi] at h1; exact hw.1 i q (Option.some.inj h1)
theorem cd_pre {wc : va_W} (C0 : cd_CX G cI cZ t1 t2 p s m args meth c cc nL ret Ts own A) (hw : cd_WS G A s.heap H locs w) (isC : List Nat) (hnC : va_nd isC = true) (hC : isC.map (fun i => w[i]?) = wc.map some) (av : List Value) : (∀ U : State, U.heap = H → s.WarmedH U.vm → cd_PE G cI cZ t1 t2 av wc H.size av.toArray U) ∧ ∀ q, va_A wc H.size q → A q := by
  have hF := va_free (wc := wc) hw.2.1 hw.2.2 C0.2.2.2.1 isC hC
  refine ⟨fun U hU hW => ⟨rfl, by rw [hU], ?_, (hw.2.1.sub isC hnC hC).weaken (fun _ _ _ _ => trivial), C0.2.2.2.2.to hw.2.2 hF hU hW⟩, hF⟩
  rw [hU]
  exact cd_subP hw isC hC
variable {y : MethodName} {bytes : ByteArray} {maxL n index : Nat} {retc : Option FieldType} {wsc wsc' : List Cond} {rm : Room} {C host : String} {b : Nat} {As rest : List Value} {wc w1 wr wn : va_W} {ov : Option Value}
/-- a virtual call that leaves its cells as they were -/
theorem cd_callV (C0 : cd_CX G cI cZ t1 t2 p s m args meth c cc nL ret Ts own A) (hw : cd_WS G A s.heap H locs w) (hM : cd_Ct l G cI cZ t1 t2 y wsc rm (.ref b :: As) wc wc ov) (isC : List Nat) (hnC : va_nd isC = true) (hC : isC.map (fun i => w[i]?) = wc.map some) (q0 ci : Nat) {fs : List Value} {q : vw_C} (hq : wc[q0]? = some (b, .inr (ci, fs))) (hci : vwCl[ci]? = some q) (hqC : q.1 = C)
    (cw : CallW R s args own C index y bytes maxL retc wsc rm 0 0 n) (hn : As.length = n) (hsize : ls.size = nL) (hroom : 2 * (F0 m pc ls (As.reverse ++ .ref b :: rest)).monitorRoom + (rest.map fun v => v.category).sum ≤ 8) (hdg : decode cc pc = .ok (.invokevirtual index, 3))
    (kk : ∀ (H1 : Heap) (locs1 : List Loc), cd_WS G A s.heap H1 locs1 w → W p l e R s m args below meth c H1 locs1 cells slots Q (F0 m (pc + 3) ls (ov.toList ++ rest))) (hcs : cells + 0 ≤ R.cells ∧ slots + 0 ≤ R.slots := by exact ⟨Nat.zero_le _, Nat.zero_le _⟩) : W p l e R s m args below meth c H locs cells slots Q (F0 m pc ls (As.reverse ++ .ref b :: rest)) := by
  obtain ⟨hpre, hF⟩ := cd_pre C0 hw isC hnC hC (.ref b :: As)
  have hPc : va_P G vwCl wc H := cd_subP hw isC hC
  have hrv := va_recv C0.2.2.2.2.1 hPc hci hq
  rw [hqC] at hrv
  exact cd_core (va_runV C0.1 (hM H.size) cw ⟨cd_blind G cI cZ t1 t2 _ wc H.size, hrv, hpre⟩ rfl hn hsize rfl hroom hdg hcs) hw hF (fun H1 h1 h2 h3 => cd_ro hw isC hC h1 h3) kk
/-- a virtual call that changes its cells -/
theorem cd_callVw (C0 : cd_CX G cI cZ t1 t2 p s m args meth c cc nL ret Ts own A) (hw : cd_WS G A s.heap H locs w) (hM : cd_Ct l G cI cZ t1 t2 y wsc rm (.ref b :: As) wc w1 ov) (isC isR isN : List Nat) (hnC : va_nd isC = true) (hC : isC.map (fun i => w[i]?) = wc.map some) (hR : isR.map (fun i => w[i]?) = wr.map some) (hnR : va_nd isR = true) (hdis : ∀ i ∈ isR, i ∉ isC) (hN : isN.map (fun i => (wr ++ w1)[i]?) = wn.map some) (hnn : va_nd isN = true) (q0 ci : Nat) {fs : List Value} {q : vw_C} (hq : wc[q0]? = some (b, .inr (ci, fs))) (hci : vwCl[ci]? = some q) (hqC : q.1 = C)
    (cw : CallW R s args own C index y bytes maxL retc wsc rm 0 0 n) (hn : As.length = n) (hsize : ls.size = nL) (hroom : 2 * (F0 m pc ls (As.reverse ++ .ref b :: rest)).monitorRoom + (rest.map fun v => v.category).sum ≤ 8) (hdg : decode cc pc = .ok (.invokevirtual index, 3))
    (kk : ∀ (H1 : Heap) (locs1 : List Loc), cd_WS G A s.heap H1 locs1 wn → W p l e R s m args below meth c H1 locs1 cells slots Q (F0 m (pc + 3) ls (ov.toList ++ rest))) (hcs : cells + 0 ≤ R.cells ∧ slots + 0 ≤ R.slots := by exact ⟨Nat.zero_le _, Nat.zero_le _⟩) : W p l e R s m args below meth c H locs cells slots Q (F0 m pc ls (As.reverse ++ .ref b :: rest)) := by
  obtain ⟨hpre, hF⟩ := cd_pre C0 hw isC hnC hC (.ref b :: As)
  have hrv := va_recv C0.2.2.2.2.1 (cd_subP hw isC hC) hci hq
  rw [hqC] at hrv
  exact cd_core (va_runV C0.1 (hM H.size) cw ⟨cd_blind G cI cZ t1 t2 _ wc H.size, hrv, hpre⟩ rfl hn hsize rfl hroom hdg hcs) hw hF (fun H1 h1 h2 h3 => cd_rw' hw hF isC isR isN hC hR hnR hdis hN hnn h1 h2 h3) kk
/-- a static call of the own class that leaves its cells as they were -/
theorem cd_callS (C0 : cd_CX G cI cZ t1 t2 p s m args meth c cc nL ret Ts own A) (hw : cd_WS G A s.heap H locs w) (hM : cd_Ct l G cI cZ t1 t2 y wsc rm As wc wc ov) (isC : List Nat) (hnC : va_nd isC = true) (hC : isC.map (fun i => w[i]?) = wc.map some)
    (cw : CallB R s args own index y bytes maxL retc wsc rm 0 0 n ∧ (Cond.static y).before args s = true) (hn : As.length = n) (hsize : ls.size = nL) (hroom : 2 * (F0 m pc ls (As.reverse ++ rest)).monitorRoom + (rest.map fun v => v.category).sum ≤ 8) (hdg : decode cc pc = .ok (.invokestatic index, 3))
    (kk : ∀ (H1 : Heap) (locs1 : List Loc), cd_WS G A s.heap H1 locs1 w → W p l e R s m args below meth c H1 locs1 cells slots Q (F0 m (pc + 3) ls (ov.toList ++ rest))) (hcs : cells + 0 ≤ R.cells ∧ slots + 0 ≤ R.slots := by exact ⟨Nat.zero_le _, Nat.zero_le _⟩) : W p l e R s m args below meth c H locs cells slots Q (F0 m pc ls (As.reverse ++ rest)) := by
  obtain ⟨hpre, hF⟩ := cd_pre C0 hw isC hnC hC As
  exact cd_core (va_runS C0.1 (hM H.size) cw ⟨cd_blind G cI cZ t1 t2 _ wc H.size, hpre⟩ rfl hn hsize rfl hroom hdg hcs) hw hF (fun H1 h1 h2 h3 => cd_ro hw isC hC h1 h3) kk
/-- a static call of a nest mate that leaves its cells as they were -/
theorem cd_callSN (C0 : cd_CX G cI cZ t1 t2 p s m args meth c cc nL ret Ts own A) (hw : cd_WS G A s.heap H locs w) (hM : cd_Ct l G cI cZ t1 t2 y wsc rm As wc wc ov) (isC : List Nat) (hnC : va_nd isC = true) (hC : isC.map (fun i => w[i]?) = wc.map some)
    (cw : va_CN R s args own index y host bytes maxL retc wsc rm 0 0 n ∧ (Cond.static y).before args s = true ∧ True) (hn : As.length = n) (hsize : ls.size = nL) (hroom : 2 * (F0 m pc ls (As.reverse ++ rest)).monitorRoom + (rest.map fun v => v.category).sum ≤ 8) (hdg : decode cc pc = .ok (.invokestatic index, 3))
    (kk : ∀ (H1 : Heap) (locs1 : List Loc), cd_WS G A s.heap H1 locs1 w → W p l e R s m args below meth c H1 locs1 cells slots Q (F0 m (pc + 3) ls (ov.toList ++ rest))) (hcs : cells + 0 ≤ R.cells ∧ slots + 0 ≤ R.slots := by exact ⟨Nat.zero_le _, Nat.zero_le _⟩) : W p l e R s m args below meth c H locs cells slots Q (F0 m pc ls (As.reverse ++ rest)) := by
  obtain ⟨hpre, hF⟩ := cd_pre C0 hw isC hnC hC As
  exact cd_core (va_runSN C0.1 (hM H.size) cw ⟨cd_blind G cI cZ t1 t2 _ wc H.size, hpre⟩ rfl hn hsize rfl hroom hdg hcs) hw hF (fun H1 h1 h2 h3 => cd_ro hw isC hC h1 h3) kk
end CDK
/-! pure programs: they answer 'none' where an index is outside, a divisor is 0, or the loop's bound is used up -/
def cd_rd (f : Nat → Int32) (n : Nat) (i : Int32) : Option Int32 := if i < 0 ∨ n ≤ i.toNatClampNeg then none else some (f i.toNatClampNeg)
def cd_ix (n : Nat) (i : Int32) : Option Nat := if i < 0 ∨ n ≤ i.toNatClampNeg then none else some i.toNatClampNeg
def cd_nz (x : Int32) : Option Unit := if x = 0 then none else some ()
def cd_nzl (x : Int64) : Option Unit := if x = 0 then none else some ()
def cd_zb (x : Int32) : Option Unit := if x = 0 ∨ x = 1 then some () else none
def cd_iter {σ ρ : Type} : Nat → (σ → Option (ρ ⊕ σ)) → σ → Option ρ
  | 0, _, _ => none
  | n + 1, body, s => (body s).bind (fun o => Sum.elim some (cd_iter n body) o)
theorem cd_rd_some {α : Type} {f : Nat → Int32} {n : Nat} {i : Int32} {k : Int32 → Option α} {o : α} (h : (cd_rd f n i).bind k = some o) : vp_in i n ∧ k (f i.toNatClampNeg) = some o := by
  unfold cd_rd at h
  by_cases hc : i < 0 ∨ n ≤ i.toNatClampNeg
  · rw [if_pos hc] at h; cases h
  · rw [if_neg hc] at h; exact ⟨hc, h⟩
theorem cd_ix_some {α : Type} {n : Nat} {i : Int32} {k : Nat → Option α} {o : α} (h : (cd_ix n i).bind k = some o) : vp_in i n ∧ k i.toNatClampNeg = some o := by
  unfold cd_ix at h
  by_cases hc : i < 0 ∨ n ≤ i.toNatClampNeg
  · rw [if_pos hc] at h; cases h
  · rw [if_neg hc] at h; exact ⟨hc, h⟩
theorem cd_nz_some {α : Type} {x : Int32} {k : Unit → Option α} {o : α} (h : (cd_nz x).bind k = some o) : ¬ x = 0 ∧ k () = some o := by
  unfold cd_nz at h
  by_cases hc : x = 0
  · rw [if_pos hc] at h; cases h
  · rw [if_neg hc] at h; exact ⟨hc, h⟩
theorem cd_nzl_some {α : Type} {x : Int64} {k : Unit → Option α} {o : α} (h : (cd_nzl x).bind k = some o) : ¬ x = 0 ∧ k () = some o := by
  unfold cd_nzl at h
  by_cases hc : x = 0
  · rw [if_pos hc] at h; cases h
  · rw [if_neg hc] at h; exact ⟨hc, h⟩
theorem cd_zb_some {α : Type} {x : Int32} {k : Unit → Option α} {o : α} (h : (cd_zb x).bind k = some o) : (x = 0 ∨ x = 1) ∧ k () = some o := by
  unfold cd_zb at h
  by_cases hc : x = 0 ∨ x = 1
  · rw [if_pos hc] at h; exact ⟨hc, h⟩
  · rw [if_neg hc] at h; cases h
theorem cd_bind_some {α β : Type} {a : Option α} {k : α → Option β} {o : β} (h : a.bind k = some o) : ∃ v, a = some v ∧ k v = some o := by
  cases a with
  | none => cases h
  | some v => exact ⟨v, rfl, h⟩
theorem cd_ite_t {α : Type} {c : Prop} {d : Decidable c} {a b : Option α} {o : α} (hc : c) (h : (@ite _ c d a b) = some o) : a = some o := by rw [if_pos hc] at h; exact h
theorem cd_ite_f {α : Type} {c : Prop} {d : Decidable c} {a b : Option α} {o : α} (hc : ¬ c) (h : (@ite _ c d a b) = some o) : b = some o := by rw [if_neg hc] at h; exact h
/-- a loop: what holds at its head, by what its body says -/
theorem cd_iter_ind {σ ρ : Type} {body : σ → Option (ρ ⊕ σ)} {K : ρ → Prop} {P : σ → Prop} (hs : ∀ s o, body s = some o → Sum.elim K P o → P s) : ∀ (n : Nat) (s : σ) (r : ρ), cd_iter n body s = some r → K r → P s
  | 0, _, _, h, _ => by cases h
  | n + 1, s, r, h, hk => by
    obtain ⟨o, h1, h2⟩ := cd_bind_some (show (body s).bind (fun o => Sum.elim some (cd_iter n body) o) = some r from h)
    refine hs s o h1 ?_
    cases o with
    | inl r' => cases h2; exact hk
    | inr s' => exact cd_iter_ind hs n s' r h2 hk
def cd_row (T : Nat → Nat → Int32) (k : Nat) (f : Nat → Int32) : Nat → Nat → Int32 := fun j => if j = k then f else T j
def cd_fld (T : Nat → Nat → Int32) (k : Nat) (x : Int32) : Nat → Nat → Int32 := fun j => if j = k then (fun _ => x) else T j
def cd_set (T : Nat → Nat → Int32) (k j : Nat) (x : Int32) : Nat → Nat → Int32 := cd_row T k (upd (T k) j x)
def cd_cpy (T : Nat → Nat → Int32) (k : Nat) (T2 : Nat → Nat → Int32) (n : Nat) : Nat → Nat → Int32 := cd_row T k (va_cpy (T2 k) (T k) 0 0 n)
