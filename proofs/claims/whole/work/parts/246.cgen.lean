/-! makers: contracts that make cells -/
def cd_QC {S : Type} (G : va_G) (A : Nat → Prop) (B : S → va_W) (post : S → Prop) : Array Value → State → Outcome → State → Prop :=
  fun _ st oc t => (oc = .returned none ∧ ∃ u : S, post u ∧ va_P G vwCl (B u) t.heap ∧ va_D A (B u)) ∧ va_F A st t
/-- the contract of a maker: from the world w it ends with the world B u, for a u with post u; mc cells of ms slots are new -/
def cd_Ci {S : Type} (l : Launch) (G : va_G) (cI cZ : ClassId) (t1 t2 : Nat) (y : MethodName) (ws : List Cond) (rm : Room) (av : List Value) (w : va_W) (B : S → va_W) (post : S → Prop) (mc ms : Nat) : Prop :=
  ∀ sz : Nat, Met l y ws rm (cd_PE G cI cZ t1 t2 av w sz) (cd_QC G (va_A w sz) B post) mc ms (va_A w sz)
set_option maxHeartbeats 1000000 in
theorem cd_ofI {S : Type} {l : Launch} {G : va_G} {cI cZ : ClassId} {t1 t2 : Nat} {y : MethodName} {ws ws' : List Cond} {rm : Room} {av : List Value} {w : va_W} {B : S → va_W} {post : S → Prop} {mc ms : Nat} {cc : ByteArray} {maxL : Nat} (hy : plainName y.cls = true) (hw : ws = Cond.code y cc maxL none :: ws') (hn : (lg_sl av).length ≤ maxL)
    (body : ∀ (p : Program) (e : Env) (s : State) (m : MethodId) (ag : Array Value) (below : List Frame) (meth : Method) (c : Code) (A : Nat → Prop) (ls : Array Slot) (Q : State → Prop), cd_CX G cI cZ t1 t2 p s m ag meth c cc maxL none ws y.cls A → meth.name = y.name → lv_has ls maxL (lv_args 0 av) → cd_WS G A s.heap s.heap [] w → Q = MQ below (cd_QC G A B post) ag s mc ms A → W p l e rm s m ag below meth c s.heap [] 0 0 Q (F0 m 0 ls [])) : cd_Ci l G cI cZ t1 t2 y ws rm av w B post mc ms := by
  intro sz
  refine Met.ofW (cc := cc) (maxL := maxL) (ret := none) hy hw ?_
  intro p e s m args below meth c s₁ B hml hv
  obtain ⟨rfl, hsz, hP, hD0, hE⟩ := hv
  have hts := atoms_spec (ws := ws) B.pre
  have hown : s.vm.findClass y.cls = some m.cls := findClass_of_methodNamed B.named
  have hin : meth.name = y.name := (name_of_methodNamed B.named B.method).1
  subst hsz
  have hD := hD0.self (sz := s.heap.size)
  rw [lg_entry_eq]
  exact body p e s m _ below meth c (va_A w s.heap.size) _ _ ⟨⟨B.exec, B.bytes, hml, hown, hts⟩, B.returns, B.notSynchronized, fun q h => Or.inr h, hE⟩ hin (lv_entry av hn) ⟨hP, hD, va_S.rf⟩ rfl
section CDC
variable {p : Program} {l : Launch} {e : Env} {R : Room} {s : State} {m : MethodId} {args : Array Value} {below : List Frame} {meth : Method} {c : Code} {H : Heap} {locs : List Loc} {cells slots : Nat} {Q : State → Prop} {G : va_G} {cI cZ : ClassId} {t1 t2 : Nat} {cc : ByteArray} {nL : Nat} {ret : Option FieldType} {Ts : List Cond} {own : String} {A : Nat → Prop} {w : va_W} {pc : Nat} {ls : Array Slot} {rest : List Value}
theorem cd_retc {S : Type} {B : S → va_W} {post : S → Prop} (u : S) (C0 : cd_CX G cI cZ t1 t2 p s m args meth c cc nL none Ts own A) (hw : cd_WS G A s.heap H locs (B u)) (hp : post u) (hdg : decode cc pc = .ok (.return_, 1)) : W p l e R s m args below meth c H locs cells slots (MQ below (cd_QC G A B post) args s cells slots A) (F0 m pc ls []) := by
  obtain ⟨⟨hx, hb, -, -, -⟩, hr, hlocks, -, -⟩ := C0
  exact W.vret hx hb hr (fun t ht hW => ⟨⟨rfl, u, hp, by rw [ht]; exact hw.1, hw.2.1⟩, hw.2.2.F ht⟩) hw.2.2.2.2 hdg hlocks
theorem cd_newi (hx : p.tables.exec = Jvm.exec) (hb : c.code = cc) (harr : (Cond.arrayClass .int).before args s = true) (hK : va_K G vwCl [(cI, .int), (cZ, .boolean)] s) (hw : cd_WS G A s.heap H locs w) (hA : ∀ q : Nat, s.heap.size ≤ q → A q) {n : Int32} {N : Nat} (hn : ¬ n < 0) (hN : n.toNatClampNeg = N) (hbytes : N * componentBytes .int ≤ 536870912) (hcells : cells + 1 ≤ R.cells) (hslots : slots + N ≤ R.slots) (hdg : decode cc pc = .ok (.newarray .int, 2))
    (kk : ∀ (q : Nat) (H1 : Heap), cd_WS G A s.heap H1 locs (w ++ [(q, .inl (cI, N, .inl (fun _ => 0)))]) → W p l e R s m args below meth c H1 locs (cells + 1) (slots + N) Q (F0 m (pc + 2) ls (.ref q :: rest))) : W p l e R s m args below meth c H locs cells slots Q (F0 m pc ls (.int n :: rest)) := by
  refine va_newa (atype := .int) (ty := .int) (a0 := (N, .inl (fun _ => 0))) hx hb harr rfl hK hw.1 hw.2.1 hw.2.2 hA (fun cA => rfl) hn hN hbytes hcells hslots hdg (fun q cA H1 hK1 hP hD hS => ?_)
  have e : cA = cI := Option.some.inj ((hK1.2 2 (cA, .int) rfl).2.symm.trans (hK.2 0 (cI, .int) rfl).2)
  rw [e] at hP hD
  exact kk q H1 ⟨hP, hD, hS⟩
theorem cd_newz (hx : p.tables.exec = Jvm.exec) (hb : c.code = cc) (harr : (Cond.arrayClass .boolean).before args s = true) (hK : va_K G vwCl [(cI, .int), (cZ, .boolean)] s) (hw : cd_WS G A s.heap H locs w) (hA : ∀ q : Nat, s.heap.size ≤ q → A q) {n : Int32} {N : Nat} (hn : ¬ n < 0) (hN : n.toNatClampNeg = N) (hbytes : N * componentBytes .boolean ≤ 536870912) (hcells : cells + 1 ≤ R.cells) (hslots : slots + N ≤ R.slots) (hdg : decode cc pc = .ok (.newarray .boolean, 2))
    (kk : ∀ (q : Nat) (H1 : Heap), cd_WS G A s.heap H1 locs (w ++ [(q, .inl (cZ, N, .inl (fun _ => 0)))]) → W p l e R s m args below meth c H1 locs (cells + 1) (slots + N) Q (F0 m (pc + 2) ls (.ref q :: rest))) : W p l e R s m args below meth c H locs cells slots Q (F0 m pc ls (.int n :: rest)) := by
  refine va_newa (atype := .boolean) (ty := .boolean) (a0 := (N, .inl (fun _ => 0))) hx hb harr rfl hK hw.1 hw.2.1 hw.2.2 hA (fun cA => rfl) hn hN hbytes hcells hslots hdg (fun q cA H1 hK1 hP hD hS => ?_)
  have e : cA = cZ := Option.some.inj ((hK1.2 2 (cA, .boolean) rfl).2.symm.trans (hK.2 1 (cZ, .boolean) rfl).2)
  rw [e] at hP hD
  exact kk q H1 ⟨hP, hD, hS⟩
theorem cd_coreC {S : Type} {wc wr : va_W} {B : S → va_W} {post : S → Prop} {mc ms : Nat} {st0 : List Value} {a : Array Value} (hr : va_Run p l e R s m args below meth c H locs cells slots mc ms (F0 m pc ls st0) rest (cd_QC G (va_A wc H.size) B post a) (va_A wc H.size)) (hw : cd_WS G A s.heap H locs w) (hF : ∀ q, va_A wc H.size q → A q) (isC isR : List Nat) (hC : isC.map (fun i => w[i]?) = wc.map some) (hR : isR.map (fun i => w[i]?) = wr.map some) (hnR : va_nd isR = true) (hdis : ∀ i ∈ isR, i ∉ isC)
    (kk : ∀ (u : S) (H1 : Heap) (locs1 : List Loc), post u → cd_WS G A s.heap H1 locs1 (wr ++ B u) → W p l e R s m args below meth c H1 locs1 (cells + mc) (slots + ms) Q (F0 m (pc + 3) ls rest)) : W p l e R s m args below meth c H locs cells slots Q (F0 m pc ls st0) := by
  intro T hT X
  obtain ⟨v, st₀, t, T', L, h0, X', hL, e1, e2, ⟨⟨hv, u, hu, hp, hd⟩, hz, hk⟩, st⟩ := hr T hT X
  cases hv
  rw [h0] at hz hk
  obtain ⟨n1, n2⟩ := va_join (wr := wr) (w1 := B u) (H1 := T'.heap) hw.1 hw.2.1 isC isR hC hR hnR hdis (fun q h1 h2 => by rw [e1]; exact hk q h1 h2) hF (by rw [e1]; exact hp) hd
  have hS := hw.2.2
  obtain ⟨t2, a1, b1⟩ := kk u T'.heap (locs ++ L) hu ⟨n1, n2, ⟨Nat.le_trans hS.1 (by rw [e1]; exact hz), fun q h1 h2 => by rw [e1, hk q (Nat.lt_of_lt_of_le h1 hS.1) (fun z => h2 (hF q z))]; exact hS.2.1 q h1 h2, fun q hq => by
      rcases List.mem_append.mp hq with h | h
      · exact hS.2.2 q h
      · exact hF _ (hL q h)⟩⟩ T' rfl X'
  exact ⟨t2, st t2 a1, b1⟩
variable {y : MethodName} {bytes : ByteArray} {maxL n index mc ms : Nat} {wsc : List Cond} {rm : Room} {host : String} {b : Nat} {wc wr : va_W}
/-- a maker's call -/
theorem cd_callI {S : Type} {B : S → va_W} {post : S → Prop} (C0 : cd_CX G cI cZ t1 t2 p s m args meth c cc nL ret Ts own A) (hw : cd_WS G A s.heap H locs w) (hM : cd_Ci l G cI cZ t1 t2 y wsc rm [.ref b] wc B post mc ms) (isC isR : List Nat) (hnC : va_nd isC = true) (hC : isC.map (fun i => w[i]?) = wc.map some) (hR : isR.map (fun i => w[i]?) = wr.map some) (hnR : va_nd isR = true) (hdis : ∀ i ∈ isR, i ∉ isC)
    (cw : CallB R s args own index y bytes maxL none wsc rm mc ms 0 ∧ y.name = "<init>" ∧ (Cond.instanceMethod y).before args s = true) (hsize : ls.size = nL) (hroom : 2 * (F0 m pc ls (.ref b :: rest)).monitorRoom + (rest.map fun v => v.category).sum ≤ 8) (hdg : decode cc pc = .ok (.invokespecial index, 3)) (hcs : cells + mc ≤ R.cells ∧ slots + ms ≤ R.slots)
    (kk : ∀ (u : S) (H1 : Heap) (locs1 : List Loc), post u → cd_WS G A s.heap H1 locs1 (wr ++ B u) → W p l e R s m args below meth c H1 locs1 (cells + mc) (slots + ms) Q (F0 m (pc + 3) ls rest)) : W p l e R s m args below meth c H locs cells slots Q (F0 m pc ls (.ref b :: rest)) := by
  obtain ⟨hpre, hF⟩ := cd_pre C0 hw isC hnC hC [.ref b]
  exact cd_coreC (va_runI (As := []) C0.1 (hM H.size) cw ⟨cd_blind G cI cZ t1 t2 _ wc H.size, hpre⟩ rfl rfl hsize rfl hroom hdg hcs) hw hF isC isR hC hR hnR hdis kk
/-- a maker's call, a nest mate's -/
theorem cd_callIN {S : Type} {B : S → va_W} {post : S → Prop} (C0 : cd_CX G cI cZ t1 t2 p s m args meth c cc nL ret Ts own A) (hw : cd_WS G A s.heap H locs w) (hM : cd_Ci l G cI cZ t1 t2 y wsc rm [.ref b] wc B post mc ms) (isC isR : List Nat) (hnC : va_nd isC = true) (hC : isC.map (fun i => w[i]?) = wc.map some) (hR : isR.map (fun i => w[i]?) = wr.map some) (hnR : va_nd isR = true) (hdis : ∀ i ∈ isR, i ∉ isC)
    (cw : va_CN R s args own index y host bytes maxL none wsc rm mc ms 0 ∧ y.name = "<init>" ∧ (Cond.instanceMethod y).before args s = true) (hsize : ls.size = nL) (hroom : 2 * (F0 m pc ls (.ref b :: rest)).monitorRoom + (rest.map fun v => v.category).sum ≤ 8) (hdg : decode cc pc = .ok (.invokespecial index, 3)) (hcs : cells + mc ≤ R.cells ∧ slots + ms ≤ R.slots)
    (kk : ∀ (u : S) (H1 : Heap) (locs1 : List Loc), post u → cd_WS G A s.heap H1 locs1 (wr ++ B u) → W p l e R s m args below meth c H1 locs1 (cells + mc) (slots + ms) Q (F0 m (pc + 3) ls rest)) : W p l e R s m args below meth c H locs cells slots Q (F0 m pc ls (.ref b :: rest)) := by
  obtain ⟨hpre, hF⟩ := cd_pre C0 hw isC hnC hC [.ref b]
  exact cd_coreC (va_runIN (As := []) C0.1 (hM H.size) cw ⟨cd_blind G cI cZ t1 t2 _ wc H.size, hpre⟩ rfl rfl hsize rfl hroom hdg hcs) hw hF isC isR hC hR hnR hdis kk
end CDC
