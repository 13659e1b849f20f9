/-! arrays and fields over cd_WS; the pictures of the classes -/
theorem cd_rd_eq {f : Nat → Int32} {n : Nat} {i v : Int32} (e : cd_rd f n i = some v) : vp_in i n ∧ f i.toNatClampNeg = v := by
  unfold cd_rd at e
  by_cases hc : i < 0 ∨ n ≤ i.toNatClampNeg
  · rw [if_pos hc] at e; cases e
  · rw [if_neg hc] at e; cases e; exact ⟨hc, rfl⟩
theorem cd_ix_eq {n : Nat} {i : Int32} {j : Nat} (e : cd_ix n i = some j) : vp_in i n ∧ i.toNatClampNeg = j := by
  unfold cd_ix at e
  by_cases hc : i < 0 ∨ n ≤ i.toNatClampNeg
  · rw [if_pos hc] at e; cases e
  · rw [if_neg hc] at e; cases e; exact ⟨hc, rfl⟩
theorem cd_nz_eq {x : Int32} {u : Unit} (e : cd_nz x = some u) : ¬ x = 0 := by
  unfold cd_nz at e
  by_cases hc : x = 0
  · rw [if_pos hc] at e; cases e
  · exact hc
theorem cd_nzl_eq {x : Int64} {u : Unit} (e : cd_nzl x = some u) : ¬ x = 0 := by
  unfold cd_nzl at e
  by_cases hc : x = 0
  · rw [if_pos hc] at e; cases e
  · exact hc
theorem cd_zb_eq {x : Int32} {u : Unit} (e : cd_zb x = some u) : x = 0 ∨ x = 1 := by
  unfold cd_zb at e
  by_cases hc : x = 0 ∨ x = 1
  · exact hc
  · rw [if_neg hc] at e; cases e
theorem cd_ne {x y : Int32} (h : ¬ x = y) : x.toInt ≠ y.toInt := fun e => h (Int32.toInt_inj.mp e)
def cd_N : Nat := 20000
def cd_max (x y : Int32) : Int32 := if x < y then y else x
def cd_min (x y : Int32) : Int32 := if y < x then y else x
def cd_abs (x : Int32) : Int32 := if 0 ≤ x then x else 0 - x
def cd_ushr (x y : Int32) : Int32 := (x.toUInt32 >>> (y.toUInt32 &&& Int32.toUInt32 31)).toInt32
section CDO
variable {p : Program} {l : Launch} {e : Env} {R : Room} {s : State} {m : MethodId} {args : Array Value} {below : List Frame} {meth : Method} {c : Code} {H : Heap} {locs : List Loc} {cells slots : Nat} {Q : State → Prop} {G : va_G} {cI cZ : ClassId} {t1 t2 : Nat} {cc : ByteArray} {A : Nat → Prop} {w : va_W} {pc : Nat} {ls : Array Slot} {rest : List Value}
theorem cd_iald (hx : p.tables.exec = Jvm.exec) (hb : c.code = cc) (hK : va_K G vwCl [(cI, .int), (cZ, .boolean)] s) (hw : cd_WS G A s.heap H locs w) (q0 : Nat) {a n : Nat} {f : Nat → Int32} (ha : w[q0]? = some (a, .inl (cI, n, .inl f))) {i v : Int32} (hv : cd_rd f n i = some v) (hdg : decode cc pc = .ok (.iaload, 1))
    (kk : W p l e R s m args below meth c H locs cells slots Q (F0 m (pc + 1) ls (.int v :: rest))) : W p l e R s m args below meth c H locs cells slots Q (F0 m pc ls (.int i :: .ref a :: rest)) := by
  obtain ⟨h1, h2⟩ := cd_rd_eq hv
  refine va_iald hx hb hK hw.1 q0 0 ha rfl h1 hdg ?_
  rw [h2]
  exact kk
theorem cd_zald (hx : p.tables.exec = Jvm.exec) (hb : c.code = cc) (hK : va_K G vwCl [(cI, .int), (cZ, .boolean)] s) (hw : cd_WS G A s.heap H locs w) (q0 : Nat) {a n : Nat} {f : Nat → Int32} (ha : w[q0]? = some (a, .inl (cZ, n, .inl f))) {i v : Int32} (hv : cd_rd f n i = some v) (hdg : decode cc pc = .ok (.baload, 1))
    (kk : W p l e R s m args below meth c H locs cells slots Q (F0 m (pc + 1) ls (.int v :: rest))) : W p l e R s m args below meth c H locs cells slots Q (F0 m pc ls (.int i :: .ref a :: rest)) := by
  obtain ⟨h1, h2⟩ := cd_rd_eq hv
  refine va_zald hx hb hK hw.1 q0 1 ha rfl h1 hdg ?_
  rw [h2]
  exact kk
theorem cd_iast (hx : p.tables.exec = Jvm.exec) (hb : c.code = cc) (hK : va_K G vwCl [(cI, .int), (cZ, .boolean)] s) (hw : cd_WS G A s.heap H locs w) (q0 : Nat) {a n : Nat} {f : Nat → Int32} (ha : w[q0]? = some (a, .inl (cI, n, .inl f))) {i x : Int32} {j : Nat} (hj : cd_ix n i = some j) (hdg : decode cc pc = .ok (.iastore, 1))
    (kk : ∀ (H1 : Heap) (locs1 : List Loc), cd_WS G A s.heap H1 locs1 (w.set q0 (a, .inl (cI, n, .inl (upd f j x)))) → W p l e R s m args below meth c H1 locs1 cells slots Q (F0 m (pc + 1) ls rest)) : W p l e R s m args below meth c H locs cells slots Q (F0 m pc ls (.int x :: .int i :: .ref a :: rest)) := by
  obtain ⟨h1, h2⟩ := cd_ix_eq hj
  subst h2
  exact va_iast hx hb hK hw.1 hw.2.1 hw.2.2 q0 0 ha rfl h1 hdg (fun H1 locs1 hP hD hS => kk H1 locs1 ⟨hP, hD, hS⟩)
theorem cd_zast (hx : p.tables.exec = Jvm.exec) (hb : c.code = cc) (hK : va_K G vwCl [(cI, .int), (cZ, .boolean)] s) (hw : cd_WS G A s.heap H locs w) (q0 : Nat) {a n : Nat} {f : Nat → Int32} (ha : w[q0]? = some (a, .inl (cZ, n, .inl f))) {i x : Int32} {j : Nat} (hj : cd_ix n i = some j) (hn : vp_nar .boolean x = x) (hdg : decode cc pc = .ok (.bastore, 1))
    (kk : ∀ (H1 : Heap) (locs1 : List Loc), cd_WS G A s.heap H1 locs1 (w.set q0 (a, .inl (cZ, n, .inl (upd f j x)))) → W p l e R s m args below meth c H1 locs1 cells slots Q (F0 m (pc + 1) ls rest)) : W p l e R s m args below meth c H locs cells slots Q (F0 m pc ls (.int x :: .int i :: .ref a :: rest)) := by
  obtain ⟨h1, h2⟩ := cd_ix_eq hj
  subst h2
  refine va_zast hx hb hK hw.1 hw.2.1 hw.2.2 q0 1 ha rfl h1 hdg (fun H1 locs1 hP hD hS => ?_)
  rw [hn] at hP hD
  exact kk H1 locs1 ⟨hP, hD, hS⟩
theorem cd_siald (hx : p.tables.exec = Jvm.exec) (hb : c.code = cc) (hw : cd_WS G A s.heap H locs w) {t n : Nat} {f : Nat → Int32} (hT : va_T .int t n (fun j => .int (f j)) A s s.heap) {i v : Int32} (hv : cd_rd f n i = some v) (hdg : decode cc pc = .ok (.iaload, 1))
    (kk : W p l e R s m args below meth c H locs cells slots Q (F0 m (pc + 1) ls (.int v :: rest))) : W p l e R s m args below meth c H locs cells slots Q (F0 m pc ls (.int i :: .ref t :: rest)) := by
  obtain ⟨h1, h2⟩ := cd_rd_eq hv
  refine va_ti hx hb hT hw.2.2 h1 rfl hdg ?_
  rw [h2]
  exact kk
theorem cd_copy (hx : p.tables.exec = Jvm.exec) (hb : c.code = cc) (hml : c.maxLocals = ls.size) {own : String} {index : Nat} (hown : s.vm.findClass own = some m.cls) (hlink : (Cond.methodLink own index arraycopyName).before args s = true) (hnat : (Cond.native arraycopyName).before args s = true) (hstat : (Cond.static arraycopyName).before args s = true) (hini : (Cond.initialized "java/lang/System").before args s = true)
    (hK : va_K G vwCl [(cI, .int), (cZ, .boolean)] s) (hw : cd_WS G A s.heap H locs w) (q0 q1 : Nat) {a0 a n0 n1 : Nat} {f g : Nat → Int32} (ha0 : w[q0]? = some (a0, .inl (cI, n0, .inl f))) (ha1 : w[q1]? = some (a, .inl (cI, n1, .inl g))) {n : Int32} {k : Nat} (h3 : ¬ n < 0) (hk : n.toNatClampNeg = k) (h4 : k ≤ n0) (h5 : k ≤ n1)
    (hframes : 1 ≤ R.frames) (hlocals : (rest.map fun v => v.category).sum + (nativeFrameWords "java/lang/System" "arraycopy" 5 + 11) ≤ R.locals) (hdg : decode cc pc = .ok (.invokestatic index, 3))
    (kk : ∀ (H1 : Heap) (locs1 : List Loc), cd_WS G A s.heap H1 locs1 (w.set q1 (a, .inl (cI, n1, .inl (va_cpy f g 0 0 k)))) → W p l e R s m args below meth c H1 locs1 cells slots Q (F0 m (pc + 3) ls rest)) : W p l e R s m args below meth c H locs cells slots Q (F0 m pc ls (.int n :: .int 0 :: .ref a :: .int 0 :: .ref a0 :: rest)) := by
  subst hk
  have z0 : (0 : Int32).toNatClampNeg = 0 := rfl
  refine va_copyi hx hb hml hown hlink hnat hstat hini hK hw.1 hw.2.1 hw.2.2 q0 q1 0 0 ha0 ha1 rfl rfl rfl (by decide) (by decide) h3 (by rw [z0]; omega) (by rw [z0]; omega) (fun i _ => rfl) hframes hlocals hdg (fun H1 locs1 hP hD hS => ?_)
  rw [z0] at hP hD
  exact kk H1 locs1 ⟨hP, hD, hS⟩
theorem cd_iushr (hx : p.tables.exec = Jvm.exec) (hb : c.code = cc) {x y : Int32} (hdg : decode cc pc = .ok (.iushr, 1)) (kk : W p l e R s m args below meth c H locs cells slots Q (F0 m (pc + 1) ls (.int (cd_ushr x y) :: rest))) : W p l e R s m args below meth c H locs cells slots Q (F0 m pc ls (.int y :: .int x :: rest)) := lv_iushr hx hb hdg rfl kk
theorem cd_mmax (hx : p.tables.exec = Jvm.exec) (hb : c.code = cc) (hml : c.maxLocals = ls.size) {own : String} {index : Nat} (hown : s.vm.findClass own = some m.cls) (hlink : (Cond.methodLink own index Lib.Math.max.name).before args s = true) (hstat : (Cond.static Lib.Math.max.name).before args s = true) (hini : (Cond.initialized "java/lang/Math").before args s = true) (hcode : (Cond.code Lib.Math.max.name Lib.Math.max.code 2 (some .int)).before args s = true)
    (hframes : 1 ≤ R.frames) (hlocals : (rest.map fun v => v.category).sum + 13 ≤ R.locals) {x y : Int32} (hdg : decode cc pc = .ok (.invokestatic index, 3))
    (kk : W p l e R s m args below meth c H locs 0 0 Q (F0 m (pc + 3) ls (.int (cd_max x y) :: rest))) : W p l e R s m args below meth c H locs 0 0 Q (F0 m pc ls (.int y :: .int x :: rest)) := va_mmax hx hb hml hown hlink hstat hini hcode hframes hlocals (Nat.zero_le _) (Nat.zero_le _) hdg kk
theorem cd_mmin (hx : p.tables.exec = Jvm.exec) (hb : c.code = cc) (hml : c.maxLocals = ls.size) {own : String} {index : Nat} (hown : s.vm.findClass own = some m.cls) (hlink : (Cond.methodLink own index Lib.Math.min.name).before args s = true) (hstat : (Cond.static Lib.Math.min.name).before args s = true) (hini : (Cond.initialized "java/lang/Math").before args s = true) (hcode : (Cond.code Lib.Math.min.name Lib.Math.min.code 2 (some .int)).before args s = true)
    (hframes : 1 ≤ R.frames) (hlocals : (rest.map fun v => v.category).sum + 13 ≤ R.locals) {x y : Int32} (hdg : decode cc pc = .ok (.invokestatic index, 3))
    (kk : W p l e R s m args below meth c H locs 0 0 Q (F0 m (pc + 3) ls (.int (cd_min x y) :: rest))) : W p l e R s m args below meth c H locs 0 0 Q (F0 m pc ls (.int y :: .int x :: rest)) := va_mmin hx hb hml hown hlink hstat hini hcode hframes hlocals (Nat.zero_le _) (Nat.zero_le _) hdg kk
theorem cd_mabs (hx : p.tables.exec = Jvm.exec) (hb : c.code = cc) (hml : c.maxLocals = ls.size) {own : String} {index : Nat} (hown : s.vm.findClass own = some m.cls) (hlink : (Cond.methodLink own index Lib.Math.abs.name).before args s = true) (hstat : (Cond.static Lib.Math.abs.name).before args s = true) (hini : (Cond.initialized "java/lang/Math").before args s = true) (hcode : (Cond.code Lib.Math.abs.name Lib.Math.abs.code 1 (some .int)).before args s = true)
    (hframes : 1 ≤ R.frames) (hlocals : (rest.map fun v => v.category).sum + 13 ≤ R.locals) {x : Int32} (hdg : decode cc pc = .ok (.invokestatic index, 3))
    (kk : W p l e R s m args below meth c H locs 0 0 Q (F0 m (pc + 3) ls (.int (cd_abs x) :: rest))) : W p l e R s m args below meth c H locs 0 0 Q (F0 m pc ls (.int x :: rest)) := va_mabs hx hb hml hown hlink hstat hini hcode hframes hlocals (Nat.zero_le _) (Nat.zero_le _) hdg kk
end CDO
abbrev pc_pad (cI : ClassId) (h : Nat → Nat) (P : Nat → Nat → Int32) : va_W := [(h 0, .inr (0, [.ref (h 1), .int (P 1 0), .int (P 2 0), .int (P 3 0), .int (P 4 0), .int (P 5 0)])), (h 1, .inl (cI, 60, .inl (P 0)))]
abbrev pc_play (h hs : Nat → Nat) (Y : Nat → Nat → Int32) : va_W := [(h 0, .inr (1, [.ref (hs 0), .int (Y 1 0), .int (Y 2 0), .int (Y 3 0), .int (Y 4 0), .int (Y 5 0)]))]
abbrev pc_snz (cI : ClassId) (h : Nat → Nat) (Z : Nat → Nat → Int32) : va_W := [(h 0, .inr (2, [.ref (h 1), .ref (h 2), .ref (h 3)])), (h 1, .inl (cI, 48, .inl (Z 0))), (h 2, .inl (cI, 48, .inl (Z 1))), (h 3, .inl (cI, 62, .inl (Z 2)))]
abbrev pc_town (cI : ClassId) (h : Nat → Nat) (T : Nat → Nat → Int32) : va_W := [(h 0, .inr (3, [.ref (h 1), .ref (h 2), .ref (h 3), .ref (h 4), .ref (h 5), .ref (h 6), .ref (h 7), .ref (h 8), .ref (h 9), .ref (h 10), .int (T 10 0), .int (T 11 0), .int (T 12 0), .int (T 13 0)])), (h 1, .inl (cI, 12, .inl (T 0))), (h 2, .inl (cI, 12, .inl (T 1))), (h 3, .inl (cI, 12, .inl (T 2))), (h 4, .inl (cI, 12, .inl (T 3))), (h 5, .inl (cI, 12, .inl (T 4))), (h 6, .inl (cI, 12, .inl (T 5))), (h 7, .inl (cI, 12, .inl (T 6))), (h 8, .inl (cI, 6, .inl (T 7))), (h 9, .inl (cI, 8, .inl (T 8))), (h 10, .inl (cI, 8, .inl (T 9)))]
abbrev pc_walk (cI : ClassId) (h : Nat → Nat) (V : Nat → Nat → Int32) : va_W := [(h 0, .inr (4, [.ref (h 1), .ref (h 2), .ref (h 3), .int (V 3 0), .int (V 4 0)])), (h 1, .inl (cI, 12, .inl (V 0))), (h 2, .inl (cI, 12, .inl (V 1))), (h 3, .inl (cI, 12, .inl (V 2)))]
abbrev pc_top (cZ : ClassId) (h ht h1 h2 hp hy hv hz : Nat → Nat) (K : Nat → Nat → Int32) : va_W := [(h 0, .inr (5, [.ref (ht 0), .ref (h1 0), .ref (h2 0), .ref (h 1), .ref (hp 0), .ref (hy 0), .ref (hv 0), .ref (hz 0)])), (h 1, .inl (cZ, 2, .inl (K 3)))]
abbrev pc_mod (cI cZ : ClassId) (h : Nat → Nat) (M : Nat → Nat → Int32) : va_W := [(h 0, .inr (6, [.ref (h 1), .ref (h 2), .ref (h 3), .ref (h 4), .int (M 4 0), .ref (h 5), .int (M 6 0), .ref (h 6), .int (M 8 0), .int (M 9 0), .int (M 10 0), .int (M 11 0), .int (M 12 0), .int (M 13 0), .ref (h 7), .ref (h 8), .ref (h 9), .ref (h 10), .ref (h 11), .ref (h 12), .ref (h 13), .ref (h 14)])), (h 1, .inl (cI, 69, .inl (M 0))), (h 2, .inl (cI, 69, .inl (M 1))), (h 3, .inl (cI, 12, .inl (M 2))), (h 4, .inl (cI, 12, .inl (M 3))), (h 5, .inl (cI, 16, .inl (M 5))), (h 6, .inl (cI, 60, .inl (M 7))), (h 7, .inl (cI, 288, .inl (M 14))), (h 8, .inl (cI, 12, .inl (M 15))), (h 9, .inl (cI, 12, .inl (M 16))), (h 10, .inl (cI, 1000, .inl (M 17))), (h 11, .inl (cI, 13, .inl (M 18))), (h 12, .inl (cZ, 32, .inl (M 19))), (h 13, .inl (cI, 240, .inl (M 20))), (h 14, .inl (cZ, 2, .inl (M 21)))]
