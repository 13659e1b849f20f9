/-! the law: its world, a word of its script -/
abbrev pc_all (cI cZ : ClassId) (h ht h1 h2 hp hy hs hv hz hm : Nat → Nat) (K T T1 T2 P Y S V Z M : Nat → Nat → Int32) : va_W := (pc_top cZ h ht h1 h2 hp hy hv hz K) ++ (pc_town cI ht T) ++ (pc_town cI h1 T1) ++ (pc_town cI h2 T2) ++ (pc_pad cI hp P) ++ (pc_play hy hs Y) ++ (pc_town cI hs S) ++ (pc_walk cI hv V) ++ (pc_snz cI hz Z) ++ (pc_mod cI cZ hm M)
def lw_R (K T T1 T2 P M : Nat → Nat → Int32) : Prop := ∃ (g : Nat → Nat → Nat) (sg : Nat → Nat) (n : Nat), q_X T M g ∧ q_pd sg n ∧ q_P P sg n ∧ q_P6 M sg n ∧ q_I K T1 M 0 ∧ q_I K T2 M 1
theorem q_P6.oth {M M' : Nat → Nat → Int32} {sg : Nat → Nat} {n : Nat} (h : q_P6 M sg n) (ho : q_oth M M') : q_P6 M' sg n := ⟨by rw [ho.1]; exact h.1, fun j hj => by rw [ho.2.1]; exact h.2 j hj⟩
theorem q_X.rows {T M M' : Nat → Nat → Int32} {g : Nat → Nat → Nat} (h : q_X T M g) (h0 : M' 0 = M 0) (h2 : M' 2 = M 2) (h3 : M' 3 = M 3) (h4 : M' 4 = M 4) (h5 : M' 5 = M 5) : q_X T M' g := by
  unfold q_X q_C q_G at h ⊢
  rw [h0, h2, h3, h4, h5]; exact h
theorem lw_R.sm {K T T1 T2 P M M' : Nat → Nat → Int32} (h : lw_R K T T1 T2 P M) (hs : q_same M M') : lw_R K T T1 T2 P M' := by
  obtain ⟨g, sg, n, hX, hd, hP, h6, i0, i1⟩ := h
  exact ⟨g, sg, n, hX.same hs, hd, hP, h6.oth hs.oth, i0.same hs.oth.2.2.1 hs.oth.2.2.2, i1.same hs.oth.2.2.1 hs.oth.2.2.2⟩
theorem lw_R.pd {K T T1 T2 P P' M : Nat → Nat → Int32} (h : lw_R K T T1 T2 P M) (p0 : P' 0 = P 0) (p1 : P' 1 = P 1) : lw_R K T T1 T2 P' M := by
  obtain ⟨g, sg, n, hX, hd, hP, h6, i0, i1⟩ := h
  exact ⟨g, sg, n, hX, hd, ⟨by rw [p1]; exact hP.1, fun j hj => by rw [p0]; exact hP.2 j hj⟩, h6, i0, i1⟩
theorem lw_cmp (v : Int64) : lg_cmp v v = 0 := (lg_cmp_eq v v).mpr rfl
section LAWL
variable {p : Program} {l : Launch} {e : Env} {R : Room} {s : State} {m : MethodId} {args : Array Value} {below : List Frame} {meth : Method} {c : Code} {H : Heap} {locs : List Loc} {cells slots : Nat} {Q : State → Prop} {A : Nat → Prop} {ls : Array Slot} {cc : ByteArray} {pc : Nat} {rest : List Value} {b L i j : Nat} {jn : Int} {xs : Nat → Int32} {x y : Nat}
theorem lw_ld (hx : p.tables.exec = Jvm.exec) (hb : c.code = cc) (hX : va_X b L xs s s.heap) (hbl : b < s.heap.size) (hbA : ¬ A b) (hi : i + 6 ≤ L) (hL : L ≤ 384) (hS : va_S A s.heap H locs) (hl : lv_has ls 4 [(3, .int (nI i)), (2, .ref x), (1, .ref y), (0, .ref b)]) (hj : j < 6) (hjv : Int32.ofInt jn = nI j) (d1 : decode cc pc = .ok (.aload_n 0, 1)) (d2 : decode cc (pc + 1) = .ok (.iload_n 3, 1)) (d3 : decode cc (pc + 1 + 1) = .ok (.iconst jn, 1)) (d4 : decode cc (pc + 1 + 1 + 1) = .ok (.iadd, 1)) (d5 : decode cc (pc + 1 + 1 + 1 + 1) = .ok (.iaload, 1))
    (kk : W p l e R s m args below meth c H locs cells slots Q (F0 m (pc + 1 + 1 + 1 + 1 + 1) ls (.int (xs (i + j)) :: rest))) : W p l e R s m args below meth c H locs cells slots Q (F0 m pc ls rest) := by
  refine lv_aload_n hx hb d1 rfl (lv_at hl 3 rfl) ?_
  refine lv_iload_n hx hb d2 rfl (lv_at hl 0 rfl) ?_
  refine lv_iconst (v := nI j) hx hb d3 hjv ?_
  refine lv_iadd hx hb d4 ?_
  rw [nI_add]
  refine va_sld hx hb hX hbl hbA hS (nI_in (show i + j < L by omega) (by omega)) d5 ?_
  rw [nI_clamp (by omega)]
  exact kk
end LAWL
