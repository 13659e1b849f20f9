/-! the law, from its entry -/
set_option maxHeartbeats 4000000 in
set_option maxRecDepth 100000 in
theorem whole_start {p : Program} {e : Env} {s : State} {m : MethodId} {below : List Frame} {meth : Method} {c : Code} (l : Launch) (hflags : l.flags = flags0) {b L : Nat} {xs : Nat → Int32} (hL : L ≤ 384) (C0 : lw_At p s m meth c b L xs) : W p l e room_1 s m #[Value.ref b] below meth c s.heap [] 0 0 (lw_Z below #[Value.ref b] s) (entryFrame m ([Value.ref b] : List Value).toArray 4) := by
  obtain ⟨hx, hb, hr, hml, hown, hts, hX, hbl, hlocks, hgv⟩ := id C0
  have htw : ∀ w ∈ wsL_law, w.before #[Value.ref b] s = true := fun w h => hts w (wsL_law_in w h)
  have tb : ∀ w ∈ tables_1, w.before #[Value.ref b] s = true := fun w h => hts w (List.mem_append_right _ h)
  obtain ⟨A, hAe⟩ : ∃ A : Nat → Prop, A = fun q : Nat => s.heap.size ≤ q := ⟨_, rfl⟩
  have hA : ∀ q : Nat, s.heap.size ≤ q → A q := fun q h => by rw [hAe]; exact h
  have hA1 : ∀ q : Nat, A q → s.heap.size ≤ q := fun q h => by rw [hAe] at h; exact h
  have hA' : ∀ a : Nat, a < s.heap.size → ¬ A a := fun a h q => absurd (hA1 a q) (Nat.not_le.mpr h)
  have hbA : ¬ A b := hA' b hbl
  clear hAe
  have w51 : (Cond.initialized RX5).before #[Value.ref b] s = true := hts (.initialized RX5) (List.mem_of_getElem? (i := 51) (by decide +kernel))
  have w57 : (Cond.initialized RX6).before #[Value.ref b] s = true := hts (.initialized RX6) (List.mem_of_getElem? (i := 57) (by decide +kernel))
  obtain ⟨G, cI, cZ, hK⟩ := lw_K hts
  obtain ⟨t1, z1, y1⟩ := lw_st_rw (A := A) hgv (hts (.laysStatic RX5 "ROW_WORTH" "[I") (by decide +kernel)) w51 hA'
  obtain ⟨t2, z2, y2⟩ := lw_st_dk (A := A) hgv (hts (.laysStatic RX5 "DRAWN_KINDS" "[I") (by decide +kernel)) w51 hA'
  have C1 : cd_CX G cI cZ t1 t2 p s m #[Value.ref b] meth c code 4 ret wsL_law RL A := ⟨⟨hx, hb, hml, hown, htw⟩, hr, hlocks, hA, hK, lw_NX hts, z1, y1, z2, y2⟩
  have hw : cd_WS G A s.heap s.heap [] [] := ⟨fun k q h => by simp at h, ⟨fun i j p q h => by simp at h, fun k q h => by simp at h⟩, va_S.rf⟩
  have hl := lv_entry ([.ref b]) (n := 4) (Nat.le_of_ble_eq_true rfl)
  rw [lg_entry_eq]
  generalize (lg_sl ([.ref b]) ++ List.replicate (4 - (lg_sl ([.ref b])).length) Slot.unset).toArray = ls at hl ⊢
  have hl : lv_has ls 4 [(0, .ref b)] := hl
  have ke : ∀ (ls : Array Slot) (H : Heap) (locs : List Loc), va_S A s.heap H locs → W p l e room_1 s m #[Value.ref b] below meth c H locs 72 2623 (lw_Z below #[Value.ref b] s) (F0 m 1043 ls []) := by
    intro ls H locs hS
    refine lv_iconst (v := 1) hx hb dL_law_1043 (by decide) ?_
    refine va_forget (fun q hq => hA1 _ (hS.2.2 q hq)) ?_
    exact lw_ret hx hb hr hlocks dL_law_1044
  refine va_new (ci := 5) (fs := [.null, .null, .null, .null, .null, .null, .null, .null]) (C := RX5) (T := TX5) (N := 8) hx hb hts inX5 tyX5 tyX5_ok hown (hts (.classLink RL 7 RX5) (List.mem_of_getElem? (i := 61) (by decide +kernel))) (tb _ lw_p12.2.1) w51 hK hw.1 hw.2.1 hw.2.2 hA rfl (fun j hj => (show ∀ j, j < 8 → defaultValue (tyX5 j) = vp_V [.null, .null, .null, .null, .null, .null, .null, .null] j by decide +kernel) j hj) (Nat.le_of_ble_eq_true rfl) (Nat.le_of_ble_eq_true rfl) dL_law_0 (fun q5 H hP hD hS => ?_)
  have hw : cd_WS G A s.heap H [] [(q5, .inr (5, [.null, .null, .null, .null, .null, .null, .null, .null]))] := ⟨hP, hD, hS⟩
  refine lv_dup hx hb dL_law_3 rfl ?_
  refine cd_callI (rest := [.ref q5]) (wr := []) C1 hw (c_X5_init l G cI cZ t1 t2 q5) [0] [] rfl rfl rfl rfl (by decide) (cwI 0 htw gL_law_X5_init rfl rfl rfl w51 (hts (.methodLink RL 9 yX5_init) (List.mem_of_getElem? (i := 63) (by decide +kernel))) (hts (.instanceMethod yX5_init) (List.mem_of_getElem? (i := 64) (by decide +kernel))) rfl (by decide +kernel) ⟨Nat.le_of_ble_eq_true rfl, Nat.le_of_ble_eq_true rfl⟩) hl.1 (lv_room (Nat.le_of_ble_eq_true rfl)) dL_law_4 ⟨Nat.le_of_ble_eq_true rfl, Nat.le_of_ble_eq_true rfl⟩ (fun u H locs up hw => ?_)
  obtain ⟨h, ht, h1, h2, hp, hy, hs, hv, hz, T, T1, T2, Sc⟩ := u
  have up : h 0 = q5 ∧ q_T T g_0 := up
  have hw : cd_WS G A s.heap H locs (pc_top cZ h ht h1 h2 hp hy hv hz (fun _ _ => 0) ++ pc_town cI ht T ++ pc_town cI h1 T1 ++ pc_town cI h2 T2 ++ pc_pad cI hp (fun _ _ => 0) ++ pc_play hy hs (fun _ _ => 0) ++ pc_town cI hs Sc ++ pc_walk cI hv (fun _ _ => 0) ++ pc_snz cI hz (fun _ _ => 0)) := hw
  rw [← up.1]
  refine lv_astore_n (lv' := [(1, .ref (h 0)), (0, .ref b)]) hx hb dL_law_7 rfl hl (by decide) rfl (fun ls hl => ?_)
  refine va_new (ci := 6) (fs := [.null, .null, .null, .null, .int 0, .null, .int 0, .null, .int 0, .int 0, .int 0, .int 0, .int 0, .int 0, .null, .null, .null, .null, .null, .null, .null, .null]) (C := RX6) (T := TX6) (N := 22) hx hb hts inX6 tyX6 tyX6_ok hown (hts (.classLink RL 10 RX6) (List.mem_of_getElem? (i := 683) (by decide +kernel))) (tb _ lw_p24.2.1) w57 hK hw.1 hw.2.1 hw.2.2 hA rfl (fun j hj => (show ∀ j, j < 22 → defaultValue (tyX6 j) = vp_V [.null, .null, .null, .null, .int 0, .null, .int 0, .null, .int 0, .int 0, .int 0, .int 0, .int 0, .int 0, .null, .null, .null, .null, .null, .null, .null, .null] j by decide +kernel) j hj) (Nat.le_of_ble_eq_true rfl) (Nat.le_of_ble_eq_true rfl) dL_law_8 (fun q6 H hP hD hS => ?_)
  have hw : cd_WS G A s.heap H locs ((pc_top cZ h ht h1 h2 hp hy hv hz (fun _ _ => 0) ++ pc_town cI ht T ++ pc_town cI h1 T1 ++ pc_town cI h2 T2 ++ pc_pad cI hp (fun _ _ => 0) ++ pc_play hy hs (fun _ _ => 0) ++ pc_town cI hs Sc ++ pc_walk cI hv (fun _ _ => 0) ++ pc_snz cI hz (fun _ _ => 0)) ++ [(q6, .inr (6, [.null, .null, .null, .null, .int 0, .null, .int 0, .null, .int 0, .int 0, .int 0, .int 0, .int 0, .int 0, .null, .null, .null, .null, .null, .null, .null, .null]))]) := ⟨hP, hD, hS⟩
  refine lv_dup hx hb dL_law_11 rfl ?_
  refine cd_callI (rest := [.ref q6]) (wr := pc_top cZ h ht h1 h2 hp hy hv hz (fun _ _ => 0) ++ pc_town cI ht T ++ pc_town cI h1 T1 ++ pc_town cI h2 T2 ++ pc_pad cI hp (fun _ _ => 0) ++ pc_play hy hs (fun _ _ => 0) ++ pc_town cI hs Sc ++ pc_walk cI hv (fun _ _ => 0) ++ pc_snz cI hz (fun _ _ => 0)) C1 hw (c_X6_init l G cI cZ t1 t2 q6) [57] [0, 1, 2, 3, 4, 5, 6, 7, 8, 9, 10, 11, 12, 13, 14, 15, 16, 17, 18, 19, 20, 21, 22, 23, 24, 25, 26, 27, 28, 29, 30, 31, 32, 33, 34, 35, 36, 37, 38, 39, 40, 41, 42, 43, 44, 45, 46, 47, 48, 49, 50, 51, 52, 53, 54, 55, 56] rfl rfl rfl rfl (by decide) (cwI 0 htw gL_law_X6_init rfl rfl rfl w57 (hts (.methodLink RL 12 yX6_init) (List.mem_of_getElem? (i := 685) (by decide +kernel))) (hts (.instanceMethod yX6_init) (List.mem_of_getElem? (i := 686) (by decide +kernel))) rfl (by decide +kernel) ⟨Nat.le_of_ble_eq_true rfl, Nat.le_of_ble_eq_true rfl⟩) hl.1 (lv_room (Nat.le_of_ble_eq_true rfl)) dL_law_12 ⟨Nat.le_of_ble_eq_true rfl, Nat.le_of_ble_eq_true rfl⟩ (fun u H locs um hw => ?_)
  obtain ⟨hm, M⟩ := u
  have um : hm 0 = q6 ∧ (∀ j, j < 69 → M 0 j = nI (b_0 j)) ∧ ∀ k, k ≠ 0 → M k = fun _ => 0 := um
  have hw : cd_WS G A s.heap H locs (pc_all cI cZ h ht h1 h2 hp hy hs hv hz hm (fun _ _ => 0) T T1 T2 (fun _ _ => 0) (fun _ _ => 0) Sc (fun _ _ => 0) (fun _ _ => 0) M) := hw
  rw [← um.1]
  refine lv_astore_n (lv' := [(2, .ref (hm 0)), (1, .ref (h 0)), (0, .ref b)]) hx hb dL_law_15 rfl hl (by decide) rfl (fun ls hl => ?_)
  refine lv_iconst (v := nI 0) hx hb dL_law_16 (by decide) ?_
  refine lv_istore_n (lv' := [(3, .int (nI 0)), (2, .ref (hm 0)), (1, .ref (h 0)), (0, .ref b)]) hx hb dL_law_17 rfl hl (by decide) rfl (fun ls hl => ?_)
  exact lw_loop C1 hX hbl hbA hL ke 65 0 _ T T1 T2 _ _ Sc _ _ M ls H locs (by omega) (by decide) (lw_R0 up.2 um.2.1 um.2.2) hw hl
