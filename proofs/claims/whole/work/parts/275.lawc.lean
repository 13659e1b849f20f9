/-! the law: words 24 .. -/
section LAWC
variable {p : Program} {l : Launch} {e : Env} {s : State} {m : MethodId} {below : List Frame} {meth : Method} {c : Code} {H : Heap} {locs : List Loc} {Q : State → Prop} {G : va_G} {cI cZ : ClassId} {t1 t2 : Nat} {A : Nat → Prop} {ls : Array Slot} {b L i : Nat} {xs : Nat → Int32} {h ht h1 h2 hp hy hs hv hz hm : Nat → Nat} {K T T1 T2 P Y S V Z M : Nat → Nat → Int32}
set_option maxHeartbeats 4000000 in
set_option maxRecDepth 100000 in
theorem lw_c_24 (C0 : cd_CX G cI cZ t1 t2 p s m #[Value.ref b] meth c code 4 ret wsL_law RL A) (hX : va_X b L xs s s.heap) (hbl : b < s.heap.size) (hbA : ¬ A b) (hi : i + 6 ≤ L) (hL : L ≤ 384) (hR : lw_R K T T1 T2 P M) (hw : cd_WS G A s.heap H locs (pc_all cI cZ h ht h1 h2 hp hy hs hv hz hm K T T1 T2 P Y S V Z M)) (hl : lv_has ls 4 [(3, .int (nI i)), (2, .ref (hm 0)), (1, .ref (h 0)), (0, .ref b)])
    (kk : ∀ (K T T1 T2 P Y S V Z M : Nat → Nat → Int32) (ls : Array Slot) (H : Heap) (locs : List Loc), lw_R K T T1 T2 P M → cd_WS G A s.heap H locs (pc_all cI cZ h ht h1 h2 hp hy hs hv hz hm K T T1 T2 P Y S V Z M) → lv_has ls 4 [(3, .int (nI i)), (2, .ref (hm 0)), (1, .ref (h 0)), (0, .ref b)] → W p l e room_1 s m #[Value.ref b] below meth c H locs 72 2623 Q (F0 m 1037 ls [])) : W p l e room_1 s m #[Value.ref b] below meth c H locs 72 2623 Q (F0 m 794 ls []) := by
  obtain ⟨⟨hx, hb, hml, hown, hts⟩, hr, hlocks, hA, hE⟩ := id C0
  obtain ⟨g, sg, n, hXX, hd, hP, h6, i0, i1⟩ := id hR
  obtain ⟨v, M', e1, e2, hsm⟩ := m_snuff hXX K (xs (i + 1))
  refine lv_aload_n hx hb dL_law_794 rfl (lv_at hl 2 rfl) ?_
  refine lw_ld (j := 1) hx hb hX hbl hbA hi hL hw.2.2 hl (by decide) (by decide) dL_law_795 dL_law_796 dL_law_797 dL_law_798 dL_law_799 ?_
  refine lw_call_kt (As := [.int (xs (i + 1))]) (rest := []) C0 hw (c_X5_snuff l G cI cZ t1 t2 h ht h1 h2 hp hy hs hv hz K T (xs (i + 1)) v e1) (cwV 1 hts gL_law_X5_snuff rfl rfl rfl (by decide +kernel) ⟨Nat.le_of_ble_eq_true rfl, Nat.le_of_ble_eq_true rfl⟩) rfl hl.1 (lv_room (Nat.le_of_ble_eq_true rfl)) dL_law_800 (fun H locs hw => ?_)
  refine lv_aload_n hx hb dL_law_803 rfl (lv_at hl 1 rfl) ?_
  refine lw_ld (j := 1) hx hb hX hbl hbA hi hL hw.2.2 hl (by decide) (by decide) dL_law_804 dL_law_805 dL_law_806 dL_law_807 dL_law_808 ?_
  refine lw_call_m (As := [.int (xs (i + 1))]) (rest := [.int v]) C0 hw (c_X6_snuff l G cI cZ t1 t2 hm M (xs (i + 1)) (v, M') e2) (cwV 1 hts gL_law_X6_snuff rfl rfl rfl (by decide +kernel) ⟨Nat.le_of_ble_eq_true rfl, Nat.le_of_ble_eq_true rfl⟩) rfl hl.1 (lv_room (Nat.le_of_ble_eq_true rfl)) dL_law_809 (fun H locs hw => ?_)
  refine lv_icmp_eq (tgt := 1037) hx hb dL_law_812 (by decide) (fun _ => ?_) (fun c9 => absurd rfl c9)
  exact kk K T T1 T2 P Y S V Z M' ls H locs (lw_R.sm hR hsm) hw hl
set_option maxHeartbeats 4000000 in
set_option maxRecDepth 100000 in
theorem lw_c_25 (C0 : cd_CX G cI cZ t1 t2 p s m #[Value.ref b] meth c code 4 ret wsL_law RL A) (hX : va_X b L xs s s.heap) (hbl : b < s.heap.size) (hbA : ¬ A b) (hi : i + 6 ≤ L) (hL : L ≤ 384) (hR : lw_R K T T1 T2 P M) (hw : cd_WS G A s.heap H locs (pc_all cI cZ h ht h1 h2 hp hy hs hv hz hm K T T1 T2 P Y S V Z M)) (hl : lv_has ls 4 [(3, .int (nI i)), (2, .ref (hm 0)), (1, .ref (h 0)), (0, .ref b)])
    (kk : ∀ (K T T1 T2 P Y S V Z M : Nat → Nat → Int32) (ls : Array Slot) (H : Heap) (locs : List Loc), lw_R K T T1 T2 P M → cd_WS G A s.heap H locs (pc_all cI cZ h ht h1 h2 hp hy hs hv hz hm K T T1 T2 P Y S V Z M) → lv_has ls 4 [(3, .int (nI i)), (2, .ref (hm 0)), (1, .ref (h 0)), (0, .ref b)] → W p l e room_1 s m #[Value.ref b] below meth c H locs 72 2623 Q (F0 m 1037 ls [])) : W p l e room_1 s m #[Value.ref b] below meth c H locs 72 2623 Q (F0 m 817 ls []) := by
  obtain ⟨⟨hx, hb, hml, hown, hts⟩, hr, hlocks, hA, hE⟩ := id C0
  obtain ⟨g, sg, n, hXX, hd, hP, h6, i0, i1⟩ := id hR
  obtain ⟨v, M', e1, e2, hsm⟩ := m_moths hXX K (xs (i + 1)) (xs (i + 2)) (xs (i + 3)) (xs (i + 4))
  refine lv_aload_n hx hb dL_law_817 rfl (lv_at hl 2 rfl) ?_
  refine lw_ld (j := 1) hx hb hX hbl hbA hi hL hw.2.2 hl (by decide) (by decide) dL_law_818 dL_law_819 dL_law_820 dL_law_821 dL_law_822 ?_
  refine lw_ld (j := 2) hx hb hX hbl hbA hi hL hw.2.2 hl (by decide) (by decide) dL_law_823 dL_law_824 dL_law_825 dL_law_826 dL_law_827 ?_
  refine lw_ld (j := 3) hx hb hX hbl hbA hi hL hw.2.2 hl (by decide) (by decide) dL_law_828 dL_law_829 dL_law_830 dL_law_831 dL_law_832 ?_
  refine lw_ld (j := 4) hx hb hX hbl hbA hi hL hw.2.2 hl (by decide) (by decide) dL_law_833 dL_law_834 dL_law_835 dL_law_836 dL_law_837 ?_
  refine lw_call_kt (As := [.int (xs (i + 1)), .int (xs (i + 2)), .int (xs (i + 3)), .int (xs (i + 4))]) (rest := []) C0 hw (c_X5_moths l G cI cZ t1 t2 h ht h1 h2 hp hy hs hv hz K T (xs (i + 1)) (xs (i + 2)) (xs (i + 3)) (xs (i + 4)) v e1) (cwV 4 hts gL_law_X5_moths rfl rfl rfl (by decide +kernel) ⟨Nat.le_of_ble_eq_true rfl, Nat.le_of_ble_eq_true rfl⟩) rfl hl.1 (lv_room (Nat.le_of_ble_eq_true rfl)) dL_law_838 (fun H locs hw => ?_)
  refine lv_aload_n hx hb dL_law_841 rfl (lv_at hl 1 rfl) ?_
  refine lw_ld (j := 1) hx hb hX hbl hbA hi hL hw.2.2 hl (by decide) (by decide) dL_law_842 dL_law_843 dL_law_844 dL_law_845 dL_law_846 ?_
  refine lw_ld (j := 2) hx hb hX hbl hbA hi hL hw.2.2 hl (by decide) (by decide) dL_law_847 dL_law_848 dL_law_849 dL_law_850 dL_law_851 ?_
  refine lw_ld (j := 3) hx hb hX hbl hbA hi hL hw.2.2 hl (by decide) (by decide) dL_law_852 dL_law_853 dL_law_854 dL_law_855 dL_law_856 ?_
  refine lw_ld (j := 4) hx hb hX hbl hbA hi hL hw.2.2 hl (by decide) (by decide) dL_law_857 dL_law_858 dL_law_859 dL_law_860 dL_law_861 ?_
  refine lw_call_m (As := [.int (xs (i + 1)), .int (xs (i + 2)), .int (xs (i + 3)), .int (xs (i + 4))]) (rest := [.long v]) C0 hw (c_X6_moths l G cI cZ t1 t2 hm M (xs (i + 1)) (xs (i + 2)) (xs (i + 3)) (xs (i + 4)) (v, M') e2) (cwV 4 hts gL_law_X6_moths rfl rfl rfl (by decide +kernel) ⟨Nat.le_of_ble_eq_true rfl, Nat.le_of_ble_eq_true rfl⟩) rfl hl.1 (lv_room (Nat.le_of_ble_eq_true rfl)) dL_law_862 (fun H locs hw => ?_)
  refine W.lcmp hx hb dL_law_865 ?_
  rw [show lg_cmp v v = 0 from lw_cmp v]
  refine lv_if_eq (tgt := 1037) hx hb dL_law_866 (by decide) (fun _ => ?_) (fun c9 => absurd rfl c9)
  exact kk K T T1 T2 P Y S V Z M' ls H locs (lw_R.sm hR hsm) hw hl
set_option maxHeartbeats 4000000 in
set_option maxRecDepth 100000 in
theorem lw_c_26 (C0 : cd_CX G cI cZ t1 t2 p s m #[Value.ref b] meth c code 4 ret wsL_law RL A) (hX : va_X b L xs s s.heap) (hbl : b < s.heap.size) (hbA : ¬ A b) (hi : i + 6 ≤ L) (hL : L ≤ 384) (hR : lw_R K T T1 T2 P M) (hw : cd_WS G A s.heap H locs (pc_all cI cZ h ht h1 h2 hp hy hs hv hz hm K T T1 T2 P Y S V Z M)) (hl : lv_has ls 4 [(3, .int (nI i)), (2, .ref (hm 0)), (1, .ref (h 0)), (0, .ref b)])
    (kk : ∀ (K T T1 T2 P Y S V Z M : Nat → Nat → Int32) (ls : Array Slot) (H : Heap) (locs : List Loc), lw_R K T T1 T2 P M → cd_WS G A s.heap H locs (pc_all cI cZ h ht h1 h2 hp hy hs hv hz hm K T T1 T2 P Y S V Z M) → lv_has ls 4 [(3, .int (nI i)), (2, .ref (hm 0)), (1, .ref (h 0)), (0, .ref b)] → W p l e room_1 s m #[Value.ref b] below meth c H locs 72 2623 Q (F0 m 1037 ls [])) : W p l e room_1 s m #[Value.ref b] below meth c H locs 72 2623 Q (F0 m 871 ls []) := by
  obtain ⟨⟨hx, hb, hml, hown, hts⟩, hr, hlocks, hA, hE⟩ := id C0
  obtain ⟨g, sg, n, hXX, hd, hP, h6, i0, i1⟩ := id hR
  obtain ⟨v, e1, e2⟩ := m_ship K M (xs (i + 1)) (xs (i + 2)) (xs (i + 3)) (xs (i + 4))
  refine lv_aload_n hx hb dL_law_871 rfl (lv_at hl 2 rfl) ?_
  refine lw_ld (j := 1) hx hb hX hbl hbA hi hL hw.2.2 hl (by decide) (by decide) dL_law_872 dL_law_873 dL_law_874 dL_law_875 dL_law_876 ?_
  refine lw_ld (j := 2) hx hb hX hbl hbA hi hL hw.2.2 hl (by decide) (by decide) dL_law_877 dL_law_878 dL_law_879 dL_law_880 dL_law_881 ?_
  refine lw_ld (j := 3) hx hb hX hbl hbA hi hL hw.2.2 hl (by decide) (by decide) dL_law_882 dL_law_883 dL_law_884 dL_law_885 dL_law_886 ?_
  refine lw_ld (j := 4) hx hb hX hbl hbA hi hL hw.2.2 hl (by decide) (by decide) dL_law_887 dL_law_888 dL_law_889 dL_law_890 dL_law_891 ?_
  refine lw_call_k (As := [.int (xs (i + 1)), .int (xs (i + 2)), .int (xs (i + 3)), .int (xs (i + 4))]) (rest := []) C0 hw (c_X5_ship l G cI cZ t1 t2 h ht h1 h2 hp hy hs hv hz K (xs (i + 1)) (xs (i + 2)) (xs (i + 3)) (xs (i + 4)) v e1) (cwV 4 hts gL_law_X5_ship rfl rfl rfl (by decide +kernel) ⟨Nat.le_of_ble_eq_true rfl, Nat.le_of_ble_eq_true rfl⟩) rfl hl.1 (lv_room (Nat.le_of_ble_eq_true rfl)) dL_law_892 (fun H locs hw => ?_)
  refine lv_aload_n hx hb dL_law_895 rfl (lv_at hl 1 rfl) ?_
  refine lw_ld (j := 1) hx hb hX hbl hbA hi hL hw.2.2 hl (by decide) (by decide) dL_law_896 dL_law_897 dL_law_898 dL_law_899 dL_law_900 ?_
  refine lw_ld (j := 2) hx hb hX hbl hbA hi hL hw.2.2 hl (by decide) (by decide) dL_law_901 dL_law_902 dL_law_903 dL_law_904 dL_law_905 ?_
  refine lw_ld (j := 3) hx hb hX hbl hbA hi hL hw.2.2 hl (by decide) (by decide) dL_law_906 dL_law_907 dL_law_908 dL_law_909 dL_law_910 ?_
  refine lw_ld (j := 4) hx hb hX hbl hbA hi hL hw.2.2 hl (by decide) (by decide) dL_law_911 dL_law_912 dL_law_913 dL_law_914 dL_law_915 ?_
  refine lw_call_m (As := [.int (xs (i + 1)), .int (xs (i + 2)), .int (xs (i + 3)), .int (xs (i + 4))]) (rest := [.long v]) C0 hw (c_X6_ship l G cI cZ t1 t2 hm M (xs (i + 1)) (xs (i + 2)) (xs (i + 3)) (xs (i + 4)) v e2) (cwV 4 hts gL_law_X6_ship rfl rfl rfl (by decide +kernel) ⟨Nat.le_of_ble_eq_true rfl, Nat.le_of_ble_eq_true rfl⟩) rfl hl.1 (lv_room (Nat.le_of_ble_eq_true rfl)) dL_law_916 (fun H locs hw => ?_)
  refine W.lcmp hx hb dL_law_919 ?_
  rw [show lg_cmp v v = 0 from lw_cmp v]
  refine lv_if_eq (tgt := 1037) hx hb dL_law_920 (by decide) (fun _ => ?_) (fun c9 => absurd rfl c9)
  exact kk K T T1 T2 P Y S V Z M ls H locs (hR) hw hl
set_option maxHeartbeats 4000000 in
set_option maxRecDepth 100000 in
theorem lw_c_27 (C0 : cd_CX G cI cZ t1 t2 p s m #[Value.ref b] meth c code 4 ret wsL_law RL A) (hX : va_X b L xs s s.heap) (hbl : b < s.heap.size) (hbA : ¬ A b) (hi : i + 6 ≤ L) (hL : L ≤ 384) (hR : lw_R K T T1 T2 P M) (hw : cd_WS G A s.heap H locs (pc_all cI cZ h ht h1 h2 hp hy hs hv hz hm K T T1 T2 P Y S V Z M)) (hl : lv_has ls 4 [(3, .int (nI i)), (2, .ref (hm 0)), (1, .ref (h 0)), (0, .ref b)])
    (kk : ∀ (K T T1 T2 P Y S V Z M : Nat → Nat → Int32) (ls : Array Slot) (H : Heap) (locs : List Loc), lw_R K T T1 T2 P M → cd_WS G A s.heap H locs (pc_all cI cZ h ht h1 h2 hp hy hs hv hz hm K T T1 T2 P Y S V Z M) → lv_has ls 4 [(3, .int (nI i)), (2, .ref (hm 0)), (1, .ref (h 0)), (0, .ref b)] → W p l e room_1 s m #[Value.ref b] below meth c H locs 72 2623 Q (F0 m 1037 ls [])) : W p l e room_1 s m #[Value.ref b] below meth c H locs 72 2623 Q (F0 m 925 ls []) := by
  obtain ⟨⟨hx, hb, hml, hown, hts⟩, hr, hlocks, hA, hE⟩ := id C0
  obtain ⟨g, sg, n, hXX, hd, hP, h6, i0, i1⟩ := id hR
  obtain ⟨v, Y', S', M', e1, e2, hsm⟩ := m_year hXX K Y S (xs (i + 1)) (xs (i + 2)) (xs (i + 3))
  refine lv_aload_n hx hb dL_law_925 rfl (lv_at hl 2 rfl) ?_
  refine lw_ld (j := 1) hx hb hX hbl hbA hi hL hw.2.2 hl (by decide) (by decide) dL_law_926 dL_law_927 dL_law_928 dL_law_929 dL_law_930 ?_
  refine lw_ld (j := 2) hx hb hX hbl hbA hi hL hw.2.2 hl (by decide) (by decide) dL_law_931 dL_law_932 dL_law_933 dL_law_934 dL_law_935 ?_
  refine lw_ld (j := 3) hx hb hX hbl hbA hi hL hw.2.2 hl (by decide) (by decide) dL_law_936 dL_law_937 dL_law_938 dL_law_939 dL_law_940 ?_
  refine lw_call_ktys (As := [.int (xs (i + 1)), .int (xs (i + 2)), .int (xs (i + 3))]) (rest := []) C0 hw (c_X5_year l G cI cZ t1 t2 h ht h1 h2 hp hy hs hv hz K T Y S (xs (i + 1)) (xs (i + 2)) (xs (i + 3)) (v, Y', S') e1) (cwV 3 hts gL_law_X5_year rfl rfl rfl (by decide +kernel) ⟨Nat.le_of_ble_eq_true rfl, Nat.le_of_ble_eq_true rfl⟩) rfl hl.1 (lv_room (Nat.le_of_ble_eq_true rfl)) dL_law_941 (fun H locs hw => ?_)
  refine lv_aload_n hx hb dL_law_944 rfl (lv_at hl 1 rfl) ?_
  refine lw_ld (j := 1) hx hb hX hbl hbA hi hL hw.2.2 hl (by decide) (by decide) dL_law_945 dL_law_946 dL_law_947 dL_law_948 dL_law_949 ?_
  refine lw_ld (j := 2) hx hb hX hbl hbA hi hL hw.2.2 hl (by decide) (by decide) dL_law_950 dL_law_951 dL_law_952 dL_law_953 dL_law_954 ?_
  refine lw_ld (j := 3) hx hb hX hbl hbA hi hL hw.2.2 hl (by decide) (by decide) dL_law_955 dL_law_956 dL_law_957 dL_law_958 dL_law_959 ?_
  refine lw_call_m (As := [.int (xs (i + 1)), .int (xs (i + 2)), .int (xs (i + 3))]) (rest := [.int v]) C0 hw (c_X6_year l G cI cZ t1 t2 hm M (xs (i + 1)) (xs (i + 2)) (xs (i + 3)) (v, M') e2) (cwV 3 hts gL_law_X6_year rfl rfl rfl (by decide +kernel) ⟨Nat.le_of_ble_eq_true rfl, Nat.le_of_ble_eq_true rfl⟩) rfl hl.1 (lv_room (Nat.le_of_ble_eq_true rfl)) dL_law_960 (fun H locs hw => ?_)
  refine lv_icmp_eq (tgt := 1037) hx hb dL_law_963 (by decide) (fun _ => ?_) (fun c9 => absurd rfl c9)
  exact kk K T T1 T2 P Y' S' V Z M' ls H locs (lw_R.sm hR hsm) hw hl
set_option maxHeartbeats 4000000 in
set_option maxRecDepth 100000 in
theorem lw_c_28 (C0 : cd_CX G cI cZ t1 t2 p s m #[Value.ref b] meth c code 4 ret wsL_law RL A) (hX : va_X b L xs s s.heap) (hbl : b < s.heap.size) (hbA : ¬ A b) (hi : i + 6 ≤ L) (hL : L ≤ 384) (hR : lw_R K T T1 T2 P M) (hw : cd_WS G A s.heap H locs (pc_all cI cZ h ht h1 h2 hp hy hs hv hz hm K T T1 T2 P Y S V Z M)) (hl : lv_has ls 4 [(3, .int (nI i)), (2, .ref (hm 0)), (1, .ref (h 0)), (0, .ref b)])
    (kk : ∀ (K T T1 T2 P Y S V Z M : Nat → Nat → Int32) (ls : Array Slot) (H : Heap) (locs : List Loc), lw_R K T T1 T2 P M → cd_WS G A s.heap H locs (pc_all cI cZ h ht h1 h2 hp hy hs hv hz hm K T T1 T2 P Y S V Z M) → lv_has ls 4 [(3, .int (nI i)), (2, .ref (hm 0)), (1, .ref (h 0)), (0, .ref b)] → W p l e room_1 s m #[Value.ref b] below meth c H locs 72 2623 Q (F0 m 1037 ls [])) : W p l e room_1 s m #[Value.ref b] below meth c H locs 72 2623 Q (F0 m 968 ls []) := by
  obtain ⟨⟨hx, hb, hml, hown, hts⟩, hr, hlocks, hA, hE⟩ := id C0
  obtain ⟨g, sg, n, hXX, hd, hP, h6, i0, i1⟩ := id hR
  obtain ⟨v, K', T1', T2', M', e1, e2, hro, i0', i1'⟩ := m_image hXX i0 i1 (xs (i + 1))
  refine lv_aload_n hx hb dL_law_968 rfl (lv_at hl 2 rfl) ?_
  refine lw_ld (j := 1) hx hb hX hbl hbA hi hL hw.2.2 hl (by decide) (by decide) dL_law_969 dL_law_970 dL_law_971 dL_law_972 dL_law_973 ?_
  refine lw_call_ktij (As := [.int (xs (i + 1))]) (rest := []) C0 hw (c_X5_image l G cI cZ t1 t2 h ht h1 h2 hp hy hs hv hz K T T1 T2 (xs (i + 1)) (v, K', T1', T2') e1) (cwV 1 hts gL_law_X5_image rfl rfl rfl (by decide +kernel) ⟨Nat.le_of_ble_eq_true rfl, Nat.le_of_ble_eq_true rfl⟩) rfl hl.1 (lv_room (Nat.le_of_ble_eq_true rfl)) dL_law_974 (fun H locs hw => ?_)
  refine lv_aload_n hx hb dL_law_977 rfl (lv_at hl 1 rfl) ?_
  refine lw_ld (j := 1) hx hb hX hbl hbA hi hL hw.2.2 hl (by decide) (by decide) dL_law_978 dL_law_979 dL_law_980 dL_law_981 dL_law_982 ?_
  refine lw_call_m (As := [.int (xs (i + 1))]) (rest := [.int v]) C0 hw (c_X6_image l G cI cZ t1 t2 hm M (xs (i + 1)) (v, M') e2) (cwV 1 hts gL_law_X6_image rfl rfl rfl (by decide +kernel) ⟨Nat.le_of_ble_eq_true rfl, Nat.le_of_ble_eq_true rfl⟩) rfl hl.1 (lv_room (Nat.le_of_ble_eq_true rfl)) dL_law_983 (fun H locs hw => ?_)
  refine lv_icmp_eq (tgt := 1037) hx hb dL_law_986 (by decide) (fun _ => ?_) (fun c9 => absurd rfl c9)
  exact kk K' T T1' T2' P Y S V Z M' ls H locs (⟨g, sg, n, hXX.rows (hro 0 (by decide) (by decide)) (hro 2 (by decide) (by decide)) (hro 3 (by decide) (by decide)) (hro 4 (by decide) (by decide)) (hro 5 (by decide) (by decide)), hd, hP, ⟨by rw [hro 6 (by decide) (by decide)]; exact h6.1, fun j hj => by rw [hro 7 (by decide) (by decide)]; exact h6.2 j hj⟩, i0', i1'⟩) hw hl
set_option maxHeartbeats 4000000 in
set_option maxRecDepth 100000 in
theorem lw_c_29 (C0 : cd_CX G cI cZ t1 t2 p s m #[Value.ref b] meth c code 4 ret wsL_law RL A) (hX : va_X b L xs s s.heap) (hbl : b < s.heap.size) (hbA : ¬ A b) (hi : i + 6 ≤ L) (hL : L ≤ 384) (hR : lw_R K T T1 T2 P M) (hw : cd_WS G A s.heap H locs (pc_all cI cZ h ht h1 h2 hp hy hs hv hz hm K T T1 T2 P Y S V Z M)) (hl : lv_has ls 4 [(3, .int (nI i)), (2, .ref (hm 0)), (1, .ref (h 0)), (0, .ref b)])
    (kk : ∀ (K T T1 T2 P Y S V Z M : Nat → Nat → Int32) (ls : Array Slot) (H : Heap) (locs : List Loc), lw_R K T T1 T2 P M → cd_WS G A s.heap H locs (pc_all cI cZ h ht h1 h2 hp hy hs hv hz hm K T T1 T2 P Y S V Z M) → lv_has ls 4 [(3, .int (nI i)), (2, .ref (hm 0)), (1, .ref (h 0)), (0, .ref b)] → W p l e room_1 s m #[Value.ref b] below meth c H locs 72 2623 Q (F0 m 1037 ls [])) : W p l e room_1 s m #[Value.ref b] below meth c H locs 72 2623 Q (F0 m 991 ls []) := by
  obtain ⟨⟨hx, hb, hml, hown, hts⟩, hr, hlocks, hA, hE⟩ := id C0
  obtain ⟨g, sg, n, hXX, hd, hP, h6, i0, i1⟩ := id hR
  obtain ⟨v, T', M', g', e1, e2, hX', ho⟩ := m_restore hXX i0 i1 (xs (i + 1))
  refine lv_aload_n hx hb dL_law_991 rfl (lv_at hl 2 rfl) ?_
  refine lw_ld (j := 1) hx hb hX hbl hbA hi hL hw.2.2 hl (by decide) (by decide) dL_law_992 dL_law_993 dL_law_994 dL_law_995 dL_law_996 ?_
  refine lw_call_ktij (As := [.int (xs (i + 1))]) (rest := []) C0 hw (c_X5_restore l G cI cZ t1 t2 h ht h1 h2 hp hy hs hv hz K T T1 T2 (xs (i + 1)) (v, T') e1) (cwV 1 hts gL_law_X5_restore rfl rfl rfl (by decide +kernel) ⟨Nat.le_of_ble_eq_true rfl, Nat.le_of_ble_eq_true rfl⟩) rfl hl.1 (lv_room (Nat.le_of_ble_eq_true rfl)) dL_law_997 (fun H locs hw => ?_)
  refine lv_aload_n hx hb dL_law_1000 rfl (lv_at hl 1 rfl) ?_
  refine lw_ld (j := 1) hx hb hX hbl hbA hi hL hw.2.2 hl (by decide) (by decide) dL_law_1001 dL_law_1002 dL_law_1003 dL_law_1004 dL_law_1005 ?_
  refine lw_call_m (As := [.int (xs (i + 1))]) (rest := [.int v]) C0 hw (c_X6_restore l G cI cZ t1 t2 hm M (xs (i + 1)) (v, M') e2) (cwV 1 hts gL_law_X6_restore rfl rfl rfl (by decide +kernel) ⟨Nat.le_of_ble_eq_true rfl, Nat.le_of_ble_eq_true rfl⟩) rfl hl.1 (lv_room (Nat.le_of_ble_eq_true rfl)) dL_law_1006 (fun H locs hw => ?_)
  refine lv_icmp_eq (tgt := 1037) hx hb dL_law_1009 (by decide) (fun _ => ?_) (fun c9 => absurd rfl c9)
  exact kk K T' T1 T2 P Y S V Z M' ls H locs (⟨g', sg, n, hX', hd, hP, h6.oth ho, i0.same ho.2.2.1 ho.2.2.2, i1.same ho.2.2.1 ho.2.2.2⟩) hw hl
end LAWC
