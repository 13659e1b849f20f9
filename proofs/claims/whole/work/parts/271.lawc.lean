/-! the law: words 0 .. -/
section LAWC
variable {p : Program} {l : Launch} {e : Env} {s : State} {m : MethodId} {below : List Frame} {meth : Method} {c : Code} {H : Heap} {locs : List Loc} {Q : State → Prop} {G : va_G} {cI cZ : ClassId} {t1 t2 : Nat} {A : Nat → Prop} {ls : Array Slot} {b L i : Nat} {xs : Nat → Int32} {h ht h1 h2 hp hy hs hv hz hm : Nat → Nat} {K T T1 T2 P Y S V Z M : Nat → Nat → Int32}
set_option maxHeartbeats 4000000 in
set_option maxRecDepth 100000 in
theorem lw_c_0 (C0 : cd_CX G cI cZ t1 t2 p s m #[Value.ref b] meth c code 4 ret wsL_law RL A) (hX : va_X b L xs s s.heap) (hbl : b < s.heap.size) (hbA : ¬ A b) (hi : i + 6 ≤ L) (hL : L ≤ 384) (hR : lw_R K T T1 T2 P M) (hw : cd_WS G A s.heap H locs (pc_all cI cZ h ht h1 h2 hp hy hs hv hz hm K T T1 T2 P Y S V Z M)) (hl : lv_has ls 4 [(3, .int (nI i)), (2, .ref (hm 0)), (1, .ref (h 0)), (0, .ref b)])
    (kk : ∀ (K T T1 T2 P Y S V Z M : Nat → Nat → Int32) (ls : Array Slot) (H : Heap) (locs : List Loc), lw_R K T T1 T2 P M → cd_WS G A s.heap H locs (pc_all cI cZ h ht h1 h2 hp hy hs hv hz hm K T T1 T2 P Y S V Z M) → lv_has ls 4 [(3, .int (nI i)), (2, .ref (hm 0)), (1, .ref (h 0)), (0, .ref b)] → W p l e room_1 s m #[Value.ref b] below meth c H locs 72 2623 Q (F0 m 1037 ls [])) : W p l e room_1 s m #[Value.ref b] below meth c H locs 72 2623 Q (F0 m 172 ls []) := by
  obtain ⟨⟨hx, hb, hml, hown, hts⟩, hr, hlocks, hA, hE⟩ := id C0
  obtain ⟨g, sg, n, hXX, hd, hP, h6, i0, i1⟩ := id hR
  obtain ⟨v, T', M', g', e1, e2, hX', ho⟩ := m_candle hXX K (xs (i + 1)) (xs (i + 2)) (xs (i + 3)) (xs (i + 4)) (xs (i + 5))
  refine lv_aload_n hx hb dL_law_172 rfl (lv_at hl 2 rfl) ?_
  refine lw_ld (j := 1) hx hb hX hbl hbA hi hL hw.2.2 hl (by decide) (by decide) dL_law_173 dL_law_174 dL_law_175 dL_law_176 dL_law_177 ?_
  refine lw_ld (j := 2) hx hb hX hbl hbA hi hL hw.2.2 hl (by decide) (by decide) dL_law_178 dL_law_179 dL_law_180 dL_law_181 dL_law_182 ?_
  refine lw_ld (j := 3) hx hb hX hbl hbA hi hL hw.2.2 hl (by decide) (by decide) dL_law_183 dL_law_184 dL_law_185 dL_law_186 dL_law_187 ?_
  refine lw_ld (j := 4) hx hb hX hbl hbA hi hL hw.2.2 hl (by decide) (by decide) dL_law_188 dL_law_189 dL_law_190 dL_law_191 dL_law_192 ?_
  refine lw_ld (j := 5) hx hb hX hbl hbA hi hL hw.2.2 hl (by decide) (by decide) dL_law_193 dL_law_194 dL_law_195 dL_law_196 dL_law_197 ?_
  refine lw_call_kt (As := [.int (xs (i + 1)), .int (xs (i + 2)), .int (xs (i + 3)), .int (xs (i + 4)), .int (xs (i + 5))]) (rest := []) C0 hw (c_X5_candle l G cI cZ t1 t2 h ht h1 h2 hp hy hs hv hz K T (xs (i + 1)) (xs (i + 2)) (xs (i + 3)) (xs (i + 4)) (xs (i + 5)) (v, T') e1) (cwV 5 hts gL_law_X5_candle rfl rfl rfl (by decide +kernel) ⟨Nat.le_of_ble_eq_true rfl, Nat.le_of_ble_eq_true rfl⟩) rfl hl.1 (lv_room (Nat.le_of_ble_eq_true rfl)) dL_law_198 (fun H locs hw => ?_)
  refine lv_aload_n hx hb dL_law_201 rfl (lv_at hl 1 rfl) ?_
  refine lw_ld (j := 1) hx hb hX hbl hbA hi hL hw.2.2 hl (by decide) (by decide) dL_law_202 dL_law_203 dL_law_204 dL_law_205 dL_law_206 ?_
  refine lw_ld (j := 2) hx hb hX hbl hbA hi hL hw.2.2 hl (by decide) (by decide) dL_law_207 dL_law_208 dL_law_209 dL_law_210 dL_law_211 ?_
  refine lw_ld (j := 3) hx hb hX hbl hbA hi hL hw.2.2 hl (by decide) (by decide) dL_law_212 dL_law_213 dL_law_214 dL_law_215 dL_law_216 ?_
  refine lw_ld (j := 4) hx hb hX hbl hbA hi hL hw.2.2 hl (by decide) (by decide) dL_law_217 dL_law_218 dL_law_219 dL_law_220 dL_law_221 ?_
  refine lw_ld (j := 5) hx hb hX hbl hbA hi hL hw.2.2 hl (by decide) (by decide) dL_law_222 dL_law_223 dL_law_224 dL_law_225 dL_law_226 ?_
  refine lw_call_m (As := [.int (xs (i + 1)), .int (xs (i + 2)), .int (xs (i + 3)), .int (xs (i + 4)), .int (xs (i + 5))]) (rest := [.int v]) C0 hw (c_X6_candle l G cI cZ t1 t2 hm M (xs (i + 1)) (xs (i + 2)) (xs (i + 3)) (xs (i + 4)) (xs (i + 5)) (v, M') e2) (cwV 5 hts gL_law_X6_candle rfl rfl rfl (by decide +kernel) ⟨Nat.le_of_ble_eq_true rfl, Nat.le_of_ble_eq_true rfl⟩) rfl hl.1 (lv_room (Nat.le_of_ble_eq_true rfl)) dL_law_227 (fun H locs hw => ?_)
  refine lv_icmp_eq (tgt := 1037) hx hb dL_law_230 (by decide) (fun _ => ?_) (fun c9 => absurd rfl c9)
  exact kk K T' T1 T2 P Y S V Z M' ls H locs (⟨g', sg, n, hX', hd, hP, h6.oth ho, i0.same ho.2.2.1 ho.2.2.2, i1.same ho.2.2.1 ho.2.2.2⟩) hw hl
set_option maxHeartbeats 4000000 in
set_option maxRecDepth 100000 in
theorem lw_c_1 (C0 : cd_CX G cI cZ t1 t2 p s m #[Value.ref b] meth c code 4 ret wsL_law RL A) (hX : va_X b L xs s s.heap) (hbl : b < s.heap.size) (hbA : ¬ A b) (hi : i + 6 ≤ L) (hL : L ≤ 384) (hR : lw_R K T T1 T2 P M) (hw : cd_WS G A s.heap H locs (pc_all cI cZ h ht h1 h2 hp hy hs hv hz hm K T T1 T2 P Y S V Z M)) (hl : lv_has ls 4 [(3, .int (nI i)), (2, .ref (hm 0)), (1, .ref (h 0)), (0, .ref b)])
    (kk : ∀ (K T T1 T2 P Y S V Z M : Nat → Nat → Int32) (ls : Array Slot) (H : Heap) (locs : List Loc), lw_R K T T1 T2 P M → cd_WS G A s.heap H locs (pc_all cI cZ h ht h1 h2 hp hy hs hv hz hm K T T1 T2 P Y S V Z M) → lv_has ls 4 [(3, .int (nI i)), (2, .ref (hm 0)), (1, .ref (h 0)), (0, .ref b)] → W p l e room_1 s m #[Value.ref b] below meth c H locs 72 2623 Q (F0 m 1037 ls [])) : W p l e room_1 s m #[Value.ref b] below meth c H locs 72 2623 Q (F0 m 235 ls []) := by
  obtain ⟨⟨hx, hb, hml, hown, hts⟩, hr, hlocks, hA, hE⟩ := id C0
  obtain ⟨g, sg, n, hXX, hd, hP, h6, i0, i1⟩ := id hR
  obtain ⟨v, T', M', g', e1, e2, hX', ho⟩ := m_draught hXX K (xs (i + 1)) (xs (i + 2))
  refine lv_aload_n hx hb dL_law_235 rfl (lv_at hl 2 rfl) ?_
  refine lw_ld (j := 1) hx hb hX hbl hbA hi hL hw.2.2 hl (by decide) (by decide) dL_law_236 dL_law_237 dL_law_238 dL_law_239 dL_law_240 ?_
  refine lw_ld (j := 2) hx hb hX hbl hbA hi hL hw.2.2 hl (by decide) (by decide) dL_law_241 dL_law_242 dL_law_243 dL_law_244 dL_law_245 ?_
  refine lw_call_kt (As := [.int (xs (i + 1)), .int (xs (i + 2))]) (rest := []) C0 hw (c_X5_draught l G cI cZ t1 t2 h ht h1 h2 hp hy hs hv hz K T (xs (i + 1)) (xs (i + 2)) (v, T') e1) (cwV 2 hts gL_law_X5_draught rfl rfl rfl (by decide +kernel) ⟨Nat.le_of_ble_eq_true rfl, Nat.le_of_ble_eq_true rfl⟩) rfl hl.1 (lv_room (Nat.le_of_ble_eq_true rfl)) dL_law_246 (fun H locs hw => ?_)
  refine lv_aload_n hx hb dL_law_249 rfl (lv_at hl 1 rfl) ?_
  refine lw_ld (j := 1) hx hb hX hbl hbA hi hL hw.2.2 hl (by decide) (by decide) dL_law_250 dL_law_251 dL_law_252 dL_law_253 dL_law_254 ?_
  refine lw_ld (j := 2) hx hb hX hbl hbA hi hL hw.2.2 hl (by decide) (by decide) dL_law_255 dL_law_256 dL_law_257 dL_law_258 dL_law_259 ?_
  refine lw_call_m (As := [.int (xs (i + 1)), .int (xs (i + 2))]) (rest := [.int v]) C0 hw (c_X6_draught l G cI cZ t1 t2 hm M (xs (i + 1)) (xs (i + 2)) (v, M') e2) (cwV 2 hts gL_law_X6_draught rfl rfl rfl (by decide +kernel) ⟨Nat.le_of_ble_eq_true rfl, Nat.le_of_ble_eq_true rfl⟩) rfl hl.1 (lv_room (Nat.le_of_ble_eq_true rfl)) dL_law_260 (fun H locs hw => ?_)
  refine lv_icmp_eq (tgt := 1037) hx hb dL_law_263 (by decide) (fun _ => ?_) (fun c9 => absurd rfl c9)
  exact kk K T' T1 T2 P Y S V Z M' ls H locs (⟨g', sg, n, hX', hd, hP, h6.oth ho, i0.same ho.2.2.1 ho.2.2.2, i1.same ho.2.2.1 ho.2.2.2⟩) hw hl
set_option maxHeartbeats 4000000 in
set_option maxRecDepth 100000 in
theorem lw_c_2 (C0 : cd_CX G cI cZ t1 t2 p s m #[Value.ref b] meth c code 4 ret wsL_law RL A) (hX : va_X b L xs s s.heap) (hbl : b < s.heap.size) (hbA : ¬ A b) (hi : i + 6 ≤ L) (hL : L ≤ 384) (hR : lw_R K T T1 T2 P M) (hw : cd_WS G A s.heap H locs (pc_all cI cZ h ht h1 h2 hp hy hs hv hz hm K T T1 T2 P Y S V Z M)) (hl : lv_has ls 4 [(3, .int (nI i)), (2, .ref (hm 0)), (1, .ref (h 0)), (0, .ref b)])
    (kk : ∀ (K T T1 T2 P Y S V Z M : Nat → Nat → Int32) (ls : Array Slot) (H : Heap) (locs : List Loc), lw_R K T T1 T2 P M → cd_WS G A s.heap H locs (pc_all cI cZ h ht h1 h2 hp hy hs hv hz hm K T T1 T2 P Y S V Z M) → lv_has ls 4 [(3, .int (nI i)), (2, .ref (hm 0)), (1, .ref (h 0)), (0, .ref b)] → W p l e room_1 s m #[Value.ref b] below meth c H locs 72 2623 Q (F0 m 1037 ls [])) : W p l e room_1 s m #[Value.ref b] below meth c H locs 72 2623 Q (F0 m 268 ls []) := by
  obtain ⟨⟨hx, hb, hml, hown, hts⟩, hr, hlocks, hA, hE⟩ := id C0
  obtain ⟨g, sg, n, hXX, hd, hP, h6, i0, i1⟩ := id hR
  obtain ⟨v, T', M', g', e1, e2, hX', ho⟩ := m_purse hXX K (xs (i + 1)) (xs (i + 2))
  refine lv_aload_n hx hb dL_law_268 rfl (lv_at hl 2 rfl) ?_
  refine lw_ld (j := 1) hx hb hX hbl hbA hi hL hw.2.2 hl (by decide) (by decide) dL_law_269 dL_law_270 dL_law_271 dL_law_272 dL_law_273 ?_
  refine lw_ld (j := 2) hx hb hX hbl hbA hi hL hw.2.2 hl (by decide) (by decide) dL_law_274 dL_law_275 dL_law_276 dL_law_277 dL_law_278 ?_
  refine lw_call_kt (As := [.int (xs (i + 1)), .int (xs (i + 2))]) (rest := []) C0 hw (c_X5_purse l G cI cZ t1 t2 h ht h1 h2 hp hy hs hv hz K T (xs (i + 1)) (xs (i + 2)) (v, T') e1) (cwV 2 hts gL_law_X5_purse rfl rfl rfl (by decide +kernel) ⟨Nat.le_of_ble_eq_true rfl, Nat.le_of_ble_eq_true rfl⟩) rfl hl.1 (lv_room (Nat.le_of_ble_eq_true rfl)) dL_law_279 (fun H locs hw => ?_)
  refine lv_aload_n hx hb dL_law_282 rfl (lv_at hl 1 rfl) ?_
  refine lw_ld (j := 1) hx hb hX hbl hbA hi hL hw.2.2 hl (by decide) (by decide) dL_law_283 dL_law_284 dL_law_285 dL_law_286 dL_law_287 ?_
  refine lw_ld (j := 2) hx hb hX hbl hbA hi hL hw.2.2 hl (by decide) (by decide) dL_law_288 dL_law_289 dL_law_290 dL_law_291 dL_law_292 ?_
  refine lw_call_m (As := [.int (xs (i + 1)), .int (xs (i + 2))]) (rest := [.int v]) C0 hw (c_X6_purse l G cI cZ t1 t2 hm M (xs (i + 1)) (xs (i + 2)) (v, M') e2) (cwV 2 hts gL_law_X6_purse rfl rfl rfl (by decide +kernel) ⟨Nat.le_of_ble_eq_true rfl, Nat.le_of_ble_eq_true rfl⟩) rfl hl.1 (lv_room (Nat.le_of_ble_eq_true rfl)) dL_law_293 (fun H locs hw => ?_)
  refine lv_icmp_eq (tgt := 1037) hx hb dL_law_296 (by decide) (fun _ => ?_) (fun c9 => absurd rfl c9)
  exact kk K T' T1 T2 P Y S V Z M' ls H locs (⟨g', sg, n, hX', hd, hP, h6.oth ho, i0.same ho.2.2.1 ho.2.2.2, i1.same ho.2.2.1 ho.2.2.2⟩) hw hl
set_option maxHeartbeats 4000000 in
set_option maxRecDepth 100000 in
theorem lw_c_3 (C0 : cd_CX G cI cZ t1 t2 p s m #[Value.ref b] meth c code 4 ret wsL_law RL A) (hX : va_X b L xs s s.heap) (hbl : b < s.heap.size) (hbA : ¬ A b) (hi : i + 6 ≤ L) (hL : L ≤ 384) (hR : lw_R K T T1 T2 P M) (hw : cd_WS G A s.heap H locs (pc_all cI cZ h ht h1 h2 hp hy hs hv hz hm K T T1 T2 P Y S V Z M)) (hl : lv_has ls 4 [(3, .int (nI i)), (2, .ref (hm 0)), (1, .ref (h 0)), (0, .ref b)])
    (kk : ∀ (K T T1 T2 P Y S V Z M : Nat → Nat → Int32) (ls : Array Slot) (H : Heap) (locs : List Loc), lw_R K T T1 T2 P M → cd_WS G A s.heap H locs (pc_all cI cZ h ht h1 h2 hp hy hs hv hz hm K T T1 T2 P Y S V Z M) → lv_has ls 4 [(3, .int (nI i)), (2, .ref (hm 0)), (1, .ref (h 0)), (0, .ref b)] → W p l e room_1 s m #[Value.ref b] below meth c H locs 72 2623 Q (F0 m 1037 ls [])) : W p l e room_1 s m #[Value.ref b] below meth c H locs 72 2623 Q (F0 m 301 ls []) := by
  obtain ⟨⟨hx, hb, hml, hown, hts⟩, hr, hlocks, hA, hE⟩ := id C0
  obtain ⟨g, sg, n, hXX, hd, hP, h6, i0, i1⟩ := id hR
  obtain ⟨v, T', M', g', e1, e2, hX', ho⟩ := m_matches hXX K (xs (i + 1))
  refine lv_aload_n hx hb dL_law_301 rfl (lv_at hl 2 rfl) ?_
  refine lw_ld (j := 1) hx hb hX hbl hbA hi hL hw.2.2 hl (by decide) (by decide) dL_law_302 dL_law_303 dL_law_304 dL_law_305 dL_law_306 ?_
  refine lw_call_kt (As := [.int (xs (i + 1))]) (rest := []) C0 hw (c_X5_matches l G cI cZ t1 t2 h ht h1 h2 hp hy hs hv hz K T (xs (i + 1)) (v, T') e1) (cwV 1 hts gL_law_X5_matches rfl rfl rfl (by decide +kernel) ⟨Nat.le_of_ble_eq_true rfl, Nat.le_of_ble_eq_true rfl⟩) rfl hl.1 (lv_room (Nat.le_of_ble_eq_true rfl)) dL_law_307 (fun H locs hw => ?_)
  refine lv_aload_n hx hb dL_law_310 rfl (lv_at hl 1 rfl) ?_
  refine lw_ld (j := 1) hx hb hX hbl hbA hi hL hw.2.2 hl (by decide) (by decide) dL_law_311 dL_law_312 dL_law_313 dL_law_314 dL_law_315 ?_
  refine lw_call_m (As := [.int (xs (i + 1))]) (rest := [.int v]) C0 hw (c_X6_matches l G cI cZ t1 t2 hm M (xs (i + 1)) (v, M') e2) (cwV 1 hts gL_law_X6_matches rfl rfl rfl (by decide +kernel) ⟨Nat.le_of_ble_eq_true rfl, Nat.le_of_ble_eq_true rfl⟩) rfl hl.1 (lv_room (Nat.le_of_ble_eq_true rfl)) dL_law_316 (fun H locs hw => ?_)
  refine lv_icmp_eq (tgt := 1037) hx hb dL_law_319 (by decide) (fun _ => ?_) (fun c9 => absurd rfl c9)
  exact kk K T' T1 T2 P Y S V Z M' ls H locs (⟨g', sg, n, hX', hd, hP, h6.oth ho, i0.same ho.2.2.1 ho.2.2.2, i1.same ho.2.2.1 ho.2.2.2⟩) hw hl
set_option maxHeartbeats 4000000 in
set_option maxRecDepth 100000 in
theorem lw_c_4 (C0 : cd_CX G cI cZ t1 t2 p s m #[Value.ref b] meth c code 4 ret wsL_law RL A) (hX : va_X b L xs s s.heap) (hbl : b < s.heap.size) (hbA : ¬ A b) (hi : i + 6 ≤ L) (hL : L ≤ 384) (hR : lw_R K T T1 T2 P M) (hw : cd_WS G A s.heap H locs (pc_all cI cZ h ht h1 h2 hp hy hs hv hz hm K T T1 T2 P Y S V Z M)) (hl : lv_has ls 4 [(3, .int (nI i)), (2, .ref (hm 0)), (1, .ref (h 0)), (0, .ref b)])
    (kk : ∀ (K T T1 T2 P Y S V Z M : Nat → Nat → Int32) (ls : Array Slot) (H : Heap) (locs : List Loc), lw_R K T T1 T2 P M → cd_WS G A s.heap H locs (pc_all cI cZ h ht h1 h2 hp hy hs hv hz hm K T T1 T2 P Y S V Z M) → lv_has ls 4 [(3, .int (nI i)), (2, .ref (hm 0)), (1, .ref (h 0)), (0, .ref b)] → W p l e room_1 s m #[Value.ref b] below meth c H locs 72 2623 Q (F0 m 1037 ls [])) : W p l e room_1 s m #[Value.ref b] below meth c H locs 72 2623 Q (F0 m 324 ls []) := by
  obtain ⟨⟨hx, hb, hml, hown, hts⟩, hr, hlocks, hA, hE⟩ := id C0
  obtain ⟨g, sg, n, hXX, hd, hP, h6, i0, i1⟩ := id hR
  obtain ⟨v, P', M', s', n', e1, e2, hd', hP', h6', hpd⟩ := m_say hd hP h6 K (xs (i + 1))
  refine lv_aload_n hx hb dL_law_324 rfl (lv_at hl 2 rfl) ?_
  refine lw_ld (j := 1) hx hb hX hbl hbA hi hL hw.2.2 hl (by decide) (by decide) dL_law_325 dL_law_326 dL_law_327 dL_law_328 dL_law_329 ?_
  refine lw_call_kp (As := [.int (xs (i + 1))]) (rest := []) C0 hw (c_X5_say l G cI cZ t1 t2 h ht h1 h2 hp hy hs hv hz K P (xs (i + 1)) (v, P') e1) (cwV 1 hts gL_law_X5_say rfl rfl rfl (by decide +kernel) ⟨Nat.le_of_ble_eq_true rfl, Nat.le_of_ble_eq_true rfl⟩) rfl hl.1 (lv_room (Nat.le_of_ble_eq_true rfl)) dL_law_330 (fun H locs hw => ?_)
  refine lv_aload_n hx hb dL_law_333 rfl (lv_at hl 1 rfl) ?_
  refine lw_ld (j := 1) hx hb hX hbl hbA hi hL hw.2.2 hl (by decide) (by decide) dL_law_334 dL_law_335 dL_law_336 dL_law_337 dL_law_338 ?_
  refine lw_call_m (As := [.int (xs (i + 1))]) (rest := [.int v]) C0 hw (c_X6_say l G cI cZ t1 t2 hm M (xs (i + 1)) (v, M') e2) (cwV 1 hts gL_law_X6_say rfl rfl rfl (by decide +kernel) ⟨Nat.le_of_ble_eq_true rfl, Nat.le_of_ble_eq_true rfl⟩) rfl hl.1 (lv_room (Nat.le_of_ble_eq_true rfl)) dL_law_339 (fun H locs hw => ?_)
  refine lv_icmp_eq (tgt := 1037) hx hb dL_law_342 (by decide) (fun _ => ?_) (fun c9 => absurd rfl c9)
  exact kk K T T1 T2 P' Y S V Z M' ls H locs (⟨g, s', n', hXX.rows (hpd 0 (by decide) (by decide)) (hpd 2 (by decide) (by decide)) (hpd 3 (by decide) (by decide)) (hpd 4 (by decide) (by decide)) (hpd 5 (by decide) (by decide)), hd', hP', h6', i0.same (hpd 20 (by decide) (by decide)) (hpd 21 (by decide) (by decide)), i1.same (hpd 20 (by decide) (by decide)) (hpd 21 (by decide) (by decide))⟩) hw hl
set_option maxHeartbeats 4000000 in
set_option maxRecDepth 100000 in
theorem lw_c_5 (C0 : cd_CX G cI cZ t1 t2 p s m #[Value.ref b] meth c code 4 ret wsL_law RL A) (hX : va_X b L xs s s.heap) (hbl : b < s.heap.size) (hbA : ¬ A b) (hi : i + 6 ≤ L) (hL : L ≤ 384) (hR : lw_R K T T1 T2 P M) (hw : cd_WS G A s.heap H locs (pc_all cI cZ h ht h1 h2 hp hy hs hv hz hm K T T1 T2 P Y S V Z M)) (hl : lv_has ls 4 [(3, .int (nI i)), (2, .ref (hm 0)), (1, .ref (h 0)), (0, .ref b)])
    (kk : ∀ (K T T1 T2 P Y S V Z M : Nat → Nat → Int32) (ls : Array Slot) (H : Heap) (locs : List Loc), lw_R K T T1 T2 P M → cd_WS G A s.heap H locs (pc_all cI cZ h ht h1 h2 hp hy hs hv hz hm K T T1 T2 P Y S V Z M) → lv_has ls 4 [(3, .int (nI i)), (2, .ref (hm 0)), (1, .ref (h 0)), (0, .ref b)] → W p l e room_1 s m #[Value.ref b] below meth c H locs 72 2623 Q (F0 m 1037 ls [])) : W p l e room_1 s m #[Value.ref b] below meth c H locs 72 2623 Q (F0 m 347 ls []) := by
  obtain ⟨⟨hx, hb, hml, hown, hts⟩, hr, hlocks, hA, hE⟩ := id C0
  obtain ⟨g, sg, n, hXX, hd, hP, h6, i0, i1⟩ := id hR
  obtain ⟨v, P', M', s', n', e1, e2, hd', hP', h6', hpd⟩ := m_wipe hd hP h6 K 
  refine lv_aload_n hx hb dL_law_347 rfl (lv_at hl 2 rfl) ?_
  refine lw_call_kp (As := []) (rest := []) C0 hw (c_X5_wipe l G cI cZ t1 t2 h ht h1 h2 hp hy hs hv hz K P  (v, P') e1) (cwV 0 hts gL_law_X5_wipe rfl rfl rfl (by decide +kernel) ⟨Nat.le_of_ble_eq_true rfl, Nat.le_of_ble_eq_true rfl⟩) rfl hl.1 (lv_room (Nat.le_of_ble_eq_true rfl)) dL_law_348 (fun H locs hw => ?_)
  refine lv_aload_n hx hb dL_law_351 rfl (lv_at hl 1 rfl) ?_
  refine lw_call_m (As := []) (rest := [.int v]) C0 hw (c_X6_wipe l G cI cZ t1 t2 hm M  (v, M') e2) (cwV 0 hts gL_law_X6_wipe rfl rfl rfl (by decide +kernel) ⟨Nat.le_of_ble_eq_true rfl, Nat.le_of_ble_eq_true rfl⟩) rfl hl.1 (lv_room (Nat.le_of_ble_eq_true rfl)) dL_law_352 (fun H locs hw => ?_)
  refine lv_icmp_eq (tgt := 1037) hx hb dL_law_355 (by decide) (fun _ => ?_) (fun c9 => absurd rfl c9)
  exact kk K T T1 T2 P' Y S V Z M' ls H locs (⟨g, s', n', hXX.rows (hpd 0 (by decide) (by decide)) (hpd 2 (by decide) (by decide)) (hpd 3 (by decide) (by decide)) (hpd 4 (by decide) (by decide)) (hpd 5 (by decide) (by decide)), hd', hP', h6', i0.same (hpd 20 (by decide) (by decide)) (hpd 21 (by decide) (by decide)), i1.same (hpd 20 (by decide) (by decide)) (hpd 21 (by decide) (by decide))⟩) hw hl
end LAWC
