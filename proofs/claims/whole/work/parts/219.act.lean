/-! one act, whichever it is -/
theorem cd_cpy_n (T : Nat → Nat → Int32) {k a : Nat} (T2 : Nat → Nat → Int32) (n : Nat) (h : a ≠ k) : cd_cpy T k T2 n a = T a := if_neg h
theorem cd_cpy_s (T : Nat → Nat → Int32) (k : Nat) (T2 : Nat → Nat → Int32) {n j : Nat} (h : j < n) : cd_cpy T k T2 n k j = T2 k j := by
  unfold cd_cpy cd_row
  rw [if_pos rfl, pk_cpy_in (by omega) (by omega)]
  congr 1
  omega
theorem e_copyFrom {T : Nat → Nat → Int32} {g : Nat → Nat → Nat} (hT : q_T T g) (S : Nat → Nat → Int32) : ∃ S', f_X3_copyFrom S T = some S' ∧ q_T S' g := by
  refine ⟨_, rfl, fun k j hk hj => ?_⟩
  have hc : k = 0 ∨ k = 1 ∨ k = 2 ∨ k = 3 ∨ k = 4 ∨ k = 5 ∨ k = 6 ∨ k = 7 ∨ k = 8 ∨ k = 9 ∨ k = 10 ∨ k = 11 ∨ k = 12 ∨ k = 13 := by omega
  have hT' := hT k j hk hj
  have fin : ∀ (f h2 : Nat → Int32) (m : Nat), j < m → va_cpy f h2 0 0 m j = f j := fun f h2 m hm => by rw [pk_cpy_in (by omega) (by omega), show 0 + (j - 0) = j by omega]
  rcases hc with rfl | rfl | rfl | rfl | rfl | rfl | rfl | rfl | rfl | rfl | rfl | rfl | rfl | rfl
  · show va_cpy (T 0) (S 0) 0 0 12 j = _
    rw [fin _ _ 12 hj]; exact hT'
  · show va_cpy (T 1) (S 1) 0 0 12 j = _
    rw [fin _ _ 12 hj]; exact hT'
  · show va_cpy (T 2) (S 2) 0 0 12 j = _
    rw [fin _ _ 12 hj]; exact hT'
  · show va_cpy (T 3) (S 3) 0 0 12 j = _
    rw [fin _ _ 12 hj]; exact hT'
  · show va_cpy (T 4) (S 4) 0 0 12 j = _
    rw [fin _ _ 12 hj]; exact hT'
  · show va_cpy (T 5) (S 5) 0 0 12 j = _
    rw [fin _ _ 12 hj]; exact hT'
  · show va_cpy (T 6) (S 6) 0 0 12 j = _
    rw [fin _ _ 12 hj]; exact hT'
  · show va_cpy (T 7) (S 7) 0 0 6 j = _
    rw [fin _ _ 6 hj]; exact hT'
  · show va_cpy (T 8) (S 8) 0 0 8 j = _
    rw [fin _ _ 8 hj]; exact hT'
  · show va_cpy (T 9) (S 9) 0 0 8 j = _
    rw [fin _ _ 8 hj]; exact hT'
  · have e : j = 0 := Nat.lt_one_iff.mp hj
    rw [e] at hT' ⊢; exact hT'
  · have e : j = 0 := Nat.lt_one_iff.mp hj
    rw [e] at hT' ⊢; exact hT'
  · have e : j = 0 := Nat.lt_one_iff.mp hj
    rw [e] at hT' ⊢; exact hT'
  · have e : j = 0 := Nat.lt_one_iff.mp hj
    rw [e] at hT' ⊢; exact hT'
def q_why (k a b : Nat) (g : Nat → Nat → Nat) : Nat := if k = 33 then q_why3 g a else if k = 42 then q_why1 g a else if k = 45 then q_why2 g a else if k = 62 then q_why5 g a b else if k = 94 then q_why4 g a else if k = 119 then q_why6 g a b else q_why7 g
def q_do (k a b : Nat) (g : Nat → Nat → Nat) : Nat → Nat → Nat := if k = 33 then q_do3 g a else if k = 42 then q_do1 g a else if k = 45 then q_do2 g a else if k = 62 then q_do5 g a b else if k = 94 then q_do4 g a else if k = 119 then q_do6 g a b else q_do7 g
def q_pay (k a : Nat) (g : Nat → Nat → Nat) : Nat := if k = 33 then q_due g a else 0
def q_go (k : Nat) (g : Nat → Nat → Nat) : Nat := if k = 46 then q_outs (q_nx g) 12 else 0
theorem q_go_lt (k : Nat) (g : Nat → Nat → Nat) : q_go k g < 2 ^ 12 := by
  unfold q_go
  split
  · exact q_outs_lt _ (Nat.le_refl _)
  · decide
theorem q_do_ok {k a b : Nat} {g : Nat → Nat → Nat} (hv : q_val k a b) (hg : q_ok g) (hw : q_why k a b g = 0) : q_ok (q_do k a b g) := by
  rcases hv with ⟨rfl, rfl, rfl⟩ | ⟨rfl, ha, hb⟩ | ⟨rfl, ha, hb⟩ | ⟨rfl | rfl | rfl | rfl, ha, rfl⟩
  · exact q_do7_ok hg hw
  · exact hg.up 2 a hb
  · exact q_do5_ok hg ha hb
  · exact q_do1_ok hg ha
  · exact q_do2_ok hg a
  · exact q_do3_ok hg ha hw
  · exact q_do4_ok hg ha hw
/-- the rows that no act touches -/
theorem q_do_k {k a b : Nat} {g : Nat → Nat → Nat} (hv : q_val k a b) {r : Nat} (hr : r = 3 ∨ r = 4 ∨ r = 8 ∨ r = 9 ∨ r = 10) (j : Nat) : q_do k a b g r j = g r j := by
  rcases hv with ⟨rfl, rfl, rfl⟩ | ⟨rfl, ha, hb⟩ | ⟨rfl, ha, hb⟩ | ⟨rfl | rfl | rfl | rfl, ha, rfl⟩
  · show q_do7 g r j = _
    unfold q_do7
    rw [q_up_k _ (by omega), q_mn_k _ _ (by omega) (by omega)]
    unfold q_nx
    rw [q_up_k _ (by omega)]
  · exact q_up_k _ (by omega)
  · show q_do5 g a b r j = _
    unfold q_do5 q_jn
    rw [if_neg (by omega), q_up_k _ (by omega)]
  · show q_do1 g a r j = _
    unfold q_do1 q_part
    rw [q_up_k _ (by omega)]
    unfold q_dnU
    rw [if_neg (by omega), q_up_k _ (by omega), q_up_k _ (by omega)]
  · exact q_up_k _ (by omega)
  · show q_do3 g a r j = _
    unfold q_do3 q_pu2 q_pu1
    rw [q_up_k _ (by omega), q_up_k _ (by omega), q_up_k _ (by omega)]
  · exact q_up_k _ (by omega)
/-- the least bit below 12 -/
def q_lowF (w : Nat) : Nat → Nat → Option Nat
  | 0, _ => none
  | f + 1, c => if w.testBit c = true then some c else q_lowF w f (c + 1)
def q_low (w : Nat) : Option Nat := q_lowF w 12 0
def q_o1 : Option (Nat × Nat) → Int32
  | none => -6
  | some x => nI x.1
def q_o2 : Option (Nat × Nat) → Int32
  | none => -6
  | some x => nI x.2
def q_on (o : Option (Nat × Nat)) (acts go : Nat) : Option (Nat × Nat) := match o with
  | some x => some x
  | none => (q_low go).map (fun c => (acts, c))
theorem e_noteOut {Y : Nat → Nat → Int32} {o : Option (Nat × Nat)} {acts go : Nat} (hgo : go < 2 ^ 12) (h1 : Y 1 0 = nI acts) (h4 : Y 4 0 = q_o1 o) (h5 : Y 5 0 = q_o2 o) (ho : ∀ x, o = some x → x.1 < 2 ^ 31) : ∃ Y', f_X1_noteOut (nI go) Y = some Y' ∧ Y' 4 0 = q_o1 (q_on o acts go) ∧ Y' 5 0 = q_o2 (q_on o acts go) ∧ ∀ k, k ≠ 4 → k ≠ 5 → Y' k = Y k := by
  unfold f_X1_noteOut
  cases o with
  | some x =>
    rw [if_neg (by rw [h4]; exact q_ne6 (ho x rfl))]
    exact ⟨Y, rfl, h4, h5, fun _ _ _ => rfl⟩
  | none =>
    rw [if_pos (show Y 4 0 = -6 from h4)]
    have key : ∃ r, cd_iter cd_N (f_X1_noteOut_b12 (nI go) Y) (nI 0) = some r ∧ Sum.elim (fun Y' => Y' 4 0 = q_o1 (q_on none acts go) ∧ Y' 5 0 = q_o2 (q_on none acts go) ∧ ∀ k, k ≠ 4 → k ≠ 5 → Y' k = Y k) (fun _ => q_low go = none) r := by
      refine cd_hoare (fun m z => ∃ c, m + c = 12 ∧ z = nI c ∧ q_low go = q_lowF go m c) _ ?_ cd_N 12 (nI 0) (by decide) ⟨0, rfl, rfl, rfl⟩
      rintro m z ⟨c, hm, rfl, hl⟩
      by_cases hc : c < 12
      · obtain ⟨m', rfl⟩ : ∃ q, m = q + 1 := ⟨m - 1, by omega⟩
        have hb : f_X1_noteOut_b12 (nI go) Y (nI c) = if go.testBit c = true then some (Sum.inl (Sum.inl (cd_fld (cd_fld Y 4 (Y 1 0)) 5 (nI c)))) else some (Sum.inr (nI (c + 1))) := by
          unfold f_X1_noteOut_b12
          rw [q_l 12, if_neg (nI_ge hc (by decide)), e_holds (by omega) (by omega), Option.bind_some, nI_1]
          cases go.testBit c <;> rfl
        have hl' : q_low go = if go.testBit c = true then some c else q_lowF go m' (c + 1) := hl
        by_cases ht : go.testBit c = true
        · rw [if_pos ht] at hb hl'
          refine Or.inl ⟨_, hb, ?_, ?_, fun k k4 k5 => by rw [cd_fld_n _ _ k5, cd_fld_n _ _ k4]⟩
          · rw [cd_fld_n _ _ (by decide), cd_fld_s, h1]
            unfold q_on
            dsimp only
            rw [hl']
            rfl
          · rw [cd_fld_s]
            unfold q_on
            dsimp only
            rw [hl']
            rfl
        · rw [if_neg ht] at hb hl'
          exact Or.inr ⟨m', _, by omega, hb, c + 1, by omega, rfl, hl'⟩
      · have hb : f_X1_noteOut_b12 (nI go) Y (nI c) = some (Sum.inl (Sum.inr ())) := by
          unfold f_X1_noteOut_b12
          rw [q_l 12, if_pos (nI_le (by omega) (by omega))]
        have e : m = 0 := by omega
        subst e
        exact Or.inl ⟨_, hb, hl⟩
    obtain ⟨r, k1, k2⟩ := key
    rw [show (0 : Int32) = nI 0 from rfl, k1, Option.bind_some]
    cases r with
    | inl Y' => exact ⟨Y', rfl, k2⟩
    | inr u =>
      refine ⟨Y, rfl, ?_, ?_, fun _ _ _ => rfl⟩
      · rw [h4]; unfold q_on; dsimp only; rw [show q_low go = none from k2]; rfl
      · rw [h5]; unfold q_on; dsimp only; rw [show q_low go = none from k2]; rfl
/-- how Play's numbers stand -/
def q_Y (Y : Nat → Nat → Int32) (acts paid : Nat) (o : Option (Nat × Nat)) : Prop := Y 1 0 = nI acts ∧ Y 3 0 = nI paid ∧ Y 4 0 = q_o1 o ∧ Y 5 0 = q_o2 o
theorem q_on_0 (o : Option (Nat × Nat)) (acts : Nat) : q_on o acts 0 = o := by
  cases o with
  | some x => rfl
  | none => rfl
theorem e_attempt {Y S : Nat → Nat → Int32} {g : Nat → Nat → Nat} {k a b acts paid : Nat} {o : Option (Nat × Nat)} (hv : q_val k a b) (hS : q_T S g) (hg : q_ok g) (hY : q_Y Y acts paid o) (ho : ∀ x, o = some x → x.1 < 2 ^ 31) :
    ∃ Y' S', f_X1_attempt (nI k) (nI a) (nI b) Y S = some (if q_why k a b g = 0 then 1 else 0, Y', S') ∧ (q_why k a b g ≠ 0 → S' = S ∧ q_Y Y' acts paid o ∧ Y' 2 0 = nI (q_why k a b g)) ∧ (q_why k a b g = 0 → q_T S' (q_do k a b g) ∧ q_Y Y' (acts + 1) (paid + q_pay k a g) (q_on o acts (q_go k g))) := by
  have hwf : ∀ (w : Nat), w < 100 → f_X3_reasonAgainst (nI k) (nI a) (nI b) S = some (nI w) → w ≠ 0 → f_X1_attempt (nI k) (nI a) (nI b) Y S = some (0, cd_fld Y 2 (nI w), S) := by
    intro w hw he hne
    unfold f_X1_attempt
    rw [he, Option.bind_some, if_neg (fun q => hne ((q_eq0 (by omega)).mp q))]
  have hYw : ∀ w, q_Y (cd_fld Y 2 w) acts paid o := fun w => ⟨by rw [cd_fld_n _ _ (by decide)]; exact hY.1, by rw [cd_fld_n _ _ (by decide)]; exact hY.2.1, by rw [cd_fld_n _ _ (by decide)]; exact hY.2.2.1, by rw [cd_fld_n _ _ (by decide)]; exact hY.2.2.2⟩
  have hb : q_why k a b g < 100 := by
    unfold q_why q_why1 q_why2 q_why3 q_why4 q_why5 q_why6 q_why7
    repeat (first | omega | split)
  have hre : f_X3_reasonAgainst (nI k) (nI a) (nI b) S = some (nI (q_why k a b g)) := by
    rcases hv with ⟨rfl, rfl, rfl⟩ | ⟨rfl, ha, hb⟩ | ⟨rfl, ha, hb⟩ | ⟨rfl | rfl | rfl | rfl, ha, rfl⟩
    · exact e_why7 hS hg _ _
    · exact e_why6 hS hg ha hb
    · exact e_why5 hS hg ha hb
    · exact e_why1 hS hg ha _
    · exact e_why2 hS hg ha _
    · exact e_why3 hS hg ha _
    · exact e_why4 hS hg ha _
  by_cases hw : q_why k a b g = 0
  · have main : ∃ Y1 S', ((if nI k = (33 : Int32) then (f_X3_pay (nI a) S).bind (fun r4 => some ((cd_fld (cd_fld Y 2 (nI 0)) 3 ((Y 3 0) + r4.1)), r4.2)) else if nI k = (42 : Int32) then (f_X3_lightByMatch (nI a) S).bind (fun r5 => some ((cd_fld Y 2 (nI 0)), r5)) else if nI k = (45 : Int32) then (f_X3_putOut (nI a) S).bind (fun r6 => some ((cd_fld Y 2 (nI 0)), r6)) else if nI k = (62 : Int32) then (f_X3_lightFrom (nI a) (nI b) S).bind (fun r7 => some ((cd_fld Y 2 (nI 0)), r7)) else if nI k = (94 : Int32) then (cd_rd (S 1) 12 (nI a)).bind (fun v8 => (cd_ix 12 (nI a)).bind (fun j9 => some ((cd_fld Y 2 (nI 0)), (cd_set S 1 j9 (v8 + (1 : Int32)))))) else if nI k = (119 : Int32) then (cd_ix 12 (nI a)).bind (fun j10 => some ((cd_fld Y 2 (nI 0)), (cd_set S 2 j10 (nI b)))) else (f_X3_passMinute S).bind (fun r11 => (f_X1_noteOut r11.1 (cd_fld Y 2 (nI 0))).bind (fun r12 => some (r12, r11.2)))) : Option ((Nat → Nat → Int32) × (Nat → Nat → Int32))) = some (Y1, S') ∧ q_T S' (q_do k a b g) ∧ q_Y Y1 acts (paid + q_pay k a g) (q_on o acts (q_go k g)) := by
      rcases hv with ⟨rfl, rfl, rfl⟩ | ⟨rfl, ha, hb⟩ | ⟨rfl, ha, hb⟩ | ⟨rfl | rfl | rfl | rfl, ha, rfl⟩
      · obtain ⟨S', p1, p2⟩ := e_passMinute hS hg hw
        obtain ⟨Y', n1, n2, n3, n4⟩ := e_noteOut (q_outs_lt (q_nx g) (Nat.le_refl _)) (hYw (nI 0)).1 (hYw (nI 0)).2.2.1 (hYw (nI 0)).2.2.2 ho
        refine ⟨Y', S', ?_, p2, ?_, ?_, n2, n3⟩
        · rw [if_neg (by decide), if_neg (by decide), if_neg (by decide), if_neg (by decide), if_neg (by decide), if_neg (by decide), p1, Option.bind_some, n1, Option.bind_some]
        · rw [n4 1 (by decide) (by decide)]; exact (hYw (nI 0)).1
        · rw [n4 3 (by decide) (by decide)]; exact (hYw (nI 0)).2.1
      · refine ⟨_, _, ?_, hS.set 2 a b, hYw (nI 0) |>.1, hYw (nI 0) |>.2.1, ?_, ?_⟩
        · rw [if_neg (by decide), if_neg (by decide), if_neg (by decide), if_neg (by decide), if_neg (by decide), if_pos (show nI 119 = 119 from rfl), cd_ix_nI ha (by decide), Option.bind_some]
        · show _ = q_o1 (q_on o acts 0); rw [q_on_0]; exact (hYw (nI 0)).2.2.1
        · show _ = q_o2 (q_on o acts 0); rw [q_on_0]; exact (hYw (nI 0)).2.2.2
      · obtain ⟨S', p1, p2⟩ := e_lightFrom hS hg ha hb
        refine ⟨_, S', ?_, p2, hYw (nI 0) |>.1, hYw (nI 0) |>.2.1, ?_, ?_⟩
        · rw [if_neg (by decide), if_neg (by decide), if_neg (by decide), if_pos (show nI 62 = 62 from rfl), p1, Option.bind_some]
        · show _ = q_o1 (q_on o acts 0); rw [q_on_0]; exact (hYw (nI 0)).2.2.1
        · show _ = q_o2 (q_on o acts 0); rw [q_on_0]; exact (hYw (nI 0)).2.2.2
      · have hm : g 12 0 ≠ 0 := by
          intro e
          have : q_why1 g a = 0 := hw
          unfold q_why1 at this
          split at this
          · omega
          · split at this
            · omega
            · omega
        obtain ⟨S', p1, p2⟩ := e_lightByMatch hS hg ha hm
        refine ⟨_, S', ?_, p2, hYw (nI 0) |>.1, hYw (nI 0) |>.2.1, ?_, ?_⟩
        · rw [if_neg (by decide), if_pos (show nI 42 = 42 from rfl), p1, Option.bind_some]
        · show _ = q_o1 (q_on o acts 0); rw [q_on_0]; exact (hYw (nI 0)).2.2.1
        · show _ = q_o2 (q_on o acts 0); rw [q_on_0]; exact (hYw (nI 0)).2.2.2
      · obtain ⟨S', p1, p2⟩ := e_putOut hS ha
        refine ⟨_, S', ?_, p2, hYw (nI 0) |>.1, hYw (nI 0) |>.2.1, ?_, ?_⟩
        · rw [if_neg (by decide), if_neg (by decide), if_pos (show nI 45 = 45 from rfl), p1, Option.bind_some]
        · show _ = q_o1 (q_on o acts 0); rw [q_on_0]; exact (hYw (nI 0)).2.2.1
        · show _ = q_o2 (q_on o acts 0); rw [q_on_0]; exact (hYw (nI 0)).2.2.2
      · obtain ⟨S', p1, p2⟩ := e_pay hS hg ha
        refine ⟨cd_fld (cd_fld Y 2 (nI 0)) 3 (Y 3 0 + nI (q_due g a)), S', ?_, p2, ?_, ?_, ?_, ?_⟩
        · rw [if_pos (show nI 33 = 33 from rfl), p1, Option.bind_some]
        · rw [cd_fld_n _ _ (by decide)]; exact (hYw (nI 0)).1
        · rw [cd_fld_s, hY.2.1, nI_add]; rfl
        · rw [cd_fld_n _ _ (by decide)]; show _ = q_o1 (q_on o acts 0); rw [q_on_0]; exact (hYw (nI 0)).2.2.1
        · rw [cd_fld_n _ _ (by decide)]; show _ = q_o2 (q_on o acts 0); rw [q_on_0]; exact (hYw (nI 0)).2.2.2
      · refine ⟨_, _, ?_, hS.set 1 a (g 1 a + 1), hYw (nI 0) |>.1, hYw (nI 0) |>.2.1, ?_, ?_⟩
        · rw [if_neg (by decide), if_neg (by decide), if_neg (by decide), if_neg (by decide), if_pos (show nI 94 = 94 from rfl), hS.rd 1 12 (by decide) rfl ha, Option.bind_some, cd_ix_nI ha (by decide), Option.bind_some, nI_1]
        · show _ = q_o1 (q_on o acts 0); rw [q_on_0]; exact (hYw (nI 0)).2.2.1
        · show _ = q_o2 (q_on o acts 0); rw [q_on_0]; exact (hYw (nI 0)).2.2.2
    obtain ⟨Y1, S', m1, m2, m3⟩ := main
    refine ⟨cd_fld Y1 1 (Y1 1 0 + 1), S', ?_, fun q => absurd hw q, fun _ => ⟨m2, ?_⟩⟩
    · unfold f_X1_attempt
      rw [hre, Option.bind_some, hw, if_pos (show nI 0 = 0 from rfl), m1, Option.bind_some, if_pos rfl]
    · refine ⟨by rw [cd_fld_s, m3.1, nI_1], by rw [cd_fld_n _ _ (by decide)]; exact m3.2.1, by rw [cd_fld_n _ _ (by decide)]; exact m3.2.2.1, by rw [cd_fld_n _ _ (by decide)]; exact m3.2.2.2⟩
  · refine ⟨cd_fld Y 2 (nI (q_why k a b g)), S, ?_, fun _ => ⟨rfl, hYw _, cd_fld_s _ _ _ _⟩, fun q => absurd q hw⟩
    rw [hwf _ hb hre hw, if_neg hw]
