/-! judge, done, behind, has, then: both sides by one night -/
section CANBE
variable {P Y S T M K : Nat → Nat → Int32} {s : Nat → Nat} {n : Nat} {g0 : Nat → Nat → Nat}
theorem q_flt_le {s : Nat → Nat} {n : Nat} : ∀ (f p x : Nat), q_flt s n f p = some x → x ≤ n + 2
  | 0, _, _, h => by cases h
  | f + 1, p, x, h => by
    by_cases hp : p < n
    · rw [q_flt_in hp] at h
      cases hs : q_st s n p with
      | inl z =>
        rw [hs] at h
        have e : z = x := Option.some.inj h
        have := q_st_fl hs
        omega
      | inr r => rw [hs] at h; exact q_flt_le f _ x h
    · rw [q_flt_end (by omega)] at h; cases h
/-- what stands after a night that can be -/
def q_NB (Y S M : Nat → Nat → Int32) (g0 g : Nat → Nat → Nat) (acts paid : Nat) (o : Option (Nat × Nat)) : Prop := q_ok g ∧ acts ≤ 60 ∧ q_Y Y acts paid o ∧ q_T S g ∧ q_B (M 1) g ∧ (∀ r j, r = 3 ∨ r = 4 ∨ r = 8 ∨ r = 9 ∨ r = 10 → g r j = g0 r j) ∧ M 13 0 = nI acts ∧ M 8 0 = nI paid ∧ M 9 0 = q_o1 o ∧ M 10 0 = q_o2 o
theorem e_bar (hX : q_X T M g0) (hd : q_pd s n) (hP : q_P P s n) (h6 : q_P6 M s n) (K Y S : Nat → Nat → Int32) : ∃ P' Y' S' M', q_same M M' ∧ (P' 0 = P 0 ∧ P' 1 = P 1) ∧ ((f_X5_nightCanBe K T P Y S = some (0, P', Y', S') ∧ f_X6_barOfNights M = some (-5, M')) ∨ (f_X5_nightCanBe K T P Y S = some (1, P', Y', S') ∧ f_X6_barOfNights M = some (0, M') ∧ ∃ g acts paid o, q_NB Y' S' M' g0 g acts paid o)) := by
  have hn := hd.1
  obtain ⟨P1, f1, f2, f3⟩ := e_firstFault hd hP
  have f6 := e6_faultOf hd h6
  cases hf : q_flt s n 61 0 with
  | some x =>
    have hx := q_flt_le 61 0 x hf
    rw [hf] at f1 f6
    refine ⟨P1, Y, S, M, q_same.rf M, ⟨f2, f3⟩, Or.inl ⟨?_, ?_⟩⟩
    · unfold f_X5_nightCanBe
      rw [show f_X0_firstFault P = some (nI x, P1) from f1, Option.bind_some, if_neg (show ¬ ((nI x, P1) : Int32 × (Nat → Nat → Int32)).1 = -6 from q_ne6 (show x < 2 ^ 31 by omega))]
      rfl
    · unfold f_X6_barOfNights
      rw [show f_X6_faultOf M = some (nI x) from f6, Option.bind_some, if_pos (nI_pos' (show x < 2 ^ 31 by omega))]
      rfl
  | none =>
    rw [hf] at f1 f6
    have hP1 : q_P P1 s n := ⟨by rw [f3]; exact hP.1, fun i hi => by rw [f2]; exact hP.2 i hi⟩
    obtain ⟨w, g, acts, paid, o, Y', S', P', a1, a2, a3, a4, a5, a6, a7, a8, a9, a10⟩ := e_night (Y := Y) (S := S) hd hP1 hX.1 hX.2.2.2.2 hf
    obtain ⟨w2, g2, acts2, paid2, o2, M', b1, b2, b3, b4, b5, b6, b7, b8, b9, b10⟩ := e6_night hd h6 hX.2.1 hX.2.2.1 hX.2.2.2.2 hf
    rw [a1] at b1
    cases b1
    refine ⟨P', Y', S', M', b3, ⟨a9.trans f2, a10.trans f3⟩, ?_⟩
    have x5 : f_X5_nightCanBe K T P Y S = some (if w = 0 then 1 else 0, P', Y', S') := by
      unfold f_X5_nightCanBe
      rw [show f_X0_firstFault P = some (-6, P1) from f1, Option.bind_some, if_pos (show ((-6, P1) : Int32 × (Nat → Nat → Int32)).1 = -6 from rfl), a5, Option.bind_some]
      by_cases hw : w = 0
      · simp only [if_pos hw]; rfl
      · simp only [if_neg hw]; rfl
    have x6 : f_X6_barOfNights M = some (if w = 0 then 0 else -5, M') := by
      unfold f_X6_barOfNights
      rw [show f_X6_faultOf M = some (-6) from f6, Option.bind_some, if_neg (by decide), b2, Option.bind_some]
      by_cases hw : w = 0
      · simp only [if_pos hw]; rfl
      · simp only [if_neg hw]
        rw [if_neg (nI_pos (by omega))]
        rfl
    by_cases hw : w = 0
    · rw [if_pos hw] at x5 x6
      exact Or.inr ⟨x5, x6, g, acts, paid, o, a2, a3, a6, a7, b4, b5, b6, b7, b8, b9⟩
    · rw [if_neg hw] at x5 x6
      exact Or.inl ⟨x5, x6⟩
theorem m_judge (hX : q_X T M g0) (hd : q_pd s n) (hP : q_P P s n) (h6 : q_P6 M s n) (K Y S : Nat → Nat → Int32) (a0 : Int32) : ∃ v P' Y' S' M', f_X5_judge a0 K T P Y S = some (v, P', Y', S') ∧ f_X6_judge a0 M = some (v, M') ∧ q_same M M' ∧ P' 0 = P 0 ∧ P' 1 = P 1 := by
  have hn := hd.1
  unfold f_X5_judge f_X6_judge
  rw [e_within, e_in, q_br, q_br]
  by_cases h1 : 0 ≤ a0 ∧ a0 ≤ 1
  · rw [if_pos h1, if_pos h1]
    obtain ⟨P1, f1, f2, f3⟩ := e_firstFault hd hP
    have f6 := e6_faultOf hd h6
    cases hf : q_flt s n 61 0 with
    | some x =>
      have hx := q_flt_le 61 0 x hf
      rw [hf] at f1 f6
      refine ⟨-5, P1, Y, S, M, ?_, ?_, q_same.rf M, f2, f3⟩
      · rw [show f_X0_firstFault P = some (nI x, P1) from f1, Option.bind_some, if_neg (show ¬ ((nI x, P1) : Int32 × (Nat → Nat → Int32)).1 = -6 from q_ne6 (show x < 2 ^ 31 by omega))]
      · rw [show f_X6_faultOf M = some (nI x) from f6, Option.bind_some, if_neg (nI_pos (show x < 2 ^ 31 by omega))]
    | none =>
      rw [hf] at f1 f6
      have hP1 : q_P P1 s n := ⟨by rw [f3]; exact hP.1, fun i hi => by rw [f2]; exact hP.2 i hi⟩
      obtain ⟨w, g, acts, paid, o, Y', S', P', a1, a2, a3, a4, a5, a6, a7, a8, a9, a10⟩ := e_night (Y := Y) (S := S) hd hP1 hX.1 hX.2.2.2.2 hf
      obtain ⟨w2, g2, acts2, paid2, o2, M', b1, b2, b3, b4, b5, b6, b7, b8, b9, b10⟩ := e6_night hd h6 hX.2.1 hX.2.2.1 hX.2.2.2.2 hf
      rw [a1] at b1
      cases b1
      refine ⟨if w = 0 then -6 else if a0 = 0 then nI acts else nI w, P', Y', S', M', ?_, ?_, b3, a9.trans f2, a10.trans f3⟩
      · rw [show f_X0_firstFault P = some (-6, P1) from f1, Option.bind_some, if_pos (show ((-6, P1) : Int32 × (Nat → Nat → Int32)).1 = -6 from rfl), a5, Option.bind_some]
        by_cases hw : w = 0
        · simp only [if_pos hw]; rfl
        · simp only [if_neg hw, a6.1, a8 hw]
          by_cases h0 : a0 = 0
          · simp only [if_pos h0]; rfl
          · simp only [if_neg h0]; rfl
      · rw [show f_X6_faultOf M = some (-6) from f6, Option.bind_some, if_pos (by decide), b2, Option.bind_some]
        by_cases hw : w = 0
        · simp only [if_pos hw]; rfl
        · simp only [if_neg hw, b10 hw]
          rw [if_neg (nI_pos (by omega))]
          by_cases h0 : a0 = 0
          · simp only [if_pos h0]; rfl
          · simp only [if_neg h0]; rfl
  · rw [if_neg h1, if_neg h1]
    exact ⟨_, P, Y, S, M, rfl, rfl, q_same.rf M, rfl, rfl⟩
theorem m_has (hX : q_X T M g0) (hd : q_pd s n) (hP : q_P P s n) (h6 : q_P6 M s n) (K Y S : Nat → Nat → Int32) (a0 : Int32) : ∃ v P' Y' S' M', f_X5_has a0 K T P Y S = some (v, P', Y', S') ∧ f_X6_has a0 M = some (v, M') ∧ q_same M M' ∧ P' 0 = P 0 ∧ P' 1 = P 1 := by
  unfold f_X5_has f_X6_has
  rw [e_isOne, e6_isOne, q_br, q_br]
  by_cases h1 : 0 ≤ a0 ∧ a0 ≤ 5
  · rw [if_pos h1, if_pos h1]
    obtain ⟨c, hc, rfl⟩ := q_rng 5 (by decide) h1
    obtain ⟨P', Y', S', M', b1, b2, b3⟩ := e_bar hX hd hP h6 K Y S
    rcases b3 with ⟨x5, x6⟩ | ⟨x5, x6, g, acts, paid, o, k⟩
    · refine ⟨-5, P', Y', S', M', ?_, ?_, b1, b2.1, b2.2⟩
      · rw [x5]; rfl
      · rw [x6]; rfl
    · obtain ⟨k1, k2, k3, k4, k5, -⟩ := k
      refine ⟨nI (g 7 c), P', Y', S', M', ?_, ?_, b1, b2.1, b2.2⟩
      · rw [x5, Option.bind_some, if_neg (show ¬ (1 : Int32) = 0 by decide), k4.rd 7 6 (by decide) rfl (by omega)]; rfl
      · rw [x6, Option.bind_some, if_pos (show (0 : Int32) ≤ 0 by decide), q_l 60, nI_add, k5.rd 7 60 rfl (by decide) (by decide) (show c < 6 by omega)]; rfl
  · rw [if_neg h1, if_neg h1]
    exact ⟨_, P, Y, S, M, rfl, rfl, q_same.rf M, rfl, rfl⟩
theorem m_behind (hX : q_X T M g0) (hd : q_pd s n) (hP : q_P P s n) (h6 : q_P6 M s n) (K Y S : Nat → Nat → Int32) (a0 a1 : Int32) : ∃ v P' Y' S' M', f_X5_behind a0 a1 K T P Y S = some (v, P', Y', S') ∧ f_X6_behind a0 a1 M = some (v, M') ∧ q_same M M' ∧ P' 0 = P 0 ∧ P' 1 = P 1 := by
  unfold f_X5_behind f_X6_behind
  rw [e_isCandle, e6_isCandle, q_br, q_br]
  by_cases h1 : 0 ≤ a0 ∧ a0 ≤ 11
  · rw [if_pos h1, if_pos h1, e_within, e_in, q_br, q_br]
    by_cases h2 : 0 ≤ a1 ∧ a1 ≤ 3
    · rw [if_pos h2, if_pos h2]
      obtain ⟨c, hc, rfl⟩ := q_rng 11 (by decide) h1
      obtain ⟨v, hv, rfl⟩ := q_rng 3 (by decide) h2
      obtain ⟨P', Y', S', M', b1, b2, b3⟩ := e_bar hX hd hP h6 K Y S
      rcases b3 with ⟨x5, x6⟩ | ⟨x5, x6, g, acts, paid, o, k⟩
      · refine ⟨-5, P', Y', S', M', ?_, ?_, b1, b2.1, b2.2⟩
        · rw [x5]; rfl
        · rw [x6]; rfl
      · obtain ⟨k1, k2, k3, k4, k5, -⟩ := k
        have hc : c < 12 := by omega
        rw [x5, x6, Option.bind_some, Option.bind_some, if_neg (show ¬ (1 : Int32) = 0 by decide), if_pos (show (0 : Int32) ≤ 0 by decide)]
        have r0 : cd_rd (M' 1) 69 (nI c) = some (nI (g 0 c)) := by
          have hr := k5.rd 0 0 rfl (by decide) (by decide) hc
          rw [Nat.zero_add] at hr
          exact hr
        have hv4 : v = 0 ∨ v = 1 ∨ v = 2 ∨ v = 3 := by omega
        rcases hv4 with rfl | rfl | rfl | rfl
        · refine ⟨nI (g 0 c), P', Y', S', M', ?_, ?_, b1, b2.1, b2.2⟩
          · rw [if_pos (show nI 0 = 0 from rfl), k4.rd 0 12 (by decide) rfl hc]; rfl
          · rw [if_pos (show nI 0 = 0 from rfl), r0]; rfl
        · refine ⟨q_bi (q_lit g c), P', Y', S', M', ?_, ?_, b1, b2.1, b2.2⟩
          · rw [if_neg (by decide), if_pos (show nI 1 = 1 from rfl), e_isLit k4 k1 hc, Option.bind_some]
            cases q_lit g c <;> rfl
          · rw [if_neg (by decide), if_pos (show nI 1 = 1 from rfl), q_l 66, show nI 66 = nI (66 + 0) from rfl, k5.rd 11 66 rfl (by decide) (by decide) (by decide), Option.bind_some, q_bit (q_lit_lt k1) (by omega), Option.bind_some]
            rfl
        · refine ⟨nI (g 5 c), P', Y', S', M', ?_, ?_, b1, b2.1, b2.2⟩
          · rw [if_neg (by decide), if_neg (by decide), if_pos (show nI 2 = 2 from rfl), k4.rd 5 12 (by decide) rfl hc]; rfl
          · rw [if_neg (by decide), if_neg (by decide), if_pos (show nI 2 = 2 from rfl), q_l 12, nI_add, k5.rd 5 12 rfl (by decide) (by decide) hc]; rfl
        · refine ⟨nI (g 1 c), P', Y', S', M', ?_, ?_, b1, b2.1, b2.2⟩
          · rw [if_neg (by decide), if_neg (by decide), if_neg (by decide), k4.rd 1 12 (by decide) rfl hc]; rfl
          · rw [if_neg (by decide), if_neg (by decide), if_neg (by decide), q_l 24, nI_add, k5.rd 1 24 rfl (by decide) (by decide) hc]; rfl
    · rw [if_neg h2, if_neg h2]
      exact ⟨_, P, Y, S, M, rfl, rfl, q_same.rf M, rfl, rfl⟩
  · rw [if_neg h1, if_neg h1]
    exact ⟨_, P, Y, S, M, rfl, rfl, q_same.rf M, rfl, rfl⟩
theorem m_then (hX : q_X T M g0) (hd : q_pd s n) (hP : q_P P s n) (h6 : q_P6 M s n) (K Y S : Nat → Nat → Int32) (a0 : Int32) : ∃ v P' Y' S' M', f_X5_then a0 K T P Y S = some (v, P', Y', S') ∧ f_X6_then a0 M = some (v, M') ∧ q_same M M' ∧ P' 0 = P 0 ∧ P' 1 = P 1 := by
  unfold f_X5_then f_X6_then
  rw [e_within, e_in, q_br, q_br]
  by_cases h1 : 0 ≤ a0 ∧ a0 ≤ 5
  · rw [if_pos h1, if_pos h1]
    obtain ⟨c, hc, rfl⟩ := q_rng 5 (by decide) h1
    obtain ⟨P', Y', S', M', b1, b2, b3⟩ := e_bar hX hd hP h6 K Y S
    rcases b3 with ⟨x5, x6⟩ | ⟨x5, x6, g, acts, paid, o, k⟩
    · refine ⟨-5, P', Y', S', M', ?_, ?_, b1, b2.1, b2.2⟩
      · rw [x5]; rfl
      · rw [x6]; rfl
    · obtain ⟨k1, k2, k3, k4, k5, k6, k7, k8, k9, k10⟩ := k
      rw [x5, x6, Option.bind_some, Option.bind_some, if_neg (show ¬ (1 : Int32) = 0 by decide), if_pos (show (0 : Int32) ≤ 0 by decide)]
      have hv4 : c = 0 ∨ c = 1 ∨ c = 2 ∨ c = 3 ∨ c = 4 ∨ c = 5 := by omega
      rcases hv4 with rfl | rfl | rfl | rfl | rfl | rfl
      · refine ⟨nI (g 11 0), P', Y', S', M', ?_, ?_, b1, b2.1, b2.2⟩
        · rw [if_pos (show nI 0 = 0 from rfl)]; show some (S' 11 0, _) = _; rw [k4 11 0 (by decide) (by decide)]
        · rw [if_neg (by decide), q_l 66, nI_add, k5.rd 11 66 rfl (by decide) (by decide) (by decide)]; rfl
      · refine ⟨nI (g 12 0), P', Y', S', M', ?_, ?_, b1, b2.1, b2.2⟩
        · rw [if_neg (by decide), if_pos (show nI 1 = 1 from rfl)]; show some (S' 12 0, _) = _; rw [k4 12 0 (by decide) (by decide)]
        · rw [if_neg (by decide), q_l 66, nI_add, show 66 + 1 = 67 + 0 from rfl, k5.rd 12 67 rfl (by decide) (by decide) (by decide)]; rfl
      · refine ⟨nI (g 13 0), P', Y', S', M', ?_, ?_, b1, b2.1, b2.2⟩
        · rw [if_neg (by decide), if_neg (by decide), if_pos (show nI 2 = 2 from rfl)]; show some (S' 13 0, _) = _; rw [k4 13 0 (by decide) (by decide)]
        · rw [if_neg (by decide), q_l 66, nI_add, show 66 + 2 = 68 + 0 from rfl, k5.rd 13 68 rfl (by decide) (by decide) (by decide)]; rfl
      · refine ⟨nI paid, P', Y', S', M', ?_, ?_, b1, b2.1, b2.2⟩
        · rw [if_neg (by decide), if_neg (by decide), if_neg (by decide), if_pos (show nI 3 = 3 from rfl)]; show some (Y' 3 0, _) = _; rw [k3.2.1]
        · rw [if_pos (by decide), if_pos (show nI 3 = 3 from rfl)]; show some (M' 8 0, _) = _; rw [k8]
      · refine ⟨q_o1 o, P', Y', S', M', ?_, ?_, b1, b2.1, b2.2⟩
        · rw [if_neg (by decide), if_neg (by decide), if_neg (by decide), if_neg (by decide), if_pos (show nI 4 = 4 from rfl)]; show some (Y' 4 0, _) = _; rw [k3.2.2.1]
        · rw [if_pos (by decide), if_neg (by decide), if_pos (show nI 4 = 4 from rfl)]; show some (M' 9 0, _) = _; rw [k9]
      · refine ⟨q_o2 o, P', Y', S', M', ?_, ?_, b1, b2.1, b2.2⟩
        · rw [if_neg (by decide), if_neg (by decide), if_neg (by decide), if_neg (by decide), if_neg (by decide)]; show some (Y' 5 0, _) = _; rw [k3.2.2.2]
        · rw [if_pos (by decide), if_neg (by decide), if_neg (by decide)]; show some (M' 10 0, _) = _; rw [k10]
  · rw [if_neg h1, if_neg h1]
    exact ⟨_, P, Y, S, M, rfl, rfl, q_same.rf M, rfl, rfl⟩
/-- copying a row of the reference into another -/
theorem cd_upto' {σ ρ : Type} {b : Int32 × σ → Option (ρ ⊕ (Int32 × σ))} (N : Nat) (I : Nat → σ → Prop) (hN : N < cd_N)
    (hs : ∀ i a, i < N → I i a → ∃ a', b (nI i, a) = some (.inr (nI (i + 1), a')) ∧ I (i + 1) a') (Q : ρ → Prop) (he : ∀ a, I N a → ∃ r, b (nI N, a) = some (.inl r) ∧ Q r) {a0 : σ} (h0 : I 0 a0) : ∃ r, cd_iter cd_N b ((0 : Int32), a0) = some r ∧ Q r :=
  cd_upto N I Q hN (fun i a hi h => Or.inr (hs i a hi h)) he h0
theorem m_done (hX : q_X T M g0) (hd : q_pd s n) (hP : q_P P s n) (h6 : q_P6 M s n) (K Y S : Nat → Nat → Int32) : ∃ v T' P' Y' S' M' g' n', f_X5_done K T P Y S = some (v, T', P', Y', S') ∧ f_X6_done M = some (v, M') ∧ q_X T' M' g' ∧ q_pd s n' ∧ q_P P' s n' ∧ q_P6 M' s n' ∧ M' 20 = M 20 ∧ M' 21 = M 21 := by
  obtain ⟨P', Y', S', M', b1, b2, b3⟩ := e_bar hX hd hP h6 K Y S
  have hP' : q_P P' s n := ⟨by rw [b2.2]; exact hP.1, fun i hi => by rw [b2.1]; exact hP.2 i hi⟩
  have h6' : q_P6 M' s n := ⟨by rw [b1.2.2.2.2.2.1]; exact h6.1, fun i hi => by rw [b1.2.2.2.2.2.2.1]; exact h6.2 i hi⟩
  unfold f_X5_done f_X6_done
  rcases b3 with ⟨x5, x6⟩ | ⟨x5, x6, g, acts, paid, o, k⟩
  · refine ⟨-5, T, P', Y', S', M', g0, n, ?_, ?_, hX.same b1, hd, hP', h6', b1.2.2.2.2.2.2.2.1, b1.2.2.2.2.2.2.2.2⟩
    · rw [x5]; rfl
    · rw [x6]; rfl
  · obtain ⟨k1, k2, k3, k4, k5, k6, k7, k8, k9, k10⟩ := k
    obtain ⟨T', c1, c2⟩ := e_copyFrom k4 T
    obtain ⟨M2, d1, d2, d3⟩ := cd_upto' (b := f_X6_done_b12) 69 (fun i a => (∀ j, j < i → a 0 j = M' 1 j) ∧ ∀ k, k ≠ 0 → a k = M' k) (by decide) (fun i a hi h => ⟨cd_set a 0 i (a 1 i), by
      unfold f_X6_done_b12
      dsimp only
      rw [q_l 69, if_neg (nI_ge hi (by decide)), cd_rd_nI hi (by decide), Option.bind_some, cd_ix_nI hi (by decide), Option.bind_some, nI_1], by
      refine ⟨fun j hj => ?_, fun k hk => by rw [cd_set_n _ _ hk]; exact h.2 k hk⟩
      rw [cd_set_s]
      unfold upd
      by_cases e : j = i
      · rw [if_pos e, e, h.2 1 (by decide)]
      · rw [if_neg e]; exact h.1 j (by omega)⟩) (fun r => (∀ j, j < 69 → r 0 j = M' 1 j) ∧ ∀ k, k ≠ 0 → r k = M' k) (fun a h => ⟨a, by
      unfold f_X6_done_b12
      dsimp only
      rw [q_l 69, if_pos (nI_le (Nat.le_refl _) (by decide))], h⟩) (a0 := M') ⟨fun j hj => by omega, fun _ _ => rfl⟩
    obtain ⟨s0, s2, s3, s4, s5, s6, s7, s20, s21⟩ := b1
    have f : ∀ r, r ≠ 0 → r ≠ 6 → (cd_fld M2 6 0) r = M' r := fun r r0 r6 => by rw [cd_fld_n _ _ r6, d3 r r0]
    refine ⟨nI acts, T', cd_fld P' 1 0, Y', S', cd_fld M2 6 0, g, 0, ?_, ?_, ⟨c2, ?_, ⟨fun j hj => ?_, fun j hj => ?_⟩, ⟨?_, fun i hi => ⟨?_, ?_⟩⟩, k1⟩, ⟨by omega, fun i hi => by omega⟩, ⟨cd_fld_s _ _ _ _, fun i hi => by omega⟩, ⟨cd_fld_s _ _ _ _, fun i hi => by omega⟩, ?_, ?_⟩
    · rw [x5, Option.bind_some, if_neg (show ¬ (1 : Int32) = 0 by decide), c1, Option.bind_some]; show some (Y' 1 0, _) = _; rw [k3.1]
    · rw [x6, Option.bind_some, if_pos (show (0 : Int32) ≤ 0 by decide), d1, Option.bind_some, d3 13 (by decide), k7]
    · rw [cd_fld_n _ _ (by decide)]
      intro r j hr h69 hj
      have := q_of_lt r hr h69
      rw [d2 _ (by omega)]
      exact k5 r j hr h69 hj
    · rw [f 2 (by decide) (by decide), s2, k6 3 j (by omega)]; exact hX.2.2.1.1 j hj
    · rw [f 3 (by decide) (by decide), s3, k6 4 j (by omega)]; exact hX.2.2.1.2 j hj
    · rw [f 4 (by decide) (by decide), s4, k6 10 0 (by omega)]; exact hX.2.2.2.1.1
    · rw [f 5 (by decide) (by decide), s5, k6 8 i (by omega)]; exact (hX.2.2.2.1.2 i hi).1
    · rw [f 5 (by decide) (by decide), s5, k6 9 i (by omega)]; exact (hX.2.2.2.1.2 i hi).2
    · rw [f 20 (by decide) (by decide), s20]
    · rw [f 21 (by decide) (by decide), s21]
end CANBE
