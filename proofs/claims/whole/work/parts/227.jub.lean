/-! jubilee -/
def q_fl (w b : Bool) : Nat := if w = true ∧ b = false then 1 else 0
def q_jb (g : Nat → Nat → Nat) (S : Nat) : Nat → Nat × Bool × Bool
  | 0 => (0, false, false)
  | c + 1 => if g 0 c = 0 then ((q_jb g S c).1 + q_fl (q_jb g S c).2.1 (q_jb g S c).2.2, false, false) else ((q_jb g S c).1, (q_jb g S c).2.1 || S.testBit c, (q_jb g S c).2.2 || q_lit g c)
def q_jf (g : Nat → Nat → Nat) (S : Nat) : Nat := (q_jb g S 12).1 + q_fl (q_jb g S 12).2.1 (q_jb g S 12).2.2
def q_bad (g : Nat → Nat → Nat) (S c : Nat) : Prop := S.testBit c = true ∧ g 0 c = 0
theorem q_biO (a b : Bool) : q_bi a ||| q_bi b = q_bi (a || b) := by cases a <;> cases b <;> decide
theorem q_flI (w b : Bool) : ((if q_bi w = 0 then some (0 : Int32) else (if q_bi b = 0 then some (1 : Int32) else some (0 : Int32))) : Option Int32) = some (nI (q_fl w b)) := by cases w <;> cases b <;> rfl
section JUB
variable {T M K : Nat → Nat → Int32} {g : Nat → Nat → Nat} {S : Nat}
theorem jb_x (hT : q_T T g) (hg : q_ok g) (hS : S ≤ 4095) {c n : Nat} {w b : Bool} (hc : c < 12) : f_X5_matchesFor_b10 (nI S) T (nI n, q_bi w, q_bi b, nI c) = some (.inr (if g 0 c = 0 then (nI (n + q_fl w b), q_bi false, q_bi false, nI (c + 1)) else if c = 11 then (nI (n + q_fl (w || S.testBit c) (b || q_lit g c)), q_bi false, q_bi false, nI (c + 1)) else (nI n, q_bi (w || S.testBit c), q_bi (b || q_lit g c), nI (c + 1)))) := by
  have hw := q_wax_lt hg hc
  unfold f_X5_matchesFor_b10
  dsimp only
  rw [q_l 12, if_neg (nI_ge hc (by decide)), hT.rd 0 12 (by decide) rfl hc, Option.bind_some, e_holds (by omega) (by omega), e_isLit hT hg hc]
  by_cases h0 : g 0 c = 0
  · rw [if_pos h0, if_pos ((q_pos0 hw).mpr h0), Option.bind_some, Option.bind_some, if_pos ((q_eq0 hw).mpr h0), Option.bind_some, if_neg (show ¬ (1 : Int32) = 0 by decide)]
    dsimp only
    rw [q_flI, Option.bind_some, nI_add, nI_1]
    rfl
  · rw [if_neg h0, if_neg (fun q => h0 ((q_pos0 hw).mp q)), Option.bind_some, Option.bind_some, Option.bind_some, Option.bind_some, if_neg (fun q => h0 ((q_eq0 hw).mp q)), q_biO, q_biO]
    by_cases h11 : c = 11
    · rw [if_pos h11, if_pos (show nI c = 11 by rw [h11]; rfl), Option.bind_some, if_neg (show ¬ (1 : Int32) = 0 by decide)]
      dsimp only
      rw [q_flI, Option.bind_some, nI_add, nI_1]
      rfl
    · rw [if_neg h11, if_neg (show ¬ nI c = 11 from fun q => h11 ((nI_eq (by omega) (b := 11) (by decide)).mp q)), Option.bind_some, if_pos (show (0 : Int32) = 0 from rfl), nI_1]
theorem jb_m (hX : q_X T M g) (hS : S ≤ 4095) {c n : Nat} {w b : Bool} (hc : c < 12) : f_X6_jubilee_b24 (nI S) M (nI n, q_bi w, q_bi b, nI c) = if g 0 c = 0 then (if S.testBit c = true then some (.inl (.inl (-6))) else some (.inr (nI (n + q_fl w b), q_bi false, q_bi false, nI (c + 1)))) else some (.inr (nI n, q_bi (w || S.testBit c), q_bi (b || q_lit g c), nI (c + 1))) := by
  have hw := q_wax_lt hX.2.2.2.2 hc
  have r0 := hX.2.1.rd 0 0 (j := c) rfl (by decide) (by decide) hc
  rw [Nat.zero_add] at r0
  unfold f_X6_jubilee_b24
  dsimp only
  rw [q_l 13, if_neg (nI_ge (show c < 13 by omega) (by decide)), q_l 12, if_neg (nI_ge hc (by decide)), if_neg (nI_ge hc (by decide)), r0, Option.bind_some, e_isIn (show S < 2 ^ 31 by omega) (show c < 31 by omega), hX.lit66]
  simp only [Option.bind_some, e_isIn (q_lit_lt hX.2.2.2.2) (show c < 31 by omega), q_flI, nI_add, nI_1]
  by_cases h0 : g 0 c = 0
  · rw [if_pos h0, if_pos ((q_pos0 hw).mpr h0)]
    cases S.testBit c
    · rfl
    · rfl
  · rw [if_neg h0, if_neg (fun q => h0 ((q_pos0 hw).mp q))]
    have e1 : ((if q_bi w = 0 then (if q_bi (S.testBit c) = 0 then some (0 : Int32) else some (1 : Int32)) else some (1 : Int32)) : Option Int32) = some (q_bi (w || S.testBit c)) := by
      cases w <;> cases S.testBit c <;> rfl
    rw [e1, Option.bind_some]
    show _ = some (Sum.inr (nI n, q_bi (w || S.testBit c), q_bi (b || (g 11 0).testBit c), nI (c + 1)))
    cases b
    · cases (g 11 0).testBit c <;> rfl
    · rfl
theorem m_jubilee (hX : q_X T M g) (K : Nat → Nat → Int32) (a0 : Int32) : ∃ v, f_X5_jubilee a0 K T = some v ∧ f_X6_jubilee a0 M = some v := by
  unfold f_X5_jubilee f_X6_jubilee
  rw [show (12 : Int32) = nI 12 from rfl, e_bit (by decide), Option.bind_some, show nI (2 ^ 12) - 1 = 4095 from rfl, e_within, e_in, q_br, q_br]
  by_cases hr : 0 ≤ a0 ∧ a0 ≤ 4095
  · rw [if_pos hr, if_pos hr]
    obtain ⟨S, hS, rfl⟩ := q_rng 4095 (by decide) hr
    obtain ⟨h11, h12, h13, h14, h15⟩ := hX
    have hX : q_X T M g := ⟨h11, h12, h13, h14, h15⟩
    -- the class's first loop
    have k1 : ∃ r, cd_iter cd_N (f_X5_jubilee_b20 (nI S) T) (nI 0) = some r ∧ (((∃ c, c < 12 ∧ q_bad g S c) ∧ r = .inl (-6)) ∨ ((∀ c, c < 12 → ¬ q_bad g S c) ∧ r = .inr ())) := by
      refine cd_hoare (fun m z => ∃ c, m + c = 12 ∧ z = nI c ∧ ∀ j, j < c → ¬ q_bad g S j) _ ?_ cd_N 12 (nI 0) (by decide) ⟨0, rfl, rfl, fun j hj => by omega⟩
      rintro m z ⟨c, hm, rfl, hb⟩
      by_cases hc : c < 12
      · have body : f_X5_jubilee_b20 (nI S) T (nI c) = if S.testBit c = true ∧ g 0 c = 0 then some (.inl (.inl (-6))) else some (.inr (nI (c + 1))) := by
          unfold f_X5_jubilee_b20
          rw [q_l 12, if_neg (nI_ge hc (by decide)), e_holds (by omega) (by omega), Option.bind_some, h11.rd 0 12 (by decide) rfl hc, Option.bind_some, nI_1]
          by_cases hs : S.testBit c = true
          · rw [hs, if_neg q_bt]
            by_cases h0 : g 0 c = 0
            · rw [if_pos ((q_eq0 (q_wax_lt h15 hc)).mpr h0), if_pos ⟨rfl, h0⟩]
            · rw [if_neg (fun q => h0 ((q_eq0 (q_wax_lt h15 hc)).mp q)), if_neg (fun q => h0 q.2)]
          · have hs' : S.testBit c = false := by cases h : S.testBit c with
              | false => rfl
              | true => exact absurd h hs
            rw [hs', if_pos q_bf, if_neg (fun q => q_ft q.1)]
        by_cases hbd : q_bad g S c
        · rw [if_pos (show S.testBit c = true ∧ g 0 c = 0 from hbd)] at body
          exact Or.inl ⟨_, body, Or.inl ⟨⟨c, hc, hbd⟩, rfl⟩⟩
        · rw [if_neg (show ¬ (S.testBit c = true ∧ g 0 c = 0) from hbd)] at body
          refine Or.inr ⟨m - 1, _, by omega, body, c + 1, by omega, rfl, fun j hj => ?_⟩
          by_cases e : j = c
          · rw [e]; exact hbd
          · exact hb j (by omega)
      · have e : c = 12 := by omega
        subst e
        refine Or.inl ⟨.inr (), ?_, Or.inr ⟨hb, rfl⟩⟩
        unfold f_X5_jubilee_b20
        rw [q_l 12, if_pos (nI_le (Nat.le_refl _) (by decide))]
    -- its second
    have k2 : ∃ r, cd_iter cd_N (f_X5_matchesFor_b10 (nI S) T) (nI 0, q_bi false, q_bi false, nI 0) = some r ∧ r = nI (q_jf g S) := by
      refine cd_hoare (fun m z => ∃ c, m + c = 12 ∧ ((c < 12 ∧ z = (nI (q_jb g S c).1, q_bi (q_jb g S c).2.1, q_bi (q_jb g S c).2.2, nI c)) ∨ (c = 12 ∧ z = (nI (q_jf g S), q_bi false, q_bi false, nI c)))) _ ?_ cd_N 12 _ (by decide) ⟨0, rfl, Or.inl ⟨by decide, rfl⟩⟩
      rintro m z ⟨c, hm, h | h⟩
      · obtain ⟨hc, rfl⟩ := h
        refine Or.inr ⟨m - 1, _, by omega, jb_x h11 h15 hS hc, c + 1, by omega, ?_⟩
        by_cases e11 : c = 11
        · subst e11
          refine Or.inr ⟨rfl, ?_⟩
          unfold q_jf
          by_cases h0 : g 0 11 = 0
          · rw [if_pos h0, show q_jb g S 12 = ((q_jb g S 11).1 + q_fl (q_jb g S 11).2.1 (q_jb g S 11).2.2, false, false) from if_pos h0]
            rfl
          · rw [if_neg h0, if_pos rfl, show q_jb g S 12 = ((q_jb g S 11).1, (q_jb g S 11).2.1 || S.testBit 11, (q_jb g S 11).2.2 || q_lit g 11) from if_neg h0]
        · refine Or.inl ⟨by omega, ?_⟩
          by_cases h0 : g 0 c = 0
          · rw [if_pos h0, show q_jb g S (c + 1) = ((q_jb g S c).1 + q_fl (q_jb g S c).2.1 (q_jb g S c).2.2, false, false) from if_pos h0]
          · rw [if_neg h0, if_neg e11, show q_jb g S (c + 1) = ((q_jb g S c).1, (q_jb g S c).2.1 || S.testBit c, (q_jb g S c).2.2 || q_lit g c) from if_neg h0]
      · obtain ⟨rfl, rfl⟩ := h
        refine Or.inl ⟨_, ?_, rfl⟩
        unfold f_X5_matchesFor_b10
        dsimp only
        rw [q_l 12, if_pos (nI_le (Nat.le_refl _) (by decide))]
    -- the reference's
    have k3 : ∃ r, cd_iter cd_N (f_X6_jubilee_b24 (nI S) M) (nI 0, q_bi false, q_bi false, nI 0) = some r ∧ (((∃ c, c < 12 ∧ q_bad g S c) ∧ r = .inl (-6)) ∨ ((∀ c, c < 12 → ¬ q_bad g S c) ∧ r = .inr (nI (q_jf g S)))) := by
      refine cd_hoare (fun m z => ∃ c, m + c = 13 ∧ ((c < 13 ∧ (∀ j, j < c → ¬ q_bad g S j) ∧ z = (nI (q_jb g S c).1, q_bi (q_jb g S c).2.1, q_bi (q_jb g S c).2.2, nI c)) ∨ (c = 13 ∧ (∀ j, j < 12 → ¬ q_bad g S j) ∧ z = (nI (q_jf g S), q_bi false, q_bi false, nI c)))) _ ?_ cd_N 13 _ (by decide) ⟨0, rfl, Or.inl ⟨by decide, fun j hj => by omega, rfl⟩⟩
      rintro m z ⟨c, hm, h | h⟩
      · obtain ⟨hc, hb, rfl⟩ := h
        by_cases hc12 : c < 12
        · have body := jb_m hX hS (n := (q_jb g S c).1) (w := (q_jb g S c).2.1) (b := (q_jb g S c).2.2) hc12
          by_cases h0 : g 0 c = 0
          · rw [if_pos h0] at body
            by_cases hs : S.testBit c = true
            · rw [if_pos hs] at body
              exact Or.inl ⟨_, body, Or.inl ⟨⟨c, hc12, hs, h0⟩, rfl⟩⟩
            · rw [if_neg hs] at body
              refine Or.inr ⟨m - 1, _, by omega, body, c + 1, by omega, Or.inl ⟨by omega, fun j hj => ?_, ?_⟩⟩
              · by_cases e : j = c
                · rw [e]; exact fun q => hs q.1
                · exact hb j (by omega)
              · rw [show q_jb g S (c + 1) = ((q_jb g S c).1 + q_fl (q_jb g S c).2.1 (q_jb g S c).2.2, false, false) from if_pos h0]
          · rw [if_neg h0] at body
            refine Or.inr ⟨m - 1, _, by omega, body, c + 1, by omega, Or.inl ⟨by omega, fun j hj => ?_, ?_⟩⟩
            · by_cases e : j = c
              · rw [e]; exact fun q => h0 q.2
              · exact hb j (by omega)
            · rw [show q_jb g S (c + 1) = ((q_jb g S c).1, (q_jb g S c).2.1 || S.testBit c, (q_jb g S c).2.2 || q_lit g c) from if_neg h0]
        · have e : c = 12 := by omega
          subst e
          refine Or.inr ⟨m - 1, (nI (q_jf g S), q_bi false, q_bi false, nI 13), by omega, ?_, 13, by omega, Or.inr ⟨rfl, hb, rfl⟩⟩
          unfold f_X6_jubilee_b24
          dsimp only
          rw [q_l 13, if_neg (nI_ge (show 12 < 13 by decide) (by decide)), q_l 12, if_pos (nI_le (Nat.le_refl _) (by decide)), if_pos (nI_le (Nat.le_refl _) (by decide)), q_flI, Option.bind_some, nI_add, nI_1]
          rfl
      · obtain ⟨rfl, hb, rfl⟩ := h
        refine Or.inl ⟨_, ?_, Or.inr ⟨hb, rfl⟩⟩
        unfold f_X6_jubilee_b24
        dsimp only
        rw [q_l 13, if_pos (nI_le (Nat.le_refl _) (by decide))]
    obtain ⟨r1, a1, a2⟩ := k1
    obtain ⟨r2, b1, b2⟩ := k2
    obtain ⟨r3, c1, c2⟩ := k3
    have b1' : f_X5_matchesFor (nI S) K T = some (nI (q_jf g S)) := by
      unfold f_X5_matchesFor
      rw [show cd_iter cd_N (f_X5_matchesFor_b10 (nI S) T) ((0 : Int32), (0 : Int32), (0 : Int32), (0 : Int32)) = some r2 from b1, b2]
      rfl
    have c1' : cd_iter cd_N (f_X6_jubilee_b24 (nI S) M) ((0 : Int32), (0 : Int32), (0 : Int32), (0 : Int32)) = some r3 := c1
    have a1' : cd_iter cd_N (f_X5_jubilee_b20 (nI S) T) (0 : Int32) = some r1 := a1
    rw [a1', c1', Option.bind_some, Option.bind_some]
    rcases a2 with ⟨⟨c, hc, hb⟩, rfl⟩ | ⟨hb, rfl⟩
    · rcases c2 with ⟨-, rfl⟩ | ⟨hb2, -⟩
      · exact ⟨_, rfl, rfl⟩
      · exact absurd hb (hb2 c hc)
    · rcases c2 with ⟨⟨c, hc, hb2⟩, -⟩ | ⟨-, rfl⟩
      · exact absurd hb2 (hb c hc)
      · exact ⟨nI (q_jf g S), by show (f_X5_matchesFor (nI S) K T).bind _ = _; rw [b1']; rfl, rfl⟩
  · rw [if_neg hr, if_neg hr]
    exact ⟨_, rfl, rfl⟩
end JUB
