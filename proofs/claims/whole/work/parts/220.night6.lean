/-! nights in the reference -/
theorem q_st_cases {s : Nat → Nat} {n p k a b p' : Nat} (hp : p < n) (h : q_st s n p = .inr (k, a, b, p')) :
    (s p = 46 ∧ k = 46 ∧ a = 0 ∧ b = 0 ∧ p' = p + 1) ∨ (s p = 119 ∧ p + 2 < n ∧ k = 119 ∧ s (p + 1) = 97 + a ∧ s (p + 2) = 48 + b ∧ p' = p + 3 ∧ a < 12 ∧ b ≤ 9) ∨ (s p = 97 + a ∧ a < 12 ∧ p + 2 < n ∧ s (p + 1) = 62 ∧ k = 62 ∧ s (p + 2) = 97 + b ∧ b < 12 ∧ p' = p + 3) ∨ (s p = 97 + a ∧ a < 12 ∧ p + 1 < n ∧ s (p + 1) = k ∧ (k = 42 ∨ k = 45 ∨ k = 33 ∨ k = 94) ∧ b = 0 ∧ p' = p + 2) := by
  have hc0 : q_ch s n p = s p := q_ch_in hp
  unfold q_st at h
  rw [hc0] at h
  by_cases e46 : s p = 46
  · rw [if_pos e46] at h
    cases h
    exact Or.inl ⟨e46, rfl, rfl, rfl, rfl⟩
  · rw [if_neg e46] at h
    by_cases e119 : s p = 119
    · rw [if_pos e119] at h
      by_cases hL : q_L (q_ch s n (p + 1)) = true
      · rw [if_pos hL] at h
        by_cases hD : q_D (q_ch s n (p + 2)) = true
        · rw [if_pos hD] at h
          cases h
          have h1 := q_L_in hL
          have h2 := q_D_in hD
          have h3 := q_ch_pos (s := s) (n := n) (p := p + 2) (by omega)
          rw [q_ch_in (show p + 1 < n by omega)] at h1 ⊢
          rw [q_ch_in h3] at h2 ⊢
          exact Or.inr (Or.inl ⟨e119, h3, rfl, by omega, by omega, rfl, by omega, by omega⟩)
        · rw [if_neg hD] at h; cases h
      · rw [if_neg hL] at h; cases h
    · rw [if_neg e119] at h
      by_cases hL : q_L (s p) = true
      · rw [if_pos hL] at h
        have h1 := q_L_in hL
        by_cases e62 : q_ch s n (p + 1) = 62
        · rw [if_pos e62] at h
          by_cases hL2 : q_L (q_ch s n (p + 2)) = true
          · rw [if_pos hL2] at h
            cases h
            have h2 := q_L_in hL2
            have h3 := q_ch_pos (s := s) (n := n) (p := p + 2) (by omega)
            rw [q_ch_in h3] at h2 ⊢
            rw [q_ch_in (show p + 1 < n by omega)] at e62
            exact Or.inr (Or.inr (Or.inl ⟨by omega, by omega, h3, e62, rfl, by omega, by omega, rfl⟩))
          · rw [if_neg hL2] at h; cases h
        · rw [if_neg e62] at h
          by_cases e : q_ch s n (p + 1) = 42 ∨ q_ch s n (p + 1) = 45 ∨ q_ch s n (p + 1) = 33 ∨ q_ch s n (p + 1) = 94
          · rw [if_pos e] at h
            cases h
            have h3 := q_ch_pos (s := s) (n := n) (p := p + 1) (by omega)
            rw [q_ch_in h3] at e ⊢
            exact Or.inr (Or.inr (Or.inr ⟨by omega, by omega, h3, rfl, e, rfl, rfl⟩))
          · rw [if_neg e] at h; cases h
      · rw [if_neg hL] at h; cases h
/-- an act of the reference on 'now': its answer and what it leaves -/
def q_A6 (M M2 : Nat → Nat → Int32) (k a b : Nat) (g : Nat → Nat → Nat) : Prop := (q_why k a b g ≠ 0 → ∀ r, r ≠ 11 → M2 r = M r) ∧ (q_why k a b g = 0 → q_B (M2 1) (q_do k a b g) ∧ M2 8 0 = M 8 0 + nI (q_pay k a g) ∧ M2 11 0 = nI (q_go k g) ∧ ∀ r, r ≠ 1 → r ≠ 8 → r ≠ 11 → M2 r = M r)
section NIGHT6
variable {M : Nat → Nat → Int32} {s : Nat → Nat} {n : Nat} {g : Nat → Nat → Nat}
theorem q_a0 (x : Int32) : x + nI 0 = x := by
  show x + 0 = x
  exact Int32.add_zero x
theorem e6_act (hB : q_B (M 1) g) (hC : q_C M g) (hg : q_ok g) {k a b : Nat} (hv : q_val k a b) (hk : k = 42 ∨ k = 45 ∨ k = 33 ∨ k = 94 ∨ k = 62) : ∃ M2, f_X6_candleAct (nI a) (nI k) (nI (97 + b)) (cd_fld M 11 0) = some (nI (q_why k a b g), M2) ∧ q_A6 M M2 k a b g := by
  have hB0 : q_B ((cd_fld M 11 0) 1) g := by rw [cd_fld_n _ _ (by decide)]; exact hB
  have hC0 : q_C (cd_fld M 11 0) g := ⟨fun j hj => by rw [cd_fld_n _ _ (by decide)]; exact hC.1 j hj, fun j hj => by rw [cd_fld_n _ _ (by decide)]; exact hC.2 j hj⟩
  have no : ∀ {M2 : Nat → Nat → Int32}, M2 = cd_fld M 11 0 → ∀ r, r ≠ 11 → M2 r = M r := fun e r hr => by rw [e, cd_fld_n _ _ hr]
  have fin : ∀ {M2 : Nat → Nat → Int32} {g' : Nat → Nat → Nat}, q_B (M2 1) g' → (∀ r, r ≠ 1 → M2 r = (cd_fld M 11 0) r) → q_B (M2 1) g' ∧ M2 8 0 = M 8 0 + nI 0 ∧ M2 11 0 = nI 0 ∧ ∀ r, r ≠ 1 → r ≠ 8 → r ≠ 11 → M2 r = M r := fun h1 h2 => ⟨h1, by rw [h2 8 (by decide), cd_fld_n _ _ (by decide), q_a0], by rw [h2 11 (by decide), cd_fld_s]; rfl, fun r r1 _ r11 => by rw [h2 r r1, cd_fld_n _ _ r11]⟩
  unfold f_X6_candleAct
  rcases hv with ⟨rfl, -, -⟩ | ⟨rfl, -, -⟩ | ⟨rfl, ha, hb⟩ | ⟨rfl | rfl | rfl | rfl, ha, rfl⟩
  · omega
  · omega
  · obtain ⟨M2, e1, e2, e3⟩ := e6_lightFrom hB0 hg ha hb
    refine ⟨M2, ?_, fun q => no (e2 q), fun q => fin (e3 q).1 (e3 q).2⟩
    rw [if_neg (by decide), if_neg (by decide), if_neg (by decide), if_neg (by decide), q_l 97, show nI (97 + b) - nI 97 = nI b by rw [pk_sub (by omega), show 97 + b - 97 = b by omega], e1]
    rfl
  · obtain ⟨M2, e1, e2, e3⟩ := e6_strike hB0 hg ha
    refine ⟨M2, ?_, fun q => no (e2 q), fun q => fin (e3 q).1 (e3 q).2⟩
    rw [if_neg (by decide), if_pos (show nI 42 = 42 from rfl), e1]
    rfl
  · obtain ⟨M2, e1, e2, e3⟩ := e6_snuffOut hB0 hg ha
    refine ⟨M2, ?_, fun q => no (e2 q), fun q => fin (e3 q).1 (e3 q).2⟩
    rw [if_neg (by decide), if_neg (by decide), if_pos (show nI 45 = 45 from rfl), e1]
    rfl
  · obtain ⟨M2, e1, e2, e3⟩ := e6_askFor hB0 hC0 hg ha
    refine ⟨M2, ?_, fun q => no (e2 q), fun q => ⟨(e3 q).1, ?_, ?_, fun r r1 r8 r11 => ?_⟩⟩
    · rw [if_pos (show nI 33 = 33 from rfl), e1]
      rfl
    · rw [(e3 q).2.1, cd_fld_n _ _ (by decide)]; rfl
    · rw [(e3 q).2.2 11 (by decide) (by decide), cd_fld_s]; rfl
    · rw [(e3 q).2.2 r r1 r8, cd_fld_n _ _ r11]
  · obtain ⟨M2, e1, e2, e3⟩ := e6_trim hB0 hg ha
    refine ⟨M2, ?_, fun q => no (e2 q), fun q => fin (e3 q).1 (e3 q).2⟩
    rw [if_neg (by decide), if_neg (by decide), if_neg (by decide), if_pos (show nI 94 = 94 from rfl), e1]
    rfl
/-- which went out first: the reference looks from the last candle on -/
theorem e6_outs {o : Option (Nat × Nat)} {acts go : Nat} (hgo : go < 2 ^ 12) (hac : acts < 2 ^ 31) (h9 : M 9 0 = q_o1 o) (h10 : M 10 0 = q_o2 o) (h11 : M 11 0 = nI go) (h13 : M 13 0 = nI acts) (ho : ∀ x, o = some x → x.1 < acts) : ∃ M', cd_iter cd_N f_X6_goNights_b163 (11, M) = some M' ∧ M' 9 0 = q_o1 (q_on o acts go) ∧ M' 10 0 = q_o2 (q_on o acts go) ∧ ∀ r, r ≠ 9 → r ≠ 10 → M' r = M r := by
  cases o with
  | some x =>
    have hx := ho x rfl
    refine ⟨M, ?_, h9, h10, fun _ _ _ => rfl⟩
    have hb : f_X6_goNights_b163 (11, M) = some (Sum.inl M) := by
      unfold f_X6_goNights_b163
      dsimp only
      rw [if_neg (by decide), if_neg (by rw [h9]; exact nI_pos (by omega)), if_neg (by rw [h9, h13]; show ¬ nI x.1 = nI acts; rw [nI_eq (by omega) hac]; omega)]
    obtain ⟨F, hF⟩ : ∃ F, cd_N = F + 1 := ⟨19999, rfl⟩
    rw [hF]
    show (f_X6_goNights_b163 (11, M)).bind _ = _
    rw [hb]
    rfl
  | none =>
    have key := cd_hoare (b := f_X6_goNights_b163) (fun m z => ∃ a, m ≤ 12 ∧ z = (nI m + -1, a) ∧ a 9 0 = q_o1 ((q_lowF go (12 - m) m).map (fun c => (acts, c))) ∧ a 10 0 = q_o2 ((q_lowF go (12 - m) m).map (fun c => (acts, c))) ∧ ∀ r, r ≠ 9 → r ≠ 10 → a r = M r) (fun a => a 9 0 = q_o1 (q_on none acts go) ∧ a 10 0 = q_o2 (q_on none acts go) ∧ ∀ r, r ≠ 9 → r ≠ 10 → a r = M r) (by
      rintro m z ⟨a, hm, rfl, g9, g10, gr⟩
      cases m with
      | zero => exact Or.inl ⟨a, by unfold f_X6_goNights_b163; dsimp only; rw [if_pos (show nI 0 + -1 < 0 by decide)], g9, g10, gr⟩
      | succ c =>
        right
        have hl : q_lowF go (12 - c) c = if go.testBit c = true then some c else q_lowF go (12 - (c + 1)) (c + 1) := by
          rw [show 12 - c = (12 - (c + 1)) + 1 by omega]
          rfl
        have hb : f_X6_goNights_b163 (nI (c + 1) + -1, a) = if go.testBit c = true then some (Sum.inr (nI c + -1, cd_fld (cd_fld a 9 (nI acts)) 10 (nI c))) else some (Sum.inr (nI c + -1, a)) := by
          unfold f_X6_goNights_b163
          simp only [pk_m1]
          rw [if_neg (nI_pos (by omega)), gr 11 (by decide) (by decide), h11, gr 13 (by decide) (by decide), h13, e_isIn (by omega) (by omega), Option.bind_some]
          have inner : (if q_bi (go.testBit c) = 0 then some (Sum.inr (nI c + -1, a)) else some (Sum.inr (nI c + -1, cd_fld (cd_fld a 9 (nI acts)) 10 (nI c)))) = (if go.testBit c = true then some (Sum.inr (nI c + -1, cd_fld (cd_fld a 9 (nI acts)) 10 (nI c))) else some (Sum.inr (nI c + -1, a)) : Option ((Nat → Nat → Int32) ⊕ (Int32 × (Nat → Nat → Int32)))) := by
            cases go.testBit c <;> rfl
          rw [inner, g9]
          cases q_lowF go (12 - (c + 1)) (c + 1) with
          | none => rw [if_pos (show q_o1 (Option.map (fun c => (acts, c)) none) < 0 from (by decide : (-6 : Int32) < 0))]
          | some x => rw [if_neg (show ¬ q_o1 (Option.map (fun c => (acts, c)) (some x)) < 0 from nI_pos hac), if_pos (show q_o1 (Option.map (fun c => (acts, c)) (some x)) = nI acts from rfl)]
        by_cases ht : go.testBit c = true
        · rw [if_pos ht] at hb hl
          refine ⟨c, _, by omega, hb, _, by omega, rfl, ?_, ?_, fun r r9 r10 => ?_⟩
          · rw [cd_fld_n _ _ (by decide), cd_fld_s, hl]; rfl
          · rw [cd_fld_s, hl]; rfl
          · rw [cd_fld_n _ _ r10, cd_fld_n _ _ r9]; exact gr r r9 r10
        · rw [if_neg ht] at hb hl
          exact ⟨c, _, by omega, hb, a, by omega, rfl, by rw [hl]; exact g9, by rw [hl]; exact g10, gr⟩) cd_N 12 (nI 12 + -1, M) (by decide) ⟨M, Nat.le_refl _, rfl, by rw [h9]; rfl, by rw [h10]; rfl, fun _ _ _ => rfl⟩
    exact key
end NIGHT6
