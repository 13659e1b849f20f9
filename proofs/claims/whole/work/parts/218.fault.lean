/-! the fault, in the class and in the reference -/
def q_flt (s : Nat → Nat) (n : Nat) : Nat → Nat → Option Nat
  | 0, _ => none
  | f + 1, p => if p < n then Sum.elim (fun x => some x) (fun r => q_flt s n f r.2.2.2) (q_st s n p) else none
def q_fv : Option Nat → Int32
  | none => -6
  | some x => nI x
theorem q_L_in {c : Nat} (h : q_L c = true) : 97 ≤ c ∧ c ≤ 108 := of_decide_eq_true h
theorem q_D_in {c : Nat} (h : q_D c = true) : 48 ≤ c ∧ c ≤ 57 := of_decide_eq_true h
/-- an act that can be read: its numbers -/
def q_val (k a b : Nat) : Prop := (k = 46 ∧ a = 0 ∧ b = 0) ∨ (k = 119 ∧ a < 12 ∧ b ≤ 9) ∨ (k = 62 ∧ a < 12 ∧ b < 12) ∨ ((k = 42 ∨ k = 45 ∨ k = 33 ∨ k = 94) ∧ a < 12 ∧ b = 0)
theorem q_st_ok {s : Nat → Nat} {n p k a b p' : Nat} (hp : p < n) (h : q_st s n p = .inr (k, a, b, p')) : p < p' ∧ p' ≤ n ∧ q_val k a b := by
  unfold q_st at h
  by_cases e46 : q_ch s n p = 46
  · rw [if_pos e46] at h
    cases h
    exact ⟨by omega, by omega, Or.inl ⟨rfl, rfl, rfl⟩⟩
  · rw [if_neg e46] at h
    by_cases e119 : q_ch s n p = 119
    · rw [if_pos e119] at h
      by_cases hL : q_L (q_ch s n (p + 1)) = true
      · rw [if_pos hL] at h
        by_cases hD : q_D (q_ch s n (p + 2)) = true
        · rw [if_pos hD] at h
          cases h
          have h1 := q_L_in hL
          have h2 := q_D_in hD
          have h3 := q_ch_pos (s := s) (n := n) (p := p + 2) (by omega)
          exact ⟨by omega, by omega, Or.inr (Or.inl ⟨rfl, by omega, by omega⟩)⟩
        · rw [if_neg hD] at h; cases h
      · rw [if_neg hL] at h; cases h
    · rw [if_neg e119] at h
      by_cases hL : q_L (q_ch s n p) = true
      · rw [if_pos hL] at h
        have h1 := q_L_in hL
        by_cases e62 : q_ch s n (p + 1) = 62
        · rw [if_pos e62] at h
          by_cases hL2 : q_L (q_ch s n (p + 2)) = true
          · rw [if_pos hL2] at h
            cases h
            have h2 := q_L_in hL2
            have h3 := q_ch_pos (s := s) (n := n) (p := p + 2) (by omega)
            exact ⟨by omega, by omega, Or.inr (Or.inr (Or.inl ⟨rfl, by omega, by omega⟩))⟩
          · rw [if_neg hL2] at h; cases h
        · rw [if_neg e62] at h
          by_cases e : q_ch s n (p + 1) = 42 ∨ q_ch s n (p + 1) = 45 ∨ q_ch s n (p + 1) = 33 ∨ q_ch s n (p + 1) = 94
          · rw [if_pos e] at h
            cases h
            have h3 := q_ch_pos (s := s) (n := n) (p := p + 1) (by omega)
            exact ⟨by omega, by omega, Or.inr (Or.inr (Or.inr ⟨e, by omega, rfl⟩))⟩
          · rw [if_neg e] at h; cases h
      · rw [if_neg hL] at h; cases h
theorem q_st_fl {s : Nat → Nat} {n p x : Nat} (h : q_st s n p = .inl x) : x ≤ p + 2 := by
  unfold q_st at h
  split at h
  · cases h
  · split at h
    · split at h
      · split at h
        · cases h
        · cases h; omega
      · cases h; omega
    · split at h
      · split at h
        · split at h
          · cases h
          · cases h; omega
        · split at h
          · cases h
          · cases h; omega
      · cases h; omega
section FAULT
variable {P M : Nat → Nat → Int32} {s : Nat → Nat} {n : Nat}
theorem q_flt_end {f p : Nat} (h : n ≤ p) : q_flt s n f p = none := by
  cases f with
  | zero => rfl
  | succ f => show (if p < n then _ else none) = none; rw [if_neg (by omega)]
theorem q_flt_in {f p : Nat} (h : p < n) : q_flt s n (f + 1) p = Sum.elim (fun x => some x) (fun r => q_flt s n f r.2.2.2) (q_st s n p) := by
  show (if p < n then _ else none) = _
  rw [if_pos h]
theorem e_firstFault (hd : q_pd s n) (h : q_P P s n) : ∃ P', f_X0_firstFault P = some (q_fv (q_flt s n 61 0), P') ∧ P' 0 = P 0 ∧ P' 1 = P 1 := by
  have hn := hd.1
  obtain ⟨r, h1, h2⟩ := cd_hoare (b := f_X0_firstFault_b4) (fun m z => ∃ p act P1, m + p = n ∧ act ≤ p ∧ z = (nI p, nI act, P1) ∧ (P1 0 = P 0 ∧ P1 1 = P 1) ∧ q_flt s n 61 0 = q_flt s n (61 - act) p) (fun r => Sum.elim (fun x => x.1 = q_fv (q_flt s n 61 0) ∧ x.2 0 = P 0 ∧ x.2 1 = P 1) (fun P1 => q_flt s n 61 0 = none ∧ P1 0 = P 0 ∧ P1 1 = P 1) r) (by
    rintro m z ⟨p, act, P1, hm, ha, rfl, hr, hf⟩
    have hP1 : q_P P1 s n := ⟨by rw [hr.2]; exact h.1, fun i hi => by rw [hr.1]; exact h.2 i hi⟩
    by_cases hp : p < n
    · obtain ⟨v, P2, e1, e2, e3⟩ := e_readAct hd hP1 (p := p) (by omega)
      have hbody : f_X0_firstFault_b4 (nI p, nI act, P1) = if v = -6 then some (Sum.inr (P2 5 0, nI (act + 1), P2)) else some (Sum.inl (Sum.inl (v, P2))) := by
        unfold f_X0_firstFault_b4
        simp only [hP1.1]
        rw [q_l 60, if_neg (nI_ge (show act < 60 by omega) (by decide)), if_neg (nI_ge hp (by omega)), e1, Option.bind_some, nI_1]
      have hr2 : P2 0 = P 0 ∧ P2 1 = P 1 := ⟨e2.1.trans hr.1, e2.2.trans hr.2⟩
      rw [show 61 - act = (60 - act) + 1 by omega, q_flt_in hp] at hf
      cases hs : q_st s n p with
      | inl x =>
        rw [hs] at e3 hf
        have hx := q_st_fl hs
        refine Or.inl ⟨.inl (v, P2), ?_, ?_, hr2⟩
        · rw [hbody, show v = nI x from e3, if_neg (q_ne6 (by omega))]
        · rw [hf]; exact e3
      | inr w =>
        obtain ⟨k, a, b, p'⟩ := w
        rw [hs] at e3 hf
        have ho := q_st_ok hp hs
        obtain ⟨e4, -, -, -, e5⟩ := e3
        refine Or.inr ⟨n - p', _, by omega, ?_, p', act + 1, P2, by omega, by omega, rfl, hr2, ?_⟩
        · rw [hbody, if_pos e4, e5]
        · rw [hf, show 61 - (act + 1) = 60 - act by omega]
          rfl
    · have hfin : q_flt s n 61 0 = none := by rw [hf]; exact q_flt_end (by omega)
      refine Or.inl ⟨.inr P1, ?_, hfin, hr⟩
      unfold f_X0_firstFault_b4
      simp only [hP1.1]
      rw [q_l 60]
      by_cases h60 : act < 60
      · rw [if_neg (nI_ge h60 (by decide)), if_pos (nI_le (by omega) (by omega))]
      · rw [if_pos (nI_le (by omega) (by omega))]) cd_N n (nI 0, nI 0, P) (by have e : cd_N = 20000 := rfl; omega) ⟨0, 0, P, by omega, by omega, rfl, ⟨rfl, rfl⟩, rfl⟩
  unfold f_X0_firstFault
  rw [show ((0 : Int32), (0 : Int32), P) = (nI 0, nI 0, P) from rfl, h1, Option.bind_some]
  cases r with
  | inl x => exact ⟨x.2, by rw [← h2.1]; rfl, h2.2⟩
  | inr P1 => exact ⟨P1, by rw [h2.1]; rfl, h2.2⟩
def q_P6 (M : Nat → Nat → Int32) (s : Nat → Nat) (n : Nat) : Prop := M 6 0 = nI n ∧ ∀ i, i < n → M 7 i = nI (s i)
theorem e6_isLetter {c : Nat} (hc : c ≤ 126) : f_X6_isLetter (nI c) = some (q_bi (q_L c)) := by
  unfold f_X6_isLetter
  rw [e_in, Option.bind_some, q_bi_zb, Option.bind_some, q_l 97, q_l 108]
  unfold q_L
  rw [decide_eq_decide.mpr (show (nI 97 ≤ nI c ∧ nI c ≤ nI 108) ↔ (97 ≤ c ∧ c ≤ 108) by rw [nI_leI (by omega) (by omega), nI_leI (by omega) (by omega)])]
theorem e6_digit {c : Nat} (hc : c ≤ 126) : f_X6_in (nI c) 48 57 = some (q_bi (q_D c)) := by
  rw [e_in, q_l 48, q_l 57]
  unfold q_D
  rw [decide_eq_decide.mpr (show (nI 48 ≤ nI c ∧ nI c ≤ nI 57) ↔ (48 ≤ c ∧ c ≤ 57) by rw [nI_leI (by omega) (by omega), nI_leI (by omega) (by omega)])]
section FBODY
variable {k : Nat} (hd : q_pd s n) (h : q_P6 M s n) (hk : k < n)
theorem q_eqn (hd : q_pd s n) (hk : k < n) (a : Nat) (ha : a ≤ 126) : (nI (s k) = nI a) ↔ s k = a := by
  have := (hd.2 k hk).2
  exact nI_eq (by omega) (by omega)
theorem fb_0 (hd : q_pd s n) (h : q_P6 M s n) (hk : k < n) : f_X6_faultOf_b4 M (nI 0, nI k) = if q_L (s k) = true then some (.inr (nI 1, nI (k + 1))) else if s k = 119 then some (.inr (nI 3, nI (k + 1))) else if s k = 46 then some (.inr (nI 0, nI (k + 1))) else some (.inl (.inl (nI k))) := by
  have hn := hd.1
  have hc := hd.2 k hk
  unfold f_X6_faultOf_b4
  dsimp only
  rw [h.1, if_neg (nI_ge hk (by omega)), cd_rd_nI (by omega) (by decide), Option.bind_some, h.2 k hk, if_pos (show nI 0 = 0 from rfl), e6_isLetter (by omega), Option.bind_some, nI_1, q_l 119, q_l 46]
  cases hL : q_L (s k)
  · rw [if_neg q_ft, if_pos q_bf]
    by_cases e1 : s k = 119
    · rw [if_pos e1]; simp only [Option.bind_some, if_pos q_bf, if_pos ((q_eqn hd hk 119 (by decide)).mpr e1)]; rfl
    · rw [if_neg e1, if_neg (fun q => e1 ((q_eqn hd hk 119 (by decide)).mp q))]
      by_cases e2 : s k = 46
      · rw [if_pos e2, if_pos ((q_eqn hd hk 46 (by decide)).mpr e2)]; simp only [Option.bind_some, if_pos q_bf, if_neg (fun q => e1 ((q_eqn hd hk 119 (by decide)).mp q))]; rfl
      · rw [if_neg e2, if_neg (fun q => e2 ((q_eqn hd hk 46 (by decide)).mp q))]; simp only [Option.bind_some, if_pos q_bf, if_neg (fun q => e1 ((q_eqn hd hk 119 (by decide)).mp q))]; rfl
  · rw [if_pos q_tt]; rfl
theorem fb_1 (hd : q_pd s n) (h : q_P6 M s n) (hk : k < n) : f_X6_faultOf_b4 M (nI 1, nI k) = if s k = 62 then some (.inr (nI 2, nI (k + 1))) else if s k = 42 ∨ s k = 45 ∨ s k = 33 ∨ s k = 94 then some (.inr (nI 0, nI (k + 1))) else some (.inl (.inl (nI k))) := by
  have hn := hd.1
  have hc := hd.2 k hk
  have eq := q_eqn hd hk
  unfold f_X6_faultOf_b4
  dsimp only
  rw [h.1, if_neg (nI_ge hk (by omega)), cd_rd_nI (by omega) (by decide), Option.bind_some, h.2 k hk, if_neg (show ¬ nI 1 = 0 by decide), if_pos (show nI 1 = 1 from rfl), nI_1, q_l 42, q_l 45, q_l 33, q_l 94, q_l 62]
  by_cases e62 : s k = 62
  · rw [if_pos e62]
    have n1 : ∀ a, a ≤ 126 → a ≠ 62 → ¬ nI (s k) = nI a := fun a ha hb q => hb (((eq a ha).mp q).symm.trans e62)
    simp only [if_neg (n1 42 (by decide) (by decide)), if_neg (n1 45 (by decide) (by decide)), if_neg (n1 33 (by decide) (by decide)), if_neg (n1 94 (by decide) (by decide)), if_pos ((eq 62 (by decide)).mpr e62), Option.bind_some]
    rfl
  · rw [if_neg e62]
    have n62 : ¬ nI (s k) = nI 62 := fun q => e62 ((eq 62 (by decide)).mp q)
    simp only [if_neg n62]
    by_cases e42 : s k = 42
    · rw [if_pos (Or.inl e42), if_pos ((eq 42 (by decide)).mpr e42)]; rfl
    · rw [if_neg (fun q => e42 ((eq 42 (by decide)).mp q))]
      by_cases e45 : s k = 45
      · rw [if_pos (Or.inr (Or.inl e45)), if_pos ((eq 45 (by decide)).mpr e45)]; rfl
      · rw [if_neg (fun q => e45 ((eq 45 (by decide)).mp q))]
        by_cases e33 : s k = 33
        · rw [if_pos (Or.inr (Or.inr (Or.inl e33))), if_pos ((eq 33 (by decide)).mpr e33)]; rfl
        · rw [if_neg (fun q => e33 ((eq 33 (by decide)).mp q))]
          by_cases e94 : s k = 94
          · rw [if_pos (Or.inr (Or.inr (Or.inr e94))), if_pos ((eq 94 (by decide)).mpr e94)]; rfl
          · rw [if_neg (fun q => e94 ((eq 94 (by decide)).mp q)), if_neg (by omega)]; rfl
theorem fb_2 (hd : q_pd s n) (h : q_P6 M s n) (hk : k < n) : f_X6_faultOf_b4 M (nI 2, nI k) = if q_L (s k) = true then some (.inr (nI 0, nI (k + 1))) else some (.inl (.inl (nI k))) := by
  have hn := hd.1
  have hc := hd.2 k hk
  unfold f_X6_faultOf_b4
  dsimp only
  rw [h.1, if_neg (nI_ge hk (by omega)), cd_rd_nI (by omega) (by decide), Option.bind_some, h.2 k hk, if_neg (show ¬ nI 2 = 0 by decide), if_neg (show ¬ nI 2 = 1 by decide), if_neg (show ¬ nI 2 = 4 by decide), e6_isLetter (by omega), Option.bind_some, if_neg (show ¬ nI 2 = 3 by decide), nI_1, Option.bind_some]
  cases q_L (s k) <;> rfl
theorem fb_3 (hd : q_pd s n) (h : q_P6 M s n) (hk : k < n) : f_X6_faultOf_b4 M (nI 3, nI k) = if q_L (s k) = true then some (.inr (nI 4, nI (k + 1))) else some (.inl (.inl (nI k))) := by
  have hn := hd.1
  have hc := hd.2 k hk
  unfold f_X6_faultOf_b4
  dsimp only
  rw [h.1, if_neg (nI_ge hk (by omega)), cd_rd_nI (by omega) (by decide), Option.bind_some, h.2 k hk, if_neg (show ¬ nI 3 = 0 by decide), if_neg (show ¬ nI 3 = 1 by decide), if_neg (show ¬ nI 3 = 4 by decide), e6_isLetter (by omega), Option.bind_some, if_pos (show nI 3 = 3 from rfl), nI_1, Option.bind_some]
  cases q_L (s k) <;> rfl
theorem fb_4 (hd : q_pd s n) (h : q_P6 M s n) (hk : k < n) : f_X6_faultOf_b4 M (nI 4, nI k) = if q_D (s k) = true then some (.inr (nI 0, nI (k + 1))) else some (.inl (.inl (nI k))) := by
  have hn := hd.1
  have hc := hd.2 k hk
  unfold f_X6_faultOf_b4
  dsimp only
  rw [h.1, if_neg (nI_ge hk (by omega)), cd_rd_nI (by omega) (by decide), Option.bind_some, h.2 k hk, if_neg (show ¬ nI 4 = 0 by decide), if_neg (show ¬ nI 4 = 1 by decide), if_pos (show nI 4 = 4 from rfl), e6_digit (by omega), Option.bind_some, nI_1, Option.bind_some]
  cases q_D (s k) <;> rfl
end FBODY
/-- where the reading stands: the act's beginning p, the sign k, the state -/
def q_sta (s : Nat → Nat) (n p k st : Nat) : Prop := (st = 0 ∧ k = p) ∨ (st = 1 ∧ k = p + 1 ∧ q_L (q_ch s n p) = true) ∨ (st = 2 ∧ k = p + 2 ∧ q_L (q_ch s n p) = true ∧ q_ch s n (p + 1) = 62) ∨ (st = 3 ∧ k = p + 1 ∧ q_ch s n p = 119) ∨ (st = 4 ∧ k = p + 2 ∧ q_ch s n p = 119 ∧ q_L (q_ch s n (p + 1)) = true)
theorem q_nL46 {c : Nat} (h : q_L c = true) : c ≠ 46 ∧ c ≠ 119 ∧ c ≠ 0 := by
  have := q_L_in h
  omega
theorem e6_faultOf (hd : q_pd s n) (h : q_P6 M s n) : f_X6_faultOf M = some (q_fv (q_flt s n 61 0)) := by
  have hn := hd.1
  obtain ⟨r, h1, h2⟩ := cd_hoare (b := f_X6_faultOf_b4 M) (fun m z => ∃ p k st f, m + k = n ∧ n < f + p ∧ p ≤ k ∧ z = (nI st, nI k) ∧ q_flt s n 61 0 = q_flt s n f p ∧ q_sta s n p k st) (fun r => Sum.elim (fun x => x = q_fv (q_flt s n 61 0)) (fun x => (x = 0 ∧ q_flt s n 61 0 = none) ∨ (¬ x = 0 ∧ q_flt s n 61 0 = some n)) r) (by
    rintro m z ⟨p, k, st, f, hm, hf1, hpk, rfl, hf, hst⟩
    by_cases hk : k < n
    · have hp : p < n := by omega
      obtain ⟨f', rfl⟩ : ∃ q, f = q + 1 := ⟨f - 1, by omega⟩
      have hf0 := hf
      rw [q_flt_in hp] at hf
      have hck : q_ch s n k = s k := q_ch_in hk
      rcases hst with ⟨rfl, rfl⟩ | ⟨rfl, rfl, hL⟩ | ⟨rfl, rfl, hL, h62⟩ | ⟨rfl, rfl, h119⟩ | ⟨rfl, rfl, h119, hL⟩
      · have hb := fb_0 hd h hk
        by_cases hL : q_L (s k) = true
        · rw [if_pos hL] at hb
          exact Or.inr ⟨n - (k + 1), _, by omega, hb, k, k + 1, 1, f' + 1, by omega, by omega, by omega, rfl, hf0, Or.inr (Or.inl ⟨rfl, rfl, by rw [hck]; exact hL⟩)⟩
        · rw [if_neg hL] at hb
          by_cases e119 : s k = 119
          · rw [if_pos e119] at hb
            exact Or.inr ⟨n - (k + 1), _, by omega, hb, k, k + 1, 3, f' + 1, by omega, by omega, by omega, rfl, hf0, Or.inr (Or.inr (Or.inr (Or.inl ⟨rfl, rfl, by rw [hck]; exact e119⟩)))⟩
          · rw [if_neg e119] at hb
            by_cases e46 : s k = 46
            · rw [if_pos e46] at hb
              have hs : q_st s n k = .inr (46, 0, 0, k + 1) := by unfold q_st; rw [hck, if_pos e46]
              rw [hs] at hf
              exact Or.inr ⟨n - (k + 1), _, by omega, hb, k + 1, k + 1, 0, f', by omega, by omega, by omega, rfl, hf, Or.inl ⟨rfl, rfl⟩⟩
            · rw [if_neg e46] at hb
              have hs : q_st s n k = .inl k := by unfold q_st; rw [hck, if_neg e46, if_neg e119, if_neg hL]
              rw [hs] at hf
              exact Or.inl ⟨.inl (nI k), hb, by rw [hf]; rfl⟩
      · have hb := fb_1 hd h hk
        have hnl := q_nL46 hL
        by_cases e62 : s (p + 1) = 62
        · rw [if_pos e62] at hb
          exact Or.inr ⟨n - (p + 2), _, by omega, hb, p, p + 2, 2, f' + 1, by omega, by omega, by omega, rfl, hf0, Or.inr (Or.inr (Or.inl ⟨rfl, rfl, hL, by rw [hck]; exact e62⟩))⟩
        · rw [if_neg e62] at hb
          by_cases ek : s (p + 1) = 42 ∨ s (p + 1) = 45 ∨ s (p + 1) = 33 ∨ s (p + 1) = 94
          · rw [if_pos ek] at hb
            have hs : q_st s n p = .inr (s (p + 1), q_ch s n p - 97, 0, p + 2) := by unfold q_st; rw [if_neg hnl.1, if_neg hnl.2.1, if_pos hL, hck, if_neg e62, if_pos ek]
            rw [hs] at hf
            exact Or.inr ⟨n - (p + 2), _, by omega, hb, p + 2, p + 2, 0, f', by omega, by omega, by omega, rfl, hf, Or.inl ⟨rfl, rfl⟩⟩
          · rw [if_neg ek] at hb
            have hs : q_st s n p = .inl (p + 1) := by unfold q_st; rw [if_neg hnl.1, if_neg hnl.2.1, if_pos hL, hck, if_neg e62, if_neg ek]
            rw [hs] at hf
            exact Or.inl ⟨.inl (nI (p + 1)), hb, by rw [hf]; rfl⟩
      · have hb := fb_2 hd h hk
        have hnl := q_nL46 hL
        by_cases hL2 : q_L (s (p + 2)) = true
        · rw [if_pos hL2] at hb
          have hs : q_st s n p = .inr (62, q_ch s n p - 97, s (p + 2) - 97, p + 3) := by unfold q_st; rw [if_neg hnl.1, if_neg hnl.2.1, if_pos hL, if_pos h62, hck, if_pos hL2]
          rw [hs] at hf
          exact Or.inr ⟨n - (p + 3), _, by omega, hb, p + 3, p + 3, 0, f', by omega, by omega, by omega, rfl, hf, Or.inl ⟨rfl, rfl⟩⟩
        · rw [if_neg hL2] at hb
          have hs : q_st s n p = .inl (p + 2) := by unfold q_st; rw [if_neg hnl.1, if_neg hnl.2.1, if_pos hL, if_pos h62, hck, if_neg hL2]
          rw [hs] at hf
          exact Or.inl ⟨.inl (nI (p + 2)), hb, by rw [hf]; rfl⟩
      · have hb := fb_3 hd h hk
        by_cases hL2 : q_L (s (p + 1)) = true
        · rw [if_pos hL2] at hb
          exact Or.inr ⟨n - (p + 2), _, by omega, hb, p, p + 2, 4, f' + 1, by omega, by omega, by omega, rfl, hf0, Or.inr (Or.inr (Or.inr (Or.inr ⟨rfl, rfl, h119, by rw [hck]; exact hL2⟩)))⟩
        · rw [if_neg hL2] at hb
          have hs : q_st s n p = .inl (p + 1) := by unfold q_st; rw [if_neg (by omega), if_pos h119, hck, if_neg hL2]
          rw [hs] at hf
          exact Or.inl ⟨.inl (nI (p + 1)), hb, by rw [hf]; rfl⟩
      · have hb := fb_4 hd h hk
        by_cases hD : q_D (s (p + 2)) = true
        · rw [if_pos hD] at hb
          have hs : q_st s n p = .inr (119, q_ch s n (p + 1) - 97, s (p + 2) - 48, p + 3) := by unfold q_st; rw [if_neg (by omega), if_pos h119, if_pos hL, hck, if_pos hD]
          rw [hs] at hf
          exact Or.inr ⟨n - (p + 3), _, by omega, hb, p + 3, p + 3, 0, f', by omega, by omega, by omega, rfl, hf, Or.inl ⟨rfl, rfl⟩⟩
        · rw [if_neg hD] at hb
          have hs : q_st s n p = .inl (p + 2) := by unfold q_st; rw [if_neg (by omega), if_pos h119, if_pos hL, hck, if_neg hD]
          rw [hs] at hf
          exact Or.inl ⟨.inl (nI (p + 2)), hb, by rw [hf]; rfl⟩
    · have hkn : k = n := by omega
      have hb : f_X6_faultOf_b4 M (nI st, nI k) = some (Sum.inl (Sum.inr (nI st))) := by
        unfold f_X6_faultOf_b4
        dsimp only
        rw [h.1, if_pos (nI_le (by omega) (by omega))]
      refine Or.inl ⟨.inr (nI st), hb, ?_⟩
      have c0 : ∀ j, n ≤ j → q_ch s n j = 0 := fun j hj => q_ch_out hj
      rcases hst with ⟨rfl, rfl⟩ | ⟨rfl, rfl, hL⟩ | ⟨rfl, rfl, hL, h62⟩ | ⟨rfl, rfl, h119⟩ | ⟨rfl, rfl, h119, hL⟩
      · exact Or.inl ⟨rfl, by rw [hf]; exact q_flt_end (by omega)⟩
      · obtain ⟨f', rfl⟩ : ∃ q, f = q + 1 := ⟨f - 1, by omega⟩
        have hnl := q_nL46 hL
        have hs : q_st s n p = .inl (p + 1) := by unfold q_st; rw [if_neg hnl.1, if_neg hnl.2.1, if_pos hL, c0 (p + 1) (by omega), if_neg (by decide), if_neg (by decide)]
        exact Or.inr ⟨by show ¬ nI 1 = 0; decide, by rw [hf, q_flt_in (by omega), hs, ← hkn]; rfl⟩
      · obtain ⟨f', rfl⟩ : ∃ q, f = q + 1 := ⟨f - 1, by omega⟩
        have hnl := q_nL46 hL
        have hs : q_st s n p = .inl (p + 2) := by unfold q_st; rw [if_neg hnl.1, if_neg hnl.2.1, if_pos hL, if_pos h62, c0 (p + 2) (by omega), if_neg (by decide)]
        exact Or.inr ⟨by show ¬ nI 2 = 0; decide, by rw [hf, q_flt_in (by omega), hs, ← hkn]; rfl⟩
      · obtain ⟨f', rfl⟩ : ∃ q, f = q + 1 := ⟨f - 1, by omega⟩
        have hs : q_st s n p = .inl (p + 1) := by unfold q_st; rw [if_neg (by omega), if_pos h119, c0 (p + 1) (by omega), if_neg (by decide)]
        exact Or.inr ⟨by show ¬ nI 3 = 0; decide, by rw [hf, q_flt_in (by omega), hs, ← hkn]; rfl⟩
      · obtain ⟨f', rfl⟩ : ∃ q, f = q + 1 := ⟨f - 1, by omega⟩
        have hs : q_st s n p = .inl (p + 2) := by unfold q_st; rw [if_neg (by omega), if_pos h119, if_pos hL, c0 (p + 2) (by omega), if_neg (by decide)]
        exact Or.inr ⟨by show ¬ nI 4 = 0; decide, by rw [hf, q_flt_in (by omega), hs, ← hkn]; rfl⟩) cd_N n (nI 0, nI 0) (by have e : cd_N = 20000 := rfl; omega) ⟨0, 0, 0, 61, by omega, by omega, by omega, rfl, rfl, Or.inl ⟨rfl, rfl⟩⟩
  unfold f_X6_faultOf
  rw [show ((0 : Int32), (0 : Int32)) = (nI 0, nI 0) from rfl, h1, Option.bind_some]
  cases r with
  | inl x => rw [← show x = q_fv (q_flt s n 61 0) from h2]; rfl
  | inr x =>
    rcases h2 with ⟨e1, e2⟩ | ⟨e1, e2⟩
    · rw [e2]
      show ((if x = 0 then some (-6 : Int32) else some (M 6 0)).bind fun x24 => some x24) = _
      rw [if_pos e1]; rfl
    · rw [e2]
      show ((if x = 0 then some (-6 : Int32) else some (M 6 0)).bind fun x24 => some x24) = _
      rw [if_neg e1, h.1]; rfl
end FAULT
