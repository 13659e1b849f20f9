/-! the signs, and the fault -/
theorem q_bdp {α β : Type} (a : Option (α × β)) : a.bind (fun r => some (r.1, r.2)) = a := by cases a <;> rfl
def q_ch (s : Nat → Nat) (n p : Nat) : Nat := if p < n then s p else 0
def q_sg (c : Nat) : Int32 := if c = 0 then -1 else nI c
def q_L (c : Nat) : Bool := decide (97 ≤ c ∧ c ≤ 108)
def q_D (c : Nat) : Bool := decide (48 ≤ c ∧ c ≤ 57)
def q_pd (s : Nat → Nat) (n : Nat) : Prop := n ≤ 60 ∧ ∀ i, i < n → 33 ≤ s i ∧ s i ≤ 126
def q_P (P : Nat → Nat → Int32) (s : Nat → Nat) (n : Nat) : Prop := P 1 0 = nI n ∧ ∀ i, i < n → P 0 i = nI (s i)
def q_st (s : Nat → Nat) (n p : Nat) : Nat ⊕ (Nat × Nat × Nat × Nat) :=
  if q_ch s n p = 46 then .inr (46, 0, 0, p + 1)
  else if q_ch s n p = 119 then (if q_L (q_ch s n (p + 1)) = true then (if q_D (q_ch s n (p + 2)) = true then .inr (119, q_ch s n (p + 1) - 97, q_ch s n (p + 2) - 48, p + 3) else .inl (p + 2)) else .inl (p + 1))
  else if q_L (q_ch s n p) = true then (if q_ch s n (p + 1) = 62 then (if q_L (q_ch s n (p + 2)) = true then .inr (62, q_ch s n p - 97, q_ch s n (p + 2) - 97, p + 3) else .inl (p + 2)) else if q_ch s n (p + 1) = 42 ∨ q_ch s n (p + 1) = 45 ∨ q_ch s n (p + 1) = 33 ∨ q_ch s n (p + 1) = 94 then .inr (q_ch s n (p + 1), q_ch s n p - 97, 0, p + 2) else .inl (p + 1))
  else .inl p
theorem q_ch_le {s : Nat → Nat} {n : Nat} (h : q_pd s n) (p : Nat) : q_ch s n p ≤ 126 := by
  unfold q_ch
  split
  · exact (h.2 p (by assumption)).2
  · omega
theorem q_ch_pos {s : Nat → Nat} {n p : Nat} (h : q_ch s n p ≠ 0) : p < n := by
  unfold q_ch at h
  split at h
  · assumption
  · exact absurd rfl h
theorem q_ch_in {s : Nat → Nat} {n p : Nat} (h : p < n) : q_ch s n p = s p := if_pos h
theorem q_ch_out {s : Nat → Nat} {n p : Nat} (h : n ≤ p) : q_ch s n p = 0 := if_neg (by omega)
theorem q_P.fld {P : Nat → Nat → Int32} {s : Nat → Nat} {n : Nat} (h : q_P P s n) {k : Nat} (x : Int32) (hk : 1 < k) : q_P (cd_fld P k x) s n := ⟨by rw [cd_fld_n _ _ (by omega)]; exact h.1, fun i hi => by rw [cd_fld_n _ _ (by omega)]; exact h.2 i hi⟩
theorem q_ne1 {x : Nat} (h : x < 2 ^ 31) : ¬ nI x = -1 := by
  rw [cd_eq, nI_toInt h]
  show ¬ ((x : Int) = -1)
  omega
theorem q_ne6 {x : Nat} (h : x < 2 ^ 31) : ¬ nI x = -6 := by
  rw [cd_eq, nI_toInt h]
  show ¬ ((x : Int) = -6)
  omega
theorem q_sg_in {c a b : Nat} (hc : c ≤ 126) (ha : 0 < a) (ha2 : a ≤ 126) (hb : b ≤ 126) : decide (nI a ≤ q_sg c ∧ q_sg c ≤ nI b) = decide (a ≤ c ∧ c ≤ b) := by
  apply decide_eq_decide.mpr
  unfold q_sg
  by_cases h0 : c = 0
  · rw [if_pos h0]
    constructor
    · intro q
      have := q.1
      rw [cd_le, nI_toInt (by omega)] at this
      have e : (-1 : Int32).toInt = -1 := rfl
      omega
    · intro q
      omega
  · rw [if_neg h0, nI_leI (by omega) (by omega), nI_leI (by omega) (by omega)]
theorem q_sg_eq {c a : Nat} (hc : c ≤ 126) (ha : 0 < a) (ha2 : a ≤ 126) : (q_sg c = nI a) ↔ c = a := by
  unfold q_sg
  by_cases h0 : c = 0
  · rw [if_pos h0]
    constructor
    · intro q
      exact absurd q.symm (q_ne1 (by omega))
    · intro q
      omega
  · rw [if_neg h0, nI_eq (by omega) (by omega)]
def q_lt (c : Nat) : Int32 := if q_L c = true then nI (c - 97) else -1
def q_dg (c : Nat) : Int32 := if q_D c = true then nI (c - 48) else -1
section PARSE
variable {P : Nat → Nat → Int32} {s : Nat → Nat} {n : Nat}
theorem e_signAt (hd : q_pd s n) (h : q_P P s n) {p : Nat} (hp : p ≤ 100) : f_X0_signAt (nI p) P = some (q_sg (q_ch s n p)) := by
  have hn := hd.1
  unfold f_X0_signAt
  rw [q_bdd, if_neg (nI_pos (by omega)), h.1]
  by_cases hl : p < n
  · rw [if_neg (nI_ge hl (by omega)), q_l 60, if_neg (nI_ge (by omega) (by decide)), cd_rd_nI (by omega) (by decide), Option.bind_some, h.2 p hl]
    have := (hd.2 p hl).1
    unfold q_ch q_sg
    rw [if_pos hl, if_neg (by omega)]
  · rw [if_pos (nI_le (by omega) (by omega))]
    unfold q_ch q_sg
    rw [if_neg hl, if_pos rfl]
theorem e_letterAt (hd : q_pd s n) (h : q_P P s n) {p : Nat} (hp : p ≤ 100) : f_X0_letterAt (nI p) P = some (q_lt (q_ch s n p)) := by
  have hc := q_ch_le hd p
  unfold f_X0_letterAt
  rw [e_signAt hd h hp, Option.bind_some, e_within, Option.bind_some, q_bdd, q_l 97, q_l 108, q_sg_in hc (by decide) (by decide) (by decide)]
  unfold q_lt q_L
  by_cases q : 97 ≤ q_ch s n p ∧ q_ch s n p ≤ 108
  · rw [decide_eq_true q, if_neg q_bt, if_pos q_tt]
    unfold q_sg
    rw [if_neg (by omega), pk_sub (by omega)]
  · rw [decide_eq_false q, if_pos q_bf, if_neg q_ft]
theorem e_digitAt (hd : q_pd s n) (h : q_P P s n) {p : Nat} (hp : p ≤ 100) : f_X0_digitAt (nI p) P = some (q_dg (q_ch s n p)) := by
  have hc := q_ch_le hd p
  unfold f_X0_digitAt
  rw [e_signAt hd h hp, Option.bind_some, e_within, Option.bind_some, q_bdd, q_l 48, q_l 57, q_sg_in hc (by decide) (by decide) (by decide)]
  unfold q_dg q_D
  by_cases q : 48 ≤ q_ch s n p ∧ q_ch s n p ≤ 57
  · rw [decide_eq_true q, if_neg q_bt, if_pos q_tt]
    unfold q_sg
    rw [if_neg (by omega), pk_sub (by omega)]
  · rw [decide_eq_false q, if_pos q_bf, if_neg q_ft]
theorem q_lt_m1 {c : Nat} (hc : c ≤ 126) : (q_lt c = -1) ↔ q_L c = false := by
  unfold q_lt
  cases h : q_L c
  · rw [if_neg q_ft]
    exact ⟨fun _ => rfl, fun _ => rfl⟩
  · rw [if_pos q_tt]
    exact ⟨fun q => absurd q (q_ne1 (by omega)), fun q => absurd q (by decide)⟩
theorem q_dg_m1 {c : Nat} (hc : c ≤ 126) : (q_dg c = -1) ↔ q_D c = false := by
  unfold q_dg
  cases h : q_D c
  · rw [if_neg q_ft]
    exact ⟨fun _ => rfl, fun _ => rfl⟩
  · rw [if_pos q_tt]
    exact ⟨fun q => absurd q (q_ne1 (by omega)), fun q => absurd q (by decide)⟩
/-- what reading an act leaves -/
def q_read (P P' : Nat → Nat → Int32) (v : Int32) (r : Nat ⊕ (Nat × Nat × Nat × Nat)) : Prop := (P' 0 = P 0 ∧ P' 1 = P 1) ∧ match r with
  | .inl x => v = nI x
  | .inr (k, a, b, p') => v = -6 ∧ P' 2 0 = nI k ∧ P' 3 0 = nI a ∧ P' 4 0 = nI b ∧ P' 5 0 = nI p'
theorem q_nIp2 (p : Nat) : nI p + 2 = nI (p + 2) := by rw [q_l 2, nI_add]
theorem q_nIp3 (p : Nat) : nI p + 3 = nI (p + 3) := by rw [q_l 3, nI_add]
theorem e_readAct (hd : q_pd s n) (h : q_P P s n) {p : Nat} (hp : p ≤ 60) : ∃ v P', f_X0_readAct (nI p) P = some (v, P') ∧ q_read P P' v (q_st s n p) := by
  have c0 := q_ch_le hd p
  have c1 := q_ch_le hd (p + 1)
  have c2 := q_ch_le hd (p + 2)
  unfold f_X0_readAct q_st
  rw [e_signAt hd h (by omega), Option.bind_some, q_l 46, q_l 119, nI_1]
  generalize hP1 : cd_fld (cd_fld (cd_fld (cd_fld P 2 (q_sg (q_ch s n p))) 3 0) 4 0) 5 (nI (p + 1)) = P1
  have r0 : P1 0 = P 0 ∧ P1 1 = P 1 := by
    subst hP1
    exact ⟨by rw [cd_fld_n _ _ (by decide), cd_fld_n _ _ (by decide), cd_fld_n _ _ (by decide), cd_fld_n _ _ (by decide)], by rw [cd_fld_n _ _ (by decide), cd_fld_n _ _ (by decide), cd_fld_n _ _ (by decide), cd_fld_n _ _ (by decide)]⟩
  have h1 : q_P P1 s n := ⟨by rw [r0.2]; exact h.1, fun i hi => by rw [r0.1]; exact h.2 i hi⟩
  by_cases e46 : q_ch s n p = 46
  · rw [if_pos ((q_sg_eq c0 (by decide) (by decide)).mpr e46), if_pos e46]
    refine ⟨-6, P1, rfl, r0, rfl, ?_⟩
    subst hP1
    rw [e46]
    exact ⟨rfl, rfl, rfl, rfl⟩
  · rw [if_neg (fun q => e46 ((q_sg_eq c0 (by decide) (by decide)).mp q)), if_neg e46]
    by_cases e119 : q_ch s n p = 119
    · rw [if_pos ((q_sg_eq c0 (by decide) (by decide)).mpr e119), if_pos e119, q_bdp]
      unfold f_X0_readDraught
      rw [nI_1, q_nIp2, q_nIp3, e_letterAt hd h1 (by omega), Option.bind_some, e_digitAt hd (h1.fld _ (by decide)) (by omega), Option.bind_some]
      have rr : ∀ (x y z : Int32), (cd_fld (cd_fld (cd_fld P1 3 x) 4 y) 5 z) 0 = P 0 ∧ (cd_fld (cd_fld (cd_fld P1 3 x) 4 y) 5 z) 1 = P 1 := fun x y z => ⟨by rw [cd_fld_n _ _ (by decide), cd_fld_n _ _ (by decide), cd_fld_n _ _ (by decide)]; exact r0.1, by rw [cd_fld_n _ _ (by decide), cd_fld_n _ _ (by decide), cd_fld_n _ _ (by decide)]; exact r0.2⟩
      cases hL : q_L (q_ch s n (p + 1))
      · rw [if_pos ((q_lt_m1 c1).mpr hL), if_neg q_ft]
        exact ⟨_, _, rfl, rr _ _ _, rfl⟩
      · rw [if_neg (fun q => absurd ((q_lt_m1 c1).mp q) (by rw [hL]; decide)), if_pos q_tt]
        cases hD : q_D (q_ch s n (p + 2))
        · rw [if_pos ((q_dg_m1 c2).mpr hD), if_neg q_ft]
          exact ⟨_, _, rfl, rr _ _ _, rfl⟩
        · rw [if_neg (fun q => absurd ((q_dg_m1 c2).mp q) (by rw [hD]; decide)), if_pos q_tt]
          refine ⟨_, _, rfl, rr _ _ _, rfl, ?_, ?_, ?_, ?_⟩
          · rw [cd_fld_n _ _ (by decide), cd_fld_n _ _ (by decide), cd_fld_n _ _ (by decide)]
            subst hP1
            rw [e119]
            rfl
          · rw [cd_fld_n _ _ (by decide), cd_fld_n _ _ (by decide), cd_fld_s]
            unfold q_lt
            rw [hL, if_pos q_tt]
          · rw [cd_fld_n _ _ (by decide), cd_fld_s]
            unfold q_dg
            rw [hD, if_pos q_tt]
          · rw [cd_fld_s]
    · rw [if_neg (fun q => e119 ((q_sg_eq c0 (by decide) (by decide)).mp q)), if_neg e119, q_bdp]
      unfold f_X0_readOfCandle
      rw [nI_1, q_nIp2, q_nIp3, e_letterAt hd h1 (by omega), Option.bind_some, e_signAt hd (h1.fld _ (by decide)) (by omega), Option.bind_some, e_letterAt hd (((h1.fld _ (by decide)).fld _ (by decide)).fld _ (by decide)) (by omega), Option.bind_some, q_l 62, q_l 42, q_l 45, q_l 33, q_l 94]
      have rr : ∀ (x y z : Int32), (cd_fld (cd_fld (cd_fld P1 3 x) 2 y) 5 z) 0 = P 0 ∧ (cd_fld (cd_fld (cd_fld P1 3 x) 2 y) 5 z) 1 = P 1 := fun x y z => ⟨by rw [cd_fld_n _ _ (by decide), cd_fld_n _ _ (by decide), cd_fld_n _ _ (by decide)]; exact r0.1, by rw [cd_fld_n _ _ (by decide), cd_fld_n _ _ (by decide), cd_fld_n _ _ (by decide)]; exact r0.2⟩
      have rr2 : ∀ (x y z u w : Int32), (cd_fld (cd_fld (cd_fld (cd_fld (cd_fld P1 3 x) 2 y) 5 z) 4 u) 5 w) 0 = P 0 ∧ (cd_fld (cd_fld (cd_fld (cd_fld (cd_fld P1 3 x) 2 y) 5 z) 4 u) 5 w) 1 = P 1 := fun x y z u w => ⟨by rw [cd_fld_n _ _ (by decide), cd_fld_n _ _ (by decide)]; exact (rr x y z).1, by rw [cd_fld_n _ _ (by decide), cd_fld_n _ _ (by decide)]; exact (rr x y z).2⟩
      cases hL : q_L (q_ch s n p)
      · rw [if_pos ((q_lt_m1 c0).mpr hL), if_neg q_ft]
        exact ⟨_, _, rfl, rr _ _ _, rfl⟩
      · rw [if_neg (fun q => absurd ((q_lt_m1 c0).mp q) (by rw [hL]; decide)), if_pos q_tt]
        have sq : ∀ a, 0 < a → a ≤ 126 → (q_sg (q_ch s n (p + 1)) = nI a ↔ q_ch s n (p + 1) = a) := fun a ha hb => q_sg_eq c1 ha hb
        have f2 : ∀ (x y z : Int32), (cd_fld (cd_fld (cd_fld P1 3 x) 2 y) 5 z) 2 0 = y := fun x y z => by rw [cd_fld_n _ _ (by decide), cd_fld_s]
        have f3 : ∀ (x y z : Int32), (cd_fld (cd_fld (cd_fld P1 3 x) 2 y) 5 z) 3 0 = x := fun x y z => by rw [cd_fld_n _ _ (by decide), cd_fld_n _ _ (by decide), cd_fld_s]
        have f4 : ∀ (x y z : Int32), (cd_fld (cd_fld (cd_fld P1 3 x) 2 y) 5 z) 4 0 = 0 := fun x y z => by
          rw [cd_fld_n _ _ (by decide), cd_fld_n _ _ (by decide), cd_fld_n _ _ (by decide)]
          subst hP1
          rfl
        have f5 : ∀ (x y z : Int32), (cd_fld (cd_fld (cd_fld P1 3 x) 2 y) 5 z) 5 0 = z := fun x y z => by rw [cd_fld_s]
        have hlt : q_lt (q_ch s n p) = nI (q_ch s n p - 97) := by unfold q_lt; rw [hL, if_pos q_tt]
        by_cases e62 : q_ch s n (p + 1) = 62
        · rw [if_pos ((sq 62 (by decide) (by decide)).mpr e62), if_pos e62]
          cases hL2 : q_L (q_ch s n (p + 2))
          · rw [if_pos ((q_lt_m1 c2).mpr hL2), if_neg q_ft]
            exact ⟨_, _, rfl, rr2 _ _ _ _ _, rfl⟩
          · rw [if_neg (fun q => absurd ((q_lt_m1 c2).mp q) (by rw [hL2]; decide)), if_pos q_tt]
            refine ⟨_, _, rfl, rr2 _ _ _ _ _, rfl, ?_, ?_, ?_, ?_⟩
            · rw [cd_fld_n _ _ (by decide), cd_fld_n _ _ (by decide), f2, e62]; rfl
            · rw [cd_fld_n _ _ (by decide), cd_fld_n _ _ (by decide), f3, hlt]
            · rw [cd_fld_n _ _ (by decide), cd_fld_s]
              unfold q_lt
              rw [hL2, if_pos q_tt]
            · rw [cd_fld_s]
        · rw [if_neg (fun q => e62 ((sq 62 (by decide) (by decide)).mp q)), if_neg e62]
          have hsg : q_ch s n (p + 1) ≠ 0 → q_sg (q_ch s n (p + 1)) = nI (q_ch s n (p + 1)) := fun q => by unfold q_sg; rw [if_neg q]
          by_cases e42 : q_ch s n (p + 1) = 42
          · rw [if_pos ((sq 42 (by decide) (by decide)).mpr e42), if_pos (Or.inl e42)]
            exact ⟨_, _, rfl, rr _ _ _, rfl, by rw [f2, hsg (by omega)], by rw [f3, hlt], by rw [f4]; rfl, by rw [f5]⟩
          · rw [if_neg (fun q => e42 ((sq 42 (by decide) (by decide)).mp q))]
            by_cases e45 : q_ch s n (p + 1) = 45
            · rw [if_pos ((sq 45 (by decide) (by decide)).mpr e45), if_pos (Or.inr (Or.inl e45))]
              exact ⟨_, _, rfl, rr _ _ _, rfl, by rw [f2, hsg (by omega)], by rw [f3, hlt], by rw [f4]; rfl, by rw [f5]⟩
            · rw [if_neg (fun q => e45 ((sq 45 (by decide) (by decide)).mp q))]
              by_cases e33 : q_ch s n (p + 1) = 33
              · rw [if_pos ((sq 33 (by decide) (by decide)).mpr e33), if_pos (Or.inr (Or.inr (Or.inl e33)))]
                exact ⟨_, _, rfl, rr _ _ _, rfl, by rw [f2, hsg (by omega)], by rw [f3, hlt], by rw [f4]; rfl, by rw [f5]⟩
              · rw [if_neg (fun q => e33 ((sq 33 (by decide) (by decide)).mp q))]
                by_cases e94 : q_ch s n (p + 1) = 94
                · rw [if_pos ((sq 94 (by decide) (by decide)).mpr e94), if_pos (Or.inr (Or.inr (Or.inr e94)))]
                  exact ⟨_, _, rfl, rr _ _ _, rfl, by rw [f2, hsg (by omega)], by rw [f3, hlt], by rw [f4]; rfl, by rw [f5]⟩
                · rw [if_neg (fun q => e94 ((sq 94 (by decide) (by decide)).mp q)), if_neg (by omega)]
                  exact ⟨_, _, rfl, rr _ _ _, rfl⟩
end PARSE
