/-! a night: both sides against one run -/
def q_nt (s : Nat → Nat) (n : Nat) : Nat → Nat → (Nat → Nat → Nat) × Nat × Nat × Option (Nat × Nat) → Nat × ((Nat → Nat → Nat) × Nat × Nat × Option (Nat × Nat))
  | 0, _, x => (0, x)
  | f + 1, p, x => if p < n then Sum.elim (fun _ => (0, x)) (fun r => if q_why r.1 r.2.1 r.2.2.1 x.1 = 0 then q_nt s n f r.2.2.2 (q_do r.1 r.2.1 r.2.2.1 x.1, x.2.1 + 1, x.2.2.1 + q_pay r.1 r.2.1 x.1, q_on x.2.2.2 x.2.1 (q_go r.1 x.1)) else (q_why r.1 r.2.1 r.2.2.1 x.1, x)) (q_st s n p) else (0, x)
theorem q_nt_in {s : Nat → Nat} {n f p k a b p' : Nat} {x : (Nat → Nat → Nat) × Nat × Nat × Option (Nat × Nat)} (hp : p < n) (hs : q_st s n p = .inr (k, a, b, p')) : q_nt s n (f + 1) p x = if q_why k a b x.1 = 0 then q_nt s n f p' (q_do k a b x.1, x.2.1 + 1, x.2.2.1 + q_pay k a x.1, q_on x.2.2.2 x.2.1 (q_go k x.1)) else (q_why k a b x.1, x) := by
  show (if p < n then _ else _) = _
  rw [if_pos hp, hs]
  rfl
theorem q_nt_end {s : Nat → Nat} {n f p : Nat} {x : (Nat → Nat → Nat) × Nat × Nat × Option (Nat × Nat)} (hp : n ≤ p) : q_nt s n f p x = (0, x) := by
  cases f with
  | zero => rfl
  | succ f => show (if p < n then _ else _) = _; rw [if_neg (by omega)]
/-- what an out-time may be -/
def q_oo (o : Option (Nat × Nat)) (acts : Nat) : Prop := ∀ x, o = some x → x.1 < acts
theorem q_on_oo {o : Option (Nat × Nat)} {acts : Nat} (h : q_oo o acts) (go : Nat) : q_oo (q_on o acts go) (acts + 1) := by
  intro x hx
  cases o with
  | some yy =>
    have e : yy = x := Option.some.inj hx
    have := h x (by rw [e])
    omega
  | none =>
    unfold q_on at hx
    dsimp only at hx
    cases hl : q_low go with
    | none => rw [hl] at hx; cases hx
    | some c => rw [hl] at hx; cases hx; show acts < acts + 1; omega
section NIGHTX
variable {P Y S T M : Nat → Nat → Int32} {s : Nat → Nat} {n : Nat} {g0 : Nat → Nat → Nat}
theorem q_flt_none {s : Nat → Nat} {n f p : Nat} (hp : p < n) (h : q_flt s n (f + 1) p = none) : ∃ k a b p', q_st s n p = .inr (k, a, b, p') ∧ q_flt s n f p' = none := by
  rw [q_flt_in hp] at h
  cases hs : q_st s n p with
  | inl x => rw [hs] at h; cases h
  | inr r => obtain ⟨k, a, b, p'⟩ := r; rw [hs] at h; exact ⟨k, a, b, p', rfl, h⟩
/-- the end of a night -/
theorem e_night (hd : q_pd s n) (hP : q_P P s n) (hT : q_T T g0) (hg : q_ok g0) (hnf : q_flt s n 61 0 = none) :
    ∃ w g acts paid o Y' S' P', q_nt s n 61 0 (g0, 0, 0, none) = (w, g, acts, paid, o) ∧ q_ok g ∧ acts ≤ 60 ∧ w < 100 ∧ f_X1_night Y S T P = some (if w = 0 then 1 else 0, Y', S', P') ∧ q_Y Y' acts paid o ∧ q_T S' g ∧ (w ≠ 0 → Y' 2 0 = nI w) ∧ P' 0 = P 0 ∧ P' 1 = P 1 := by
  have hn := hd.1
  obtain ⟨S1, c1, c2⟩ := e_copyFrom hT S
  have hb0 : f_X1_begin Y S T = some (cd_fld (cd_fld (cd_fld (cd_fld (cd_fld Y 1 0) 2 0) 3 0) 4 (-6)) 5 (-6), S1) := by
    unfold f_X1_begin
    rw [c1, Option.bind_some]
  obtain ⟨r, h1, h2⟩ := cd_hoare (b := f_X1_night_b10) (fun m z => ∃ p act g paid o Y1 S2 P1, m + p = n ∧ act ≤ p ∧ z = (nI p, nI act, Y1, S2, P1) ∧ (P1 0 = P 0 ∧ P1 1 = P 1) ∧ q_Y Y1 act paid o ∧ q_T S2 g ∧ q_ok g ∧ q_oo o act ∧ q_flt s n (61 - act) p = none ∧ q_nt s n 61 0 (g0, 0, 0, none) = q_nt s n (61 - act) p (g, act, paid, o))
    (fun r => ∃ w g acts paid o, q_nt s n 61 0 (g0, 0, 0, none) = (w, g, acts, paid, o) ∧ q_ok g ∧ acts ≤ 60 ∧ w < 100 ∧ Sum.elim (fun x => w ≠ 0 ∧ x.1 = 0 ∧ q_Y x.2.1 acts paid o ∧ q_T x.2.2.1 g ∧ x.2.1 2 0 = nI w ∧ x.2.2.2 0 = P 0 ∧ x.2.2.2 1 = P 1) (fun x => w = 0 ∧ q_Y x.1 acts paid o ∧ q_T x.2.1 g ∧ x.2.2 0 = P 0 ∧ x.2.2 1 = P 1) r) (by
    rintro m z ⟨p, act, g, paid, o, Y1, S2, P1, hm, ha, rfl, hr, hY, hS, hok, hoo, hfl, hnt⟩
    have hP1 : q_P P1 s n := ⟨by rw [hr.2]; exact hP.1, fun i hi => by rw [hr.1]; exact hP.2 i hi⟩
    by_cases hp : p < n
    · rw [show 61 - act = (60 - act) + 1 by omega] at hfl hnt
      obtain ⟨k, a, b, p', hs, hfl'⟩ := q_flt_none hp hfl
      obtain ⟨hpp, hpn, hv⟩ := q_st_ok hp hs
      rw [q_nt_in hp hs] at hnt
      obtain ⟨v, P2, e1, e2, e3⟩ := e_readAct hd hP1 (p := p) (by omega)
      rw [hs] at e3
      obtain ⟨f1, f2, f3, f4, f5⟩ := e3
      have hr2 : P2 0 = P 0 ∧ P2 1 = P 1 := ⟨e2.1.trans hr.1, e2.2.trans hr.2⟩
      obtain ⟨Y2, S3, a1, a2, a3⟩ := e_attempt (b := b) hv hS hok hY (fun x hx => by have := hoo x hx; omega)
      have hbody : f_X1_night_b10 (nI p, nI act, Y1, S2, P1) = if q_why k a b g = 0 then some (Sum.inr (nI p', nI (act + 1), Y2, S3, P2)) else some (Sum.inl (Sum.inl (0, Y2, S3, P2))) := by
        unfold f_X1_night_b10
        simp only [hP1.1]
        rw [q_l 60, if_neg (nI_ge (show act < 60 by omega) (by decide)), if_neg (nI_ge hp (by omega)), e1, Option.bind_some]
        simp only [f1, f2, f3, f4, f5, a1, Option.bind_some, if_true, nI_1]
        by_cases hw : q_why k a b g = 0
        · rw [if_pos hw, if_pos hw, if_neg (by decide)]
        · rw [if_neg hw, if_neg hw, if_pos rfl]
      by_cases hw : q_why k a b g = 0
      · rw [if_pos hw] at hbody hnt
        obtain ⟨s1, s2⟩ := a3 hw
        refine Or.inr ⟨n - p', _, by omega, hbody, p', act + 1, q_do k a b g, paid + q_pay k a g, q_on o act (q_go k g), Y2, S3, P2, by omega, by omega, rfl, hr2, s2, s1, q_do_ok hv hok hw, q_on_oo hoo _, ?_, ?_⟩
        · rw [show 61 - (act + 1) = 60 - act by omega]; exact hfl'
        · rw [show 61 - (act + 1) = 60 - act by omega]; exact hnt
      · rw [if_neg hw] at hbody hnt
        obtain ⟨s1, s2, s3⟩ := a2 hw
        refine Or.inl ⟨_, hbody, q_why k a b g, g, act, paid, o, hnt, hok, by omega, ?_, hw, rfl, s2, by rw [s1]; exact hS, s3, hr2⟩
        unfold q_why q_why1 q_why2 q_why3 q_why4 q_why5 q_why6 q_why7
        repeat (first | omega | split)
    · rw [q_nt_end (f := 61 - act) (p := p) (by omega)] at hnt
      refine Or.inl ⟨Sum.inr (Y1, S2, P1), ?_, 0, g, act, paid, o, hnt, hok, by omega, by decide, rfl, hY, hS, hr⟩
      unfold f_X1_night_b10
      simp only [hP1.1]
      rw [q_l 60]
      by_cases h60 : act < 60
      · rw [if_neg (nI_ge h60 (by decide)), if_pos (nI_le (by omega) (by omega))]
      · rw [if_pos (nI_le (by omega) (by omega))]) cd_N n (nI 0, nI 0, cd_fld (cd_fld (cd_fld (cd_fld (cd_fld Y 1 0) 2 0) 3 0) 4 (-6)) 5 (-6), S1, P) (by have e : cd_N = 20000 := rfl; omega) ⟨0, 0, g0, 0, none, _, _, P, by omega, by omega, rfl, ⟨rfl, rfl⟩, ⟨rfl, rfl, rfl, rfl⟩, c2, hg, (fun x hx => by cases hx), hnf, rfl⟩
  have h1' : cd_iter cd_N f_X1_night_b10 ((0 : Int32), (0 : Int32), cd_fld (cd_fld (cd_fld (cd_fld (cd_fld Y 1 0) 2 0) 3 0) 4 (-6)) 5 (-6), S1, P) = some r := h1
  obtain ⟨w, g, acts, paid, o, k1, k2, k3, k4, k5⟩ := h2
  cases r with
  | inl x =>
    obtain ⟨j1, j2, j3, j4, j5, j6, j7⟩ := k5
    refine ⟨w, g, acts, paid, o, x.2.1, x.2.2.1, x.2.2.2, k1, k2, k3, k4, ?_, j3, j4, fun _ => j5, j6, j7⟩
    unfold f_X1_night
    rw [hb0, Option.bind_some]
    dsimp only
    rw [h1', Option.bind_some, if_neg j1]
    show some x = _
    rw [← show x.1 = 0 from j2]
  | inr x =>
    obtain ⟨j1, j3, j4, j6, j7⟩ := k5
    refine ⟨w, g, acts, paid, o, x.1, x.2.1, x.2.2, k1, k2, k3, k4, ?_, j3, j4, fun q => absurd j1 q, j6, j7⟩
    unfold f_X1_night
    rw [hb0, Option.bind_some]
    dsimp only
    rw [h1', Option.bind_some, if_pos j1]
    rfl
end NIGHTX
