/-! sneezes: what fits, and the class's spans -/
def z_bu (g : Nat → Nat → Nat) (c : Nat) : Nat := q_burn g c (g 1 c)
def z_re (w d c : Nat) : Bool := decide (c ≤ w + d) && decide (w ≤ c + d)
def z_mi (w t d c : Nat) : Nat := if z_re w d c = true then t else 60
def z_lo (g : Nat → Nat → Nat) (w t d c : Nat) : Nat := min (g 0 c) (z_bu g c * z_mi w t d c)
def z_bad (g : Nat → Nat → Nat) (w t d k : Nat) : Nat := q_cnt (fun i => !decide (z_lo g w t d (g 8 i) = g 9 i)) k
def z_ok (g : Nat → Nat → Nat) (w t d : Nat) : Bool := decide (z_bad g w t d (g 10 0) = 0)
def z_ear (g : Nat → Nat → Nat) (c L : Nat) : Nat := if L = g 0 c then q_last g c else if L < g 0 c ∧ L % z_bu g c = 0 then L / z_bu g c else 61
def z_lat (g : Nat → Nat → Nat) (c L : Nat) : Nat := if L = g 0 c then 60 else z_ear g c L
theorem z_bu_pos (g : Nat → Nat → Nat) (c : Nat) : 0 < z_bu g c := q_burn_pos g c _
theorem q_ceil {a b t : Nat} (hb : 0 < b) : (a + b - 1) / b ≤ t ↔ a ≤ b * t := by
  rw [← Nat.lt_succ_iff, Nat.div_lt_iff_lt_mul hb, Nat.succ_mul, Nat.mul_comm t b]
  omega
theorem z_pr (g : Nat → Nat → Nat) (c L : Nat) {m : Nat} (hm : m ≤ 60) : min (g 0 c) (z_bu g c * m) = L ↔ z_ear g c L ≤ m ∧ m ≤ z_lat g c L := by
  have hb := z_bu_pos g c
  unfold z_lat z_ear
  by_cases h : L = g 0 c
  · rw [if_pos h, if_pos h, h]
    have q : q_last g c ≤ m ↔ g 0 c ≤ z_bu g c * m := q_ceil hb
    rw [q]
    omega
  · rw [if_neg h, if_neg h]
    by_cases h2 : L < g 0 c ∧ L % z_bu g c = 0
    · rw [if_pos h2]
      have e := Nat.div_add_mod L (z_bu g c)
      rw [h2.2, Nat.add_zero] at e
      constructor
      · intro q
        have q1 : z_bu g c * m = L := by omega
        have q2 : L / z_bu g c = m := by rw [← q1, Nat.mul_div_cancel_left _ hb]
        omega
      · intro q
        have q1 : m = L / z_bu g c := by omega
        rw [q1, e]; omega
    · rw [if_neg h2]
      constructor
      · intro q
        have q1 : z_bu g c * m = L := by omega
        exact absurd ⟨by omega, by rw [← q1, Nat.mul_mod_right]⟩ h2
      · intro q; omega
theorem z_ear_le {g : Nat → Nat → Nat} (hg : q_ok g) {c L : Nat} (hc : c < 12) (hL : L ≤ 999) : z_ear g c L ≤ 999 := by
  unfold z_ear
  split
  · exact q_lasts_le hg hc (g 1 c)
  · split
    · exact Nat.le_trans (Nat.div_le_self _ _) hL
    · omega
def z_m1 (a : Nat) : Int32 := nI a - nI 1
theorem z_m1_toInt {a : Nat} (h : a < 2 ^ 30) : (z_m1 a).toInt = (a : Int) - 1 := pk_sub_toInt h (by decide)
theorem z_m1_s (a : Nat) : z_m1 (a + 1) = nI a := by unfold z_m1; rw [pk_sub (by omega)]; rfl
theorem z_m1_1 (a : Nat) : z_m1 a + 1 = nI a := by
  unfold z_m1
  rw [show nI 1 = (1 : Int32) from rfl, Int32.sub_add_cancel]
theorem z_m1_min {a b : Nat} (ha : a < 2 ^ 29) (hb : b < 2 ^ 29) : cd_min (z_m1 a) (nI b) = z_m1 (min a (b + 1)) := by
  unfold cd_min
  by_cases h : b + 1 < a
  · rw [if_pos (by rw [cd_lt, nI_toInt (by omega), z_m1_toInt (by omega)]; omega), Nat.min_eq_right (by omega), z_m1_s]
  · rw [if_neg (by rw [cd_lt, nI_toInt (by omega), z_m1_toInt (by omega)]; omega), Nat.min_eq_left (by omega)]
section FIT
variable {T Z : Nat → Nat → Int32} {g : Nat → Nat → Nat}
theorem e_cnt {a b : Nat} (ha : a < 2 ^ 30) (hb : b < 2 ^ 30) : cd_max (0 : Int32) ((z_m1 a - nI b) + (1 : Int32)) = nI (a - b) := by
  rw [← q_max0 ha hb]
  congr 1
  apply Int32.toInt_inj.mp
  have h1 : (z_m1 a - nI b) + (1 : Int32) = nI a - nI b := by
    rw [← z_m1_1 a, Int32.sub_eq_add_neg, Int32.sub_eq_add_neg, Int32.add_assoc, Int32.add_comm (-nI b), ← Int32.add_assoc]
  rw [h1]
theorem e_countOf {s b e : Nat} (hs : s < 48) (h0 : Z 0 s = nI b) (h1 : Z 1 s = z_m1 e) (hb : b ≤ 999) (he : e ≤ 61) : f_X2_countOf (nI s) Z = some (nI (e - b)) := by
  unfold f_X2_countOf
  rw [cd_rd_nI hs (by decide), Option.bind_some, cd_rd_nI hs (by decide), Option.bind_some, h0, h1, e_cnt (by omega) (by omega)]
theorem e_reaches {s c : Nat} (hs : s < 48) (hc : c < 12) : f_X2_reaches (nI s) (nI c) = some (q_bi (z_re (s / 4) (s % 4) c)) := by
  unfold f_X2_reaches z_re
  rw [show nI s / (4 : Int32) = nI (s / 4) from pk_div (d := 4) (by omega) (by decide) (by decide), show nI s - nI (s / 4) * (4 : Int32) = nI (s % 4) from (by rw [← pk_rem (a := s) (d := 4) (by omega) (by decide) (by decide), pk_div (a := s) (d := 4) (by omega) (by decide) (by decide)]; rfl)]
  have hw : s / 4 < 12 := by omega
  have habs : cd_abs (nI c - nI (s / 4)) = nI (c - s / 4 + (s / 4 - c)) := by
    unfold cd_abs
    rcases Nat.le_total (s / 4) c with h | h
    · rw [pk_sub h, if_pos (nI_pos' (by omega)), show s / 4 - c = 0 by omega, Nat.add_zero]
    · by_cases e : c = s / 4
      · rw [← e, pk_sub (Nat.le_refl _), if_pos (nI_pos' (by omega)), Nat.sub_self]
      · rw [if_neg (by rw [cd_le, pk_sub_toInt (by omega) (by omega)]; show ¬ (0 : Int) ≤ _; omega)]
        apply Int32.toInt_inj.mp
        rw [show (0 : Int32) - (nI c - nI (s / 4)) = nI (s / 4) - nI c by rw [Int32.zero_sub, Int32.neg_sub], pk_sub h, show c - s / 4 = 0 by omega, Nat.zero_add]
  rw [habs]
  by_cases h : c ≤ s / 4 + s % 4 ∧ s / 4 ≤ c + s % 4
  · rw [if_neg (nI_nlt (by omega) (by omega)), decide_eq_true h.1, decide_eq_true h.2]; rfl
  · rw [if_pos (nI_lt (by omega) (by omega))]
    by_cases h1 : c ≤ s / 4 + s % 4
    · rw [decide_eq_true h1, decide_eq_false (by omega)]; rfl
    · rw [decide_eq_false h1]; rfl
theorem e_earliest (hT : q_T T g) (hg : q_ok g) {c L : Nat} (hc : c < 12) (hL : L ≤ 999) : f_X2_earliestFor (nI c) (nI L) T = some (nI (z_ear g c L)) := by
  have h0 := hg 0 c (by decide) hc
  have e0 : q_bd 0 = 999 := rfl
  have hb := z_bu_pos g c
  have hb10 : z_bu g c ≤ 10 := q_burn_le hg hc _
  unfold f_X2_earliestFor z_ear
  rw [hT.rd 0 12 (by decide) rfl hc, Option.bind_some]
  by_cases h : L = g 0 c
  · rw [if_pos h, if_pos (by rw [h]), e_minutesLeft hT hg hc]; rfl
  · rw [if_neg h, if_neg (fun q => h ((nI_eq (by omega) (by omega)).mp q)), e_burnOf hT hg hc, Option.bind_some, Option.bind_some]
    by_cases h2 : g 0 c ≤ L
    · rw [if_pos (nI_le h2 (by omega)), if_neg (by omega)]; rfl
    · rw [if_neg (nI_ge (by omega) (by omega)), show nI (q_burn g c (g 1 c)) = nI (z_bu g c) from rfl, cd_nz_nI hb (by omega), Option.bind_some, pk_rem (by omega) hb (by omega), Option.bind_some, pk_div (by omega) hb (by omega)]
      by_cases h3 : L % z_bu g c = 0
      · rw [if_pos (by rw [h3]; rfl), if_pos ⟨by omega, h3⟩]; rfl
      · rw [if_neg (nI_ne0 (by omega) (Nat.lt_of_le_of_lt (Nat.mod_le _ _) (by omega))), if_neg (fun q => h3 q.2)]; rfl
/-- a span stands: what it holds -/
def z_sp (Z : Nat → Nat → Int32) (g : Nat → Nat → Nat) (s k b e : Nat) : Prop := Z 0 s = nI b ∧ Z 1 s = z_m1 e ∧ b ≤ 999 ∧ e ≤ 61 ∧ ∀ t, t ≤ 60 → ((b ≤ t ∧ t < e) ↔ z_bad g (s / 4) t (s % 4) k = 0)
theorem z_bad_s (g : Nat → Nat → Nat) (w t d k : Nat) : z_bad g w t d (k + 1) = 0 ↔ z_bad g w t d k = 0 ∧ z_lo g w t d (g 8 k) = g 9 k := by
  have e : z_bad g w t d (k + 1) = z_bad g w t d k + (if (!decide (z_lo g w t d (g 8 k) = g 9 k)) = true then 1 else 0) := rfl
  rw [e]
  by_cases h : z_lo g w t d (g 8 k) = g 9 k
  · rw [decide_eq_true h, show (!true) = false from rfl, if_neg q_ft]
    exact ⟨fun q => ⟨q, h⟩, fun q => q.1⟩
  · rw [decide_eq_false h, show (!false) = true from rfl, if_pos rfl]
    exact ⟨fun q => by omega, fun q => absurd q.2 h⟩
theorem e_narrow (hT : q_T T g) (hg : q_ok g) {s k b e : Nat} (hs : s < 48) (hk : k < 8) (h : z_sp Z g s k b e) : ∃ Z' b' e', f_X2_narrow (nI s) (nI (g 8 k)) (nI (g 9 k)) Z T = some Z' ∧ z_sp Z' g s (k + 1) b' e' ∧ (∀ j, j ≠ s → Z' 0 j = Z 0 j ∧ Z' 1 j = Z 1 j) := by
  have hc : g 8 k < 12 := by
    have h1 := hg 8 k (by decide) hk
    have h2 : q_bd 8 = 11 := rfl
    omega
  have hL : g 9 k ≤ 999 := hg 9 k (by decide) hk
  have h0 : g 0 (g 8 k) ≤ 999 := hg 0 _ (by decide) hc
  have hear := z_ear_le hg hc hL
  have hlat : z_lat g (g 8 k) (g 9 k) ≤ 999 := by unfold z_lat; split <;> omega
  obtain ⟨z0, z1, zb, ze, zt⟩ := h
  have x34 : ((if nI (g 9 k) = nI (g 0 (g 8 k)) then some (1 : Int32) else some (0 : Int32)).bind (fun (x3 : Int32) => ((if x3 = 0 then some (nI (z_ear g (g 8 k) (g 9 k))) else some (60 : Int32))))) = some (nI (z_lat g (g 8 k) (g 9 k))) := by
    unfold z_lat
    by_cases e : g 9 k = g 0 (g 8 k)
    · rw [if_pos e, if_pos (by rw [e])]; rfl
    · rw [if_neg e, if_neg (fun q => e ((nI_eq (by omega) (by omega)).mp q))]; rfl
  have unf : f_X2_narrow (nI s) (nI (g 8 k)) (nI (g 9 k)) Z T = (if z_re (s / 4) (s % 4) (g 8 k) = true then some (cd_set (cd_set Z 0 s (nI (max b (z_ear g (g 8 k) (g 9 k))))) 1 s (z_m1 (min e (z_lat g (g 8 k) (g 9 k) + 1)))) else if 60 < z_ear g (g 8 k) (g 9 k) ∨ z_lat g (g 8 k) (g 9 k) < 60 then some (cd_set Z 1 s (z_m1 0)) else some Z) := by
    unfold f_X2_narrow
    rw [e_earliest hT hg hc hL, Option.bind_some, hT.rd 0 12 (by decide) rfl hc, Option.bind_some]
    obtain ⟨x3, e3, e4⟩ := cd_bind_some x34
    rw [e3, Option.bind_some, e4, Option.bind_some, e_reaches hs hc, Option.bind_some]
    have r0 : cd_rd (Z 0) 48 (nI s) = some (nI b) := by rw [cd_rd_nI hs (by decide), z0]
    have r1 : cd_rd (Z 1) 48 (nI s) = some (z_m1 e) := by rw [cd_rd_nI hs (by decide), z1]
    have rx : cd_ix 48 (nI s) = some s := cd_ix_nI hs (by decide)
    simp only [r0, r1, rx, Option.bind_some, w_max (show b < 2 ^ 31 by omega) (show z_ear g (g 8 k) (g 9 k) < 2 ^ 31 by omega), z_m1_min (show e < 2 ^ 29 by omega) (show z_lat g (g 8 k) (g 9 k) < 2 ^ 29 by omega)]
    cases z_re (s / 4) (s % 4) (g 8 k)
    · rw [if_pos q_bf, if_neg q_ft]
      by_cases h6 : 60 < z_ear g (g 8 k) (g 9 k)
      · rw [q_l 60, if_pos (nI_lt h6 (by omega)), if_pos (Or.inl h6)]; rfl
      · rw [q_l 60, if_neg (nI_nlt (by omega) (by omega))]
        by_cases h7 : 60 ≤ z_lat g (g 8 k) (g 9 k)
        · rw [if_pos (nI_le h7 (by omega)), if_neg (by omega)]; rfl
        · rw [if_neg (nI_ge (by omega) (by omega)), if_pos (Or.inr (by omega))]; rfl
    · rw [if_neg q_bt, if_pos rfl]; rfl
  rw [unf]
  by_cases hr : z_re (s / 4) (s % 4) (g 8 k) = true
  · refine ⟨_, max b (z_ear g (g 8 k) (g 9 k)), min e (z_lat g (g 8 k) (g 9 k) + 1), if_pos hr, ⟨?_, ?_, by omega, by omega, fun t ht => ?_⟩, fun j hj => ?_⟩
    · rw [cd_set_n _ _ (by decide), cd_set_s, pk_us]
    · rw [cd_set_s, pk_us]
    · rw [z_bad_s, ← zt t ht]
      have q := z_pr g (g 8 k) (g 9 k) ht
      have q2 : z_lo g (s / 4) t (s % 4) (g 8 k) = min (g 0 (g 8 k)) (z_bu g (g 8 k) * t) := by unfold z_lo z_mi; rw [if_pos hr]
      rw [q2, q]
      omega
    · rw [cd_set_n _ _ (by decide), cd_set_s, pk_un hj, cd_set_s, pk_un hj, cd_set_n _ _ (by decide)]
      exact ⟨rfl, rfl⟩
  · rw [if_neg hr]
    have q := z_pr g (g 8 k) (g 9 k) (Nat.le_refl 60)
    have q2 : ∀ t, z_lo g (s / 4) t (s % 4) (g 8 k) = min (g 0 (g 8 k)) (z_bu g (g 8 k) * 60) := fun t => by unfold z_lo z_mi; rw [if_neg hr]
    by_cases h6 : 60 < z_ear g (g 8 k) (g 9 k) ∨ z_lat g (g 8 k) (g 9 k) < 60
    · refine ⟨_, b, 0, if_pos h6, ⟨?_, ?_, zb, by omega, fun t ht => ?_⟩, fun j hj => ?_⟩
      · rw [cd_set_n _ _ (by decide)]; exact z0
      · rw [cd_set_s, pk_us]
      · rw [z_bad_s, q2, q]
        omega
      · rw [cd_set_n _ _ (by decide), cd_set_s, pk_un hj]
        exact ⟨rfl, rfl⟩
    · refine ⟨Z, b, e, if_neg h6, ⟨z0, z1, zb, ze, fun t ht => ?_⟩, fun j hj => ⟨rfl, rfl⟩⟩
      rw [z_bad_s, q2, q, zt t ht]
      exact ⟨fun x => ⟨x, by omega⟩, fun x => x.1⟩
/-- all spans stand -/
def z_Z (Z : Nat → Nat → Int32) (g : Nat → Nat → Nat) (b e : Nat → Nat) : Prop := ∀ s, s < 48 → z_sp Z g s (g 10 0) (b s) (e s)
theorem z_bad_0 (g : Nat → Nat → Nat) (w t d : Nat) : z_bad g w t d 0 = 0 := rfl
theorem e_fit (hT : q_T T g) (hg : q_ok g) (Z : Nat → Nat → Int32) : ∃ Z' b e, f_X2_fit Z T = some Z' ∧ z_Z Z' g b e := by
  have h10 : g 10 0 ≤ 8 := hg 10 0 (by decide) (by decide)
  have k : ∃ r, cd_iter cd_N (f_X2_fit_b2 T) ((0 : Int32), Z) = some r ∧ ∃ b e, z_Z r g b e := by
    refine cd_upto' 48 (fun i z => ∃ b e : Nat → Nat, ∀ s, s < i → z_sp z g s (g 10 0) (b s) (e s)) (by decide) (fun i z hi q => ?_) _ (fun z q => ⟨z, ?_, q⟩) ⟨fun _ => 0, fun _ => 0, fun s hs => absurd hs (Nat.not_lt_zero s)⟩
    · obtain ⟨b, e, q⟩ := q
      have k2 : ∃ r, cd_iter cd_N (f_X2_fit_b25 T (nI i, z)) ((0 : Int32), cd_set (cd_set z 0 i (0 : Int32)) 1 i (60 : Int32)) = some r ∧ (∃ b' e', z_sp r g i (g 10 0) b' e') ∧ ∀ j, j ≠ i → r 0 j = z 0 j ∧ r 1 j = z 1 j := by
        refine cd_upto' (g 10 0) (fun k y => (∃ b' e', z_sp y g i k b' e') ∧ ∀ j, j ≠ i → y 0 j = z 0 j ∧ y 1 j = z 1 j) (by have e : cd_N = 20000 := rfl; omega) (fun k y hk p => ?_) _ (fun y p => ⟨y, ?_, p⟩) ⟨⟨0, 61, ?_, ?_, by omega, by omega, fun t ht => ?_⟩, fun j hj => ?_⟩
        · obtain ⟨⟨b', e', p1⟩, p2⟩ := p
          obtain ⟨Z', b2, e2, n1, n2, n3⟩ := e_narrow hT hg hi (show k < 8 by omega) p1
          refine ⟨Z', ?_, ⟨b2, e2, n2⟩, fun j hj => ⟨(n3 j hj).1.trans (p2 j hj).1, (n3 j hj).2.trans (p2 j hj).2⟩⟩
          unfold f_X2_fit_b25
          dsimp only
          rw [hT 10 0 (by decide) (by decide), if_neg (nI_ge hk (by omega)), q_l 8, if_neg (nI_ge (show k < 8 by omega) (by decide)), hT.rd 8 8 (by decide) rfl (by omega), Option.bind_some, hT.rd 9 8 (by decide) rfl (by omega), Option.bind_some, n1, Option.bind_some, nI_1]
        · unfold f_X2_fit_b25
          dsimp only
          rw [hT 10 0 (by decide) (by decide), if_pos (nI_le (Nat.le_refl _) (by omega))]
        · rw [cd_set_n _ _ (by decide), cd_set_s, pk_us]; rfl
        · rw [cd_set_s, pk_us]; decide
        · rw [z_bad_0]; omega
        · rw [cd_set_n _ _ (by decide), cd_set_s, cd_set_s, pk_un hj, pk_un hj, cd_set_n _ _ (by decide)]
          exact ⟨rfl, rfl⟩
      obtain ⟨r, r1, ⟨b', e', r2⟩, r3⟩ := k2
      refine ⟨r, ?_, fun s => if s = i then b' else b s, fun s => if s = i then e' else e s, fun s hs => ?_⟩
      · unfold f_X2_fit_b2
        dsimp only
        rw [q_l 48, if_neg (nI_ge hi (by decide)), cd_ix_nI hi (by decide), Option.bind_some, Option.bind_some, r1, Option.bind_some, nI_1]
      · by_cases ei : s = i
        · subst ei
          dsimp only
          rw [if_pos rfl, if_pos rfl]; exact r2
        · dsimp only
          rw [if_neg ei, if_neg ei]
          have := q s (by omega)
          unfold z_sp at this ⊢
          rw [(r3 s ei).1, (r3 s ei).2]; exact this
    · unfold f_X2_fit_b2
      dsimp only
      rw [q_l 48, if_pos (nI_le (Nat.le_refl _) (by decide))]
  obtain ⟨r, k1, b, e, k2⟩ := k
  refine ⟨r, b, e, ?_, k2⟩
  unfold f_X2_fit
  rw [k1, Option.bind_some]
end FIT
