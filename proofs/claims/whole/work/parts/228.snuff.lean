/-! snuff -/
def q_ws (L : Nat) : Nat → Int32 × Nat
  | 0 => (0, 0)
  | c + 1 => if L.testBit c = true then ((q_ws L c).1, (q_ws L c).2 + 1) else ((q_ws L c).1 ^^^ cd_rw (q_ws L c).2, 0)
def q_wo (L : Nat) : Int32 := (q_ws L 12).1 ^^^ cd_rw (q_ws L 12).2
theorem q_ws_le (L : Nat) : ∀ c, (q_ws L c).2 ≤ c
  | 0 => Nat.le_refl _
  | c + 1 => by
    have := q_ws_le L c
    show (if L.testBit c = true then ((q_ws L c).1, (q_ws L c).2 + 1) else ((q_ws L c).1 ^^^ cd_rw (q_ws L c).2, 0)).2 ≤ c + 1
    split
    · show (q_ws L c).2 + 1 ≤ c + 1; omega
    · exact Nat.zero_le _
theorem e_worthOf {L : Nat} (hL : L < 2 ^ 31) : f_X5_worthOf (nI L) = some (q_wo L) := by
  have k : ∃ r, cd_iter cd_N (f_X5_worthOf_b6 (nI L)) ((0 : Int32), nI 0, nI 0) = some r ∧ r = ((q_ws L 12).1, nI (q_ws L 12).2) := by
    refine cd_hoare (fun m z => ∃ c, m + c = 12 ∧ z = ((q_ws L c).1, nI (q_ws L c).2, nI c)) _ ?_ cd_N 12 _ (by decide) ⟨0, rfl, rfl⟩
    rintro m z ⟨c, hm, rfl⟩
    have hle := q_ws_le L c
    by_cases hc : c < 12
    · refine Or.inr ⟨m - 1, ((q_ws L (c + 1)).1, nI (q_ws L (c + 1)).2, nI (c + 1)), by omega, ?_, c + 1, by omega, rfl⟩
      unfold f_X5_worthOf_b6
      dsimp only
      rw [q_l 12, if_neg (nI_ge hc (by decide)), e_holds hL (by omega), Option.bind_some, cd_rd_nI (show (q_ws L c).2 < 13 by omega) (by decide), Option.bind_some, nI_1, nI_1]
      have hq : q_ws L (c + 1) = if L.testBit c = true then ((q_ws L c).1, (q_ws L c).2 + 1) else ((q_ws L c).1 ^^^ cd_rw (q_ws L c).2, 0) := rfl
      rw [hq]
      cases L.testBit c
      · rfl
      · rfl
    · have e : c = 12 := by omega
      subst e
      refine Or.inl ⟨_, ?_, rfl⟩
      unfold f_X5_worthOf_b6
      dsimp only
      rw [q_l 12, if_pos (nI_le (Nat.le_refl _) (by decide))]
  obtain ⟨r, k1, rfl⟩ := k
  unfold f_X5_worthOf
  rw [show cd_iter cd_N (f_X5_worthOf_b6 (nI L)) ((0 : Int32), (0 : Int32), (0 : Int32)) = some ((q_ws L 12).1, nI (q_ws L 12).2) from k1, Option.bind_some]
  have hle := q_ws_le L 12
  show (cd_rd cd_rw 13 (nI (q_ws L 12).2)).bind _ = _
  rw [cd_rd_nI (by omega) (by decide), Option.bind_some]
  rfl
theorem e6_worthOf {M : Nat → Nat → Int32} {L : Nat} (hL : L < 2 ^ 12) (h18 : ∀ j, j < 13 → M 18 j = cd_rw j) : f_X6_worthOf (nI L) M = some (q_wo L) := by
  have k : ∃ r, cd_iter cd_N (f_X6_worthOf_b7 (nI L) M) ((0 : Int32), nI 0, nI 0) = some r ∧ r = q_wo L := by
    refine cd_hoare (fun m z => ∃ c, m + c = 13 ∧ z = ((q_ws L c).1, nI (q_ws L c).2, nI c)) _ ?_ cd_N 13 _ (by decide) ⟨0, rfl, rfl⟩
    rintro m z ⟨c, hm, rfl⟩
    have hle := q_ws_le L c
    by_cases hc : c < 13
    · refine Or.inr ⟨m - 1, ((q_ws L (c + 1)).1, nI (q_ws L (c + 1)).2, nI (c + 1)), by omega, ?_, c + 1, by omega, rfl⟩
      unfold f_X6_worthOf_b7
      dsimp only
      rw [q_l 13, if_neg (nI_ge hc (by decide)), e_isIn (by omega) (by omega), Option.bind_some, cd_rd_nI (show (q_ws L c).2 < 13 by omega) (by decide), Option.bind_some, h18 _ (by omega), nI_1, nI_1]
      have hq : q_ws L (c + 1) = if L.testBit c = true then ((q_ws L c).1, (q_ws L c).2 + 1) else ((q_ws L c).1 ^^^ cd_rw (q_ws L c).2, 0) := rfl
      rw [hq]
      cases L.testBit c
      · rfl
      · rfl
    · have e : c = 13 := by omega
      subst e
      refine Or.inl ⟨(q_ws L 13).1, ?_, ?_⟩
      · unfold f_X6_worthOf_b7
        dsimp only
        rw [q_l 13, if_pos (nI_le (Nat.le_refl _) (by decide))]
      · have h12 : L.testBit 12 = false := Nat.testBit_lt_two_pow hL
        have hq : q_ws L 13 = if L.testBit 12 = true then ((q_ws L 12).1, (q_ws L 12).2 + 1) else ((q_ws L 12).1 ^^^ cd_rw (q_ws L 12).2, 0) := rfl
        rw [hq, h12]
        rfl
  obtain ⟨r, k1, rfl⟩ := k
  unfold f_X6_worthOf
  rw [show cd_iter cd_N (f_X6_worthOf_b7 (nI L) M) ((0 : Int32), (0 : Int32), (0 : Int32)) = some (q_wo L) from k1, Option.bind_some]
/-- the table of rows -/
def q_rw (j : Nat) : Nat := ([0, 1, 1, 2, 0, 3, 1, 1, 0, 3, 3, 2, 2] : List Nat).getD j 0
theorem q_rwI : ∀ j, j < 13 → cd_rw j = nI (q_rw j) := by decide
def q_lf (p : Nat) : Nat := if p ≤ 1 then 0 else p - 1
def q_rg (n p : Nat) : Nat := if n ≤ p + 2 then 0 else n - p - 2
def q_mv (n p : Nat) : Nat := q_rw (q_lf p) ^^^ q_rw (q_rg n p)
def q_met (n : Nat) : Nat → Nat → Bool
  | 0, _ => false
  | i + 1, v => q_met n i v || decide (v = q_mv n i)
theorem q_mex : ∀ n, n < 13 → 0 < n → (∀ v, v < q_rw n → q_met n n v = true) ∧ q_met n n (q_rw n) = false := by decide +kernel
theorem q_mv_lt : ∀ n, n < 13 → ∀ p, p < n → q_mv n p < 32 ∧ q_lf p < n ∧ q_rg n p < n := by decide +kernel
theorem q_rw_lt : ∀ n, n < 13 → q_rw n < 32 := by decide +kernel
section SNUFF
variable {T M K : Nat → Nat → Int32} {g : Nat → Nat → Nat}
theorem e6_layRows (M : Nat → Nat → Int32) : ∃ M', f_X6_layRows M = some M' ∧ (∀ j, j < 13 → M' 18 j = cd_rw j) ∧ ∀ r, r ≠ 18 → r ≠ 19 → M' r = M r := by
  have one : ∀ (n : Nat) (z : Nat → Nat → Int32), 1 ≤ n → n < 13 → (∀ j, j < n → z 18 j = cd_rw j) → ∃ z', f_X6_layRows_b9 (nI n, z) = some (.inr (nI (n + 1), z')) ∧ (∀ j, j < n + 1 → z' 18 j = cd_rw j) ∧ ∀ r, r ≠ 18 → r ≠ 19 → z' r = z r := by
    intro n z h1 hn hz
    obtain ⟨A, a1, a2, a3⟩ := cd_upto' (b := f_X6_layRows_b17) 32 (fun i y => (∀ v, v < i → y 19 v = 0) ∧ ∀ r, r ≠ 19 → y r = z r) (by decide) (fun i y hi q => ⟨cd_set y 19 i 0, by
        unfold f_X6_layRows_b17
        dsimp only
        rw [q_l 32, if_neg (nI_ge hi (by decide)), cd_ix_nI hi (by decide), Option.bind_some, nI_1], by
        refine ⟨fun v hv => ?_, fun r hr => by rw [cd_set_n _ _ hr]; exact q.2 r hr⟩
        rw [cd_set_s]
        by_cases e : v = i
        · rw [e, pk_us]
        · rw [pk_un e]; exact q.1 v (by omega)⟩) (fun y => (∀ v, v < 32 → y 19 v = 0) ∧ ∀ r, r ≠ 19 → y r = z r) (fun y q => ⟨y, by
        unfold f_X6_layRows_b17
        dsimp only
        rw [q_l 32, if_pos (nI_le (Nat.le_refl _) (by decide))], q⟩) (a0 := z) ⟨fun v hv => by omega, fun _ _ => rfl⟩
    obtain ⟨B, b1, b2, b3⟩ := cd_upto' (b := f_X6_layRows_b38 (nI n, z)) n (fun i y => (∀ v, v < 32 → y 19 v = q_bi (q_met n i v)) ∧ ∀ r, r ≠ 19 → y r = z r) (by have e : cd_N = 20000 := rfl; omega) (fun i y hi q => ⟨cd_set y 19 (q_mv n i) 1, by
        obtain ⟨l1, l2, l3⟩ := q_mv_lt n hn i hi
        have e9 : ((if nI i ≤ (1 : Int32) then some (0 : Int32) else some (nI i - (1 : Int32))) : Option Int32) = some (nI (q_lf i)) := by
          unfold q_lf
          by_cases hh : i ≤ 1
          · rw [if_pos hh, if_pos (show nI i ≤ 1 from (nI_leI (a := i) (b := 1) (by omega) (by decide)).mpr hh)]; rfl
          · rw [if_neg hh, if_neg (show ¬ nI i ≤ 1 from fun q => hh ((nI_leI (a := i) (b := 1) (by omega) (by decide)).mp q)), q_1, pk_sub (by omega)]
        have e10 : ((if ((nI n - nI i) - (2 : Int32)) ≤ 0 then some (0 : Int32) else some ((nI n - nI i) - (2 : Int32))) : Option Int32) = some (nI (q_rg n i)) := by
          unfold q_rg
          rw [pk_sub (show i ≤ n by omega), q_l 2]
          by_cases hh : n ≤ i + 2
          · have hle : nI (n - i) - nI 2 ≤ 0 := by
              rw [cd_le, pk_sub_toInt (by omega) (by decide)]
              have : (0 : Int32).toInt = 0 := by decide
              omega
            rw [if_pos hh, if_pos hle]; rfl
          · rw [if_neg hh, pk_sub (by omega), if_neg (nI_nle (by omega) (by omega))]
        unfold f_X6_layRows_b38
        dsimp only
        rw [if_neg (nI_ge hi (by omega)), e9, Option.bind_some, e10, Option.bind_some, cd_rd_nI (by omega) (by decide), Option.bind_some, cd_rd_nI (by omega) (by decide), Option.bind_some, q.2 18 (by decide), hz _ l2, hz _ l3, q_rwI _ (by omega), q_rwI _ (by omega), q_xor, show q_rw (q_lf i) ^^^ q_rw (q_rg n i) = q_mv n i from rfl, cd_ix_nI l1 (by decide), Option.bind_some, nI_1], by
        refine ⟨fun v hv => ?_, fun r hr => by rw [cd_set_n _ _ hr]; exact q.2 r hr⟩
        rw [cd_set_s]
        show _ = q_bi (q_met n i v || decide (v = q_mv n i))
        by_cases e : v = q_mv n i
        · rw [e, pk_us, decide_eq_true rfl, Bool.or_true]; rfl
        · rw [pk_un e, decide_eq_false e, Bool.or_false]; exact q.1 v hv⟩) (fun y => (∀ v, v < 32 → y 19 v = q_bi (q_met n n v)) ∧ ∀ r, r ≠ 19 → y r = z r) (fun y q => ⟨y, by
        unfold f_X6_layRows_b38
        dsimp only
        rw [if_pos (nI_le (Nat.le_refl _) (by omega))], q⟩) (a0 := A) ⟨fun v hv => by rw [a2 v hv]; rfl, a3⟩
    obtain ⟨x1, x2⟩ := q_mex n hn h1
    have hr32 := q_rw_lt n hn
    have c1 : ∃ r, cd_iter cd_N (f_X6_layRows_b103 B) (nI 0) = some r ∧ r = nI (q_rw n) := by
      refine cd_hoare (fun m y => ∃ v, m + v = q_rw n ∧ y = nI v) _ ?_ cd_N (q_rw n) _ (by have e : cd_N = 20000 := rfl; omega) ⟨0, by omega, rfl⟩
      rintro m y ⟨v, hm, rfl⟩
      have body : f_X6_layRows_b103 B (nI v) = if q_met n n v = true then some (.inr (nI (v + 1))) else some (.inl (nI v)) := by
        unfold f_X6_layRows_b103
        rw [cd_rd_nI (by omega) (by decide), Option.bind_some, b2 v (by omega), nI_1]
        cases q_met n n v <;> rfl
      by_cases hv : v < q_rw n
      · rw [x1 v hv, if_pos rfl] at body
        exact Or.inr ⟨m - 1, _, by omega, body, v + 1, by omega, rfl⟩
      · have e : v = q_rw n := by omega
        subst e
        rw [x2, if_neg q_ft] at body
        exact Or.inl ⟨_, body, rfl⟩
    obtain ⟨r, c2, rfl⟩ := c1
    refine ⟨cd_set B 18 n (nI (q_rw n)), ?_, fun j hj => ?_, fun r r18 r19 => by rw [cd_set_n _ _ r18]; exact b3 r r19⟩
    · unfold f_X6_layRows_b9
      dsimp only
      rw [q_l 13, if_neg (nI_ge hn (by decide)), a1, Option.bind_some, b1, Option.bind_some, show cd_iter cd_N (f_X6_layRows_b103 B) (0 : Int32) = some (nI (q_rw n)) from c2, Option.bind_some, cd_ix_nI hn (by decide), Option.bind_some, nI_1]
    · rw [cd_set_s]
      by_cases e : j = n
      · rw [e, pk_us, q_rwI n hn]
      · rw [pk_un e, b3 18 (by decide)]; exact hz j (by omega)
  obtain ⟨M', k1, k2, k3⟩ := cd_from (b := f_X6_layRows_b9) 1 13 (by decide) (fun n z => (∀ j, j < n → z 18 j = cd_rw j) ∧ ∀ r, r ≠ 18 → r ≠ 19 → z r = M r) (fun z => (∀ j, j < 13 → z 18 j = cd_rw j) ∧ ∀ r, r ≠ 18 → r ≠ 19 → z r = M r) (by decide) (fun n z h1 hn q => by
      obtain ⟨z', p1, p2, p3⟩ := one n z h1 hn q.1
      exact ⟨z', p1, p2, fun r r18 r19 => by rw [p3 r r18 r19]; exact q.2 r r18 r19⟩) (fun z q => ⟨z, by
      unfold f_X6_layRows_b9
      dsimp only
      rw [q_l 13, if_pos (nI_le (Nat.le_refl _) (by decide))], q⟩) (a0 := cd_set M 18 0 0) ⟨fun j hj => by
        have e : j = 0 := by omega
        rw [e, cd_set_s, pk_us]; rfl, fun r r18 r19 => by rw [cd_set_n _ _ r18]⟩
  refine ⟨M', ?_, k2, k3⟩
  unfold f_X6_layRows
  rw [show (0 : Int32) = nI 0 from rfl, cd_ix_nI (by decide) (by decide), Option.bind_some, show (1 : Int32) = nI 1 from rfl, show cd_iter cd_N f_X6_layRows_b9 (nI 1, cd_set M 18 0 (nI 0)) = some M' from k1, Option.bind_some]
/-- the first that holds -/
def q_fst (p : Nat → Bool) : Nat → Nat → Option Nat
  | 0, _ => none
  | f + 1, c => if p c = true then some c else q_fst p f (c + 1)
theorem q_fst_lt (p : Nat → Bool) : ∀ f c x, q_fst p f c = some x → x < c + f
  | 0, _, _, h => by cases h
  | f + 1, c, x, h => by
    by_cases hp : p c = true
    · have h' : some c = some x := by rw [← h]; exact (if_pos hp).symm
      have : c = x := Option.some.inj h'
      omega
    · have h' : q_fst p f (c + 1) = some x := by rw [← h]; exact (if_neg hp).symm
      have := q_fst_lt p f (c + 1) x h'
      omega
def q_win (L c : Nat) : Bool := L.testBit c && decide (q_wo (q_dn L (7 * 2 ^ c / 2)) = 0)
theorem q_gone7 : ∀ c, c < 12 → (2 ^ c ||| 2 ^ (c + 1)) ||| 2 ^ c / 2 = 7 * 2 ^ c / 2 := by decide +kernel
theorem e_winning {L : Nat} (hL : L < 2 ^ 12) : f_X5_winningSnuff (nI L) = some (q_fv (q_fst (q_win L) 12 0)) := by
  have k : ∃ r, cd_iter cd_N (f_X5_winningSnuff_b2 (nI L)) (nI 0) = some r ∧ Sum.elim (fun x => x = q_fv (q_fst (q_win L) 12 0)) (fun _ => q_fst (q_win L) 12 0 = none) r := by
    refine cd_hoare (fun m z => ∃ c, m + c = 12 ∧ z = nI c ∧ q_fst (q_win L) 12 0 = q_fst (q_win L) m c) _ ?_ cd_N 12 (nI 0) (by decide) ⟨0, rfl, rfl, rfl⟩
    rintro m z ⟨c, hm, rfl, hf⟩
    by_cases hc : c < 12
    · obtain ⟨m', rfl⟩ : ∃ q, m = q + 1 := ⟨m - 1, by omega⟩
      have hsh : nI (2 ^ c) >>> ((1 : Int32) &&& 31) = nI (2 ^ c / 2) := by
        have hp := q_pow_le hc
        exact q_shr (s := 2 ^ c) (c := 1) (by omega) (by decide)
      have body : f_X5_winningSnuff_b2 (nI L) (nI c) = if q_win L c = true then some (.inl (.inl (nI c))) else some (.inr (nI (c + 1))) := by
        unfold f_X5_winningSnuff_b2
        rw [q_l 12, if_neg (nI_ge hc (by decide)), e_bit (by omega), Option.bind_some, nI_1, e_bit (by omega), Option.bind_some, Option.bind_some, e_holds (by omega) (by omega), Option.bind_some, hsh, q_or, q_or, q_gone7 c hc, q_andn, e_worthOf (by have := q_dn_lt (b := 7 * 2 ^ c / 2) hL; omega), Option.bind_some]
        unfold q_win
        cases L.testBit c
        · rfl
        · rw [if_neg q_bt]
          by_cases h0 : q_wo (q_dn L (7 * 2 ^ c / 2)) = 0
          · rw [if_pos h0, decide_eq_true h0]; rfl
          · rw [if_neg h0, decide_eq_false h0]; rfl
      have hf' : q_fst (q_win L) 12 0 = if q_win L c = true then some c else q_fst (q_win L) m' (c + 1) := hf
      by_cases hw : q_win L c = true
      · rw [if_pos hw] at body hf'
        exact Or.inl ⟨_, body, by show nI c = q_fv (q_fst (q_win L) 12 0); rw [hf']; rfl⟩
      · rw [if_neg hw] at body hf'
        exact Or.inr ⟨m', _, by omega, body, c + 1, by omega, rfl, hf'⟩
    · have e : m = 0 := by omega
      subst e
      refine Or.inl ⟨.inr (), ?_, hf⟩
      unfold f_X5_winningSnuff_b2
      rw [q_l 12, if_pos (nI_le (by omega) (by omega))]
  obtain ⟨r, k1, k2⟩ := k
  unfold f_X5_winningSnuff
  rw [show cd_iter cd_N (f_X5_winningSnuff_b2 (nI L)) (0 : Int32) = some r from k1, Option.bind_some]
  cases r with
  | inl x => show some x = _; rw [show x = _ from k2]
  | inr u => show some (-6) = _; rw [show q_fst (q_win L) 12 0 = none from k2]; rfl
theorem q_shl7 : ∀ c, c < 12 → (((7 : Int32) <<< (nI c &&& 31)) >>> ((1 : Int32) &&& 31)) = nI (7 * 2 ^ c / 2) := by decide +kernel
theorem m_snuff (hX : q_X T M g) (K : Nat → Nat → Int32) (a0 : Int32) : ∃ v M', f_X5_snuff a0 K T = some v ∧ f_X6_snuff a0 M = some (v, M') ∧ q_same M M' := by
  unfold f_X5_snuff f_X6_snuff
  rw [e_within, e_in, q_br, q_br]
  by_cases hr : 0 ≤ a0 ∧ a0 ≤ 1
  · rw [if_pos hr, if_pos hr]
    have hg := hX.2.2.2.2
    have hL := q_litl hg
    obtain ⟨M1, l1, l2, l3⟩ := e6_layRows M
    have hs : q_same M M1 := q_same.of (fun k hk => l3 k (by omega) (by omega))
    have hX1 := hX.same hs
    have k : ∃ r, cd_iter cd_N (f_X6_snuff_b22 M1) ((-6 : Int32), nI 12 + -1) = some r ∧ r = q_fv (q_fst (q_win (g 11 0)) 12 0) := by
      refine cd_hoare (fun m z => m ≤ 12 ∧ z = (q_fv (q_fst (q_win (g 11 0)) (12 - m) m), nI m + -1)) _ ?_ cd_N 12 _ (by decide) ⟨Nat.le_refl _, rfl⟩
      rintro m z ⟨hm, rfl⟩
      cases m with
      | zero => exact Or.inl ⟨_, by unfold f_X6_snuff_b22; dsimp only; rw [if_pos (show nI 0 + -1 < 0 by decide)], rfl⟩
      | succ c =>
        refine Or.inr ⟨c, (q_fv (q_fst (q_win (g 11 0)) (12 - c) c), nI c + -1), by omega, ?_, by omega, rfl⟩
        have hl : q_fst (q_win (g 11 0)) (12 - c) c = if q_win (g 11 0) c = true then some c else q_fst (q_win (g 11 0)) (12 - (c + 1)) (c + 1) := by
          rw [show 12 - c = (12 - (c + 1)) + 1 by omega]
          rfl
        unfold f_X6_snuff_b22
        simp only [pk_m1]
        rw [if_neg (nI_pos (by omega)), hX1.lit66, Option.bind_some, Option.bind_some, e_isIn (q_lit_lt hg) (by omega), Option.bind_some, q_shl7 c (by omega), q_andn, e6_worthOf (q_dn_lt hL) l2, Option.bind_some, hl]
        unfold q_win
        cases (g 11 0).testBit c
        · rfl
        · rw [if_neg q_bt]
          by_cases h0 : q_wo (q_dn (g 11 0) (7 * 2 ^ c / 2)) = 0
          · rw [if_pos h0, decide_eq_true h0]; rfl
          · rw [if_neg h0, decide_eq_false h0]; rfl
    obtain ⟨r, k1, rfl⟩ := k
    rw [hX.1 11 0 (by decide) (by decide), e_winning hL, Option.bind_some, l1, Option.bind_some, show cd_iter cd_N (f_X6_snuff_b22 M1) ((-6 : Int32), (11 : Int32)) = some (q_fv (q_fst (q_win (g 11 0)) 12 0)) from k1, Option.bind_some]
    by_cases h1 : a0 = 1
    · refine ⟨q_fv (q_fst (q_win (g 11 0)) 12 0), M1, ?_, ?_, hs⟩
      · rw [if_pos h1]
      · rw [if_pos h1, Option.bind_some]
    · rw [if_neg h1, if_neg h1]
      cases hq : q_fst (q_win (g 11 0)) 12 0 with
      | none => exact ⟨0, M1, rfl, rfl, hs⟩
      | some x =>
        have hx := q_fst_lt _ _ _ _ hq
        refine ⟨1, M1, ?_, ?_, hs⟩
        · rw [if_neg (show ¬ q_fv (some x) = -6 from q_ne6 (by omega)), Option.bind_some]
        · rw [if_pos (show 0 ≤ q_fv (some x) from nI_pos' (by omega)), Option.bind_some]
  · rw [if_neg hr, if_neg hr]
    exact ⟨_, M, rfl, rfl, q_same.rf M⟩
end SNUFF
