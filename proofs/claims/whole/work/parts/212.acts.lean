/-! acts: what each does to the common picture, in the class and in the reference -/
theorem q_bf : q_bi false = 0 := rfl
theorem q_bt : ¬ q_bi true = 0 := by decide
theorem q_ft : ¬ (false = true) := by decide
theorem q_tt : (true = true) := rfl
def q_dnU (g : Nat → Nat → Nat) (c i : Nat) : Nat → Nat → Nat := fun a b => if a = 6 ∧ b < i then q_dn (g 6 b) (2 ^ c) else g a b
theorem q_dnU_0 (g : Nat → Nat → Nat) (c : Nat) : q_dnU g c 0 = g := by
  funext a b
  unfold q_dnU
  rw [if_neg (by omega)]
theorem q_dnU_s (g : Nat → Nat → Nat) (c i : Nat) : q_up (q_dnU g c i) 6 i (q_dn (g 6 i) (2 ^ c)) = q_dnU g c (i + 1) := by
  funext a b
  unfold q_up q_dnU
  by_cases h1 : a = 6
  · subst h1
    by_cases h2 : b = i
    · subst h2; simp
    · by_cases h3 : b < i
      · have h4 : b < i + 1 := by omega
        simp [h2, h3, h4]
      · have h4 : ¬ b < i + 1 := by omega
        simp [h2, h3, h4]
  · simp [h1]
theorem q_dnU_at (g : Nat → Nat → Nat) (c i : Nat) : q_dnU g c i 6 i = g 6 i := by
  unfold q_dnU
  rw [if_neg (by omega)]
def q_part (g : Nat → Nat → Nat) (c : Nat) : Nat → Nat → Nat := q_up (q_dnU g c 12) 6 c (2 ^ c)
theorem q_pow_le {c : Nat} (hc : c < 12) : 2 ^ c ≤ 2048 := by
  have := Nat.pow_le_pow_right (n := 2) (by decide) (show c ≤ 11 by omega)
  exact this
theorem q_dnU_ok {g : Nat → Nat → Nat} (h : q_ok g) (c i : Nat) : q_ok (q_dnU g c i) := by
  intro a b ha hb
  unfold q_dnU
  by_cases q : a = 6 ∧ b < i
  · rw [if_pos q]
    obtain ⟨rfl, -⟩ := q
    have h1 : g 6 b ≤ 4095 := h 6 b ha hb
    have h2 := q_dn_lt (a := g 6 b) (b := 2 ^ c) (n := 12) (by omega)
    show _ ≤ 4095
    omega
  · rw [if_neg q]; exact h a b ha hb
theorem q_part_ok {g : Nat → Nat → Nat} (h : q_ok g) {c : Nat} (hc : c < 12) : q_ok (q_part g c) := (q_dnU_ok h c 12).up 6 c (by have := q_pow_le hc; show _ ≤ 4095; omega)
theorem q_grp_lt {g : Nat → Nat → Nat} (h : q_ok g) {c : Nat} (hc : c < 12) : g 6 c < 2 ^ 12 := by
  have h1 : g 6 c ≤ 4095 := h 6 c (by decide) hc
  omega
theorem q_litl {g : Nat → Nat → Nat} (h : q_ok g) : g 11 0 < 2 ^ 12 := by
  have h1 : g 11 0 ≤ 4095 := h 11 0 (by decide) (by decide)
  omega
theorem e_part {T : Nat → Nat → Int32} {g : Nat → Nat → Nat} {c : Nat} (hT : q_T T g) (hc : c < 12) : ∃ T', f_X3_part (nI c) T = some T' ∧ q_T T' (q_part g c) := by
  obtain ⟨r, h1, h2⟩ := cd_upto (b := f_X3_part_b2 (nI c)) 12 (fun i a => q_T a (q_dnU g c i)) (fun r => q_T r (q_dnU g c 12)) (by decide) (fun i a hi h => Or.inr ⟨cd_set a 6 i (nI (q_dn (g 6 i) (2 ^ c))), by
      unfold f_X3_part_b2
      dsimp only
      rw [q_l 12, if_neg (nI_ge hi (by decide)), h.rd 6 12 (by decide) rfl hi, Option.bind_some, e_bit (by omega), Option.bind_some, cd_ix_nI hi (by decide), Option.bind_some, nI_1, q_andn, q_dnU_at], by
      rw [← q_dnU_s]; exact h.set 6 i _⟩) (fun a h => ⟨a, by
      unfold f_X3_part_b2
      dsimp only
      rw [q_l 12, if_pos (nI_le (Nat.le_refl _) (by decide))], h⟩) (a0 := T) (by rw [q_dnU_0]; exact hT)
  refine ⟨cd_set r 6 c (nI (2 ^ c)), ?_, h2.set 6 c _⟩
  unfold f_X3_part
  rw [show ((0 : Int32), T) = (nI 0, T) from rfl, h1, Option.bind_some, e_bit (by omega), Option.bind_some, cd_ix_nI hc (by decide), Option.bind_some]
theorem e6_leaveJoined {M : Nat → Nat → Int32} {g : Nat → Nat → Nat} {c : Nat} (hB : q_B (M 1) g) (hc : c < 12) : ∃ M', f_X6_leaveJoined (nI c) M = some M' ∧ q_B (M' 1) (q_part g c) ∧ ∀ k, k ≠ 1 → M' k = M k := by
  obtain ⟨r, h1, h2, h3⟩ := cd_upto (b := f_X6_leaveJoined_b2 (nI c)) 12 (fun i a => q_B (a 1) (q_dnU g c i) ∧ ∀ k, k ≠ 1 → a k = M k) (fun r => q_B (r 1) (q_dnU g c 12) ∧ ∀ k, k ≠ 1 → r k = M k) (by decide) (fun i a hi h => Or.inr ⟨cd_set a 1 (48 + i) (nI (q_dn (g 6 i) (2 ^ c))), by
      unfold f_X6_leaveJoined_b2
      dsimp only
      rw [q_l 12, if_neg (nI_ge hi (by decide)), q_l 48, nI_add, h.1.rd 6 48 rfl (by decide) (by decide) hi, Option.bind_some, cd_ix_nI (by omega) (by decide), Option.bind_some, nI_1, q_shl (by omega), q_andn, q_dnU_at], by
      refine ⟨?_, fun k hk => by rw [cd_set_n _ _ hk]; exact h.2 k hk⟩
      rw [cd_set_s, ← q_dnU_s]
      exact h.1.set 6 48 rfl (by decide) (by decide) hi _⟩) (fun a h => ⟨a, by
      unfold f_X6_leaveJoined_b2
      dsimp only
      rw [q_l 12, if_pos (nI_le (Nat.le_refl _) (by decide))], h⟩) (a0 := M) (by rw [q_dnU_0]; exact ⟨hB, fun _ _ => rfl⟩)
  refine ⟨cd_set r 1 (48 + c) (nI (2 ^ c)), ?_, ?_, fun k hk => by rw [cd_set_n _ _ hk]; exact h3 k hk⟩
  · unfold f_X6_leaveJoined
    rw [show ((0 : Int32), M) = (nI 0, M) from rfl, h1, Option.bind_some, q_l 48, nI_add, cd_ix_nI (by omega) (by decide), Option.bind_some, q_shl (by omega)]
  · rw [cd_set_s]
    exact h2.set 6 48 rfl (by decide) (by decide) hc _
/-- why a match can not light it; what it does -/
def q_why1 (g : Nat → Nat → Nat) (c : Nat) : Nat := if g 0 c = 0 then 1 else if q_lit g c then 2 else if g 12 0 = 0 then 3 else 0
def q_do1 (g : Nat → Nat → Nat) (c : Nat) : Nat → Nat → Nat := q_part (q_up (q_up g 12 0 (g 12 0 - 1)) 11 0 (g 11 0 ||| 2 ^ c)) c
theorem q_or_le {a c : Nat} (ha : a < 2 ^ 12) (hc : c < 12) : a ||| 2 ^ c ≤ 4095 := by
  have := Nat.or_lt_two_pow ha (show 2 ^ c < 2 ^ 12 by have := q_pow_le hc; omega)
  omega
theorem q_do1_ok {g : Nat → Nat → Nat} (h : q_ok g) {c : Nat} (hc : c < 12) : q_ok (q_do1 g c) := by
  refine q_part_ok ((h.up 12 0 ?_).up 11 0 (q_or_le (q_litl h) hc)) hc
  have : g 12 0 ≤ 99 := h 12 0 (by decide) (by decide)
  show _ ≤ 99
  omega
theorem e_lightByMatch {T : Nat → Nat → Int32} {g : Nat → Nat → Nat} {c : Nat} (hT : q_T T g) (hg : q_ok g) (hc : c < 12) (hm : g 12 0 ≠ 0) : ∃ T', f_X3_lightByMatch (nI c) T = some T' ∧ q_T T' (q_do1 g c) := by
  have t1 := hT.fld (k := 12) (by decide) (g 12 0 - 1)
  have t2 := t1.fld (k := 11) (by decide) (g 11 0 ||| 2 ^ c)
  obtain ⟨T', h1, h2⟩ := e_part t2 hc
  refine ⟨T', ?_, h2⟩
  unfold f_X3_lightByMatch
  rw [e_bit (by omega), Option.bind_some, hT 12 0 (by decide) (by decide), hT 11 0 (by decide) (by decide), q_or, q_1, pk_sub (by omega), h1, Option.bind_some]
theorem q_eq0 {n : Nat} (hn : n < 2 ^ 31) : (nI n = 0) ↔ n = 0 := by
  rw [show (0 : Int32) = nI 0 from rfl, nI_eq hn (by decide)]
theorem q_wax_lt {g : Nat → Nat → Nat} (hg : q_ok g) {c : Nat} (hc : c < 12) : g 0 c < 2 ^ 31 := by
  have h1 : g 0 c ≤ 999 := hg 0 c (by decide) hc
  omega
theorem q_mt_lt {g : Nat → Nat → Nat} (hg : q_ok g) : g 12 0 < 2 ^ 31 := by
  have h1 : g 12 0 ≤ 99 := hg 12 0 (by decide) (by decide)
  omega
theorem e_why1 {T : Nat → Nat → Int32} {g : Nat → Nat → Nat} {c : Nat} (hT : q_T T g) (hg : q_ok g) (hc : c < 12) (b : Int32) : f_X3_reasonAgainst 42 (nI c) b T = some (nI (q_why1 g c)) := by
  unfold f_X3_reasonAgainst q_why1
  rw [if_neg (by decide), if_pos rfl, hT.rd 0 12 (by decide) rfl hc, Option.bind_some, q_bdd, e_isLit hT hg hc, Option.bind_some, hT 12 0 (by decide) (by decide)]
  by_cases h1 : g 0 c = 0
  · rw [if_pos ((q_eq0 (q_wax_lt hg hc)).mpr h1), if_pos h1]; rfl
  · rw [if_neg (fun q => h1 ((q_eq0 (q_wax_lt hg hc)).mp q)), if_neg h1]
    cases q_lit g c
    · rw [if_pos q_bf, if_neg q_ft]
      by_cases h2 : g 12 0 = 0
      · rw [if_pos ((q_eq0 (q_mt_lt hg)).mpr h2), if_pos h2]; rfl
      · rw [if_neg (fun q => h2 ((q_eq0 (q_mt_lt hg)).mp q)), if_neg h2]; rfl
    · rw [if_neg q_bt, if_pos q_tt]; rfl
/-- an act of the reference on 'now': its answer, the new picture; all other rows stay but those told -/
def q_act6 (M M' : Nat → Nat → Int32) (g' : Nat → Nat → Nat) : Prop := q_B (M' 1) g' ∧ ∀ k, k ≠ 1 → k ≠ 8 → k ≠ 11 → M' k = M k
theorem e6_strike {M : Nat → Nat → Int32} {g : Nat → Nat → Nat} {c : Nat} (hB : q_B (M 1) g) (hg : q_ok g) (hc : c < 12) : ∃ M', f_X6_strike (nI c) M = some (nI (q_why1 g c), M') ∧ (q_why1 g c ≠ 0 → M' = M) ∧ (q_why1 g c = 0 → q_B (M' 1) (q_do1 g c) ∧ ∀ k, k ≠ 1 → M' k = M k) := by
  have hr := hB.rd 0 0 rfl (by decide) (by decide) hc
  rw [Nat.zero_add] at hr
  have h67 : cd_rd (M 1) 69 (nI 67) = some (nI (g 12 0)) := hB.rd 12 67 (j := 0) rfl (by decide) (by decide) (by decide)
  have hi67 : cd_ix 69 (nI 67) = some 67 := cd_ix_nI (by decide) (by decide)
  have hi66 : cd_ix 69 (nI 66) = some 66 := cd_ix_nI (by decide) (by decide)
  unfold f_X6_strike
  rw [hr, Option.bind_some, e6_isLit hB hg hc, Option.bind_some, q_l 67, h67, Option.bind_some, Option.bind_some, hi67, Option.bind_some, q_l 66, hi66]
  unfold q_why1
  by_cases h1 : g 0 c = 0
  · rw [if_pos ((q_eq0 (q_wax_lt hg hc)).mpr h1), if_pos h1]
    exact ⟨M, rfl, fun _ => rfl, fun q => absurd q (by decide)⟩
  · rw [if_neg (fun q => h1 ((q_eq0 (q_wax_lt hg hc)).mp q)), if_neg h1]
    cases q_lit g c
    · rw [if_pos q_bf, if_neg q_ft]
      by_cases h2 : g 12 0 = 0
      · rw [if_pos ((q_eq0 (q_mt_lt hg)).mpr h2), if_pos h2]
        exact ⟨M, rfl, fun _ => rfl, fun q => absurd q (by decide)⟩
      · rw [if_neg (fun q => h2 ((q_eq0 (q_mt_lt hg)).mp q)), if_neg h2, q_1, pk_sub (by omega)]
        have b1 : q_B (upd (M 1) 67 (nI (g 12 0 - 1))) (q_up g 12 0 (g 12 0 - 1)) := hB.set 12 67 (j := 0) rfl (by decide) (by decide) (by decide) _
        have r1 : cd_rd (upd (M 1) 67 (nI (g 12 0 - 1))) 69 (nI 66) = some (nI (g 11 0)) := b1.rd 11 66 (j := 0) rfl (by decide) (by decide) (by decide)
        have b2 : q_B ((cd_set (cd_set M 1 67 (nI (g 12 0 - 1))) 1 66 (nI (g 11 0 ||| 2 ^ c))) 1) (q_up (q_up g 12 0 (g 12 0 - 1)) 11 0 (g 11 0 ||| 2 ^ c)) := by
          rw [cd_set_s, cd_set_s]
          exact b1.set 11 66 (j := 0) rfl (by decide) (by decide) (by decide) _
        obtain ⟨M', e1, e2, e3⟩ := e6_leaveJoined b2 hc
        rw [r1, Option.bind_some, Option.bind_some, ← q_1, q_shl (by omega), q_or, e1, Option.bind_some]
        exact ⟨M', rfl, fun q => absurd rfl q, fun _ => ⟨e2, fun k hk => by rw [e3 k hk, cd_set_n _ _ hk, cd_set_n _ _ hk]⟩⟩
    · rw [if_neg q_bt, if_pos q_tt]
      exact ⟨M, rfl, fun _ => rfl, fun q => absurd q (by decide)⟩
