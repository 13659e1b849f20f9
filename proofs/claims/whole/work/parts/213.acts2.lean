/-! acts: snuffing, asking, trimming, draught -/
section ACT2
variable {T M : Nat → Nat → Int32} {g : Nat → Nat → Nat} {c : Nat}
def q_why2 (g : Nat → Nat → Nat) (c : Nat) : Nat := if q_lit g c then 0 else 2
def q_do2 (g : Nat → Nat → Nat) (c : Nat) : Nat → Nat → Nat := q_up g 11 0 (q_dn (g 11 0) (g 6 c))
theorem q_do2_ok (h : q_ok g) (c : Nat) : q_ok (q_do2 g c) := by
  refine h.up 11 0 ?_
  have := q_dn_lt (b := g 6 c) (q_litl h)
  show _ ≤ 4095
  omega
theorem e_why2 (hT : q_T T g) (hg : q_ok g) (hc : c < 12) (b : Int32) : f_X3_reasonAgainst 45 (nI c) b T = some (nI (q_why2 g c)) := by
  unfold f_X3_reasonAgainst q_why2
  rw [if_neg (by decide), if_neg (by decide), if_pos rfl, e_isLit hT hg hc, Option.bind_some, q_bdd]
  cases q_lit g c <;> rfl
theorem e_putOut (hT : q_T T g) (hc : c < 12) : ∃ T', f_X3_putOut (nI c) T = some T' ∧ q_T T' (q_do2 g c) := by
  refine ⟨_, ?_, hT.fld (k := 11) (by decide) (q_dn (g 11 0) (g 6 c))⟩
  unfold f_X3_putOut
  rw [hT.rd 6 12 (by decide) rfl hc, Option.bind_some, hT 11 0 (by decide) (by decide), q_andn]
theorem e6_snuffOut (hB : q_B (M 1) g) (hg : q_ok g) (hc : c < 12) : ∃ M', f_X6_snuffOut (nI c) M = some (nI (q_why2 g c), M') ∧ (q_why2 g c ≠ 0 → M' = M) ∧ (q_why2 g c = 0 → q_B (M' 1) (q_do2 g c) ∧ ∀ k, k ≠ 1 → M' k = M k) := by
  have h66 : cd_rd (M 1) 69 (nI 66) = some (nI (g 11 0)) := hB.rd 11 66 (j := 0) rfl (by decide) (by decide) (by decide)
  have hi66 : cd_ix 69 (nI 66) = some 66 := cd_ix_nI (by decide) (by decide)
  unfold f_X6_snuffOut q_why2
  rw [e6_isLit hB hg hc, Option.bind_some, q_l 66, h66, Option.bind_some, q_l 48, nI_add, hB.rd 6 48 rfl (by decide) (by decide) hc, Option.bind_some, hi66, Option.bind_some, q_andn]
  cases q_lit g c
  · exact ⟨M, rfl, fun _ => rfl, fun q => absurd q (by decide)⟩
  · refine ⟨cd_set M 1 66 (nI (q_dn (g 11 0) (g 6 c))), rfl, fun q => absurd rfl q, fun _ => ⟨?_, fun k hk => cd_set_n _ _ hk⟩⟩
    rw [cd_set_s]
    exact hB.set 11 66 (j := 0) rfl (by decide) (by decide) (by decide) _
def q_why4 (g : Nat → Nat → Nat) (c : Nat) : Nat := if g 1 c = 9 then 5 else 0
def q_do4 (g : Nat → Nat → Nat) (c : Nat) : Nat → Nat → Nat := q_up g 1 c (g 1 c + 1)
theorem q_trm (h : q_ok g) (hc : c < 12) : g 1 c ≤ 9 := h 1 c (by decide) hc
theorem q_do4_ok (h : q_ok g) (hc : c < 12) (hw : q_why4 g c = 0) : q_ok (q_do4 g c) := by
  refine h.up 1 c ?_
  have := q_trm h hc
  unfold q_why4 at hw
  show _ ≤ 9
  split at hw <;> omega
theorem e_why4 (hT : q_T T g) (hg : q_ok g) (hc : c < 12) (b : Int32) : f_X3_reasonAgainst 94 (nI c) b T = some (nI (q_why4 g c)) := by
  have := q_trm hg hc
  unfold f_X3_reasonAgainst q_why4
  rw [if_neg (by decide), if_neg (by decide), if_neg (by decide), if_neg (by decide), if_pos rfl, hT.rd 1 12 (by decide) rfl hc, Option.bind_some, q_bdd, q_l 9]
  by_cases h : g 1 c = 9
  · rw [if_pos h, if_neg (nI_nlt (by omega) (by omega))]; rfl
  · rw [if_neg h, if_pos (nI_lt (by omega) (by omega))]; rfl
theorem e6_trim (hB : q_B (M 1) g) (hg : q_ok g) (hc : c < 12) : ∃ M', f_X6_trim (nI c) M = some (nI (q_why4 g c), M') ∧ (q_why4 g c ≠ 0 → M' = M) ∧ (q_why4 g c = 0 → q_B (M' 1) (q_do4 g c) ∧ ∀ k, k ≠ 1 → M' k = M k) := by
  have := q_trm hg hc
  unfold f_X6_trim q_why4
  rw [q_l 24, nI_add, hB.rd 1 24 rfl (by decide) (by decide) hc, Option.bind_some, Option.bind_some, cd_ix_nI (by omega) (by decide), Option.bind_some, nI_1, q_l 9]
  by_cases h : g 1 c = 9
  · rw [if_pos h, if_pos ((nI_eq (by omega) (by omega)).mpr h)]
    exact ⟨M, rfl, fun _ => rfl, fun q => absurd q (by decide)⟩
  · rw [if_neg h, if_neg (fun q => h ((nI_eq (by omega) (by omega)).mp q))]
    refine ⟨cd_set M 1 (24 + c) (nI (g 1 c + 1)), rfl, fun q => absurd rfl q, fun _ => ⟨?_, fun k hk => cd_set_n _ _ hk⟩⟩
    rw [cd_set_s]
    exact hB.set 1 24 rfl (by decide) (by decide) hc _
def q_why6 (g : Nat → Nat → Nat) (c v : Nat) : Nat := if g 2 c = v then 7 else 0
def q_do6 (g : Nat → Nat → Nat) (c v : Nat) : Nat → Nat → Nat := q_up g 2 c v
theorem q_drt (h : q_ok g) (hc : c < 12) : g 2 c ≤ 9 := h 2 c (by decide) hc
theorem e_why6 (hT : q_T T g) (hg : q_ok g) (hc : c < 12) {v : Nat} (hv : v ≤ 9) : f_X3_reasonAgainst 119 (nI c) (nI v) T = some (nI (q_why6 g c v)) := by
  have := q_drt hg hc
  unfold f_X3_reasonAgainst q_why6
  rw [if_neg (by decide), if_neg (by decide), if_neg (by decide), if_neg (by decide), if_neg (by decide), if_pos rfl, hT.rd 2 12 (by decide) rfl hc, Option.bind_some, q_bdd]
  by_cases h : g 2 c = v
  · rw [if_pos h, if_pos ((nI_eq (by omega) (by omega)).mpr h)]; rfl
  · rw [if_neg h, if_neg (fun q => h ((nI_eq (by omega) (by omega)).mp q))]; rfl
theorem e6_blow (hB : q_B (M 1) g) (hg : q_ok g) (hc : c < 12) {v : Nat} (hv : v ≤ 9) : ∃ M', f_X6_blow (nI c) (nI v) M = some (nI (q_why6 g c v), M') ∧ (q_why6 g c v ≠ 0 → M' = M) ∧ (q_why6 g c v = 0 → q_B (M' 1) (q_do6 g c v) ∧ ∀ k, k ≠ 1 → M' k = M k) := by
  have := q_drt hg hc
  unfold f_X6_blow q_why6
  rw [q_l 36, nI_add, hB.rd 2 36 rfl (by decide) (by decide) hc, Option.bind_some, cd_ix_nI (by omega) (by decide), Option.bind_some]
  by_cases h : g 2 c = v
  · rw [if_pos h, if_pos ((nI_eq (by omega) (by omega)).mpr h)]
    exact ⟨M, rfl, fun _ => rfl, fun q => absurd q (by decide)⟩
  · rw [if_neg h, if_neg (fun q => h ((nI_eq (by omega) (by omega)).mp q))]
    refine ⟨cd_set M 1 (36 + c) (nI v), rfl, fun q => absurd rfl q, fun _ => ⟨?_, fun k hk => cd_set_n _ _ hk⟩⟩
    rw [cd_set_s]
    exact hB.set 2 36 rfl (by decide) (by decide) hc _
def q_due (g : Nat → Nat → Nat) (c : Nat) : Nat := if g 5 c ≤ g 7 (g 4 c) then g 5 c else g 7 (g 4 c)
def q_why3 (g : Nat → Nat → Nat) (c : Nat) : Nat := if q_lit g c then (if g 5 c = 0 then 5 else if g 3 c ≠ g 4 c ∧ 9999 < g 7 (g 3 c) + q_due g c then 6 else 0) else 2
def q_pu1 (g : Nat → Nat → Nat) (c : Nat) : Nat → Nat → Nat := q_up g 7 (g 4 c) (g 7 (g 4 c) - q_due g c)
def q_pu2 (g : Nat → Nat → Nat) (c : Nat) : Nat → Nat → Nat := q_up (q_pu1 g c) 7 (g 3 c) (q_pu1 g c 7 (g 3 c) + q_due g c)
def q_do3 (g : Nat → Nat → Nat) (c : Nat) : Nat → Nat → Nat := q_up (q_pu2 g c) 5 c (g 5 c - q_due g c)
theorem q_crd (h : q_ok g) (hc : c < 12) : g 3 c < 6 := by
  have : g 3 c ≤ 5 := h 3 c (by decide) hc
  omega
theorem q_deb (h : q_ok g) (hc : c < 12) : g 4 c < 6 := by
  have : g 4 c ≤ 5 := h 4 c (by decide) hc
  omega
theorem q_prs (h : q_ok g) {k : Nat} (hk : k < 6) : g 7 k ≤ 9999 := h 7 k (by decide) hk
theorem q_smm (h : q_ok g) (hc : c < 12) : g 5 c ≤ 999 := h 5 c (by decide) hc
theorem q_due_le (g : Nat → Nat → Nat) (c : Nat) : q_due g c ≤ g 5 c ∧ q_due g c ≤ g 7 (g 4 c) := by
  unfold q_due
  split <;> omega
theorem q_do3_ok (h : q_ok g) (hc : c < 12) (hw : q_why3 g c = 0) : q_ok (q_do3 g c) := by
  have h1 := q_prs h (q_deb h hc)
  have h2 := q_prs h (q_crd h hc)
  have h3 := q_smm h hc
  have hd := q_due_le g c
  have ok1 : q_ok (q_pu1 g c) := h.up 7 _ (by show _ ≤ 9999; omega)
  refine (ok1.up 7 _ ?_).up 5 c (by show _ ≤ 999; omega)
  show _ ≤ 9999
  unfold q_pu1 q_up
  unfold q_why3 at hw
  by_cases e : g 3 c = g 4 c
  · rw [if_pos ⟨rfl, e⟩]; omega
  · rw [if_neg (fun q => e q.2)]
    cases hl : q_lit g c
    · rw [hl, if_neg q_ft] at hw; exact absurd hw (by decide)
    · rw [hl, if_pos rfl] at hw
      by_cases h5 : g 5 c = 0
      · rw [if_pos h5] at hw; exact absurd hw (by decide)
      · rw [if_neg h5] at hw
        by_cases h6 : g 3 c ≠ g 4 c ∧ 9999 < g 7 (g 3 c) + q_due g c
        · rw [if_pos h6] at hw; exact absurd hw (by decide)
        · have := not_and.mp h6 e
          omega
theorem e_dueOf (hT : q_T T g) (hg : q_ok g) (hc : c < 12) : f_X3_dueOf (nI c) T = some (nI (q_due g c)) := by
  have h1 := q_prs hg (q_deb hg hc)
  have h3 := q_smm hg hc
  unfold f_X3_dueOf q_due
  rw [hT.rd 4 12 (by decide) rfl hc, Option.bind_some, hT.rd 7 6 (by decide) rfl (q_deb hg hc), Option.bind_some, hT.rd 5 12 (by decide) rfl hc, Option.bind_some, Option.bind_some, q_bdd]
  by_cases h : g 5 c ≤ g 7 (g 4 c)
  · rw [if_pos h, if_pos ((nI_leI (by omega) (by omega)).mpr h)]
  · rw [if_neg h, if_neg (fun q => h ((nI_leI (by omega) (by omega)).mp q))]
theorem e_why3 (hT : q_T T g) (hg : q_ok g) (hc : c < 12) (b : Int32) : f_X3_reasonAgainst 33 (nI c) b T = some (nI (q_why3 g c)) := by
  have h1 := q_crd hg hc
  have h2 := q_deb hg hc
  have h3 := q_smm hg hc
  have h4 := q_prs hg h1
  have hd := q_due_le g c
  unfold f_X3_reasonAgainst
  rw [if_pos rfl, q_bdd]
  unfold f_X3_reasonAgainstAsking q_why3
  rw [e_isLit hT hg hc, Option.bind_some]
  cases q_lit g c
  · rfl
  · rw [if_neg q_bt, if_pos q_tt]
    simp only [hT.rd 5 12 (by decide) rfl hc, hT.rd 3 12 (by decide) rfl hc, hT.rd 4 12 (by decide) rfl hc, hT.rd 7 6 (by decide) rfl h1, e_dueOf hT hg hc, Option.bind_some]
    by_cases h5 : g 5 c = 0
    · rw [if_pos h5, if_pos ((q_eq0 (by omega)).mpr h5)]; rfl
    · rw [if_neg h5, if_neg (fun q => h5 ((q_eq0 (by omega)).mp q))]
      by_cases e : g 3 c = g 4 c
      · rw [if_pos ((nI_eq (by omega) (by omega)).mpr e), if_neg (show ¬ (g 3 c ≠ g 4 c ∧ 9999 < g 7 (g 3 c) + q_due g c) from fun q => q.1 e)]; rfl
      · rw [if_neg (fun q => e ((nI_eq (by omega) (by omega)).mp q))]
        simp only [Option.bind_some, nI_add]
        rw [if_neg (show ¬ (1 : Int32) = 0 by decide), q_l 9999]
        by_cases h6 : g 7 (g 3 c) + q_due g c ≤ 9999
        · rw [if_pos ((nI_leI (by omega) (by omega)).mpr h6), if_neg (show ¬ (g 3 c ≠ g 4 c ∧ 9999 < g 7 (g 3 c) + q_due g c) from fun q => absurd q.2 (by omega))]; rfl
        · rw [if_neg (fun q => h6 ((nI_leI (by omega) (by omega)).mp q)), if_pos ⟨e, by omega⟩]; rfl
theorem e_pay (hT : q_T T g) (hg : q_ok g) (hc : c < 12) : ∃ T', f_X3_pay (nI c) T = some (nI (q_due g c), T') ∧ q_T T' (q_do3 g c) := by
  have h1 := q_crd hg hc
  have h2 := q_deb hg hc
  have hd := q_due_le g c
  have t1 : q_T (cd_set T 7 (g 4 c) (nI (g 7 (g 4 c) - q_due g c))) (q_pu1 g c) := hT.set 7 _ _
  have t2 := t1.set 7 (g 3 c) (q_pu1 g c 7 (g 3 c) + q_due g c)
  refine ⟨_, ?_, t2.set 5 c (g 5 c - q_due g c)⟩
  have r1 := t1.rd 7 6 (by decide) rfl h1
  rw [cd_set_s] at r1
  unfold f_X3_pay
  rw [e_dueOf hT hg hc, Option.bind_some, hT.rd 4 12 (by decide) rfl hc, Option.bind_some, hT.rd 7 6 (by decide) rfl h2, Option.bind_some, cd_ix_nI h2 (by decide), Option.bind_some, hT.rd 3 12 (by decide) rfl hc, Option.bind_some, pk_sub hd.2, r1, Option.bind_some, cd_ix_nI h1 (by decide), Option.bind_some, hT.rd 5 12 (by decide) rfl hc, Option.bind_some, cd_ix_nI hc (by decide), Option.bind_some, nI_add, pk_sub hd.1]
end ACT2
