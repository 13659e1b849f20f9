/-! acts: asking in the reference; lighting one from another -/
section ACT3
variable {T M : Nat → Nat → Int32} {g : Nat → Nat → Nat} {c : Nat}
theorem q_do3_alt (g : Nat → Nat → Nat) (c : Nat) : q_up (q_up (q_up g 5 c (g 5 c - q_due g c)) 7 (g 4 c) (g 7 (g 4 c) - q_due g c)) 7 (g 3 c) ((q_up (q_up g 5 c (g 5 c - q_due g c)) 7 (g 4 c) (g 7 (g 4 c) - q_due g c)) 7 (g 3 c) + q_due g c) = q_do3 g c := by
  funext a b
  simp only [q_do3, q_pu2, q_pu1, q_up]
  by_cases h5 : a = 5
  · subst h5; simp
  · simp [h5]
theorem e6_askFor (hB : q_B (M 1) g) (hC : q_C M g) (hg : q_ok g) (hc : c < 12) : ∃ M', f_X6_askFor (nI c) M = some (nI (q_why3 g c), M') ∧ (q_why3 g c ≠ 0 → M' = M) ∧ (q_why3 g c = 0 → q_B (M' 1) (q_do3 g c) ∧ M' 8 0 = M 8 0 + nI (q_due g c) ∧ ∀ k, k ≠ 1 → k ≠ 8 → M' k = M k) := by
  have h1 := q_crd hg hc
  have h2 := q_deb hg hc
  have h3 := q_smm hg hc
  have h4 := q_prs hg h1
  have h5 := q_prs hg h2
  have hd := q_due_le g c
  have r12 : cd_rd (M 1) 69 (nI 12 + nI c) = some (nI (g 5 c)) := by rw [nI_add]; exact hB.rd 5 12 rfl (by decide) (by decide) hc
  have i12 : cd_ix 69 (nI 12 + nI c) = some (12 + c) := by rw [nI_add]; exact cd_ix_nI (by omega) (by decide)
  have rd4 : cd_rd (M 3) 12 (nI c) = some (nI (g 4 c)) := by rw [cd_rd_nI hc (by decide), hC.2 c hc]
  have rd3 : cd_rd (M 2) 12 (nI c) = some (nI (g 3 c)) := by rw [cd_rd_nI hc (by decide), hC.1 c hc]
  have r60 : cd_rd (M 1) 69 (nI 60 + nI (g 4 c)) = some (nI (g 7 (g 4 c))) := by rw [nI_add]; exact hB.rd 7 60 rfl (by decide) (by decide) h2
  have r60b : cd_rd (M 1) 69 (nI 60 + nI (g 3 c)) = some (nI (g 7 (g 3 c))) := by rw [nI_add]; exact hB.rd 7 60 rfl (by decide) (by decide) h1
  have i60 : cd_ix 69 (nI 60 + nI (g 4 c)) = some (60 + g 4 c) := by rw [nI_add]; exact cd_ix_nI (by omega) (by decide)
  have i60b : cd_ix 69 (nI 60 + nI (g 3 c)) = some (60 + g 3 c) := by rw [nI_add]; exact cd_ix_nI (by omega) (by decide)
  have hx9 : (if nI (g 7 (g 4 c)) ≤ nI (g 5 c) then some (nI (g 7 (g 4 c))) else some (nI (g 5 c))) = some (nI (q_due g c)) := by
    unfold q_due
    by_cases h : g 7 (g 4 c) ≤ g 5 c
    · rw [if_pos ((nI_leI (by omega) (by omega)).mpr h)]
      by_cases e : g 5 c ≤ g 7 (g 4 c)
      · rw [if_pos e, show g 7 (g 4 c) = g 5 c by omega]
      · rw [if_neg e]
    · rw [if_neg (fun q => h ((nI_leI (by omega) (by omega)).mp q)), if_pos (by omega)]
  have b1 : q_B (upd (M 1) (12 + c) (nI (g 5 c - q_due g c))) (q_up g 5 c (g 5 c - q_due g c)) := hB.set 5 12 rfl (by decide) (by decide) hc _
  have b2 : q_B (upd (upd (M 1) (12 + c) (nI (g 5 c - q_due g c))) (60 + g 4 c) (nI (g 7 (g 4 c) - q_due g c))) (q_up (q_up g 5 c (g 5 c - q_due g c)) 7 (g 4 c) (g 7 (g 4 c) - q_due g c)) := b1.set 7 60 rfl (by decide) (by decide) h2 _
  have r2 : cd_rd (upd (M 1) (12 + c) (nI (g 5 c - q_due g c))) 69 (nI 60 + nI (g 4 c)) = some (nI (g 7 (g 4 c))) := by
    rw [nI_add, b1.rd 7 60 rfl (by decide) (by decide) h2, q_up_k _ (by decide)]
  have r3 : cd_rd (upd (upd (M 1) (12 + c) (nI (g 5 c - q_due g c))) (60 + g 4 c) (nI (g 7 (g 4 c) - q_due g c))) 69 (nI 60 + nI (g 3 c)) = some (nI ((q_up (q_up g 5 c (g 5 c - q_due g c)) 7 (g 4 c) (g 7 (g 4 c) - q_due g c)) 7 (g 3 c))) := by
    rw [nI_add]; exact b2.rd 7 60 rfl (by decide) (by decide) h1
  have b3 := b2.set 7 60 rfl (by decide) (by decide) h1 ((q_up (q_up g 5 c (g 5 c - q_due g c)) 7 (g 4 c) (g 7 (g 4 c) - q_due g c)) 7 (g 3 c) + q_due g c)
  rw [q_do3_alt] at b3
  have fin : q_B ((cd_fld (cd_set (cd_set (cd_set M 1 (12 + c) (nI (g 5 c - q_due g c))) 1 (60 + g 4 c) (nI (g 7 (g 4 c) - q_due g c))) 1 (60 + g 3 c) (nI ((q_up (q_up g 5 c (g 5 c - q_due g c)) 7 (g 4 c) (g 7 (g 4 c) - q_due g c)) 7 (g 3 c)) + nI (q_due g c))) 8 (M 8 0 + nI (q_due g c))) 1) (q_do3 g c) := by
    rw [cd_fld_n _ _ (by decide), cd_set_s, cd_set_s, cd_set_s, nI_add]
    exact b3
  unfold f_X6_askFor q_why3
  rw [e6_isLit hB hg hc, Option.bind_some]
  cases q_lit g c
  · rw [if_pos q_bf, if_neg q_ft]
    exact ⟨M, rfl, fun _ => rfl, fun q => absurd q (by decide)⟩
  · rw [if_neg q_bt, if_pos q_tt, q_l 12, r12, Option.bind_some]
    by_cases e5 : g 5 c = 0
    · rw [if_pos e5, if_pos ((q_eq0 (by omega)).mpr e5)]
      exact ⟨M, rfl, fun _ => rfl, fun q => absurd q (by decide)⟩
    · rw [if_neg e5, if_neg (fun q => e5 ((q_eq0 (by omega)).mp q)), q_l 60]
      simp only [rd4, rd3, r12, r60, r60b, hx9, i12, i60, i60b, Option.bind_some, pk_sub hd.1, pk_sub hd.2, r2, r3]
      by_cases e : g 3 c = g 4 c
      · rw [if_pos (by rw [e]), if_neg (show ¬ (g 3 c ≠ g 4 c ∧ 9999 < g 7 (g 3 c) + q_due g c) from fun q => q.1 e)]
        exact ⟨_, rfl, fun q => absurd rfl q, fun _ => ⟨fin, cd_fld_s _ _ _ _, fun k k1 k8 => by rw [cd_fld_n _ _ k8, cd_set_n _ _ k1, cd_set_n _ _ k1, cd_set_n _ _ k1]⟩⟩
      · rw [if_neg (show ¬ nI 60 + nI (g 4 c) = nI 60 + nI (g 3 c) by rw [nI_add, nI_add, nI_eq (by omega) (by omega)]; omega), q_l 9999, nI_add (g 7 (g 3 c))]
        by_cases h6 : g 7 (g 3 c) + q_due g c ≤ 9999
        · rw [if_pos ((nI_leI (by omega) (by omega)).mpr h6), if_neg (show ¬ (g 3 c ≠ g 4 c ∧ 9999 < g 7 (g 3 c) + q_due g c) from fun q => absurd q.2 (by omega))]
          exact ⟨_, rfl, fun q => absurd rfl q, fun _ => ⟨fin, cd_fld_s _ _ _ _, fun k k1 k8 => by rw [cd_fld_n _ _ k8, cd_set_n _ _ k1, cd_set_n _ _ k1, cd_set_n _ _ k1]⟩⟩
        · rw [if_neg (fun q => h6 ((nI_leI (by omega) (by omega)).mp q)), if_pos ⟨e, by omega⟩]
          exact ⟨M, rfl, fun _ => rfl, fun q => absurd q (by decide)⟩
def q_why5 (g : Nat → Nat → Nat) (c x : Nat) : Nat := if g 0 x = 0 then 1 else if q_lit g x = true ∨ q_lit g c = false then 2 else if x + 1 = c ∨ x = c + 1 then 0 else 4
def q_jn (g : Nat → Nat → Nat) (al i : Nat) : Nat → Nat → Nat := fun a b => if a = 6 ∧ b < i ∧ al.testBit b = true then al else g a b
def q_do5 (g : Nat → Nat → Nat) (c x : Nat) : Nat → Nat → Nat := q_jn (q_up g 11 0 (g 11 0 ||| 2 ^ x)) (g 6 c ||| g 6 x) 12
theorem q_jn_0 (g : Nat → Nat → Nat) (al : Nat) : q_jn g al 0 = g := by
  funext a b
  unfold q_jn
  rw [if_neg (by omega)]
theorem q_jn_y (g : Nat → Nat → Nat) {al i : Nat} (h : al.testBit i = true) : q_up (q_jn g al i) 6 i al = q_jn g al (i + 1) := by
  funext a b
  unfold q_up q_jn
  by_cases h1 : a = 6
  · subst h1
    by_cases h2 : b = i
    · subst h2; simp [h]
    · by_cases h3 : b < i
      · have h4 : b < i + 1 := by omega
        simp [h2, h3, h4]
      · have h4 : ¬ b < i + 1 := by omega
        simp [h2, h3, h4]
  · simp [h1]
theorem q_jn_n (g : Nat → Nat → Nat) {al i : Nat} (h : al.testBit i = false) : q_jn g al i = q_jn g al (i + 1) := by
  funext a b
  unfold q_jn
  by_cases h2 : b = i
  · subst h2; simp [h]
  · by_cases h3 : b < i
    · have h4 : b < i + 1 := by omega
      simp [h3, h4]
    · have h4 : ¬ b < i + 1 := by omega
      simp [h3, h4]
theorem q_jn_at (g : Nat → Nat → Nat) (al i : Nat) : q_jn g al i 6 i = g 6 i := by
  unfold q_jn
  rw [if_neg (by omega)]
theorem q_up_id (g : Nat → Nat → Nat) (k j : Nat) : q_up g k j (g k j) = g := by
  funext a b
  unfold q_up
  by_cases h : a = k ∧ b = j
  · rw [if_pos h, h.1, h.2]
  · rw [if_neg h]
theorem q_jn_ok (h : q_ok g) {al : Nat} (ha : al ≤ 4095) (i : Nat) : q_ok (q_jn g al i) := by
  intro a b h1 h2
  unfold q_jn
  by_cases q : a = 6 ∧ b < i ∧ al.testBit b = true
  · rw [if_pos q]
    obtain ⟨rfl, -⟩ := q
    exact ha
  · rw [if_neg q]; exact h a b h1 h2
theorem q_al_le (h : q_ok g) (hc : c < 12) {x : Nat} (hx : x < 12) : g 6 c ||| g 6 x ≤ 4095 := by
  have := Nat.or_lt_two_pow (q_grp_lt h hc) (q_grp_lt h hx)
  omega
theorem q_do5_ok (h : q_ok g) (hc : c < 12) {x : Nat} (hx : x < 12) : q_ok (q_do5 g c x) := q_jn_ok (h.up 11 0 (q_or_le (q_litl h) hx)) (q_al_le h hc hx) 12
theorem q_m1 {x c : Nat} (hx : x < 12) (hc : c < 12) : (nI x = nI c - 1) ↔ x + 1 = c := by
  rw [cd_eq, q_1, pk_sub_toInt (by omega) (by omega), nI_toInt (by omega)]
  omega
theorem q_p1 {x c : Nat} (hx : x < 12) (hc : c < 12) : (nI x = nI c + 1) ↔ x = c + 1 := by
  rw [nI_1, nI_eq (by omega) (by omega)]
theorem e_why5 (hT : q_T T g) (hg : q_ok g) (hc : c < 12) {x : Nat} (hx : x < 12) : f_X3_reasonAgainst 62 (nI c) (nI x) T = some (nI (q_why5 g c x)) := by
  unfold f_X3_reasonAgainst
  rw [if_neg (by decide), if_neg (by decide), if_neg (by decide), if_pos rfl, q_bdd]
  unfold f_X3_reasonAgainstLighting q_why5
  rw [hT.rd 0 12 (by decide) rfl hx, Option.bind_some, e_isLit hT hg hx, Option.bind_some, e_isLit hT hg hc, Option.bind_some, q_bdd]
  by_cases h1 : g 0 x = 0
  · rw [if_pos h1, if_pos ((q_eq0 (q_wax_lt hg hx)).mpr h1)]; rfl
  · rw [if_neg h1, if_neg (fun q => h1 ((q_eq0 (q_wax_lt hg hx)).mp q))]
    cases q_lit g x
    · cases q_lit g c
      · rfl
      · rw [if_pos q_bf, if_neg q_bt, if_neg (show ¬ (false = true ∨ true = false) by decide)]
        by_cases h2 : x + 1 = c
        · rw [if_pos ((q_m1 hx hc).mpr h2), if_pos (Or.inl h2)]; rfl
        · rw [if_neg (fun q => h2 ((q_m1 hx hc).mp q))]
          by_cases h3 : x = c + 1
          · rw [if_pos ((q_p1 hx hc).mpr h3), if_pos (Or.inr h3)]; rfl
          · rw [if_neg (fun q => h3 ((q_p1 hx hc).mp q)), if_neg (by omega)]; rfl
    · rfl
theorem e_lightFrom (hT : q_T T g) (hg : q_ok g) (hc : c < 12) {x : Nat} (hx : x < 12) : ∃ T', f_X3_lightFrom (nI c) (nI x) T = some T' ∧ q_T T' (q_do5 g c x) := by
  have hal := q_al_le hg hc hx
  have t1 := hT.fld (k := 11) (by decide) (g 11 0 ||| 2 ^ x)
  obtain ⟨r, h1, h2⟩ := cd_upto (b := f_X3_lightFrom_b30 (nI (g 6 c)) (nI (g 6 x))) 12 (fun i a => q_T a (q_jn (q_up g 11 0 (g 11 0 ||| 2 ^ x)) (g 6 c ||| g 6 x) i)) (fun r => q_T r (q_do5 g c x)) (by decide) (fun i a hi h => Or.inr (by
      unfold f_X3_lightFrom_b30
      dsimp only
      rw [q_l 12, if_neg (nI_ge hi (by decide)), q_or, e_holds (by omega) (by omega), Option.bind_some, nI_1]
      cases hb : (g 6 c ||| g 6 x).testBit i
      · exact ⟨a, rfl, by rw [← q_jn_n _ hb]; exact h⟩
      · refine ⟨cd_set a 6 i (nI (g 6 c ||| g 6 x)), ?_, by rw [← q_jn_y _ hb]; exact h.set 6 i _⟩
        rw [if_neg (by decide), cd_ix_nI hi (by decide), Option.bind_some])) (fun a h => ⟨a, by
      unfold f_X3_lightFrom_b30
      dsimp only
      rw [q_l 12, if_pos (nI_le (Nat.le_refl _) (by decide))], h⟩) (a0 := cd_fld T 11 (nI (g 11 0 ||| 2 ^ x))) (by rw [q_jn_0]; exact t1)
  refine ⟨r, ?_, h2⟩
  unfold f_X3_lightFrom
  rw [e_bit (by omega), Option.bind_some, hT.rd 6 12 (by decide) rfl hc, Option.bind_some, hT.rd 6 12 (by decide) rfl hx, Option.bind_some, hT 11 0 (by decide) (by decide), q_or, show (0 : Int32) = nI 0 from rfl, h1, Option.bind_some]
theorem e6_join {M : Nat → Nat → Int32} {g1 : Nat → Nat → Nat} {u v : Nat} (hal : u ||| v ≤ 4095) (hB : q_B (M 1) g1) : ∃ M', cd_iter cd_N (f_X6_lightFrom_b81 (nI u) (nI v)) (nI 0, M) = some M' ∧ q_B (M' 1) (q_jn g1 (u ||| v) 12) ∧ ∀ k, k ≠ 1 → M' k = M k := by
  exact cd_upto (b := f_X6_lightFrom_b81 (nI u) (nI v)) 12 (fun i a => q_B (a 1) (q_jn g1 (u ||| v) i) ∧ ∀ k, k ≠ 1 → a k = M k) (fun r => q_B (r 1) (q_jn g1 (u ||| v) 12) ∧ ∀ k, k ≠ 1 → r k = M k) (by decide) (fun i a hi h => Or.inr (by
      unfold f_X6_lightFrom_b81
      dsimp only
      rw [q_l 12, if_neg (nI_ge hi (by decide)), q_or, e_isIn (by omega) (by omega), Option.bind_some, q_l 48, nI_add, h.1.rd 6 48 rfl (by decide) (by decide) hi, Option.bind_some, nI_1, cd_ix_nI (by omega) (by decide)]
      cases hb : (u ||| v).testBit i
      · refine ⟨cd_set a 1 (48 + i) (nI (q_jn g1 (u ||| v) i 6 i)), rfl, ?_, fun k hk => by rw [cd_set_n _ _ hk]; exact h.2 k hk⟩
        rw [cd_set_s, ← q_jn_n _ hb]
        have := h.1.set 6 48 rfl (by decide) (by decide) hi (q_jn g1 (u ||| v) i 6 i)
        rw [q_up_id] at this
        exact this
      · refine ⟨cd_set a 1 (48 + i) (nI (u ||| v)), rfl, ?_, fun k hk => by rw [cd_set_n _ _ hk]; exact h.2 k hk⟩
        rw [cd_set_s, ← q_jn_y _ hb]
        exact h.1.set 6 48 rfl (by decide) (by decide) hi _)) (fun a h => ⟨a, by
      unfold f_X6_lightFrom_b81
      dsimp only
      rw [q_l 12, if_pos (nI_le (Nat.le_refl _) (by decide))], h⟩) (a0 := M) ⟨by rw [q_jn_0]; exact hB, fun _ _ => rfl⟩
theorem e6_lightFrom (hB : q_B (M 1) g) (hg : q_ok g) (hc : c < 12) {x : Nat} (hx : x < 12) : ∃ M', f_X6_lightFrom (nI c) (nI x) M = some (nI (q_why5 g c x), M') ∧ (q_why5 g c x ≠ 0 → M' = M) ∧ (q_why5 g c x = 0 → q_B (M' 1) (q_do5 g c x) ∧ ∀ k, k ≠ 1 → M' k = M k) := by
  have hr := hB.rd 0 0 rfl (by decide) (by decide) hx
  rw [Nat.zero_add] at hr
  have h66 : cd_rd (M 1) 69 (nI 66) = some (nI (g 11 0)) := hB.rd 11 66 (j := 0) rfl (by decide) (by decide) (by decide)
  have hi66 : cd_ix 69 (nI 66) = some 66 := cd_ix_nI (by decide) (by decide)
  have b1 : q_B (upd (M 1) 66 (nI (g 11 0 ||| 2 ^ x))) (q_up g 11 0 (g 11 0 ||| 2 ^ x)) := hB.set 11 66 (j := 0) rfl (by decide) (by decide) (by decide) _
  have rc : cd_rd (upd (M 1) 66 (nI (g 11 0 ||| 2 ^ x))) 69 (nI 48 + nI c) = some (nI (g 6 c)) := by rw [nI_add, b1.rd 6 48 rfl (by decide) (by decide) hc, q_up_k _ (by decide)]
  have rx : cd_rd (upd (M 1) 66 (nI (g 11 0 ||| 2 ^ x))) 69 (nI 48 + nI x) = some (nI (g 6 x)) := by rw [nI_add, b1.rd 6 48 rfl (by decide) (by decide) hx, q_up_k _ (by decide)]
  obtain ⟨M', e1, e2, e3⟩ := e6_join (M := cd_set M 1 66 (nI (g 11 0 ||| 2 ^ x))) (q_al_le hg hc hx) (by rw [cd_set_s]; exact b1)
  have e1' : cd_iter cd_N (f_X6_lightFrom_b81_23 (nI (g 6 c)) (nI (g 6 x))) (nI 0, cd_set M 1 66 (nI (g 11 0 ||| 2 ^ x))) = some M' := e1
  have fin : q_B (M' 1) (q_do5 g c x) ∧ ∀ k, k ≠ 1 → M' k = M k := ⟨e2, fun k hk => by rw [e3 k hk, cd_set_n _ _ hk]⟩
  unfold f_X6_lightFrom q_why5
  rw [hr, Option.bind_some, e6_isLit hB hg hc, Option.bind_some, e6_isLit hB hg hx, Option.bind_some, q_shl (by omega), q_l 66, h66, Option.bind_some, Option.bind_some, hi66, Option.bind_some, Option.bind_some, q_or, q_l 48, rc, Option.bind_some, Option.bind_some, rx, Option.bind_some, Option.bind_some]
  by_cases h1 : g 0 x = 0
  · rw [if_pos h1, if_pos ((q_eq0 (q_wax_lt hg hx)).mpr h1)]
    exact ⟨M, rfl, fun _ => rfl, fun q => absurd q (by decide)⟩
  · rw [if_neg h1, if_neg (fun q => h1 ((q_eq0 (q_wax_lt hg hx)).mp q))]
    cases q_lit g c
    · rw [if_pos q_bf, if_pos (show (q_lit g x = true ∨ false = false) from Or.inr rfl)]
      exact ⟨M, rfl, fun _ => rfl, fun q => absurd q (by decide)⟩
    · rw [if_neg q_bt]
      cases q_lit g x
      · rw [if_pos q_bf, if_neg (show ¬ (false = true ∨ true = false) by decide)]
        by_cases h3 : x = c + 1
        · rw [if_pos ((q_p1 hx hc).mpr h3), if_pos (Or.inr h3), show (0 : Int32) = nI 0 from rfl, e1, Option.bind_some]
          exact ⟨M', rfl, fun q => absurd rfl q, fun _ => fin⟩
        · rw [if_neg (fun q => h3 ((q_p1 hx hc).mp q))]
          by_cases h2 : x + 1 = c
          · rw [if_pos ((q_m1 hx hc).mpr h2), if_pos (Or.inl h2), show (0 : Int32) = nI 0 from rfl, e1', Option.bind_some]
            exact ⟨M', rfl, fun q => absurd rfl q, fun _ => fin⟩
          · rw [if_neg (fun q => h2 ((q_m1 hx hc).mp q)), if_neg (by omega)]
            exact ⟨M, rfl, fun _ => rfl, fun q => absurd q (by decide)⟩
      · rw [if_neg q_bt, if_pos (show (true = true ∨ true = false) from Or.inl rfl)]
        exact ⟨M, rfl, fun _ => rfl, fun q => absurd q (by decide)⟩
end ACT3
