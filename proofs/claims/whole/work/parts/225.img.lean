/-! told, image, restore -/
section IMG
variable {P T M K T1 T2 : Nat → Nat → Int32} {s : Nat → Nat} {n : Nat} {g : Nat → Nat → Nat}
theorem m_told (h : q_X T M g) (hd : q_pd s n) (hP : q_P P s n) (h6 : q_P6 M s n) (K : Nat → Nat → Int32) (a0 : Int32) : ∃ v M', f_X5_told a0 K T P = some v ∧ f_X6_told a0 M = some (v, M') ∧ q_same M M' := by
  have hn := hd.1
  obtain ⟨h11, h12, h13, h14, h15⟩ := h
  unfold f_X5_told f_X6_told
  rw [e_within, q_br]
  have t0 : (0 : Int32).toInt = 0 := by decide
  have t10 : (10 : Int32).toInt = 10 := by decide
  have t15 : (15 : Int32).toInt = 15 := by decide
  have t100 : (100 : Int32).toInt = 100 := by decide
  have t219 : (219 : Int32).toInt = 219 := by decide
  by_cases hneg : a0 < 0
  · -- below 0
    have hx := cd_lt.mp hneg
    rw [if_neg (by rw [cd_le, cd_le]; omega), e_within, q_br, if_neg (by rw [cd_le, cd_le]; omega), if_pos (show a0 < 100 by rw [cd_lt]; omega), if_pos (show a0 < 10 by rw [cd_lt]; omega)]
    have ne : ∀ k : Nat, k < 100 → ¬ a0 = nI k := fun k hk e => by
      rw [e, t0, nI_toInt (by omega)] at hx; omega
    refine ⟨-2, M, ?_, ?_, q_same.rf M⟩
    · rw [if_neg (show ¬ a0 = 0 from ne 0 (by decide)), if_neg (show ¬ a0 = 1 from ne 1 (by decide)), if_neg (show ¬ a0 = 2 from ne 2 (by decide)), if_neg (show ¬ a0 = 3 from ne 3 (by decide)), if_neg (show ¬ a0 = 4 from ne 4 (by decide))]
    · have t1 : (1 : Int32).toInt = 1 := by decide
      rw [if_neg (show ¬ a0 = 0 from ne 0 (by decide)), e_in, q_br, if_neg (show ¬ ((1 : Int32) ≤ a0 ∧ a0 ≤ 3) by rw [cd_le, cd_le]; omega), if_neg (show ¬ a0 = 4 from ne 4 (by decide))]
      rfl
  · obtain ⟨x, hx, rfl⟩ := nI_of hneg
    have le : ∀ k : Nat, k < 1000 → ((nI k ≤ nI x) ↔ k ≤ x) := fun k hk => nI_leI (by omega) hx
    have ge : ∀ k : Nat, k < 1000 → ((nI x ≤ nI k) ↔ x ≤ k) := fun k hk => nI_leI hx (by omega)
    have lt : ∀ k : Nat, k < 1000 → ((nI x < nI k) ↔ x < k) := fun k hk => nI_ltI hx (by omega)
    have eq : ∀ k : Nat, k < 1000 → ((nI x = nI k) ↔ x = k) := fun k hk => nI_eq hx (by omega)
    by_cases c100 : x < 100
    · rw [if_pos (show nI x < 100 from (lt 100 (by decide)).mpr c100)]
      by_cases c10 : x < 10
      · rw [if_neg (show ¬ ((10 : Int32) ≤ nI x ∧ nI x ≤ 15) from fun q => by have := (le 10 (by decide)).mp q.1; omega), e_within, q_br, if_neg (show ¬ ((100 : Int32) ≤ nI x ∧ nI x ≤ 219) from fun q => by have := (le 100 (by decide)).mp q.1; omega), if_pos (show nI x < 10 from (lt 10 (by decide)).mpr c10), e_in]
        have r66 : ∀ k j : Nat, q_of k = 66 + j → k < 14 → q_len k = 1 → j < 3 → cd_rd (M 0) 69 (nI (66 + j)) = some (nI (g k 0)) := fun k j e1 e2 e3 e4 => h12.rd k (66 + j) (j := 0) e1 e2 (by omega) (by omega)
        have hc : x = 0 ∨ x = 1 ∨ x = 2 ∨ x = 3 ∨ x = 4 ∨ 5 ≤ x := by omega
        rcases hc with rfl | rfl | rfl | rfl | rfl | h5
        · refine ⟨nI n, M, ?_, ?_, q_same.rf M⟩
          · rw [if_pos (show nI 0 = 0 from rfl), hP.1]
          · rw [if_pos (show nI 0 = 0 from rfl), h6.1]; rfl
        · refine ⟨nI (g 11 0), M, ?_, ?_, q_same.rf M⟩
          · rw [if_neg (by decide), if_pos (show nI 1 = 1 from rfl), h11 11 0 (by decide) (by decide)]
          · rw [if_neg (by decide), decide_eq_true (by decide), Option.bind_some, if_neg q_bt, q_l 65, nI_add, show 65 + 1 = 66 + 0 from rfl, r66 11 0 rfl (by decide) rfl (by decide)]; rfl
        · refine ⟨nI (g 12 0), M, ?_, ?_, q_same.rf M⟩
          · rw [if_neg (by decide), if_neg (by decide), if_pos (show nI 2 = 2 from rfl), h11 12 0 (by decide) (by decide)]
          · rw [if_neg (by decide), decide_eq_true (by decide), Option.bind_some, if_neg q_bt, q_l 65, nI_add, show 65 + 2 = 66 + 1 from rfl, r66 12 1 rfl (by decide) rfl (by decide)]; rfl
        · refine ⟨nI (g 13 0), M, ?_, ?_, q_same.rf M⟩
          · rw [if_neg (by decide), if_neg (by decide), if_neg (by decide), if_pos (show nI 3 = 3 from rfl), h11 13 0 (by decide) (by decide)]
          · rw [if_neg (by decide), decide_eq_true (by decide), Option.bind_some, if_neg q_bt, q_l 65, nI_add, show 65 + 3 = 66 + 2 from rfl, r66 13 2 rfl (by decide) rfl (by decide)]; rfl
        · refine ⟨nI (g 10 0), M, ?_, ?_, q_same.rf M⟩
          · rw [if_neg (by decide), if_neg (by decide), if_neg (by decide), if_neg (by decide), if_pos (show nI 4 = 4 from rfl), h11 10 0 (by decide) (by decide)]
          · rw [if_neg (by decide), decide_eq_false (by decide), Option.bind_some, if_pos q_bf, if_pos (show nI 4 = 4 from rfl), h14.1]; rfl
        · refine ⟨-2, M, ?_, ?_, q_same.rf M⟩
          · rw [if_neg (show ¬ nI x = 0 from fun q => by have := (eq 0 (by decide)).mp q; omega), if_neg (show ¬ nI x = 1 from fun q => by have := (eq 1 (by decide)).mp q; omega), if_neg (show ¬ nI x = 2 from fun q => by have := (eq 2 (by decide)).mp q; omega), if_neg (show ¬ nI x = 3 from fun q => by have := (eq 3 (by decide)).mp q; omega), if_neg (show ¬ nI x = 4 from fun q => by have := (eq 4 (by decide)).mp q; omega)]
          · rw [if_neg (show ¬ nI x = 0 from fun q => by have := (eq 0 (by decide)).mp q; omega), decide_eq_false (show ¬ ((1 : Int32) ≤ nI x ∧ nI x ≤ 3) from fun q => by have := (ge 3 (by decide)).mp q.2; omega), Option.bind_some, if_pos q_bf, if_neg (show ¬ nI x = 4 from fun q => by have := (eq 4 (by decide)).mp q; omega)]; rfl
      · rw [if_neg (show ¬ nI x < 10 from fun q => c10 ((lt 10 (by decide)).mp q)), q_l 10, pk_sub (by omega), e6_isOne]
        by_cases c15 : x ≤ 15
        · refine ⟨nI (g 7 (x - 10)), M, ?_, ?_, q_same.rf M⟩
          · rw [if_pos (show nI 10 ≤ nI x ∧ nI x ≤ 15 from ⟨(le 10 (by decide)).mpr (by omega), (ge 15 (by decide)).mpr c15⟩), h11.rd 7 6 (by decide) rfl (by omega)]; rfl
          · rw [decide_eq_true (show (0 : Int32) ≤ nI (x - 10) ∧ nI (x - 10) ≤ 5 from ⟨nI_pos' (by omega), (nI_leI (by omega) (b := 5) (by decide)).mpr (by omega)⟩), Option.bind_some, if_neg q_bt, q_l 60, nI_add, pk_sub (by omega), show 60 + x - 10 = 60 + (x - 10) by omega, h12.rd 7 60 rfl (by decide) (by decide) (show x - 10 < 6 by omega)]; rfl
        · rw [if_neg (show ¬ (nI 10 ≤ nI x ∧ nI x ≤ 15) from fun q => c15 ((ge 15 (by decide)).mp q.2)), e_within, q_br, if_neg (show ¬ ((100 : Int32) ≤ nI x ∧ nI x ≤ 219) from fun q => by have := (le 100 (by decide)).mp q.1; omega)]
          refine ⟨-2, M, ?_, ?_, q_same.rf M⟩
          · rw [if_neg (show ¬ nI x = 0 from fun q => by have := (eq 0 (by decide)).mp q; omega), if_neg (show ¬ nI x = 1 from fun q => by have := (eq 1 (by decide)).mp q; omega), if_neg (show ¬ nI x = 2 from fun q => by have := (eq 2 (by decide)).mp q; omega), if_neg (show ¬ nI x = 3 from fun q => by have := (eq 3 (by decide)).mp q; omega), if_neg (show ¬ nI x = 4 from fun q => by have := (eq 4 (by decide)).mp q; omega)]
          · rw [decide_eq_false (show ¬ ((0 : Int32) ≤ nI (x - 10) ∧ nI (x - 10) ≤ 5) from fun q => by have := (nI_leI (a := x - 10) (b := 5) (by omega) (by decide)).mp q.2; omega), Option.bind_some, if_pos q_bf]; rfl
    · rw [if_neg (show ¬ nI x < 100 from fun q => c100 ((lt 100 (by decide)).mp q)), if_neg (show ¬ ((10 : Int32) ≤ nI x ∧ nI x ≤ 15) from fun q => by have := (ge 15 (by decide)).mp q.2; omega), e_within, q_br]
      have d10 : nI x / (10 : Int32) = nI (x / 10) := pk_div hx (by decide) (by decide)
      have m10 : nI x - nI x / (10 : Int32) * (10 : Int32) = nI (x % 10) := pk_rem hx (by decide) (by decide)
      have e1 : nI (x / 10) - (10 : Int32) = nI (x / 10 - 10) := pk_sub (a := x / 10) (b := 10) (show 10 ≤ x / 10 by omega)
      rw [m10, d10, e1, e6_isCandle, q_br]
      by_cases c219 : x ≤ 219
      · rw [if_pos (show (100 : Int32) ≤ nI x ∧ nI x ≤ 219 from ⟨(le 100 (by decide)).mpr (by omega), (ge 219 (by decide)).mpr c219⟩), if_pos (show (0 : Int32) ≤ nI (x / 10 - 10) ∧ nI (x / 10 - 10) ≤ 11 from ⟨nI_pos' (by omega), (nI_leI (by omega) (b := 11) (by decide)).mpr (by omega)⟩)]
        have e2 : (nI x - (100 : Int32)) / (10 : Int32) = nI (x / 10 - 10) := by
          rw [show nI x - (100 : Int32) = nI (x - 100) from pk_sub (a := x) (b := 100) (show 100 ≤ x by omega), show nI (x - 100) / (10 : Int32) = nI ((x - 100) / 10) from pk_div (by omega) (by decide) (by decide), show (x - 100) / 10 = x / 10 - 10 by omega]
        obtain ⟨c, hc⟩ : ∃ c, c = x / 10 - 10 := ⟨_, rfl⟩
        have hc12 : c < 12 := by omega
        obtain ⟨M1, n1, n2, n3, n4, -⟩ := e6_now h12
        rw [e2, ← hc, n1, Option.bind_some, n2.1, n2.2.1, n2.2.2.1, q_bdd]
        unfold f_X5_toldOfCandle
        have r0 := h12.rd 0 0 (j := c) rfl (by decide) (by decide) hc12
        rw [Nat.zero_add] at r0
        have hm : x % 10 = 0 ∨ x % 10 = 1 ∨ x % 10 = 2 ∨ x % 10 = 3 ∨ x % 10 = 4 ∨ x % 10 = 5 ∨ x % 10 = 6 ∨ x % 10 = 7 ∨ x % 10 = 8 ∨ x % 10 = 9 := by omega
        rcases hm with hm | hm | hm | hm | hm | hm | hm | hm | hm | hm
        · rw [hm]
          refine ⟨nI (g 0 c), M1, ?_, ?_, n2⟩
          · rw [if_pos (show nI 0 = 0 from rfl), h11.rd 0 12 (by decide) rfl hc12]; rfl
          · rw [if_pos (show nI 0 = 0 from rfl), r0]; rfl
        · rw [hm]
          refine ⟨q_bi (q_lit g c), M1, ?_, ?_, n2⟩
          · rw [if_neg (by decide), if_pos (show nI 1 = 1 from rfl), e_isLit h11 h15 hc12, Option.bind_some]
            cases q_lit g c <;> rfl
          · rw [if_neg (by decide), if_pos (show nI 1 = 1 from rfl), q_l 66, show nI 66 = nI (66 + 0) from rfl, h12.rd 11 66 rfl (by decide) (by decide) (by decide), Option.bind_some, q_bit (q_lit_lt h15) (by omega)]
            rfl
        · rw [hm]
          refine ⟨nI (g 1 c), M1, ?_, ?_, n2⟩
          · rw [if_neg (by decide), if_neg (by decide), if_pos (show nI 2 = 2 from rfl), h11.rd 1 12 (by decide) rfl hc12]; rfl
          · rw [if_neg (by decide), if_neg (by decide), if_pos (show nI 2 = 2 from rfl), q_l 24, nI_add, h12.rd 1 24 rfl (by decide) (by decide) hc12]; rfl
        · rw [hm]
          refine ⟨nI (g 2 c), M1, ?_, ?_, n2⟩
          · rw [if_neg (by decide), if_neg (by decide), if_neg (by decide), if_pos (show nI 3 = 3 from rfl), h11.rd 2 12 (by decide) rfl hc12]; rfl
          · rw [if_neg (by decide), if_neg (by decide), if_neg (by decide), if_pos (show nI 3 = 3 from rfl), q_l 36, nI_add, h12.rd 2 36 rfl (by decide) (by decide) hc12]; rfl
        · rw [hm]
          refine ⟨nI (g 3 c), M1, ?_, ?_, n2⟩
          · rw [if_neg (by decide), if_neg (by decide), if_neg (by decide), if_neg (by decide), if_pos (show nI 4 = 4 from rfl), h11.rd 3 12 (by decide) rfl hc12]; rfl
          · rw [if_neg (by decide), if_neg (by decide), if_neg (by decide), if_neg (by decide), if_pos (show nI 4 = 4 from rfl), cd_rd_nI hc12 (by decide), h13.1 c hc12]; rfl
        · rw [hm]
          refine ⟨nI (g 4 c), M1, ?_, ?_, n2⟩
          · rw [if_neg (by decide), if_neg (by decide), if_neg (by decide), if_neg (by decide), if_neg (by decide), if_pos (show nI 5 = 5 from rfl), h11.rd 4 12 (by decide) rfl hc12]; rfl
          · rw [if_neg (by decide), if_neg (by decide), if_neg (by decide), if_neg (by decide), if_neg (by decide), if_pos (show nI 5 = 5 from rfl), cd_rd_nI hc12 (by decide), h13.2 c hc12]; rfl
        · rw [hm]
          refine ⟨nI (g 5 c), M1, ?_, ?_, n2⟩
          · rw [if_neg (by decide), if_neg (by decide), if_neg (by decide), if_neg (by decide), if_neg (by decide), if_neg (by decide), if_pos (show nI 6 = 6 from rfl), h11.rd 5 12 (by decide) rfl hc12]; rfl
          · rw [if_neg (by decide), if_neg (by decide), if_neg (by decide), if_neg (by decide), if_neg (by decide), if_neg (by decide), if_pos (show nI 6 = 6 from rfl), q_l 12, nI_add, h12.rd 5 12 rfl (by decide) (by decide) hc12]; rfl
        · rw [hm]
          refine ⟨nI (q_burn g c (g 1 c)), M1, ?_, ?_, n2⟩
          · rw [if_neg (by decide), if_neg (by decide), if_neg (by decide), if_neg (by decide), if_neg (by decide), if_neg (by decide), if_neg (by decide), if_pos (show nI 7 = 7 from rfl), e_burnOf h11 h15 hc12]; rfl
          · rw [if_neg (by decide), if_neg (by decide), if_neg (by decide), if_neg (by decide), if_neg (by decide), if_neg (by decide), if_neg (by decide), if_pos (show nI 7 = 7 from rfl), e6_burnOf n3 h15 hc12]; rfl
        · rw [hm]
          refine ⟨-2, M1, ?_, ?_, n2⟩
          · rw [if_neg (by decide), if_neg (by decide), if_neg (by decide), if_neg (by decide), if_neg (by decide), if_neg (by decide), if_neg (by decide), if_neg (by decide)]
          · rw [if_neg (by decide), if_neg (by decide), if_neg (by decide), if_neg (by decide), if_neg (by decide), if_neg (by decide), if_neg (by decide), if_neg (by decide)]; rfl
        · rw [hm]
          refine ⟨-2, M1, ?_, ?_, n2⟩
          · rw [if_neg (by decide), if_neg (by decide), if_neg (by decide), if_neg (by decide), if_neg (by decide), if_neg (by decide), if_neg (by decide), if_neg (by decide)]
          · rw [if_neg (by decide), if_neg (by decide), if_neg (by decide), if_neg (by decide), if_neg (by decide), if_neg (by decide), if_neg (by decide), if_neg (by decide)]; rfl
      · rw [if_neg (show ¬ ((100 : Int32) ≤ nI x ∧ nI x ≤ 219) from fun q => c219 ((ge 219 (by decide)).mp q.2)), if_neg (show ¬ ((0 : Int32) ≤ nI (x / 10 - 10) ∧ nI (x / 10 - 10) ≤ 11) from fun q => by have := (nI_leI (a := x / 10 - 10) (b := 11) (by omega) (by decide)).mp q.2; omega)]
        refine ⟨-2, M, ?_, rfl, q_same.rf M⟩
        rw [if_neg (show ¬ nI x = 0 from fun q => by have := (eq 0 (by decide)).mp q; omega), if_neg (show ¬ nI x = 1 from fun q => by have := (eq 1 (by decide)).mp q; omega), if_neg (show ¬ nI x = 2 from fun q => by have := (eq 2 (by decide)).mp q; omega), if_neg (show ¬ nI x = 3 from fun q => by have := (eq 3 (by decide)).mp q; omega), if_neg (show ¬ nI x = 4 from fun q => by have := (eq 4 (by decide)).mp q; omega)]
end IMG
