/-! candle, seen, say, wipe, fault, told -/
section CAND
variable {P T M K : Nat → Nat → Int32} {s : Nat → Nat} {n : Nat} {g : Nat → Nat → Nat}
theorem cd_from {σ ρ : Type} {b : Int32 × σ → Option (ρ ⊕ (Int32 × σ))} (m0 N : Nat) (hm : m0 ≤ N) (I : Nat → σ → Prop) (Q : ρ → Prop) (hN : N < cd_N)
    (hs : ∀ i a, m0 ≤ i → i < N → I i a → ∃ a', b (nI i, a) = some (.inr (nI (i + 1), a')) ∧ I (i + 1) a') (he : ∀ a, I N a → ∃ r, b (nI N, a) = some (.inl r) ∧ Q r) {a0 : σ} (h0 : I m0 a0) : ∃ r, cd_iter cd_N b (nI m0, a0) = some r ∧ Q r := by
  refine cd_hoare (fun n s => ∃ i a, n + i = N ∧ m0 ≤ i ∧ s = (nI i, a) ∧ I i a) Q ?_ cd_N (N - m0) (nI m0, a0) (by omega) ⟨m0, a0, by omega, Nat.le_refl _, rfl, h0⟩
  rintro n s ⟨i, a, h1, hi, rfl, h2⟩
  rcases Nat.lt_or_ge i N with h | h
  · obtain ⟨a', h3, h4⟩ := hs i a hi h h2
    exact Or.inr ⟨n - 1, _, by omega, h3, i + 1, a', by omega, by omega, rfl, h4⟩
  · have e : i = N := by omega
    subst e
    exact Or.inl (he a h2)
theorem q_part_k (g : Nat → Nat → Nat) (c : Nat) {k j : Nat} (h : k ≠ 6) : q_part g c k j = g k j := by
  unfold q_part q_dnU
  rw [q_up_k _ h, if_neg (fun q => h q.1)]
def q_cd (g : Nat → Nat → Nat) (c w a b m : Nat) : Nat → Nat → Nat := q_part (q_up (q_up (q_up (q_up (q_up (q_up g 0 c w) 3 c a) 4 c b) 5 c m) 1 c 0) 11 0 (q_dn (g 11 0) (2 ^ c))) c
theorem q_cd_ok (h : q_ok g) {c w a b m : Nat} (hc : c < 12) (hw : w ≤ 999) (ha : a ≤ 5) (hb : b ≤ 5) (hm : m ≤ 999) : q_ok (q_cd g c w a b m) :=
  q_part_ok ((((((h.up 0 c hw).up 3 c ha).up 4 c hb).up 5 c hm).up 1 c (Nat.zero_le _)).up 11 0 (by have := q_dn_lt (b := 2 ^ c) (q_litl h); show _ ≤ 4095; omega)) hc
theorem m_candle (h : q_X T M g) (K : Nat → Nat → Int32) (a0 a1 a2 a3 a4 : Int32) : ∃ v T' M' g', f_X5_candle a0 a1 a2 a3 a4 K T = some (v, T') ∧ f_X6_candle a0 a1 a2 a3 a4 M = some (v, M') ∧ q_X T' M' g' ∧ q_oth M M' := by
  unfold f_X5_candle f_X6_candle
  rw [e_isCandle, e6_isCandle, q_br, q_br]
  by_cases h1 : 0 ≤ a0 ∧ a0 ≤ 11
  · rw [if_pos h1, if_pos h1, e_isOne, e6_isOne, q_br, q_br]
    by_cases h2 : 0 ≤ a2 ∧ a2 ≤ 5
    · rw [if_pos h2, if_pos h2, e_isOne, e6_isOne, q_br, q_br]
      by_cases h3 : 0 ≤ a3 ∧ a3 ≤ 5
      · rw [if_pos h3, if_pos h3, e_within, e_in, q_br, q_br]
        by_cases h4 : 0 ≤ a1 ∧ a1 ≤ 999
        · rw [if_pos h4, if_pos h4, e_within, e_in, q_br, q_br]
          by_cases h5 : 0 ≤ a4 ∧ a4 ≤ 999
          · rw [if_pos h5, if_pos h5]
            obtain ⟨c, hc, rfl⟩ := q_rng 11 (by decide) h1
            obtain ⟨a, ha, rfl⟩ := q_rng 5 (by decide) h2
            obtain ⟨b, hb, rfl⟩ := q_rng 5 (by decide) h3
            obtain ⟨w, hw, rfl⟩ := q_rng 999 (by decide) h4
            obtain ⟨m, hm, rfl⟩ := q_rng 999 (by decide) h5
            have hc : c < 12 := by omega
            obtain ⟨h11, h12, h13, h14, h15⟩ := h
            -- the class
            have hT1 : q_T (cd_fld (cd_set (cd_set (cd_set (cd_set (cd_set T 0 c (nI w)) 3 c (nI a)) 4 c (nI b)) 5 c (nI m)) 1 c (nI 0)) 11 (nI (q_dn (g 11 0) (2 ^ c)))) (q_up (q_up (q_up (q_up (q_up (q_up g 0 c w) 3 c a) 4 c b) 5 c m) 1 c 0) 11 0 (q_dn (g 11 0) (2 ^ c))) :=
              (((((h11.set 0 c w).set 3 c a).set 4 c b).set 5 c m).set 1 c 0).fld (by decide) _
            obtain ⟨T', t1, t2⟩ := e_part hT1 hc
            have x5 : f_X3_place (nI c) (nI w) (nI a) (nI b) (nI m) T = some T' := by
              unfold f_X3_place
              rw [cd_ix_nI hc (by decide), Option.bind_some, Option.bind_some, Option.bind_some, Option.bind_some, Option.bind_some, e_bit (by omega), Option.bind_some, h11 11 0 (by decide) (by decide), q_andn, show (0 : Int32) = nI 0 from rfl, t1, Option.bind_some]
            -- the reference
            obtain ⟨M1, n1, n2, n3, n4, -⟩ := e6_now h12
            obtain ⟨M2, l1, l2, l3⟩ := e6_leaveJoined n3 hc
            obtain ⟨M3, c1, c2, c3, c4⟩ := cd_from (b := f_X6_candle_b71) 48 60 (by decide) (fun i z => (∀ j, 48 ≤ j → j < i → z 0 j = M2 1 j) ∧ (∀ j, j < 48 ∨ 60 ≤ j → z 0 j = M2 0 j) ∧ ∀ k, k ≠ 0 → z k = M2 k) (fun r => (∀ j, 48 ≤ j → j < 60 → r 0 j = M2 1 j) ∧ (∀ j, j < 48 ∨ 60 ≤ j → r 0 j = M2 0 j) ∧ ∀ k, k ≠ 0 → r k = M2 k) (by decide) (fun i z h48 hi q => ⟨cd_set z 0 i (z 1 i), by
              unfold f_X6_candle_b71
              dsimp only
              rw [q_l 60, if_neg (nI_ge hi (by decide)), cd_rd_nI (by omega) (by decide), Option.bind_some, cd_ix_nI (by omega) (by decide), Option.bind_some, nI_1], by
              refine ⟨fun j hj hj2 => ?_, fun j hj => ?_, fun k hk => by rw [cd_set_n _ _ hk]; exact q.2.2 k hk⟩
              · rw [cd_set_s]
                unfold upd
                by_cases e : j = i
                · rw [if_pos e, e, q.2.2 1 (by decide)]
                · rw [if_neg e]; exact q.1 j hj (by omega)
              · rw [cd_set_s]
                unfold upd
                rw [if_neg (by omega)]
                exact q.2.1 j hj⟩) (fun z q => ⟨z, by
              unfold f_X6_candle_b71
              dsimp only
              rw [q_l 60, if_pos (nI_le (Nat.le_refl _) (by decide))], q⟩) (a0 := M2) ⟨fun j hj hj2 => by omega, fun _ _ => rfl, fun _ _ => rfl⟩
            have hB3 : q_B (M3 0) (q_part g c) := by
              intro k j hk h69 hj
              by_cases e6 : k = 6
              · subst e6
                have hj' : j < 12 := hj
                rw [c2 (q_of 6 + j) (show 48 ≤ 48 + j by omega) (show 48 + j < 60 by omega)]
                exact l2 6 j (by decide) (by decide) hj
              · have ap := q_of_ap k hk 6 (by decide) h69 (by decide)
                have l6 : q_of 6 = 48 := rfl
                have l62 : q_len 6 = 12 := rfl
                rw [c3 (q_of k + j) (by omega), l3 0 (by decide), n4 0 (by decide) (by decide) (by decide) (by decide), q_part_k _ _ e6]
                exact h12 k j hk h69 hj
            have hB4 := (((hB3.set 0 0 (j := c) rfl (by decide) (by decide) hc w).set 5 12 (j := c) rfl (by decide) (by decide) hc m).set 1 24 (j := c) rfl (by decide) (by decide) hc 0)
            have r66 := hB4.rd 11 66 (j := 0) rfl (by decide) (by decide) (by decide)
            rw [q_up_k _ (by decide), q_up_k _ (by decide), q_up_k _ (by decide), q_part_k _ _ (by decide)] at r66
            have hB5 := hB4.set 11 66 (j := 0) rfl (by decide) (by decide) (by decide) (q_dn (g 11 0) (2 ^ c))
            have r0 := h12.rd 0 0 (j := c) rfl (by decide) (by decide) hc
            rw [Nat.zero_add] at r0
            rw [Nat.zero_add] at hB4 hB5 r66
            obtain ⟨M', hM'⟩ : ∃ M', M' = cd_set (cd_set (cd_set (cd_set (cd_set (cd_set M3 0 c (nI w)) 0 (12 + c) (nI m)) 0 (24 + c) (nI 0)) 0 66 (nI (q_dn (g 11 0) (2 ^ c)))) 2 c (nI a)) 3 c (nI b) := ⟨_, rfl⟩
            have y2 : M' 0 = upd (upd (upd (upd (M3 0) c (nI w)) (12 + c) (nI m)) (24 + c) (nI 0)) 66 (nI (q_dn (g 11 0) (2 ^ c))) := by
              rw [hM', cd_set_n _ _ (by decide), cd_set_n _ _ (by decide), cd_set_s, cd_set_s, cd_set_s, cd_set_s]
            have y3 : M' 2 = upd (M3 2) c (nI a) := by
              rw [hM', cd_set_n _ _ (by decide), cd_set_s, cd_set_n _ _ (by decide), cd_set_n _ _ (by decide), cd_set_n _ _ (by decide), cd_set_n _ _ (by decide)]
            have y4 : M' 3 = upd (M3 3) c (nI b) := by
              rw [hM', cd_set_s, cd_set_n _ _ (by decide), cd_set_n _ _ (by decide), cd_set_n _ _ (by decide), cd_set_n _ _ (by decide), cd_set_n _ _ (by decide)]
            have y5 : ∀ k, k ≠ 0 → k ≠ 2 → k ≠ 3 → M' k = M3 k := fun k k0 k2 k3 => by
              rw [hM', cd_set_n _ _ k3, cd_set_n _ _ k2, cd_set_n _ _ k0, cd_set_n _ _ k0, cd_set_n _ _ k0, cd_set_n _ _ k0]
            have e3 : ∀ r, r ≠ 0 → r ≠ 1 → r ≠ 8 → r ≠ 9 → r ≠ 10 → M3 r = M r := fun r q0 q1 q8 q9 q10 => by rw [c4 r q0, l3 r q1, n4 r q1 q8 q9 q10]
            refine ⟨nI (g 0 c), T', M', q_cd g c w a b m, ?_, ?_, ⟨t2, ?_, ⟨fun j hj => ?_, fun j hj => ?_⟩, ⟨?_, fun i hi => ⟨?_, ?_⟩⟩, q_cd_ok h15 hc hw ha hb hm⟩, ?_⟩
            · rw [h11.rd 0 12 (by decide) rfl hc, Option.bind_some, x5, Option.bind_some]
            · rw [r0, Option.bind_some, n1, Option.bind_some, l1, Option.bind_some, q_l 48, c1, Option.bind_some, cd_ix_nI (by omega) (by decide), Option.bind_some, q_l 12, nI_add, cd_ix_nI (by omega) (by decide), Option.bind_some, q_l 24, nI_add, cd_ix_nI (by omega) (by decide), Option.bind_some, q_l 66, show (0 : Int32) = nI 0 from rfl, r66, Option.bind_some, cd_ix_nI (by decide) (by decide), Option.bind_some, cd_ix_nI hc (by decide), Option.bind_some, Option.bind_some, q_shl (by omega), q_andn, hM']
            · rw [y2]
              intro k j hk h69 hj
              rw [hB5 k j hk h69 hj]
              refine congrArg nI ?_
              unfold q_cd
              by_cases e6 : k = 6
              · subst e6
                rw [q_up_k _ (by decide), q_up_k _ (by decide), q_up_k _ (by decide), q_up_k _ (by decide)]
                unfold q_part q_up q_dnU
                simp
              · rw [q_part_k _ _ e6]
                have hk3 : k ≠ 3 := fun e => by subst e; exact absurd h69 (by decide)
                have hk4 : k ≠ 4 := fun e => by subst e; exact absurd h69 (by decide)
                by_cases e11 : k = 11
                · subst e11
                  have ej : j = 0 := Nat.lt_one_iff.mp hj
                  subst ej
                  rw [q_up_s, q_up_s]
                · rw [q_up_k _ e11, q_up_k _ e11]
                  by_cases e1 : k = 1 ∧ j = c
                  · obtain ⟨rfl, rfl⟩ := e1
                    rw [q_up_s, q_up_s]
                  · rw [show ∀ G : Nat → Nat → Nat, q_up G 1 c 0 k j = G k j from fun G => if_neg e1, show ∀ G : Nat → Nat → Nat, q_up G 1 c 0 k j = G k j from fun G => if_neg e1]
                    by_cases e5 : k = 5 ∧ j = c
                    · obtain ⟨rfl, rfl⟩ := e5
                      rw [q_up_s, q_up_s]
                    · rw [show ∀ G : Nat → Nat → Nat, q_up G 5 c m k j = G k j from fun G => if_neg e5, show ∀ G : Nat → Nat → Nat, q_up G 5 c m k j = G k j from fun G => if_neg e5, q_up_k _ hk4, q_up_k _ hk3]
                      by_cases e0 : k = 0 ∧ j = c
                      · obtain ⟨rfl, rfl⟩ := e0
                        rw [q_up_s, q_up_s]
                      · rw [show ∀ G : Nat → Nat → Nat, q_up G 0 c w k j = G k j from fun G => if_neg e0, show ∀ G : Nat → Nat → Nat, q_up G 0 c w k j = G k j from fun G => if_neg e0, q_part_k _ _ e6]
            · rw [y3]
              unfold q_cd
              rw [q_part_k _ _ (by decide), q_up_k _ (by decide), q_up_k _ (by decide), q_up_k _ (by decide), q_up_k _ (by decide)]
              by_cases e : j = c
              · subst e; rw [q_up_s, pk_us]
              · rw [pk_un e, q_up_j _ e, q_up_k _ (by decide), e3 2 (by decide) (by decide) (by decide) (by decide) (by decide)]; exact h13.1 j hj
            · rw [y4]
              unfold q_cd
              rw [q_part_k _ _ (by decide), q_up_k _ (by decide), q_up_k _ (by decide), q_up_k _ (by decide)]
              by_cases e : j = c
              · subst e; rw [q_up_s, pk_us]
              · rw [pk_un e, q_up_j _ e, q_up_k _ (by decide), q_up_k _ (by decide), e3 3 (by decide) (by decide) (by decide) (by decide) (by decide)]; exact h13.2 j hj
            · rw [y5 4 (by decide) (by decide) (by decide), e3 4 (by decide) (by decide) (by decide) (by decide) (by decide)]
              unfold q_cd
              rw [q_part_k _ _ (by decide), q_up_k _ (by decide), q_up_k _ (by decide), q_up_k _ (by decide), q_up_k _ (by decide), q_up_k _ (by decide), q_up_k _ (by decide)]
              exact h14.1
            · rw [y5 5 (by decide) (by decide) (by decide), e3 5 (by decide) (by decide) (by decide) (by decide) (by decide)]
              unfold q_cd
              rw [q_part_k _ _ (by decide), q_up_k _ (by decide), q_up_k _ (by decide), q_up_k _ (by decide), q_up_k _ (by decide), q_up_k _ (by decide), q_up_k _ (by decide)]
              exact (h14.2 i hi).1
            · rw [y5 5 (by decide) (by decide) (by decide), e3 5 (by decide) (by decide) (by decide) (by decide) (by decide)]
              unfold q_cd
              rw [q_part_k _ _ (by decide), q_up_k _ (by decide), q_up_k _ (by decide), q_up_k _ (by decide), q_up_k _ (by decide), q_up_k _ (by decide), q_up_k _ (by decide)]
              exact (h14.2 i hi).2
            · have o : ∀ r, r ≠ 0 → r ≠ 1 → r ≠ 2 → r ≠ 3 → r ≠ 8 → r ≠ 9 → r ≠ 10 → M' r = M r := fun r q0 q1 q2 q3 q8 q9 q10 => by rw [y5 r q0 q2 q3, e3 r q0 q1 q8 q9 q10]
              exact ⟨o 6 (by decide) (by decide) (by decide) (by decide) (by decide) (by decide) (by decide), o 7 (by decide) (by decide) (by decide) (by decide) (by decide) (by decide) (by decide), o 20 (by decide) (by decide) (by decide) (by decide) (by decide) (by decide) (by decide), o 21 (by decide) (by decide) (by decide) (by decide) (by decide) (by decide) (by decide)⟩
          · rw [if_neg h5, if_neg h5]
            exact ⟨_, T, M, g, rfl, rfl, h, q_oth.rf M⟩
        · rw [if_neg h4, if_neg h4]
          exact ⟨_, T, M, g, rfl, rfl, h, q_oth.rf M⟩
      · rw [if_neg h3, if_neg h3]
        exact ⟨_, T, M, g, rfl, rfl, h, q_oth.rf M⟩
    · rw [if_neg h2, if_neg h2]
      exact ⟨_, T, M, g, rfl, rfl, h, q_oth.rf M⟩
  · rw [if_neg h1, if_neg h1]
    exact ⟨_, T, M, g, rfl, rfl, h, q_oth.rf M⟩
theorem m_seen (h : q_X T M g) (K : Nat → Nat → Int32) (a0 a1 : Int32) : ∃ v T' M' g', f_X5_seen a0 a1 K T = some (v, T') ∧ f_X6_seen a0 a1 M = some (v, M') ∧ q_X T' M' g' ∧ q_oth M M' := by
  unfold f_X5_seen f_X6_seen
  rw [e_isCandle, e6_isCandle, q_br, q_br]
  by_cases h1 : 0 ≤ a0 ∧ a0 ≤ 11
  · rw [if_pos h1, if_pos h1, e_within, e_in, q_br, q_br]
    by_cases h2 : 0 ≤ a1 ∧ a1 ≤ 999
    · rw [if_pos h2, if_pos h2]
      obtain ⟨c, hc, rfl⟩ := q_rng 11 (by decide) h1
      obtain ⟨v, hv, rfl⟩ := q_rng 999 (by decide) h2
      have hc : c < 12 := by omega
      have hk := h
      obtain ⟨h11, h12, h13, h14, h15⟩ := h
      have h8 : g 10 0 ≤ 8 := h15 10 0 (by decide) (by decide)
      have hT10 := h11 10 0 (by decide) (by decide)
      have hM4 := h14.1
      by_cases hn : g 10 0 = 8
      · refine ⟨-4, T, M, g, ?_, ?_, hk, q_oth.rf M⟩
        · unfold f_X3_addSight
          rw [hT10, hn, if_neg (by decide)]
          rfl
        · rw [hM4, hn, if_pos (show nI 8 = 8 from rfl)]
      · have hn8 : g 10 0 < 8 := by omega
        have i2 : cd_ix 16 (nI (2 * g 10 0)) = some (2 * g 10 0) := cd_ix_nI (by omega) (by decide)
        have i3 : cd_ix 16 (nI (2 * g 10 0 + 1)) = some (2 * g 10 0 + 1) := cd_ix_nI (by omega) (by decide)
        refine ⟨nI (g 10 0 + 1), cd_fld (cd_set (cd_set T 8 (g 10 0) (nI c)) 9 (g 10 0) (nI v)) 10 (nI (g 10 0 + 1)), cd_fld (cd_set (cd_set M 5 (2 * g 10 0) (nI c)) 5 (2 * g 10 0 + 1) (nI v)) 4 (nI (g 10 0 + 1)), q_up (q_up (q_up g 8 (g 10 0) c) 9 (g 10 0) v) 10 0 (g 10 0 + 1), ?_, ?_, ⟨((h11.set 8 (g 10 0) c).set 9 (g 10 0) v).fld (by decide) (g 10 0 + 1), ?_, ⟨fun j hj => ?_, fun j hj => ?_⟩, ⟨?_, fun i hi => ⟨?_, ?_⟩⟩, ((h15.up 8 _ (show c ≤ 11 by omega)).up 9 _ hv).up 10 0 (show g 10 0 + 1 ≤ 8 by omega)⟩, ?_⟩
        · unfold f_X3_addSight
          rw [hT10, q_l 8, if_pos (nI_lt hn8 (by decide)), cd_ix_nI hn8 (by decide), Option.bind_some, Option.bind_some, Option.bind_some, if_neg (show ¬ (1 : Int32) = 0 by decide), Option.bind_some, nI_1]
          show some (cd_fld (cd_set (cd_set T 8 (g 10 0) (nI c)) 9 (g 10 0) (nI v)) 10 (nI (g 10 0 + 1)) 10 0, _) = _
          rw [cd_fld_s]
        · rw [hM4, if_neg (show ¬ nI (g 10 0) = 8 from fun q => hn ((nI_eq (by omega) (by decide)).mp q)), q_l 2, pk_mul, nI_1, nI_1, i2, Option.bind_some, i3, Option.bind_some]
        · rw [cd_fld_n _ _ (by decide), cd_set_n _ _ (by decide), cd_set_n _ _ (by decide)]
          intro k j hk h69 hj
          have k8 : k ≠ 8 := fun e => by subst e; exact absurd h69 (by decide)
          have k9 : k ≠ 9 := fun e => by subst e; exact absurd h69 (by decide)
          have k10 : k ≠ 10 := fun e => by subst e; exact absurd h69 (by decide)
          rw [q_up_k _ k10, q_up_k _ k9, q_up_k _ k8]
          exact h12 k j hk h69 hj
        · rw [cd_fld_n _ _ (by decide), cd_set_n _ _ (by decide), cd_set_n _ _ (by decide), q_up_k _ (by decide), q_up_k _ (by decide), q_up_k _ (by decide)]; exact h13.1 j hj
        · rw [cd_fld_n _ _ (by decide), cd_set_n _ _ (by decide), cd_set_n _ _ (by decide), q_up_k _ (by decide), q_up_k _ (by decide), q_up_k _ (by decide)]; exact h13.2 j hj
        · rw [cd_fld_s, q_up_s]
        · rw [cd_fld_n _ _ (by decide), cd_set_s, cd_set_s, q_up_k _ (by decide), q_up_k _ (by decide), pk_un (by omega)]
          by_cases e : i = g 10 0
          · rw [e, pk_us, q_up_s]
          · rw [pk_un (by omega), q_up_j _ e]; exact (h14.2 i hi).1
        · rw [cd_fld_n _ _ (by decide), cd_set_s, cd_set_s, q_up_k _ (by decide)]
          by_cases e : i = g 10 0
          · rw [e, pk_us, q_up_s]
          · rw [pk_un (by omega), pk_un (by omega), q_up_j _ e, q_up_k _ (by decide)]; exact (h14.2 i hi).2
        · have o : ∀ r, r ≠ 4 → r ≠ 5 → (cd_fld (cd_set (cd_set M 5 (2 * g 10 0) (nI c)) 5 (2 * g 10 0 + 1) (nI v)) 4 (nI (g 10 0 + 1))) r = M r := fun r q4 q5 => by rw [cd_fld_n _ _ q4, cd_set_n _ _ q5, cd_set_n _ _ q5]
          exact ⟨o 6 (by decide) (by decide), o 7 (by decide) (by decide), o 20 (by decide) (by decide), o 21 (by decide) (by decide)⟩
    · rw [if_neg h2, if_neg h2]
      exact ⟨_, T, M, g, rfl, rfl, h, q_oth.rf M⟩
  · rw [if_neg h1, if_neg h1]
    exact ⟨_, T, M, g, rfl, rfl, h, q_oth.rf M⟩
/-- the rows but the pad's -/
def q_pdo (M M' : Nat → Nat → Int32) : Prop := ∀ r, r ≠ 6 → r ≠ 7 → M' r = M r
theorem m_say (hd : q_pd s n) (hP : q_P P s n) (h6 : q_P6 M s n) (K : Nat → Nat → Int32) (a0 : Int32) : ∃ v P' M' s' n', f_X5_say a0 K P = some (v, P') ∧ f_X6_say a0 M = some (v, M') ∧ q_pd s' n' ∧ q_P P' s' n' ∧ q_P6 M' s' n' ∧ q_pdo M M' := by
  have hn := hd.1
  unfold f_X5_say f_X6_say
  rw [e_within, e_in, q_br, q_br]
  by_cases h1 : 33 ≤ a0 ∧ a0 ≤ 126
  · rw [if_pos h1, if_pos h1]
    have h1' : 0 ≤ a0 ∧ a0 ≤ nI 126 := by
      obtain ⟨p1, p2⟩ := h1
      rw [cd_le] at p1
      have : (33 : Int32).toInt = 33 := by decide
      exact ⟨by rw [cd_le]; have : (0 : Int32).toInt = 0 := by decide
                omega, p2⟩
    obtain ⟨v, hv, rfl⟩ := q_rng 126 (by decide) h1'
    have hv2 : 33 ≤ v := (nI_leI (a := 33) (b := v) (by decide) (by omega)).mp h1.1
    by_cases h60 : n = 60
    · refine ⟨-4, P, M, s, n, ?_, ?_, hd, hP, h6, fun _ _ _ => rfl⟩
      · unfold f_X0_write
        rw [hP.1, h60, if_neg (by decide)]
        rfl
      · rw [h6.1, h60, if_pos (show nI 60 = 60 from rfl)]
    · have hn60 : n < 60 := by omega
      refine ⟨nI (n + 1), cd_fld (cd_set P 0 n (nI v)) 1 (nI (n + 1)), cd_fld (cd_set M 7 n (nI v)) 6 (nI (n + 1)), fun i => if i = n then v else s i, n + 1, ?_, ?_, ⟨by omega, fun i hi => ?_⟩, ⟨cd_fld_s _ _ _ _, fun i hi => ?_⟩, ⟨cd_fld_s _ _ _ _, fun i hi => ?_⟩, fun r r6 r7 => by rw [cd_fld_n _ _ r6, cd_set_n _ _ r7]⟩
      · unfold f_X0_write
        rw [hP.1, q_l 60, if_pos (nI_lt hn60 (by decide)), cd_ix_nI hn60 (by decide), Option.bind_some, Option.bind_some, if_neg (show ¬ (1 : Int32) = 0 by decide), Option.bind_some, nI_1]
        show some (cd_fld (cd_set P 0 n (nI v)) 1 (nI (n + 1)) 1 0, _) = _
        rw [cd_fld_s]
      · rw [h6.1, if_neg (show ¬ nI n = 60 from fun q => h60 ((nI_eq (by omega) (by decide)).mp q)), cd_ix_nI hn60 (by decide), Option.bind_some, nI_1]
      · dsimp only
        by_cases e : i = n
        · rw [if_pos e]; omega
        · rw [if_neg e]; exact hd.2 i (by omega)
      · rw [cd_fld_n _ _ (by decide), cd_set_s]
        show _ = nI (if i = n then v else s i)
        by_cases e : i = n
        · rw [if_pos e, e, pk_us]
        · rw [if_neg e, pk_un e]; exact hP.2 i (by omega)
      · rw [cd_fld_n _ _ (by decide), cd_set_s]
        show _ = nI (if i = n then v else s i)
        by_cases e : i = n
        · rw [if_pos e, e, pk_us]
        · rw [if_neg e, pk_un e]; exact h6.2 i (by omega)
  · rw [if_neg h1, if_neg h1]
    exact ⟨_, P, M, s, n, rfl, rfl, hd, hP, h6, fun _ _ _ => rfl⟩
theorem m_wipe (hd : q_pd s n) (hP : q_P P s n) (h6 : q_P6 M s n) (K : Nat → Nat → Int32) : ∃ v P' M' s' n', f_X5_wipe K P = some (v, P') ∧ f_X6_wipe M = some (v, M') ∧ q_pd s' n' ∧ q_P P' s' n' ∧ q_P6 M' s' n' ∧ q_pdo M M' := by
  refine ⟨nI n, cd_fld P 1 0, cd_fld M 6 0, s, 0, ?_, ?_, ⟨by omega, fun i hi => by omega⟩, ⟨cd_fld_s _ _ _ _, fun i hi => by omega⟩, ⟨cd_fld_s _ _ _ _, fun i hi => by omega⟩, fun r r6 r7 => by rw [cd_fld_n _ _ r6]⟩
  · unfold f_X5_wipe; rw [hP.1]
  · unfold f_X6_wipe; rw [h6.1]
theorem m_fault (hd : q_pd s n) (hP : q_P P s n) (h6 : q_P6 M s n) (K : Nat → Nat → Int32) : ∃ v P', f_X5_fault K P = some (v, P') ∧ f_X6_fault M = some v ∧ P' 0 = P 0 ∧ P' 1 = P 1 := by
  obtain ⟨P1, f1, f2, f3⟩ := e_firstFault hd hP
  refine ⟨q_fv (q_flt s n 61 0), P1, ?_, ?_, f2, f3⟩
  · unfold f_X5_fault; rw [f1, Option.bind_some]
  · unfold f_X6_fault; rw [e6_faultOf hd h6, Option.bind_some]
end CAND
