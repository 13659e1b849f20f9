/-! the common picture: numbers g k j (rows as Town's fields), and what the small programs answer -/
theorem q_and (a b : Nat) : nI a &&& nI b = nI (a &&& b) := by
  apply Int32.toBitVec_inj.1
  show BitVec.ofNat 32 a &&& BitVec.ofNat 32 b = BitVec.ofNat 32 (a &&& b)
  apply BitVec.eq_of_getLsbD_eq
  intro i hi
  simp [hi]
theorem q_or (a b : Nat) : nI a ||| nI b = nI (a ||| b) := by
  apply Int32.toBitVec_inj.1
  show BitVec.ofNat 32 a ||| BitVec.ofNat 32 b = BitVec.ofNat 32 (a ||| b)
  apply BitVec.eq_of_getLsbD_eq
  intro i hi
  simp [hi]
theorem q_xor (a b : Nat) : nI a ^^^ nI b = nI (a ^^^ b) := by
  apply Int32.toBitVec_inj.1
  show BitVec.ofNat 32 a ^^^ BitVec.ofNat 32 b = BitVec.ofNat 32 (a ^^^ b)
  apply BitVec.eq_of_getLsbD_eq
  intro i hi
  simp [hi]
/-- a without b's bits -/
def q_dn (a b : Nat) : Nat := a ^^^ (a &&& b)
theorem q_dn_bit (a b i : Nat) : (q_dn a b).testBit i = (a.testBit i && !b.testBit i) := by
  unfold q_dn
  rw [Nat.testBit_xor, Nat.testBit_and]
  cases a.testBit i <;> cases b.testBit i <;> rfl
theorem q_dn_lt {a b n : Nat} (h : a < 2 ^ n) : q_dn a b < 2 ^ n := by
  apply Nat.lt_pow_two_of_testBit
  intro i hi
  rw [q_dn_bit, Nat.testBit_lt_two_pow (Nat.lt_of_lt_of_le h (Nat.pow_le_pow_right (by decide) hi))]
  rfl
theorem q_andn (a b : Nat) : nI a &&& (nI b ^^^ (-1)) = nI (q_dn a b) := by
  have h : ∀ x y : Int32, x &&& (y ^^^ (-1)) = x ^^^ (x &&& y) := by
    intro x y
    apply Int32.toBitVec_inj.1
    show x.toBitVec &&& (y.toBitVec ^^^ BitVec.allOnes 32) = x.toBitVec ^^^ (x.toBitVec &&& y.toBitVec)
    apply BitVec.eq_of_getLsbD_eq
    intro i hi
    simp only [BitVec.getLsbD_and, BitVec.getLsbD_xor, BitVec.getLsbD_allOnes, hi, decide_true]
    cases x.toBitVec.getLsbD i <;> cases y.toBitVec.getLsbD i <;> rfl
  rw [h, q_and, q_xor]
  rfl
theorem q_sm : ∀ c, c < 32 → ((nI c).toBitVec.smod 32).toNat = c := by decide +kernel
theorem q_31 : ∀ c, c < 32 → nI c &&& 31 = nI c := by decide +kernel
theorem q_shl {c : Nat} (hc : c < 31) : (1 : Int32) <<< (nI c &&& 31) = nI (2 ^ c) := by
  rw [q_31 c (by omega), show (1 : Int32) = nI 1 from rfl, pk_shlN (nI c) c (q_sm c (by omega)) (by have := Nat.pow_lt_pow_right (a := 2) (by decide) (show c < 32 by omega); omega), Nat.one_mul]
theorem q_shr {s c : Nat} (hs : s < 2 ^ 31) (hc : c < 31) : nI s >>> (nI c &&& 31) = nI (s / 2 ^ c) := by
  rw [q_31 c (by omega), pk_shrN hs (nI c) c (q_sm c (by omega))]
theorem q_bit {s c : Nat} (hs : s < 2 ^ 31) (hc : c < 31) : (nI s >>> (nI c &&& 31)) &&& 1 = if s.testBit c then 1 else 0 := by
  rw [q_shr hs hc, pk_andN (n := s / 2 ^ c) (m := 1) (by have := Nat.div_le_self s (2 ^ c); omega) 1 (by decide), Nat.testBit_eq_decide_div_mod_eq]
  rcases Nat.mod_two_eq_zero_or_one (s / 2 ^ c) with h | h
  · rw [show s / 2 ^ c % 2 ^ 1 = 0 from h]; rfl
  · rw [show s / 2 ^ c % 2 ^ 1 = 1 from h]; rfl
def q_bi (b : Bool) : Int32 := if b then 1 else 0
theorem q_bi_zb (b : Bool) : cd_zb (q_bi b) = some () := by cases b <;> rfl
theorem q_bi_0 (b : Bool) : q_bi b = 0 ↔ b = false := by cases b <;> decide
theorem e_holds {s c : Nat} (hs : s < 2 ^ 31) (hc : c < 31) : f_X5_holds (nI s) (nI c) = some (q_bi (s.testBit c)) := by
  unfold f_X5_holds
  rw [q_bit hs hc]
  cases s.testBit c <;> rfl
theorem e_isIn {s c : Nat} (hs : s < 2 ^ 31) (hc : c < 31) : f_X6_isIn (nI s) (nI c) = some (q_bi (s.testBit c)) := by
  unfold f_X6_isIn
  rw [q_bit hs hc]
  cases s.testBit c <;> rfl
theorem e_bit {c : Nat} (hc : c < 31) : f_X5_bit (nI c) = some (nI (2 ^ c)) := by
  unfold f_X5_bit
  rw [q_shl hc]
theorem e_within (v a b : Int32) : f_X5_within v a b = some (q_bi (decide (a ≤ v ∧ v ≤ b))) := by
  unfold f_X5_within
  by_cases h1 : v < a
  · have h2 : ¬ (a ≤ v ∧ v ≤ b) := by rw [cd_le, cd_le]; rw [cd_lt] at h1; omega
    rw [if_pos h1, decide_eq_false h2]; rfl
  · by_cases h3 : b < v
    · have h2 : ¬ (a ≤ v ∧ v ≤ b) := by rw [cd_le, cd_le]; rw [cd_lt] at h3; omega
      rw [if_neg h1, if_pos h3, decide_eq_false h2]; rfl
    · have h2 : (a ≤ v ∧ v ≤ b) := by rw [cd_le, cd_le]; rw [cd_lt] at h1 h3; omega
      rw [if_neg h1, if_neg h3, decide_eq_true h2]; rfl
theorem e_in (v a b : Int32) : f_X6_in v a b = some (q_bi (decide (a ≤ v ∧ v ≤ b))) := e_within v a b
theorem e_isCandle (v : Int32) : f_X5_isCandle v = some (q_bi (decide (0 ≤ v ∧ v ≤ 11))) := by
  unfold f_X5_isCandle
  rw [e_within, Option.bind_some, q_bi_zb, Option.bind_some]
theorem e_isOne (v : Int32) : f_X5_isOne v = some (q_bi (decide (0 ≤ v ∧ v ≤ 5))) := by
  unfold f_X5_isOne
  rw [e_within, Option.bind_some, q_bi_zb, Option.bind_some]
theorem e6_isCandle (v : Int32) : f_X6_isCandle v = some (q_bi (decide (0 ≤ v ∧ v ≤ 11))) := by
  unfold f_X6_isCandle
  rw [e_in, Option.bind_some, q_bi_zb, Option.bind_some]
theorem e6_isOne (v : Int32) : f_X6_isOne v = some (q_bi (decide (0 ≤ v ∧ v ≤ 5))) := by
  unfold f_X6_isOne
  rw [e_in, Option.bind_some, q_bi_zb, Option.bind_some]
/-- a number between two written ones -/
theorem q_rng {v : Int32} (n : Nat) (hn : n < 2 ^ 31) (h : 0 ≤ v ∧ v ≤ nI n) : ∃ j : Nat, j ≤ n ∧ v = nI j := by
  obtain ⟨h1, h2⟩ := h
  rw [cd_le] at h1 h2
  rw [nI_toInt hn] at h2
  exact cd_of_rng hn h1 h2
def q_len (k : Nat) : Nat := if k < 7 then 12 else if k = 7 then 6 else if k < 10 then 8 else 1
def q_bd (k : Nat) : Nat := ([999, 9, 9, 5, 5, 999, 4095, 9999, 11, 999, 8, 4095, 99, 999] : List Nat).getD k 0
def q_ok (g : Nat → Nat → Nat) : Prop := ∀ k j, k < 14 → j < q_len k → g k j ≤ q_bd k
def q_T (T : Nat → Nat → Int32) (g : Nat → Nat → Nat) : Prop := ∀ k j, k < 14 → j < q_len k → T k j = nI (g k j)
def q_up (g : Nat → Nat → Nat) (k j v : Nat) : Nat → Nat → Nat := fun a b => if a = k ∧ b = j then v else g a b
theorem q_up_s (g : Nat → Nat → Nat) (k j v : Nat) : q_up g k j v k j = v := if_pos ⟨rfl, rfl⟩
theorem q_up_k (g : Nat → Nat → Nat) {k j v a b : Nat} (h : a ≠ k) : q_up g k j v a b = g a b := if_neg (fun q => h q.1)
theorem q_up_j (g : Nat → Nat → Nat) {k j v a b : Nat} (h : b ≠ j) : q_up g k j v a b = g a b := if_neg (fun q => h q.2)
theorem q_ok.up {g : Nat → Nat → Nat} (h : q_ok g) (k j : Nat) {v : Nat} (hv : v ≤ q_bd k) : q_ok (q_up g k j v) := by
  intro a b ha hb
  unfold q_up
  by_cases q : a = k ∧ b = j
  · rw [if_pos q, q.1]; exact hv
  · rw [if_neg q]; exact h a b ha hb
theorem q_T.set {T : Nat → Nat → Int32} {g : Nat → Nat → Nat} (h : q_T T g) (k j v : Nat) : q_T (cd_set T k j (nI v)) (q_up g k j v) := by
  intro a b ha hb
  unfold cd_set cd_row upd q_up
  by_cases h1 : a = k
  · subst h1
    by_cases h2 : b = j
    · subst h2; simp
    · simp [h2, h a b ha hb]
  · simp [h1, h a b ha hb]
theorem q_T.fld {T : Nat → Nat → Int32} {g : Nat → Nat → Nat} (h : q_T T g) {k : Nat} (hk : 9 < k) (v : Nat) : q_T (cd_fld T k (nI v)) (q_up g k 0 v) := by
  intro a b ha hb
  unfold cd_fld q_up
  by_cases h1 : a = k
  · subst h1
    have h2 : b = 0 := by unfold q_len at hb; split at hb <;> (try split at hb) <;> (try split at hb) <;> omega
    subst h2; simp
  · simp [h1, h a b ha hb]
def q_lit (g : Nat → Nat → Nat) (c : Nat) : Bool := (g 11 0).testBit c
def q_burn (g : Nat → Nat → Nat) (c t : Nat) : Nat := if t ≤ g 2 c then 1 + g 2 c - t else 1
def q_lasts (g : Nat → Nat → Nat) (c t : Nat) : Nat := (g 0 c + q_burn g c t - 1) / q_burn g c t
def q_last (g : Nat → Nat → Nat) (c : Nat) : Nat := q_lasts g c (g 1 c)
theorem q_burn_pos (g : Nat → Nat → Nat) (c t : Nat) : 0 < q_burn g c t := by unfold q_burn; split <;> omega
theorem q_burn_le {g : Nat → Nat → Nat} (h : q_ok g) {c : Nat} (hc : c < 12) (t : Nat) : q_burn g c t ≤ 10 := by
  have := h 2 c (by decide) hc
  unfold q_burn
  have e : q_bd 2 = 9 := rfl
  split <;> omega
theorem q_lasts_le {g : Nat → Nat → Nat} (h : q_ok g) {c : Nat} (hc : c < 12) (t : Nat) : q_lasts g c t ≤ 999 := by
  have h1 := h 0 c (by decide) hc
  have e : q_bd 0 = 999 := rfl
  have hp := q_burn_pos g c t
  unfold q_lasts
  apply Nat.le_of_lt_succ
  rw [Nat.div_lt_iff_lt_mul hp]
  have : (999 + 1) * q_burn g c t = 999 * q_burn g c t + q_burn g c t := by omega
  have : 999 ≤ 999 * q_burn g c t := by omega
  omega
section EVX
variable {T : Nat → Nat → Int32} {g : Nat → Nat → Nat} {c : Nat}
theorem q_T.at (h : q_T T g) (k j : Nat) (hk : k < 14) (hj : j < q_len k) : T k j = nI (g k j) := h k j hk hj
theorem q_T.rd (h : q_T T g) (k n : Nat) {j : Nat} (hk : k < 14) (hn : q_len k = n) (hj : j < n) : cd_rd (T k) n (nI j) = some (nI (g k j)) := by
  rw [cd_rd_nI hj (by rw [← hn]; unfold q_len; split <;> (try split) <;> (try split) <;> decide), h k j hk (by omega)]
theorem q_lit_lt (hg : q_ok g) : g 11 0 < 2 ^ 31 := by
  have := hg 11 0 (by decide) (by decide)
  have e : q_bd 11 = 4095 := rfl
  omega
theorem e_isLit (hT : q_T T g) (hg : q_ok g) (hc : c < 12) : f_X3_isLit (nI c) T = some (q_bi (q_lit g c)) := by
  rw [show f_X3_isLit (nI c) T = f_X5_holds (T 11 0) (nI c) from rfl, hT 11 0 (by decide) (by decide), e_holds (q_lit_lt hg) (by omega)]
  rfl
theorem q_1 : (1 : Int32) = nI 1 := rfl
theorem e_burnTrimmed (hT : q_T T g) (hg : q_ok g) (hc : c < 12) {t : Nat} (ht : t ≤ 9) : f_X3_burnTrimmed (nI c) (nI t) T = some (nI (q_burn g c t)) := by
  have h2 := hg 2 c (by decide) hc
  have e : q_bd 2 = 9 := rfl
  unfold f_X3_burnTrimmed
  rw [hT.rd 2 12 (by decide) rfl hc, Option.bind_some, q_1, nI_add]
  unfold q_burn
  by_cases h : t ≤ g 2 c
  · rw [if_pos h, pk_sub (by omega), if_pos ((nI_leI (by omega) (by omega)).mpr (by omega)), Option.bind_some]
  · have hn : ¬ nI 1 ≤ nI (1 + g 2 c) - nI t := by
      rw [cd_le, nI_toInt (by decide), pk_sub_toInt (by omega) (by omega)]
      omega
    rw [if_neg h, if_neg hn, Option.bind_some]
theorem e_burnOf (hT : q_T T g) (hg : q_ok g) (hc : c < 12) : f_X3_burnOf (nI c) T = some (nI (q_burn g c (g 1 c))) := by
  have h1 := hg 1 c (by decide) hc
  have e : q_bd 1 = 9 := rfl
  unfold f_X3_burnOf
  rw [hT.rd 1 12 (by decide) rfl hc, Option.bind_some, e_burnTrimmed hT hg hc (by omega), Option.bind_some]
theorem e_minutesLeftTrimmed (hT : q_T T g) (hg : q_ok g) (hc : c < 12) {t : Nat} (ht : t ≤ 9) : f_X3_minutesLeftTrimmed (nI c) (nI t) T = some (nI (q_lasts g c t)) := by
  have h0 := hg 0 c (by decide) hc
  have e : q_bd 0 = 999 := rfl
  have hp := q_burn_pos g c t
  have hl := q_burn_le hg hc t
  unfold f_X3_minutesLeftTrimmed
  rw [e_burnTrimmed hT hg hc ht, Option.bind_some, hT.rd 0 12 (by decide) rfl hc, Option.bind_some, cd_nz_nI hp (by omega), Option.bind_some, nI_add, q_1, pk_sub (by omega), pk_div (by omega) hp (by omega)]
  rfl
theorem e_minutesLeft (hT : q_T T g) (hg : q_ok g) (hc : c < 12) : f_X3_minutesLeft (nI c) T = some (nI (q_last g c)) := by
  have h1 := hg 1 c (by decide) hc
  have e : q_bd 1 = 9 := rfl
  unfold f_X3_minutesLeft
  rw [hT.rd 1 12 (by decide) rfl hc, Option.bind_some, e_minutesLeftTrimmed hT hg hc (by omega), Option.bind_some]
  rfl
end EVX
