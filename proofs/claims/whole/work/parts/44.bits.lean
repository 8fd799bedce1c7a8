theorem wb_tb (n : Nat) : (lN n).toBitVec = BitVec.ofNat 64 n := rfl
theorem wb_inj {a b : Int64} (h : a.toBitVec = b.toBitVec) : a = b := Int64.toBitVec_inj.mp h
theorem wb_tn {n : Nat} (h : n < 2 ^ 64) : (lN n).toBitVec.toNat = n := by rw [wb_tb, BitVec.toNat_ofNat, Nat.mod_eq_of_lt h]
theorem wb_of (x : Int64) : ∃ n, n < 2 ^ 64 ∧ x = lN n := ⟨x.toBitVec.toNat, x.toBitVec.isLt, wb_inj (by rw [wb_tb]; simp)⟩
theorem wb_of32 (x : Int32) : ∃ n, n < 2 ^ 32 ∧ x = nI n := ⟨x.toBitVec.toNat, x.toBitVec.isLt, Int32.toBitVec_inj.mp (by show _ = BitVec.ofNat 32 _; simp)⟩
theorem wb_c : ∀ k, k < 64 → ((nI k).toInt64 &&& 63) = lN k := by decide +kernel
theorem wb_cu : ∀ k, k < 64 → ((nI k).toInt64.toUInt64 &&& Int64.toUInt64 63) = UInt64.ofNat k := by decide +kernel
theorem wb_sm : ∀ k, k < 64 → (BitVec.ofNat 64 k).smod 64 = BitVec.ofNat 64 k := by decide +kernel
theorem wb_pw {a b : Nat} (h : a ≤ b) : 2 ^ b = 2 ^ a * 2 ^ (b - a) := by rw [← Nat.pow_add]; congr 1; omega
theorem wb_lt2 {a b : Nat} (h : a < b) : 2 ^ a < 2 ^ b := Nat.pow_lt_pow_right (by decide) h
theorem wb_mod (n : Nat) : lN n = lN (n % 2 ^ 64) := wb_inj (by rw [wb_tb, wb_tb]; apply BitVec.eq_of_toNat_eq; rw [BitVec.toNat_ofNat, BitVec.toNat_ofNat, Nat.mod_mod])
theorem wb_shr {n k : Nat} (hn : n < 2 ^ 64) (hk : k < 64) : ((lN n).toUInt64 >>> ((nI k).toInt64.toUInt64 &&& Int64.toUInt64 63)).toInt64 = lN (n / 2 ^ k) := by
  rw [wb_cu k hk]
  apply wb_inj
  apply BitVec.eq_of_toNat_eq
  show ((lN n).toUInt64 >>> UInt64.ofNat k).toNat = (BitVec.ofNat 64 _).toNat
  have h1 : (UInt64.ofNat k).toNat = k := by
    show (BitVec.ofNat 64 k).toNat = k
    rw [BitVec.toNat_ofNat, Nat.mod_eq_of_lt (by omega)]
  have h2 : (lN n).toUInt64.toNat = n := wb_tn hn
  rw [UInt64.toNat_shiftRight, h1, h2, Nat.mod_eq_of_lt hk, Nat.shiftRight_eq_div_pow, BitVec.toNat_ofNat, Nat.mod_eq_of_lt (Nat.lt_of_le_of_lt (Nat.div_le_self _ _) hn)]
theorem wb_shl (n : Nat) {k : Nat} (hk : k < 64) : lN n <<< ((nI k).toInt64 &&& 63) = lN (n * 2 ^ k) := by
  rw [wb_c k hk]
  apply wb_inj
  rw [Int64.toBitVec_shiftLeft, wb_tb, wb_tb, wb_tb, wb_sm k hk]
  apply BitVec.eq_of_toNat_eq
  rw [BitVec.shiftLeft_eq', BitVec.toNat_shiftLeft, BitVec.toNat_ofNat, BitVec.toNat_ofNat, BitVec.toNat_ofNat, Nat.mod_eq_of_lt (show k < 2 ^ 64 by omega), Nat.shiftLeft_eq, Nat.mul_mod, Nat.mod_mod, ← Nat.mul_mod]
theorem wb_and {a b : Nat} (ha : a < 2 ^ 64) (hb : b < 2 ^ 64) : lN a &&& lN b = lN (a &&& b) := by
  apply wb_inj
  rw [Int64.toBitVec_and, wb_tb, wb_tb, wb_tb]
  apply BitVec.eq_of_toNat_eq
  rw [BitVec.toNat_and, BitVec.toNat_ofNat, BitVec.toNat_ofNat, BitVec.toNat_ofNat, Nat.mod_eq_of_lt ha, Nat.mod_eq_of_lt hb, Nat.mod_eq_of_lt (Nat.and_lt_two_pow _ hb)]
theorem wb_or {a b : Nat} (ha : a < 2 ^ 64) (hb : b < 2 ^ 64) : lN a ||| lN b = lN (a ||| b) := by
  apply wb_inj
  rw [Int64.toBitVec_or, wb_tb, wb_tb, wb_tb]
  apply BitVec.eq_of_toNat_eq
  rw [BitVec.toNat_or, BitVec.toNat_ofNat, BitVec.toNat_ofNat, BitVec.toNat_ofNat, Nat.mod_eq_of_lt ha, Nat.mod_eq_of_lt hb, Nat.mod_eq_of_lt (Nat.or_lt_two_pow ha hb)]
theorem wb_mask {n k : Nat} (hn : n < 2 ^ 64) (hk : k < 64) : lN n &&& lN (2 ^ k - 1) = lN (n % 2 ^ k) := by
  rw [wb_and hn (by have := wb_lt2 hk; omega), Nat.and_two_pow_sub_one_eq_mod]
theorem wb_a1 {n : Nat} (hn : n < 2 ^ 64) : lN n &&& 1 = lN (n % 2) := wb_mask (k := 1) hn (by decide)
theorem wb_bit {n k : Nat} (hn : n < 2 ^ 64) (hk : k < 64) : ((lN n).toUInt64 >>> ((nI k).toInt64.toUInt64 &&& Int64.toUInt64 63)).toInt64 &&& 1 = lN (n / 2 ^ k % 2) := by
  rw [wb_shr hn hk, wb_a1 (Nat.lt_of_le_of_lt (Nat.div_le_self _ _) hn)]
-- ===== sets as the bits of a long =====
theorem lb_or (a b : Int64) (i : Nat) : lb (a ||| b) i = (lb a i || lb b i) := by unfold lb; rw [Int64.toBitVec_or, BitVec.getLsbD_or]
theorem lb_and (a b : Int64) (i : Nat) : lb (a &&& b) i = (lb a i && lb b i) := by unfold lb; rw [Int64.toBitVec_and, BitVec.getLsbD_and]
theorem lb_not (a : Int64) {i : Nat} (hi : i < 64) : lb (a ^^^ (-1)) i = !lb a i := by
  unfold lb
  rw [Int64.toBitVec_xor, BitVec.getLsbD_xor, show (-1 : Int64).toBitVec = BitVec.allOnes 64 from rfl, BitVec.getLsbD_allOnes]
  simp [hi]
theorem lb_lN (n : Nat) {i : Nat} (hi : i < 64) : lb (lN n) i = n.testBit i := by
  unfold lb
  rw [wb_tb, BitVec.getLsbD_ofNat]
  simp [hi]
theorem lb_zero (i : Nat) : lb 0 i = false := by
  show (0#64).getLsbD i = false
  simp
theorem lsh_one {r : Nat} (hr : r < 64) : lsh 1 (nI r) = lN (2 ^ r) := by
  show lN 1 <<< ((nI r).toInt64 &&& 63) = _
  rw [wb_shl 1 hr, Nat.one_mul]
theorem lb_one {r i : Nat} (hr : r < 64) (hi : i < 64) : lb (lsh 1 (nI r)) i = decide (r = i) := by
  rw [lsh_one hr, lb_lN _ hi, Nat.testBit_two_pow]
theorem lb_ext {a b : Int64} (h : ∀ i, i < 64 → lb a i = lb b i) : a = b := by
  apply wb_inj
  apply BitVec.eq_of_getLsbD_eq
  intro i hi
  exact h i hi
theorem lg0 {x y : Int64} : lg_cmp x y = 0 ↔ x = y := by
  unfold lg_cmp
  by_cases h : y < x
  · rw [if_pos h]
    constructor
    · intro q; exact absurd q (by decide)
    · intro q; subst q; exact absurd h (by rw [Int64.lt_iff_toInt_lt]; omega)
  · rw [if_neg h]
    by_cases h2 : x = y
    · simp [h2]
    · rw [if_neg h2]
      constructor
      · intro q; exact absurd q (by decide)
      · intro q; exact absurd q h2
theorem lush_bit (x : Int64) {r : Nat} (hr : r < 64) : (lush x (nI r) &&& 1 = 0) ↔ lb x r = false := by
  obtain ⟨n, hn, rfl⟩ := wb_of x
  rw [show lush (lN n) (nI r) &&& 1 = lN (n / 2 ^ r % 2) from wb_bit hn hr, lb_lN _ hr, Nat.testBit_eq_decide_div_mod_eq]
  have h2 : n / 2 ^ r % 2 < 2 := Nat.mod_lt _ (by decide)
  rcases (show n / 2 ^ r % 2 = 0 ∨ n / 2 ^ r % 2 = 1 by omega) with e | e
  · rw [e]; simp; rfl
  · rw [e]; simp; decide
theorem low_nat : ∀ n : Nat, 0 < n → ∃ k m, n = 2 ^ k * (2 * m + 1) := by
  intro n
  induction n using Nat.strongRecOn with
  | ind n ih =>
    intro h
    by_cases e : n % 2 = 1
    · exact ⟨0, n / 2, by omega⟩
    · obtain ⟨k, m, hk⟩ := ih (n / 2) (by omega) (by omega)
      refine ⟨k + 1, m, ?_⟩
      rw [Nat.pow_succ, Nat.mul_comm (2 ^ k) 2, Nat.mul_assoc, ← hk]
      omega
theorem odd_bit0 (a : Nat) : (2 * a + 1).testBit 0 = true := by
  rw [Nat.testBit_zero]; simp
theorem odd_bitS (a i : Nat) : (2 * a + 1).testBit (i + 1) = a.testBit i := by
  rw [Nat.testBit_succ]
  congr 1
  omega
theorem and_neg {k m N : Nat} (hm : m < 2 ^ N) : (2 ^ k * (2 * m + 1)) &&& (2 ^ k * (2 * (2 ^ N - (m + 1)) + 1)) = 2 ^ k := by
  apply Nat.eq_of_testBit_eq
  intro i
  rw [Nat.testBit_and, Nat.testBit_two_pow_mul, Nat.testBit_two_pow_mul, Nat.testBit_two_pow]
  by_cases h : k ≤ i
  · obtain ⟨j, rfl⟩ : ∃ j, i = k + j := ⟨i - k, by omega⟩
    rw [Nat.add_sub_cancel_left]
    cases j with
    | zero => rw [odd_bit0, odd_bit0]; simp
    | succ j =>
      rw [odd_bitS, odd_bitS, Nat.testBit_two_pow_sub_succ hm]
      cases m.testBit j <;> simp <;> omega
  · have h1 : ¬ i ≥ k := h
    have h2 : ¬ k = i := by omega
    simp [h1, h2]
theorem low_bit {x : Int64} (hx : x ≠ 0) : ∃ k, k < 64 ∧ lb x k = true ∧ (∀ j, j < k → lb x j = false) ∧ (x &&& -x) - 1 = lN (2 ^ k - 1) := by
  obtain ⟨n, hn, rfl⟩ := wb_of x
  have h0 : 0 < n := by
    rcases Nat.eq_zero_or_pos n with e | e
    · subst e; exact absurd rfl hx
    · exact e
  obtain ⟨k, m, e⟩ := low_nat n h0
  have hk : k < 64 := by
    rcases Nat.lt_or_ge k 64 with h | h
    · exact h
    · have h1 : 2 ^ 64 ≤ 2 ^ k := Nat.pow_le_pow_right (by decide) h
      have h2 : 2 ^ k * 1 ≤ 2 ^ k * (2 * m + 1) := Nat.mul_le_mul_left _ (by omega)
      omega
  obtain ⟨N, hN⟩ : ∃ N, 64 = k + (N + 1) := ⟨63 - k, by omega⟩
  have hp : (2 : Nat) ^ 64 = 2 ^ k * (2 * 2 ^ N) := by rw [hN, Nat.pow_add, Nat.pow_succ]; congr 1; omega
  have hpos : 0 < 2 ^ k := Nat.pow_pos (by decide)
  have hm : m < 2 ^ N := by
    rw [e, hp] at hn
    have := Nat.lt_of_mul_lt_mul_left hn
    omega
  have hneg : 2 ^ 64 - n = 2 ^ k * (2 * (2 ^ N - (m + 1)) + 1) := by
    rw [e, hp, ← Nat.mul_sub]
    congr 1
    omega
  refine ⟨k, hk, ?_, fun j hj => ?_, ?_⟩
  · rw [lb_lN _ hk, e, Nat.testBit_two_pow_mul, Nat.sub_self, odd_bit0]; simp
  · rw [lb_lN _ (by omega), e, Nat.testBit_two_pow_mul]
    have : ¬ j ≥ k := by omega
    simp [this]
  · have h1 : -lN n = lN (2 ^ 64 - n) := by
      apply wb_inj
      rw [Int64.toBitVec_neg, wb_tb, wb_tb]
      apply BitVec.eq_of_toNat_eq
      rw [BitVec.toNat_neg, BitVec.toNat_ofNat, BitVec.toNat_ofNat, Nat.mod_eq_of_lt hn]
    rw [h1, wb_and hn (by omega), hneg, e, and_neg hm]
    exact lN_sub (a := 2 ^ k) (b := 1) (by omega)
theorem bc_low : ∀ k, k < 64 → sJ13_bitCount_95d88 (lN (2 ^ k - 1)) = some (nI k) := by decide +kernel
/-- the lowest bit of held & book -/
theorem x_first {S : Nat → Nat → Int32} {L : Nat → Nat → Int64} {held : Int64} {a k : Nat} (ha : a < 4) (hk : k < 3) :
    (sX6_first held (nI a) (nI k) S L = some (-1) ∧ ∀ r, r < 64 → (lb held r && lb (L 26 (3 * a + k)) r) = false) ∨
    ∃ r, r < 64 ∧ sX6_first held (nI a) (nI k) S L = some (nI r) ∧ (lb held r && lb (L 26 (3 * a + k)) r) = true ∧ ∀ j, j < r → (lb held j && lb (L 26 (3 * a + k)) j) = false := by
  have e : nI a * 3 + nI k = nI (3 * a + k) := by show nI a * nI 3 + nI k = _; rw [pk_mul, nI_add]; congr 1; omega
  unfold sX6_first
  rw [e, ck_n (by omega) (by decide), nI_clamp (by omega), bnd_e]
  by_cases h : held &&& L 26 (3 * a + k) = 0
  · refine Or.inl ⟨?_, fun r hr => ?_⟩
    · rw [if_pos (lg0.mpr h)]
    · rw [← lb_and, h, lb_zero]
  · obtain ⟨r, hr, h1, h2, h3⟩ := low_bit h
    refine Or.inr ⟨r, hr, ?_, by rw [← lb_and]; exact h1, fun j hj => by rw [← lb_and]; exact h2 j hj⟩
    rw [if_neg (fun q => h (lg0.mp q)), h3, bc_low r hr, ob_some]
