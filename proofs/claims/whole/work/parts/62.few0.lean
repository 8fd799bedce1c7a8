-- ===== the fewest struck: bits of a set =====
def pcN : Nat → Nat → Nat
  | 0, _ => 0
  | d + 1, m => m % 2 + pcN d (m / 2)
theorem bc_a : ∀ a, a < 64 → ∀ b, b < 64 → sJ6_bitCount_0f7a4 (nI (64 * a + b)) = some (nI (pcN 12 (64 * a + b))) := by decide +kernel
theorem bs_a : ∀ a, a < 64 → ∀ b, b < 64 → ∀ j, j < 12 → (((nI (64 * a + b) >>> (nI j &&& 31)) &&& 1 = 1 ↔ (64 * a + b).testBit j = true) ∧ (iush (nI (64 * a + b)) (nI j) &&& 1 = 0 ↔ (64 * a + b).testBit j = false)) := by decide +kernel
theorem sh12 : ∀ q, q < 13 → ((1 : Int32) <<< (nI q &&& 31)) = nI (2 ^ q) ∧ 2 ^ q ≤ 4096 := by decide +kernel
theorem x_bitCount {m : Nat} (hm : m < 4096) : sJ6_bitCount_0f7a4 (nI m) = some (nI (pcN 12 m)) := by
  have := bc_a (m / 64) (by omega) (m % 64) (by omega)
  rwa [show 64 * (m / 64) + m % 64 = m by omega] at this
theorem b12 {m j : Nat} (hm : m < 4096) (hj : j < 12) : ((nI m >>> (nI j &&& 31)) &&& 1 = 1 ↔ m.testBit j = true) ∧ (iush (nI m) (nI j) &&& 1 = 0 ↔ m.testBit j = false) := by
  have := bs_a (m / 64) (by omega) (m % 64) (by omega) j hj
  rwa [show 64 * (m / 64) + m % 64 = m by omega] at this
theorem pcN_zero : ∀ d, pcN d 0 = 0
  | 0 => rfl
  | d + 1 => by show 0 % 2 + pcN d (0 / 2) = 0; rw [Nat.zero_div, pcN_zero d]
theorem pcN_le : ∀ k d m, m < 2 ^ k → pcN d m ≤ k
  | 0, d, m, h => by rw [show m = 0 by omega, pcN_zero]; omega
  | k + 1, 0, m, h => by show 0 ≤ _; omega
  | k + 1, d + 1, m, h => by
    have := pcN_le k d (m / 2) (by rw [Nat.pow_succ] at h; omega)
    show m % 2 + pcN d (m / 2) ≤ k + 1
    omega
theorem m_sizeOf {m : Nat} (hm : m < 4096) : sX11_sizeOf (nI m) = some (nI (pcN 12 m)) := by
  have key : ∀ d m a, m < 2 ^ d → d ≤ 12 → ∀ f, d < f → lX11_sizeOf_4 f (nI a) (nI m) = some (nI (a + pcN d m)) := by
    intro d
    induction d with
    | zero =>
      intro m a hm hd f hf
      obtain ⟨f, rfl⟩ : ∃ g, f = g + 1 := ⟨f - 1, by omega⟩
      have e0 : m = 0 := by omega
      subst e0
      rw [lX11_sizeOf_4, if_pos (by decide)]; rfl
    | succ d ih =>
      intro m a hm hd f hf
      obtain ⟨f, rfl⟩ : ∃ g, f = g + 1 := ⟨f - 1, by omega⟩
      have h12 : 2 ^ (d + 1) ≤ 2 ^ 12 := Nat.pow_le_pow_right (by decide) hd
      have hm31 : m < 2 ^ 31 := by omega
      rw [lX11_sizeOf_4]
      by_cases c : nI m ≤ 0
      · rw [if_pos c]
        have : m = 0 := by
          rw [Int32.le_iff_toInt_le, nI_toInt (by omega)] at c
          have : (0 : Int32).toInt = 0 := rfl
          omega
        rw [this, pcN_zero, Nat.add_zero]
      · have e1 : nI m &&& 1 = nI (m % 2) := pk_andN (by omega) 1 (by decide)
        have e2 : nI m >>> ((1 : Int32) &&& 31) = nI (m / 2) := pk_shrN hm31 _ 1 (by decide)
        rw [if_neg c, bnd_e, bnd_e, e1, e2, nI_add, ih (m / 2) (a + m % 2) (by rw [Nat.pow_succ] at hm; omega) (by omega) f (by omega)]
        show some (nI (a + m % 2 + pcN d (m / 2))) = some (nI (a + (m % 2 + pcN d (m / 2))))
        rw [Nat.add_assoc]
  unfold sX11_sizeOf
  rw [show lX11_sizeOf_4 FU 0 (nI m) = some (nI (0 + pcN 12 m)) from key 12 m 0 (by omega) (by omega) FU (by unfold FU; omega), ob_some, Nat.zero_add]
