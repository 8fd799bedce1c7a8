-- ===== numbers =====
theorem bnd_e {α β : Type} (a : α) (f : α → β) : bnd a f = f a := rfl
theorem ob2_some {A B R : Type} (a : A) (b : B) (f : A → B → Option R) : ob2 (some (a, b)) f = f a b := rfl
theorem ob3_some {A B C R : Type} (a : A) (b : B) (c : C) (f : A → B → C → Option R) : ob3 (some (a, b, c)) f = f a b c := rfl
def In (x : Int32) (n : Nat) : Prop := ∃ j, j < n ∧ x = nI j
def Bad (x : Int32) (n : Nat) : Prop := x < 0 ∨ nI n ≤ x
theorem rg (x : Int32) {n : Nat} (hn : n < 2 ^ 31) : Bad x n ∨ ∃ j, j < n ∧ x = nI j := by
  rcases pk_ix x hn with h | h | h
  · exact Or.inl (Or.inl h)
  · exact Or.inl (Or.inr h)
  · exact Or.inr h
theorem qu2_same (S : Nat → Nat → Int32) (k i : Nat) (x : Int32) : qu2 S k i x k = upd (S k) i x := by
  unfold qu2
  rw [show Nat.beq k k = true from Nat.beq_refl k]
  rfl
theorem qu2_ne {S : Nat → Nat → Int32} {k i q : Nat} {x : Int32} (h : q ≠ k) : qu2 S k i x q = S q := by
  unfold qu2
  cases hb : Nat.beq q k with
  | true => exact absurd (Nat.eq_of_beq_eq_true hb) h
  | false => rfl
theorem qu2L_same (L : Nat → Nat → Int64) (k i : Nat) (x : Int64) : qu2L L k i x k = vp_updL (L k) i x := by
  unfold qu2L
  rw [show Nat.beq k k = true from Nat.beq_refl k]
  rfl
theorem qu2L_ne {L : Nat → Nat → Int64} {k i q : Nat} {x : Int64} (h : q ≠ k) : qu2L L k i x q = L q := by
  unfold qu2L
  cases hb : Nat.beq q k with
  | true => exact absurd (Nat.eq_of_beq_eq_true hb) h
  | false => rfl
theorem ck_n {α : Type} {j n : Nat} {o : Option α} (h : j < n) (hn : n < 2 ^ 31) : ck (nI j) n o = o := ck_in (vp_in_nI h hn)
theorem ib_ok {j n : Nat} (h : j < n) (hn : n < 2 ^ 31) : sX10_isBelow (nI j) (nI n) = some 1 := by
  unfold sX10_isBelow
  rw [if_neg (nI_pos (by omega)), if_neg (nI_ge h hn)]
theorem ib_bad {x : Int32} {n : Nat} (h : Bad x n) : sX10_isBelow x (nI n) = some 0 := by
  unfold sX10_isBelow
  by_cases c : x < 0
  · rw [if_pos c]
  · rw [if_neg c, if_pos (h.resolve_left c)]
theorem in_ok {j n : Nat} (h : j < n) (hn : n < 2 ^ 30) : sX11_in (nI j) 0 (nI n - 1) = some 1 := by
  unfold sX11_in
  have e : nI n - 1 = nI (n - 1) := by
    obtain ⟨m, rfl⟩ : ∃ m, n = m + 1 := ⟨n - 1, by omega⟩
    exact nI_pred m
  rw [if_neg (nI_pos (by omega)), e, if_neg (nI_nlt (by omega) (by omega))]
theorem in_bad {x : Int32} {n : Nat} (hn : n < 2 ^ 30) (h : Bad x n) : sX11_in x 0 (nI n - 1) = some 0 := by
  unfold sX11_in
  by_cases c : x < 0
  · rw [if_pos c]
  · rw [if_neg c]
    have h1 : nI n ≤ x := h.resolve_left c
    have h2 : (nI n - nI 1).toInt = (n : Int) - 1 := pk_sub_toInt hn (by decide)
    have h3 : (nI n).toInt = (n : Int) := nI_toInt (by omega)
    have h4 : nI n - 1 < x := by
      rw [Int32.lt_iff_toInt_lt]
      rw [Int32.le_iff_toInt_le, h3] at h1
      show (nI n - nI 1).toInt < x.toInt
      rw [h2]
      omega
    rw [if_pos h4]
theorem xDay_ok {j : Nat} (h : j < 1000) : sX10_isDay (nI j) = some 1 := by
  unfold sX10_isDay
  rw [show (1000 : Int32) = nI 1000 from rfl, ib_ok h (by decide)]; rfl
theorem xDay_bad {x : Int32} (h : Bad x 1000) : sX10_isDay x = some 0 := by
  unfold sX10_isDay
  rw [show (1000 : Int32) = nI 1000 from rfl, ib_bad h]; rfl
theorem xLand_ok {j : Nat} (h : j < 4) : sX10_isLand (nI j) = some 1 := by
  unfold sX10_isLand
  rw [show (4 : Int32) = nI 4 from rfl, ib_ok h (by decide)]; rfl
theorem xLand_bad {x : Int32} (h : Bad x 4) : sX10_isLand x = some 0 := by
  unfold sX10_isLand
  rw [show (4 : Int32) = nI 4 from rfl, ib_bad h]; rfl
theorem xTie_ok {j : Nat} (h : j < 6) : sX10_isTie (nI j) = some 1 := by
  unfold sX10_isTie
  rw [show (6 : Int32) = nI 6 from rfl, ib_ok h (by decide)]; rfl
theorem xTie_bad {x : Int32} (h : Bad x 6) : sX10_isTie x = some 0 := by
  unfold sX10_isTie
  rw [show (6 : Int32) = nI 6 from rfl, ib_bad h]; rfl
theorem xKind_ok {j : Nat} (h : j < 3) : sX10_isKind (nI j) = some 1 := by
  unfold sX10_isKind
  rw [show (3 : Int32) = nI 3 from rfl, ib_ok h (by decide)]; rfl
theorem xKind_bad {x : Int32} (h : Bad x 3) : sX10_isKind x = some 0 := by
  unfold sX10_isKind
  rw [show (3 : Int32) = nI 3 from rfl, ib_bad h]; rfl
theorem mDay_ok {j : Nat} (h : j < 1000) : sX11_isDay (nI j) = some 1 := by
  unfold sX11_isDay
  rw [show (999 : Int32) = nI 1000 - 1 from rfl, in_ok h (by decide)]; rfl
theorem mDay_bad {x : Int32} (h : Bad x 1000) : sX11_isDay x = some 0 := by
  unfold sX11_isDay
  rw [show (999 : Int32) = nI 1000 - 1 from rfl, in_bad (by decide) h]; rfl
theorem mLand_ok {j : Nat} (h : j < 4) : sX11_isLand (nI j) = some 1 := by
  unfold sX11_isLand
  rw [show (3 : Int32) = nI 4 - 1 from rfl, in_ok h (by decide)]; rfl
theorem mLand_bad {x : Int32} (h : Bad x 4) : sX11_isLand x = some 0 := by
  unfold sX11_isLand
  rw [show (3 : Int32) = nI 4 - 1 from rfl, in_bad (by decide) h]; rfl
theorem mTie_ok {j : Nat} (h : j < 6) : sX11_isTie (nI j) = some 1 := by
  unfold sX11_isTie
  rw [show (5 : Int32) = nI 6 - 1 from rfl, in_ok h (by decide)]; rfl
theorem mTie_bad {x : Int32} (h : Bad x 6) : sX11_isTie x = some 0 := by
  unfold sX11_isTie
  rw [show (5 : Int32) = nI 6 - 1 from rfl, in_bad (by decide) h]; rfl
theorem mKind_ok {j : Nat} (h : j < 3) : sX11_isKind (nI j) = some 1 := by
  unfold sX11_isKind
  rw [show (2 : Int32) = nI 3 - 1 from rfl, in_ok h (by decide)]; rfl
theorem mKind_bad {x : Int32} (h : Bad x 3) : sX11_isKind x = some 0 := by
  unfold sX11_isKind
  rw [show (2 : Int32) = nI 3 - 1 from rfl, in_bad (by decide) h]; rfl
theorem xCase_ok {S : Nat → Nat → Int32} {L : Nat → Nat → Int64} {j n : Nat} (hs : S 1 0 = nI n) (hn : n ≤ 16) (h : j < n) : sX10_isCase (nI j) S L = some 1 := by
  unfold sX10_isCase
  rw [hs, ib_ok h (by omega)]; rfl
theorem xCase_bad {S : Nat → Nat → Int32} {L : Nat → Nat → Int64} {x : Int32} {n : Nat} (hs : S 1 0 = nI n) (h : Bad x n) : sX10_isCase x S L = some 0 := by
  unfold sX10_isCase
  rw [hs, ib_bad h]; rfl
theorem xRule_ok {S : Nat → Nat → Int32} {L : Nat → Nat → Int64} {j n : Nat} (hs : S 2 0 = nI n) (hn : n ≤ 60) (h : j < n) : sX10_isRule (nI j) S L = some 1 := by
  unfold sX10_isRule
  rw [hs, ib_ok h (by omega)]; rfl
theorem xRule_bad {S : Nat → Nat → Int32} {L : Nat → Nat → Int64} {x : Int32} {n : Nat} (hs : S 2 0 = nI n) (h : Bad x n) : sX10_isRule x S L = some 0 := by
  unfold sX10_isRule
  rw [hs, ib_bad h]; rfl
theorem mIs_ok {S : Nat → Nat → Int32} {c j n : Nat} (hc : c < 994) (hs : S 1 c = nI n) (hn : n ≤ 60) (h : j < n) : sX11_is (nI c) (nI j) S = some 1 := by
  unfold sX11_is
  rw [ck_n hc (by decide), nI_clamp (by omega), hs, in_ok h (by omega)]; rfl
theorem mIs_bad {S : Nat → Nat → Int32} {c n : Nat} {x : Int32} (hc : c < 994) (hs : S 1 c = nI n) (hn : n ≤ 60) (h : Bad x n) : sX11_is (nI c) x S = some 0 := by
  unfold sX11_is
  rw [ck_n hc (by decide), nI_clamp (by omega), hs, in_bad (by omega) h]; rfl
