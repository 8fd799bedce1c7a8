-- ===== test =====
theorem x_fits (w x a : Int32) : sX6_fits w x a = some (if fitB w x a = true then 1 else 0) := by
  unfold sX6_fits fitB
  by_cases h1 : w = 1
  · by_cases h2 : x = -1 <;> simp [h1, h2]
  · by_cases h0 : w = 0
    · by_cases h2 : x = -1 <;> simp [h0, h2]
    · by_cases h8 : w < 8
      · by_cases h2 : w = 2
        · by_cases h3 : x = a <;> simp [h2, h3]
        · by_cases h3 : w = 3
          · by_cases h4 : x = -1
            · simp [h3, h4]
            · by_cases h5 : x = a
              · subst h5; simp [h3, h4]
              · simp [h3, h4, h5]
          · by_cases h4 : x = w - 4
            · simp [h1, h0, h8, h2, h3, h4]
            · simp [h1, h0, h8, h2, h3, h4]
      · by_cases h2 : x = -1 <;> simp [h1, h0, h8, h2]
theorem m1_le4 {j : Nat} (hj : j < 1000) : (4 : Int32) ≤ nI j - 1 ↔ 5 ≤ j := by
  have h2 : (nI j - 1).toInt = (j : Int) - 1 := pk_sub_toInt (b := 1) (by omega) (by decide)
  rw [Int32.le_iff_toInt_le, h2]
  have e : (4 : Int32).toInt = 4 := rfl
  omega
theorem x_testloop {r t : Nat} {w : Int32} (hr : r < 60) (ht : t < 6) : ∀ d j, j + d = 5 → ∀ f, d < f → ∀ (S : Nat → Nat → Int32) (L : Nat → Nat → Int64), ∃ L', lX6_addTest_31 (nI r) (nI t) w f (nI j - 1) S L = some (S, L') ∧ (∀ k, k ≠ 27 → L' k = L k) ∧
    ∀ q, L' 27 q = if 5 * t + j ≤ q ∧ q < 5 * t + 5 ∧ fitB w (nI (q - 5 * t) - 1) (S 17 r) = false then L 27 q ||| lsh 1 (nI r) else L 27 q := by
  intro d
  induction d with
  | zero =>
    intro j hj f hf S L
    obtain ⟨f, rfl⟩ : ∃ g, f = g + 1 := ⟨f - 1, by omega⟩
    refine ⟨L, ?_, fun _ _ => rfl, fun q => by rw [if_neg (by omega)]⟩
    rw [lX6_addTest_31, if_pos ((m1_le4 (by omega)).mpr (by omega))]
  | succ d ih =>
    intro j hj f hf S L
    obtain ⟨f, rfl⟩ : ∃ g, f = g + 1 := ⟨f - 1, by omega⟩
    have e1 : nI j - 1 + 1 = nI (j + 1) - 1 := by rw [sub_add1, nI_pred]
    have e2 : nI t * 5 + (nI j - 1) + 1 = nI (5 * t + j) := by
      show nI t * nI 5 + (nI j - 1) + 1 = _
      rw [Int32.add_assoc, sub_add1, pk_mul, nI_add]; congr 1; omega
    by_cases hfit : fitB w (nI j - 1) (S 17 r) = true
    · obtain ⟨L', l1, l2, l3⟩ := ih (j + 1) (by omega) f (by omega) S L
      refine ⟨L', ?_, l2, fun q => ?_⟩
      · rw [lX6_addTest_31, if_neg (fun q => by have := (m1_le4 (by omega)).mp q; omega), ck_n hr (by decide), nI_clamp (by omega), x_fits, ob_some, if_pos hfit, if_neg (by decide), bnd_e, e1]
        exact l1
      · rw [l3]
        by_cases eq : q = 5 * t + j
        · subst eq
          have ej : 5 * t + j - 5 * t = j := by omega
          rw [if_neg (by omega), if_neg (fun z => by rw [ej, hfit] at z; exact absurd z.2.2 (by decide))]
        · by_cases ez : 5 * t + j ≤ q ∧ q < 5 * t + 5 ∧ fitB w (nI (q - 5 * t) - 1) (S 17 r) = false
          · rw [if_pos ⟨by omega, ez.2⟩, if_pos ez]
          · rw [if_neg (fun z => ez ⟨by omega, z.2⟩), if_neg ez]
    · have hfit' : fitB w (nI j - 1) (S 17 r) = false := by cases hh : fitB w (nI j - 1) (S 17 r) with | true => exact absurd hh hfit | false => rfl
      obtain ⟨L', l1, l2, l3⟩ := ih (j + 1) (by omega) f (by omega) S (qu2L L 27 (5 * t + j) (L 27 (5 * t + j) ||| lsh 1 (nI r)))
      refine ⟨L', ?_, fun k hk => by rw [l2 k hk, qu2L_ne hk], fun q => ?_⟩
      · rw [lX6_addTest_31, if_neg (fun q => by have := (m1_le4 (by omega)).mp q; omega), ck_n hr (by decide), nI_clamp (by omega), x_fits, ob_some, if_neg hfit, if_pos rfl, e2, bnd_e, ck_n (by omega) (by decide), ck_n (by omega) (by decide), nI_clamp (by omega), bnd_e, bnd_e, e1]
        exact l1
      · rw [l3, qu2L_same]
        by_cases eq : q = 5 * t + j
        · subst eq
          have ej : 5 * t + j - 5 * t = j := by omega
          rw [pk_uLs, if_neg (by omega), if_pos ⟨by omega, by omega, by rw [ej]; exact hfit'⟩]
        · rw [pk_uLn eq]
          by_cases ez : 5 * t + j ≤ q ∧ q < 5 * t + 5 ∧ fitB w (nI (q - 5 * t) - 1) (S 17 r) = false
          · rw [if_pos ⟨by omega, ez.2⟩, if_pos ez]
          · rw [if_neg (fun z => ez ⟨by omega, z.2⟩), if_neg ez]
theorem x_pair {S : Nat → Nat → Int32} {L : Nat → Nat → Int64} {r a b : Nat} (ha : a < 6) (hb : b < 6) : sX6_pair (nI r) (nI a) (nI b) S L = some (S, qu2L L 28 (6 * min a b + max a b) (L 28 (6 * min a b + max a b) ||| lsh 1 (nI r))) := by
  have e1 : (if nI b < nI a then nI b else nI a) = nI (min a b) := by
    by_cases h : b < a
    · rw [if_pos (nI_lt h (by omega)), Nat.min_eq_right (by omega)]
    · rw [if_neg (nI_nlt (by omega) (by omega)), Nat.min_eq_left (by omega)]
  have e2 : (if nI a < nI b then nI b else nI a) = nI (max a b) := by
    by_cases h : a < b
    · rw [if_pos (nI_lt h (by omega)), Nat.max_eq_right (by omega)]
    · rw [if_neg (nI_nlt (by omega) (by omega)), Nat.max_eq_left (by omega)]
  have e3 : nI (min a b) * 6 + nI (max a b) = nI (6 * min a b + max a b) := by show nI (min a b) * nI 6 + _ = _; rw [pk_mul, nI_add]; congr 1; omega
  have h1 : min a b < 6 := by omega
  have h2 : max a b < 6 := by omega
  unfold sX6_pair
  rw [e1, e2, bnd_e, bnd_e, e3, bnd_e, ck_n (by omega) (by decide), ck_n (by omega) (by decide), nI_clamp (by omega), bnd_e]
theorem x_addTest {S : Nat → Nat → Int32} {L : Nat → Nat → Int64} {r t w n : Nat} (hr : r < 60) (ht : t < 6) (hw : w < 14) (hn : n < 2) (h23 : S 23 r = nI n) :
    ∃ L', sX6_addTest (nI r) (nI t) (nI w) S L = some (nI (n + 1), qu2 (qu2 (qu2 S 24 (2 * r + n) (nI t)) 25 (2 * r + n) (nI w)) 23 r (nI (n + 1)), L') ∧ (∀ k, k ≠ 27 → k ≠ 28 → L' k = L k) ∧
      (∀ q, L' 27 q = if 5 * t ≤ q ∧ q < 5 * t + 5 ∧ fitB (nI w) (nI (q - 5 * t) - 1) (S 17 r) = false then L 27 q ||| lsh 1 (nI r) else L 27 q) ∧
      (∀ q, L' 28 q = if 8 ≤ w ∧ q = 6 * min t (w - 8) + max t (w - 8) then L 28 q ||| lsh 1 (nI r) else L 28 q) := by
  have e : nI r * 2 + nI n = nI (2 * r + n) := by show nI r * nI 2 + nI n = _; rw [pk_mul, nI_add]; congr 1; omega
  obtain ⟨L1, l1, l2, l3⟩ := x_testloop (w := nI w) hr ht 5 0 (by omega) FU (by unfold FU; omega) (qu2 (qu2 S 24 (2 * r + n) (nI t)) 25 (2 * r + n) (nI w)) L
  have l1' : lX6_addTest_31 (nI r) (nI t) (nI w) FU (-1) (qu2 (qu2 S 24 (2 * r + n) (nI t)) 25 (2 * r + n) (nI w)) L = some (qu2 (qu2 S 24 (2 * r + n) (nI t)) 25 (2 * r + n) (nI w), L1) := l1
  have h23' : qu2 (qu2 S 24 (2 * r + n) (nI t)) 25 (2 * r + n) (nI w) 23 r = nI n := by rw [qu2_ne (by decide), qu2_ne (by decide)]; exact h23
  have h17 : qu2 (qu2 S 24 (2 * r + n) (nI t)) 25 (2 * r + n) (nI w) 17 = S 17 := by rw [qu2_ne (by decide), qu2_ne (by decide)]
  rw [h17] at l3
  by_cases h8 : w < 8
  · refine ⟨L1, ?_, fun k h1 h2 => l2 k h1, fun q => by rw [l3, Nat.add_zero], fun q => by rw [if_neg (by omega), l2 28 (by decide)]⟩
    unfold sX6_addTest
    rw [ck_n hr (by decide), nI_clamp (by omega), h23, e, bnd_e, ck_n (by omega) (by decide), nI_clamp (by omega), bnd_e, ck_n (by omega) (by decide), bnd_e, l1', ob2_some, if_pos (show nI w < 8 from nI_lt (b := 8) h8 (by decide)), ck_n hr (by decide), ck_n hr (by decide), h23', bnd_e, ck_n hr (by decide), qu2_same, pk_us, nI_1]
  · have ew : nI w - 8 = nI (w - 8) := by show nI w - nI 8 = _; rw [pk_sub (by omega)]
    refine ⟨qu2L L1 28 (6 * min t (w - 8) + max t (w - 8)) (L1 28 (6 * min t (w - 8) + max t (w - 8)) ||| lsh 1 (nI r)), ?_, fun k h1 h2 => by rw [qu2L_ne h2, l2 k h1], fun q => by rw [qu2L_ne (by decide), l3, Nat.add_zero], fun q => ?_⟩
    · unfold sX6_addTest
      rw [ck_n hr (by decide), nI_clamp (by omega), h23, e, bnd_e, ck_n (by omega) (by decide), nI_clamp (by omega), bnd_e, ck_n (by omega) (by decide), bnd_e, l1', ob2_some, if_neg (show ¬ nI w < 8 from nI_nlt (b := 8) (by omega) (by omega)), ew, x_pair ht (by omega), ob2_some, ck_n hr (by decide), ck_n hr (by decide), h23', bnd_e, ck_n hr (by decide), qu2_same, pk_us, nI_1]
    · rw [qu2L_same, l2 28 (by decide)]
      by_cases eq : q = 6 * min t (w - 8) + max t (w - 8)
      · rw [eq, pk_uLs, if_pos ⟨by omega, rfl⟩]
      · rw [pk_uLn eq, if_neg (fun z => eq z.2)]
theorem op_test {S : Nat → Nat → Int32} {L : Nat → Nat → Int64} {M : Nat → Nat → Int32} (R : Rel S L M) (a b c : Int32) : ∃ r S' L' M', sX10_test a b c S L = some (r, S', L') ∧ sX11_test a b c M = some (r, M') ∧ Rel S' L' M' := by
  obtain ⟨nc, nt, nr, ny, nq, hC, hRC, hRR, hRB, hRW, hRY, hRT, hO⟩ := id R
  have b1 := hC.1.2
  have b2 := hC.2.1.2
  have b3 := hC.2.2.1.2
  have b4 := hC.2.2.2.1.2
  have b5 := hC.2.2.2.2.2
  rcases rg a (n := nr) (by omega) with ha | ⟨r0, hr0, rfl⟩
  · refine ⟨-2, S, L, M, ?_, ?_, R⟩
    · unfold sX10_test; rw [xRule_bad hRR.1 ha, g0]
    · unfold sX11_test; rw [show sX11_is 2 a M = some 0 from mIs_bad (c := 2) (by decide) hC.2.2.1.1 b3 ha, g0]
  have hXr : sX10_isRule (nI r0) S L = some 1 := xRule_ok hRR.1 b3 hr0
  have hMr : sX11_is 2 (nI r0) M = some 1 := mIs_ok (c := 2) (by decide) hC.2.2.1.1 b3 hr0
  rcases rg b (n := 6) (by decide) with hb | ⟨t, ht, rfl⟩
  · refine ⟨-2, S, L, M, ?_, ?_, R⟩
    · unfold sX10_test; rw [hXr, g1, xTie_bad hb, g0]
    · unfold sX11_test; rw [hMr, g1, mTie_bad hb, g0]
  rcases rg c (n := 14) (by decide) with hc | ⟨w, hw, rfl⟩
  · refine ⟨-2, S, L, M, ?_, ?_, R⟩
    · unfold sX10_test; rw [hXr, g1, xTie_ok ht, g1, show sX10_isBelow c 14 = some 0 from ib_bad (n := 14) hc, g0]
    · unfold sX11_test; rw [hMr, g1, mTie_ok ht, g1, show sX11_in c 0 13 = some 0 from in_bad (n := 14) (by decide) hc, g0]
  have q1 : sX10_isBelow (nI w) 14 = some 1 := ib_ok (n := 14) hw (by decide)
  have q2 : sX11_in (nI w) 0 13 = some 1 := in_ok (n := 14) hw (by decide)
  have hr := hRR.2.1 r0 hr0
  obtain ⟨n, hn3, en⟩ := hr.2.2.2.2.2.2.1.2
  have e23 : S 23 r0 = nI n := hr.2.2.2.2.2.2.1.1.trans en
  have e6 : 282 + 11 * nI r0 + 6 = nI (282 + 11 * r0 + 6) := by
    show nI 282 + nI 11 * nI r0 + nI 6 = _
    rw [pk_mul, nI_add, nI_add]
  have hro : sX11_ruleOf (nI r0) 6 M = some (nI n) := by
    unfold sX11_ruleOf
    rw [e6, ck_n (by omega) (by decide), nI_clamp (by omega)]
    exact congrArg some en
  by_cases hfull : n = 2
  · refine ⟨-4, S, L, M, ?_, ?_, R⟩
    · unfold sX10_test; rw [hXr, g1, xTie_ok ht, g1, q1, g1, ck_n (show r0 < 60 by omega) (by decide), nI_clamp (by omega), e23, if_neg (show ¬ nI n < 2 from nI_nlt (b := 2) (by omega) (by omega))]
    · unfold sX11_test; rw [hMr, g1, mTie_ok ht, g1, q2, g1, hro, ob_some, if_pos (show nI n = 2 by rw [hfull]; rfl)]
  have hn : n < 2 := by omega
  obtain ⟨L', x1, x2, x3, x4⟩ := x_addTest (S := S) (L := L) (r := r0) (by omega) ht hw hn e23
  have f0 : 282 + 11 * nI r0 = nI (282 + 11 * r0) := by show nI 282 + nI 11 * nI r0 = _; rw [pk_mul, nI_add]
  have f1 : nI (282 + 11 * r0) + 6 + 1 + 2 * nI n = nI (282 + 11 * r0 + (7 + 2 * n)) := by
    show nI (282 + 11 * r0) + nI 6 + nI 1 + nI 2 * nI n = _
    rw [pk_mul, nI_add, nI_add, nI_add]; congr 1; omega
  have f2 : nI (282 + 11 * r0) + 6 + 2 + 2 * nI n = nI (282 + 11 * r0 + (8 + 2 * n)) := by
    show nI (282 + 11 * r0) + nI 6 + nI 2 + nI 2 * nI n = _
    rw [pk_mul, nI_add, nI_add, nI_add]; congr 1; omega
  have f3 : nI (282 + 11 * r0) + 6 = nI (282 + 11 * r0 + 6) := nI_add _ 6
  refine ⟨nI (n + 1), qu2 (qu2 (qu2 S 24 (2 * r0 + n) (nI t)) 25 (2 * r0 + n) (nI w)) 23 r0 (nI (n + 1)), L', qu2 (qu2 (qu2 M 1 (282 + 11 * r0 + (7 + 2 * n)) (nI t)) 1 (282 + 11 * r0 + (8 + 2 * n)) (nI w)) 1 (282 + 11 * r0 + 6) (nI (n + 1)), ?_, ?_, nc, nt, nr, ny, nq, ?_⟩
  · unfold sX10_test
    rw [hXr, g1, xTie_ok ht, g1, q1, g1, ck_n (show r0 < 60 by omega) (by decide), nI_clamp (by omega), e23, if_pos (show nI n < 2 from nI_lt (b := 2) hn (by decide)), x1, ob3_some]
  · unfold sX11_test
    have hen : M 1 (282 + 11 * r0 + 6) = nI n := en
    rw [hMr, g1, mTie_ok ht, g1, q2, g1, hro, ob_some, if_neg (show ¬ nI n = 2 from fun e => hfull ((nI_eq (b := 2) (by omega) (by decide)).mp e)), f0, bnd_e, f1, ck_n (by omega) (by decide), nI_clamp (by omega), bnd_e, f2, ck_n (by omega) (by decide), nI_clamp (by omega), bnd_e, f3, bnd_e, ck_n (by omega) (by decide), ck_n (by omega) (by decide), nI_clamp (by omega), bnd_e, qu2_same, pk_un (show 282 + 11 * r0 + 6 ≠ 282 + 11 * r0 + (8 + 2 * n) by omega), qu2_same, pk_un (show 282 + 11 * r0 + 6 ≠ 282 + 11 * r0 + (7 + 2 * n) by omega), hen, nI_1]
  · simp only [RelN, qu2_same, qu2_ne, ne_eq, Nat.reduceEqDiff, not_false_eq_true, reduceCtorEq]
    rw [x2 26 (by decide) (by decide)]
    generalize hst : upd (upd (upd (M 1) (282 + 11 * r0 + (7 + 2 * n)) (nI t)) (282 + 11 * r0 + (8 + 2 * n)) (nI w)) (282 + 11 * r0 + 6) (nI (n + 1)) = st
    have hu : ∀ x, (x < 282 + 11 * r0 + 6 ∨ 282 + 11 * r0 + 11 ≤ x) → st x = M 1 x := fun x p => by rw [← hst, pk_un (by omega), pk_un (by omega), pk_un (by omega)]
    have hoth : ∀ r k, r < 60 → r ≠ r0 → k < 11 → rl st r k = rl (M 1) r k := fun r k p1 p2 p3 => hu _ (by omega)
    have hlo : ∀ k, k < 6 → rl st r0 k = rl (M 1) r0 k := fun k p => hu _ (by omega)
    have r6 : rl st r0 6 = nI (n + 1) := by show st (282 + 11 * r0 + 6) = _; rw [← hst, pk_us]
    have rt : rl st r0 (7 + 2 * n) = nI t := by show st (282 + 11 * r0 + (7 + 2 * n)) = _; rw [← hst, pk_un (by omega), pk_un (by omega), pk_us]
    have rw' : rl st r0 (8 + 2 * n) = nI w := by show st (282 + 11 * r0 + (8 + 2 * n)) = _; rw [← hst, pk_un (by omega), pk_us]
    have rp : ∀ m, m < n → rl st r0 (7 + 2 * m) = rl (M 1) r0 (7 + 2 * m) ∧ rl st r0 (8 + 2 * m) = rl (M 1) r0 (8 + 2 * m) := fun m hm => by
      constructor
      · show st (282 + 11 * r0 + (7 + 2 * m)) = M 1 (282 + 11 * r0 + (7 + 2 * m)); rw [← hst, pk_un (by omega), pk_un (by omega), pk_un (by omega)]
      · show st (282 + 11 * r0 + (8 + 2 * m)) = M 1 (282 + 11 * r0 + (8 + 2 * m)); rw [← hst, pk_un (by omega), pk_un (by omega), pk_un (by omega)]
    -- what the TESTS of the RULE are now
    have ex : ∀ P : Nat → Prop, (∃ m, m < 2 ∧ nI m < rl st r0 6 ∧ P m) ↔ ((∃ m, m < 2 ∧ nI m < rl (M 1) r0 6 ∧ P m) ∨ P n) := by
      intro P
      rw [r6, en]
      constructor
      · rintro ⟨m, m1, m2, m3⟩
        have m2 := (nI_ltI (by omega) (by omega)).mp m2
        by_cases e : m = n
        · subst e; exact Or.inr m3
        · exact Or.inl ⟨m, m1, nI_lt (by omega) (by omega), m3⟩
      · rintro (⟨m, m1, m2, m3⟩ | h)
        · have m2 := (nI_ltI (by omega) (by omega)).mp m2
          exact ⟨m, m1, nI_lt (by omega) (by omega), m3⟩
        · exact ⟨n, hn, nI_lt (by omega) (by omega), h⟩
    have hold : ∀ (P Q : Nat → Prop), (∀ m, m < n → (P m ↔ Q m)) → ((∃ m, m < 2 ∧ nI m < rl (M 1) r0 6 ∧ P m) ↔ (∃ m, m < 2 ∧ nI m < rl (M 1) r0 6 ∧ Q m)) := by
      intro P Q hPQ
      rw [en]
      constructor
      · rintro ⟨m, m1, m2, m3⟩; exact ⟨m, m1, m2, (hPQ m ((nI_ltI (by omega) (by omega)).mp m2)).mp m3⟩
      · rintro ⟨m, m1, m2, m3⟩; exact ⟨m, m1, m2, (hPQ m ((nI_ltI (by omega) (by omega)).mp m2)).mpr m3⟩
    have hbrk : ∀ t' x, brk st r0 t' x ↔ (brk (M 1) r0 t' x ∨ (t' = t ∧ t' < 6 ∧ fitB (nI w) x (rl (M 1) r0 0) = false) ∨ (nI t = nI t' ∧ fitB (nI w) x (rl (M 1) r0 0) = false)) := by
      intro t' x
      unfold brk
      rw [hlo 3 (by omega), hlo 0 (by omega), ex, hold (fun m => rl st r0 (7 + 2 * m) = nI t' ∧ fitB (rl st r0 (8 + 2 * m)) x (rl (M 1) r0 0) = false) (fun m => rl (M 1) r0 (7 + 2 * m) = nI t' ∧ fitB (rl (M 1) r0 (8 + 2 * m)) x (rl (M 1) r0 0) = false) (fun m hm => by rw [(rp m hm).1, (rp m hm).2]), rt, rw']
      constructor
      · rintro (h | h | h)
        · exact Or.inl (Or.inl h)
        · exact Or.inl (Or.inr h)
        · exact Or.inr (Or.inr h)
      · rintro ((h | h) | h | h)
        · exact Or.inl h
        · exact Or.inr (Or.inl h)
        · exact Or.inr (Or.inr ⟨by rw [h.1], h.2.2⟩)
        · exact Or.inr (Or.inr h)
    have hprd : ∀ a b, prd st r0 a b ↔ (prd (M 1) r0 a b ∨ ((nI t = nI a ∧ nI w = nI (8 + b)) ∨ (nI t = nI b ∧ nI w = nI (8 + a)))) := by
      intro a b
      unfold prd
      rw [ex, hold (fun m => (rl st r0 (7 + 2 * m) = nI a ∧ rl st r0 (8 + 2 * m) = nI (8 + b)) ∨ (rl st r0 (7 + 2 * m) = nI b ∧ rl st r0 (8 + 2 * m) = nI (8 + a))) (fun m => (rl (M 1) r0 (7 + 2 * m) = nI a ∧ rl (M 1) r0 (8 + 2 * m) = nI (8 + b)) ∨ (rl (M 1) r0 (7 + 2 * m) = nI b ∧ rl (M 1) r0 (8 + 2 * m) = nI (8 + a))) (fun m hm => by rw [(rp m hm).1, (rp m hm).2]), rt, rw']
    refine ⟨⟨?_, ?_, ?_, ?_, ?_⟩, hRC.congr b1 b2 (fun x h1 h2 => hu x (by omega)), ⟨hRR.1, fun r hrr => ?_, fun r h1 h2 => ?_⟩, ⟨fun a k r p1 p2 p3 => ?_, fun t' x r p1 p2 p3 => ?_, fun a b r p1 p2 p3 => ?_⟩, hRW.congr (fun x h1 h2 => hu x (by omega)), hRY.congr b4 (fun x h1 h2 => hu x (by omega)), hRT.congr b5 (fun x h1 h2 => hu x (by omega)), hO⟩
    · rw [hu _ (by omega)]; exact hC.1
    · rw [hu _ (by omega)]; exact hC.2.1
    · rw [hu _ (by omega)]; exact hC.2.2.1
    · rw [hu _ (by omega)]; exact hC.2.2.2.1
    · rw [hu _ (by omega)]; exact hC.2.2.2.2
    · by_cases er : r = r0
      · subst er
        obtain ⟨z1, z2, z3, z4, z5, z6, z7, z8⟩ := hr
        refine ⟨?_, ?_, ?_, ?_, ?_, ?_, ?_, fun m h1 h2 => ?_⟩
        · rw [hlo 0 (by omega)]; exact z1
        · rw [hlo 1 (by omega)]; exact z2
        · rw [hlo 2 (by omega)]; exact z3
        · rw [hlo 3 (by omega)]; exact z4
        · rw [hlo 4 (by omega)]; exact z5
        · rw [hlo 5 (by omega)]; exact z6
        · rw [r6, pk_us]; exact ⟨rfl, n + 1, by omega, rfl⟩
        · rw [r6] at h2
          have h2 := (nI_ltI (by omega) (by omega)).mp h2
          by_cases em : m = n
          · subst em
            rw [pk_us, pk_us, rt, rw']
            exact ⟨⟨rfl, t, ht, rfl⟩, ⟨rfl, w, hw, rfl⟩⟩
          · rw [pk_un (by omega), pk_un (by omega), (rp m (by omega)).1, (rp m (by omega)).2]
            exact z8 m h1 (by rw [en]; exact nI_lt (by omega) (by omega))
      · have hq := (hRR.2.1 r hrr).congr (st' := st) (fun k hk => hoth r k (by omega) er hk)
        obtain ⟨z1, z2, z3, z4, z5, z6, z7, z8⟩ := hq
        refine ⟨z1, z2, z3, z4, z5, z6, by rw [pk_un er]; exact z7, fun m h1 h2 => ?_⟩
        rw [pk_un (by omega), pk_un (by omega)]
        exact z8 m h1 h2
    · rw [pk_un (by omega)]; exact hRR.2.2 r h1 h2
    · rw [hRB.1 a k r p1 p2 p3]
      have key : r < nr → (rl st r 0 = rl (M 1) r 0 ∧ rl st r 1 = rl (M 1) r 1) := fun q => by
        by_cases er : r = r0
        · subst er; exact ⟨hlo 0 (by omega), hlo 1 (by omega)⟩
        · exact ⟨hoth r 0 (by omega) er (by omega), hoth r 1 (by omega) er (by omega)⟩
      constructor
      · rintro ⟨h1, h2, h3⟩; rw [(key h1).1, (key h1).2]; exact ⟨h1, h2, h3⟩
      · rintro ⟨h1, h2, h3⟩; rw [(key h1).1] at h2; rw [(key h1).2] at h3; exact ⟨h1, h2, h3⟩
    · have hold' := hRB.2.1 t' x r p1 p2 p3
      have hbit : lb (L' 27 (5 * t' + x)) r = (lb (L 27 (5 * t' + x)) r || (decide (t' = t ∧ fitB (nI w) (nI x - 1) (S 17 r0) = false) && decide (r0 = r))) := by
        rw [x3]
        by_cases et : t' = t
        · subst et
          have ex' : 5 * t' + x - 5 * t' = x := by omega
          rw [ex']
          by_cases ez : fitB (nI w) (nI x - 1) (S 17 r0) = false
          · rw [if_pos ⟨by omega, by omega, ez⟩, lb_or1 _ (by omega) p3]; simp [ez]
          · rw [if_neg (fun z => ez z.2.2)]; simp [ez]
        · rw [if_neg (fun z => by omega)]; simp [et]
      rw [hbit]
      have e17 : S 17 r0 = rl (M 1) r0 0 := hr.1.1
      by_cases er : r = r0
      · subst er
        rw [hbrk, e17]
        simp only [decide_true, Bool.and_true, Bool.or_eq_true, decide_eq_true_eq, hold']
        constructor
        · rintro (h | h)
          · exact ⟨hr0, Or.inl h.2⟩
          · exact ⟨hr0, Or.inr (Or.inl ⟨h.1, p1, h.2⟩)⟩
        · rintro ⟨h1, (h | h | h)⟩
          · exact Or.inl ⟨h1, h⟩
          · exact Or.inr ⟨h.1, h.2.2⟩
          · exact Or.inr ⟨((nI_eq (by omega) (by omega)).mp h.1).symm, h.2⟩
      · rw [show decide (r0 = r) = false from decide_eq_false (fun q => er q.symm), Bool.and_false, Bool.or_false, hold']
        constructor
        · rintro ⟨h1, h2⟩; exact ⟨h1, (brk_congr (fun k hk => hoth r k (by omega) er hk)).mpr h2⟩
        · rintro ⟨h1, h2⟩; exact ⟨h1, (brk_congr (fun k hk => hoth r k (by omega) er hk)).mp h2⟩
    · have hold' := hRB.2.2 a b r p1 p2 p3
      have hbit : lb (L' 28 (6 * a + b)) r = (lb (L 28 (6 * a + b)) r || (decide (8 ≤ w ∧ 6 * a + b = 6 * min t (w - 8) + max t (w - 8)) && decide (r0 = r))) := by
        rw [x4]
        by_cases ez : 8 ≤ w ∧ 6 * a + b = 6 * min t (w - 8) + max t (w - 8)
        · rw [if_pos ez, lb_or1 _ (by omega) p3]; simp [ez]
        · rw [if_neg ez]; simp [ez]
      rw [hbit]
      by_cases er : r = r0
      · subst er
        rw [hprd]
        simp only [decide_true, Bool.and_true, Bool.or_eq_true, decide_eq_true_eq, hold']
        constructor
        · rintro (h | h)
          · exact ⟨hr0, Or.inl h.2⟩
          · refine ⟨hr0, Or.inr ?_⟩
            by_cases hlt : t ≤ w - 8
            · exact Or.inl ⟨by congr 1; omega, by congr 1; omega⟩
            · exact Or.inr ⟨by congr 1; omega, by congr 1; omega⟩
        · rintro ⟨h1, (h | h | h)⟩
          · exact Or.inl ⟨h1, h⟩
          · have t1 := (nI_eq (by omega) (by omega)).mp h.1
            have t2 := (nI_eq (by omega) (by omega)).mp h.2
            exact Or.inr (by omega)
          · have t1 := (nI_eq (by omega) (by omega)).mp h.1
            have t2 := (nI_eq (by omega) (by omega)).mp h.2
            exact Or.inr (by omega)
      · rw [show decide (r0 = r) = false from decide_eq_false (fun q => er q.symm), Bool.and_false, Bool.or_false, hold']
        constructor
        · rintro ⟨h1, h2⟩; exact ⟨h1, (prd_congr (fun k hk => hoth r k (by omega) er hk)).mpr h2⟩
        · rintro ⟨h1, h2⟩; exact ⟨h1, (prd_congr (fun k hk => hoth r k (by omega) er hk)).mp h2⟩
