-- ===== rule =====
theorem rule_zero {p1 p2 p3 p4 p5 : Int32} {b : Nat} (hb : b + 11 ≤ 994) : ∀ d v, v + d = 11 → ∀ f, d < f → ∀ M0 : Nat → Nat → Int32, ∃ M', lX11_rule_77 p1 p2 p3 p4 p5 (nI b) f (nI v) M0 = some M' ∧ (∀ k, k ≠ 1 → M' k = M0 k) ∧ ∀ x, M' 1 x = if b + v ≤ x ∧ x < b + 11 then 0 else M0 1 x := by
  intro d
  induction d with
  | zero =>
    intro v hv f hf M0
    obtain ⟨f, rfl⟩ : ∃ g, f = g + 1 := ⟨f - 1, by omega⟩
    refine ⟨M0, ?_, fun _ _ => rfl, fun x => by rw [if_neg (by omega)]⟩
    rw [lX11_rule_77, if_pos (show (11 : Int32) ≤ nI v from nI_le (a := 11) (by omega) (by omega))]
  | succ d ih =>
    intro v hv f hf M0
    obtain ⟨f, rfl⟩ : ∃ g, f = g + 1 := ⟨f - 1, by omega⟩
    obtain ⟨M', m1, m2, m3⟩ := ih (v + 1) (by omega) f (by omega) (qu2 M0 1 (b + v) 0)
    refine ⟨M', ?_, fun k hk => by rw [m2 k hk, qu2_ne hk], fun x => ?_⟩
    · rw [lX11_rule_77, if_neg (show ¬ (11 : Int32) ≤ nI v from nI_ge (b := 11) (by omega) (by omega)), nI_add, ck_n (by omega) (by decide), nI_clamp (by omega), bnd_e, bnd_e, nI_1]
      exact m1
    · rw [m3, qu2_same]
      by_cases e : x = b + v
      · subst e; rw [pk_us, if_neg (by omega), if_pos (by omega)]
      · rw [pk_un e]
        by_cases e2 : b + v ≤ x ∧ x < b + 11
        · rw [if_pos (by omega), if_pos e2]
        · rw [if_neg (by omega), if_neg e2]
theorem op_rule {S : Nat → Nat → Int32} {L : Nat → Nat → Int64} {M : Nat → Nat → Int32} (R : Rel S L M) (a b c d e : Int32) : ∃ r S' L' M', sX10_rule a b c d e S L = some (r, S', L') ∧ sX11_rule a b c d e M = some (r, M') ∧ Rel S' L' M' := by
  obtain ⟨nc, nt, nr, ny, nq, hC, hRC, hRR, hRB, hRW, hRY, hRT, hO⟩ := id R
  have b1 := hC.1.2
  have b2 := hC.2.1.2
  have b3 := hC.2.2.1.2
  have b4 := hC.2.2.2.1.2
  have b5 := hC.2.2.2.2.2
  have h2 : M 1 2 = nI nr := hC.2.2.1.1
  rcases rg a (n := 4) (by decide) with ha | ⟨la, hla, rfl⟩
  · refine ⟨-2, S, L, M, ?_, ?_, R⟩
    · unfold sX10_rule; rw [xLand_bad ha, g0]
    · unfold sX11_rule; rw [mLand_bad ha, g0]
  rcases rg b (n := 3) (by decide) with hb | ⟨ki, hki, rfl⟩
  · refine ⟨-2, S, L, M, ?_, ?_, R⟩
    · unfold sX10_rule; rw [xLand_ok hla, g1, xKind_bad hb, g0]
    · unfold sX11_rule; rw [mLand_ok hla, g1, mKind_bad hb, g0]
  have x2 : (2 : Int32) = nI 2 := rfl
  have x11 : (11 : Int32) = nI 11 := rfl
  have y1 : (1 : Int32) = nI 2 - 1 := rfl
  have y10 : (10 : Int32) = nI 11 - 1 := rfl
  rcases rg c (n := 2) (by decide) with hc | ⟨en, hen, rfl⟩
  · have q1 : sX10_isBelow c 2 = some 0 := ib_bad (n := 2) hc
    have q2 : sX11_in c 0 1 = some 0 := in_bad (n := 2) (by decide) hc
    refine ⟨-2, S, L, M, ?_, ?_, R⟩
    · unfold sX10_rule; rw [xLand_ok hla, g1, xKind_ok hki, g1]
      rcases rg e (n := 1000) (by decide) with he | ⟨f, hf, rfl⟩
      · rw [xDay_bad he, g0]
      · rw [xDay_ok hf, g1, q1, g0]
    · unfold sX11_rule; rw [mLand_ok hla, g1, mKind_ok hki, g1, q2, g0]
  have q1 : sX10_isBelow (nI en) 2 = some 1 := ib_ok (n := 2) hen (by decide)
  have q2 : sX11_in (nI en) 0 1 = some 1 := in_ok (n := 2) hen (by decide)
  rcases rg d (n := 11) (by decide) with hd | ⟨w, hw, rfl⟩
  · have q3 : sX10_isBelow d 11 = some 0 := ib_bad (n := 11) hd
    have q4 : sX11_in d 0 10 = some 0 := in_bad (n := 11) (by decide) hd
    refine ⟨-2, S, L, M, ?_, ?_, R⟩
    · unfold sX10_rule; rw [xLand_ok hla, g1, xKind_ok hki, g1]
      rcases rg e (n := 1000) (by decide) with he | ⟨f, hf, rfl⟩
      · rw [xDay_bad he, g0]
      · rw [xDay_ok hf, g1, q1, g1, q3, g0]
    · unfold sX11_rule; rw [mLand_ok hla, g1, mKind_ok hki, g1, q2, g1, q4, g0]
  have q3 : sX10_isBelow (nI w) 11 = some 1 := ib_ok (n := 11) hw (by decide)
  have q4 : sX11_in (nI w) 0 10 = some 1 := in_ok (n := 11) hw (by decide)
  rcases rg e (n := 1000) (by decide) with he | ⟨f, hf, rfl⟩
  · refine ⟨-2, S, L, M, ?_, ?_, R⟩
    · unfold sX10_rule; rw [xLand_ok hla, g1, xKind_ok hki, g1, xDay_bad he, g0]
    · unfold sX11_rule; rw [mLand_ok hla, g1, mKind_ok hki, g1, q2, g1, q4, g1, mDay_bad he, g0]
  by_cases hfull : nr = 60
  · refine ⟨-4, S, L, M, ?_, ?_, R⟩
    · unfold sX10_rule; rw [xLand_ok hla, g1, xKind_ok hki, g1, xDay_ok hf, g1, q1, g1, q3, g1, hRR.1, if_neg (show ¬ nI nr < 60 from nI_nlt (b := 60) (by omega) (by omega))]
    · unfold sX11_rule; rw [mLand_ok hla, g1, mKind_ok hki, g1, q2, g1, q4, g1, mDay_ok hf, g1, k2, cl2, h2, if_pos (show nI nr = 60 by rw [hfull]; rfl)]
  have hlt : nr < 60 := by omega
  -- the reference
  have e0 : 282 + 11 * nI nr = nI (282 + 11 * nr) := by show nI 282 + nI 11 * nI nr = _; rw [pk_mul, nI_add]
  obtain ⟨M1, z1, z2, z3⟩ := rule_zero (p1 := nI la) (p2 := nI ki) (p3 := nI en) (p4 := nI w) (p5 := nI f) (b := 282 + 11 * nr) (by omega) 11 0 (by omega) FU (by unfold FU; omega) M
  generalize hb0 : 282 + 11 * nr = bb at e0 z1 z3
  have i0 : nI bb + 0 = nI bb := by show nI bb + nI 0 = _; rw [nI_add, Nat.add_zero]
  have i1 : nI bb + 1 = nI (bb + 1) := nI_1 bb
  have i2 : nI bb + 2 = nI (bb + 2) := nI_add bb 2
  have i3 : nI bb + 3 = nI (bb + 3) := nI_add bb 3
  have i4 : nI bb + 4 = nI (bb + 4) := nI_add bb 4
  have i5 : nI bb + 5 = nI (bb + 5) := nI_add bb 5
  generalize hM2 : qu2 (qu2 (qu2 (qu2 (qu2 (qu2 M1 1 bb (nI la)) 1 (bb + 1) (nI ki)) 1 (bb + 2) (nI en)) 1 (bb + 3) (nI w)) 1 (bb + 4) (nI f)) 1 (bb + 5) (-1) = M2
  have hMk : ∀ k, k ≠ 1 → M2 k = M k := fun k hk => by rw [← hM2, qu2_ne hk, qu2_ne hk, qu2_ne hk, qu2_ne hk, qu2_ne hk, qu2_ne hk, z2 k hk]
  have hMo : ∀ x, (x < bb ∨ bb + 11 ≤ x) → M2 1 x = M 1 x := fun x hx => by
    rw [← hM2, qu2_same, pk_un (by omega), qu2_same, pk_un (by omega), qu2_same, pk_un (by omega), qu2_same, pk_un (by omega), qu2_same, pk_un (by omega), qu2_same, pk_un (by omega), z3, if_neg (by omega)]
  have hM0 : M2 1 bb = nI la := by rw [← hM2, qu2_same, pk_un (by omega), qu2_same, pk_un (by omega), qu2_same, pk_un (by omega), qu2_same, pk_un (by omega), qu2_same, pk_un (by omega), qu2_same, pk_us]
  have hM1 : M2 1 (bb + 1) = nI ki := by rw [← hM2, qu2_same, pk_un (by omega), qu2_same, pk_un (by omega), qu2_same, pk_un (by omega), qu2_same, pk_un (by omega), qu2_same, pk_us]
  have hM2' : M2 1 (bb + 2) = nI en := by rw [← hM2, qu2_same, pk_un (by omega), qu2_same, pk_un (by omega), qu2_same, pk_un (by omega), qu2_same, pk_us]
  have hM3 : M2 1 (bb + 3) = nI w := by rw [← hM2, qu2_same, pk_un (by omega), qu2_same, pk_un (by omega), qu2_same, pk_us]
  have hM4 : M2 1 (bb + 4) = nI f := by rw [← hM2, qu2_same, pk_un (by omega), qu2_same, pk_us]
  have hM5 : M2 1 (bb + 5) = -1 := by rw [← hM2, qu2_same, pk_us]
  have hM6 : M2 1 (bb + 6) = 0 := by rw [← hM2, qu2_same, pk_un (by omega), qu2_same, pk_un (by omega), qu2_same, pk_un (by omega), qu2_same, pk_un (by omega), qu2_same, pk_un (by omega), qu2_same, pk_un (by omega), z3, if_pos (by omega)]
  have hM : sX11_rule (nI la) (nI ki) (nI en) (nI w) (nI f) M = some (nI nr, qu2 M2 1 2 (nI (nr + 1))) := by
    unfold sX11_rule
    rw [mLand_ok hla, g1, mKind_ok hki, g1, q2, g1, q4, g1, mDay_ok hf, g1, k2, cl2, h2, if_neg (show ¬ nI nr = 60 from fun q => hfull ((nI_eq (b := 60) (by omega) (by decide)).mp q)), k2, e0, bnd_e, show lX11_rule_77 (nI la) (nI ki) (nI en) (nI w) (nI f) (nI bb) FU 0 M = some M1 from z1, ob_some,
      i0, ck_n (by omega) (by decide), nI_clamp (by omega), bnd_e, i1, ck_n (by omega) (by decide), nI_clamp (by omega), bnd_e, i2, ck_n (by omega) (by decide), nI_clamp (by omega), bnd_e, i3, ck_n (by omega) (by decide), nI_clamp (by omega), bnd_e, i4, ck_n (by omega) (by decide), nI_clamp (by omega), bnd_e, i5, ck_n (by omega) (by decide), nI_clamp (by omega), bnd_e, hM2, one2, ob2_some, hMo 2 (by omega), h2, nI_1]
  -- the class
  have eb : nI la * 3 + nI ki = nI (3 * la + ki) := by show nI la * nI 3 + nI ki = _; rw [pk_mul, nI_add]; congr 1; omega
  generalize hS1 : qu2 (qu2 (qu2 (qu2 (qu2 (qu2 S 17 nr (nI la)) 18 nr (nI ki)) 19 nr (nI en)) 20 nr (nI w)) 21 nr (nI f)) 22 nr (-1) = S1
  have s20 : S1 2 0 = nI nr := by rw [← hS1]; simp only [qu2_ne, ne_eq, Nat.reduceEqDiff, not_false_eq_true, reduceCtorEq]; exact hRR.1
  generalize hL1 : qu2L L 26 (3 * la + ki) (L 26 (3 * la + ki) ||| lsh 1 (nI nr)) = L1
  have hX : ∃ L2, sX10_rule (nI la) (nI ki) (nI en) (nI w) (nI f) S L = some (nI nr, qu2 S1 2 0 (nI (nr + 1)), L2) ∧ L2 26 = L1 26 ∧ L2 28 = L 28 ∧ ∀ x, L2 27 x = if 5 ≤ w ∧ x = (w - 5) * 5 then L 27 x ||| lsh 1 (nI nr) else L 27 x := by
    by_cases hw5 : w < 5
    · refine ⟨L1, ?_, rfl, ?_, fun x => ?_⟩
      · unfold sX10_rule sX6_add
        rw [xLand_ok hla, g1, xKind_ok hki, g1, xDay_ok hf, g1, q1, g1, q3, g1, hRR.1, if_pos (show nI nr < 60 from nI_lt (b := 60) hlt (by decide)), bnd_e, ck_n hlt (by decide), nI_clamp (by omega), bnd_e, ck_n hlt (by decide), bnd_e, ck_n hlt (by decide), bnd_e, ck_n hlt (by decide), bnd_e, ck_n hlt (by decide), bnd_e, ck_n hlt (by decide), bnd_e, eb, bnd_e, ck_n (by omega) (by decide), ck_n (by omega) (by decide), nI_clamp (by omega), bnd_e, if_pos (show nI w < 5 from nI_lt (b := 5) hw5 (by decide)), hS1, bnd_e, s20, ob3_some, nI_1, hL1]
      · rw [← hL1, qu2L_ne (by decide)]
      · rw [if_neg (by omega), ← hL1, qu2L_ne (by decide)]
    · have ew : (nI w - 5) * 5 = nI ((w - 5) * 5) := by
        show (nI w - nI 5) * nI 5 = _
        rw [pk_sub (by omega), pk_mul]
      refine ⟨qu2L L1 27 ((w - 5) * 5) (L1 27 ((w - 5) * 5) ||| lsh 1 (nI nr)), ?_, ?_, ?_, fun x => ?_⟩
      · unfold sX10_rule sX6_add
        rw [xLand_ok hla, g1, xKind_ok hki, g1, xDay_ok hf, g1, q1, g1, q3, g1, hRR.1, if_pos (show nI nr < 60 from nI_lt (b := 60) hlt (by decide)), bnd_e, ck_n hlt (by decide), nI_clamp (by omega), bnd_e, ck_n hlt (by decide), bnd_e, ck_n hlt (by decide), bnd_e, ck_n hlt (by decide), bnd_e, ck_n hlt (by decide), bnd_e, ck_n hlt (by decide), bnd_e, eb, bnd_e, ck_n (by omega) (by decide), ck_n (by omega) (by decide), nI_clamp (by omega), bnd_e, if_neg (show ¬ nI w < 5 from nI_nlt (b := 5) (by omega) (by omega)), ew, bnd_e, ck_n (by omega) (by decide), ck_n (by omega) (by decide), nI_clamp (by omega), hS1, hL1, bnd_e, bnd_e, s20, ob3_some, nI_1]
      · rw [qu2L_ne (by decide)]
      · rw [qu2L_ne (by decide), ← hL1, qu2L_ne (by decide)]
      · have e27 : L1 27 = L 27 := by rw [← hL1, qu2L_ne (by decide)]
        rw [qu2L_same, e27]
        by_cases ex : x = (w - 5) * 5
        · rw [ex, pk_uLs, if_pos ⟨by omega, rfl⟩]
        · rw [pk_uLn ex, if_neg (fun q => ex q.2)]
  obtain ⟨L2, hX, l26, l28, l27⟩ := hX
  refine ⟨nI nr, _, L2, _, hX, hM, nc, nt, nr + 1, ny, nq, ?_⟩
  have hSk : ∀ k, k ≠ 17 → k ≠ 18 → k ≠ 19 → k ≠ 20 → k ≠ 21 → k ≠ 22 → S1 k = S k := fun k p1 p2 p3 p4 p5 p6 => by
    rw [← hS1, qu2_ne p6, qu2_ne p5, qu2_ne p4, qu2_ne p3, qu2_ne p2, qu2_ne p1]
  have s17 : S1 17 = upd (S 17) nr (nI la) := by rw [← hS1]; simp only [qu2_same, qu2_ne, ne_eq, Nat.reduceEqDiff, not_false_eq_true, reduceCtorEq]
  have s18 : S1 18 = upd (S 18) nr (nI ki) := by rw [← hS1]; simp only [qu2_same, qu2_ne, ne_eq, Nat.reduceEqDiff, not_false_eq_true, reduceCtorEq]
  have s19 : S1 19 = upd (S 19) nr (nI en) := by rw [← hS1]; simp only [qu2_same, qu2_ne, ne_eq, Nat.reduceEqDiff, not_false_eq_true, reduceCtorEq]
  have s20' : S1 20 = upd (S 20) nr (nI w) := by rw [← hS1]; simp only [qu2_same, qu2_ne, ne_eq, Nat.reduceEqDiff, not_false_eq_true, reduceCtorEq]
  have s21 : S1 21 = upd (S 21) nr (nI f) := by rw [← hS1]; simp only [qu2_same, qu2_ne, ne_eq, Nat.reduceEqDiff, not_false_eq_true, reduceCtorEq]
  have s22 : S1 22 = upd (S 22) nr (-1) := by rw [← hS1]; simp only [qu2_same, qu2_ne, ne_eq, Nat.reduceEqDiff, not_false_eq_true, reduceCtorEq]
  simp only [RelN, qu2_same, qu2_ne, ne_eq, Nat.reduceEqDiff, not_false_eq_true, reduceCtorEq]
  rw [l26, l28, s17, s18, s19, s20', s21, s22, hMk 3 (by decide),
    hSk 1 (by decide) (by decide) (by decide) (by decide) (by decide) (by decide), hSk 13 (by decide) (by decide) (by decide) (by decide) (by decide) (by decide), hSk 14 (by decide) (by decide) (by decide) (by decide) (by decide) (by decide), hSk 15 (by decide) (by decide) (by decide) (by decide) (by decide) (by decide), hSk 16 (by decide) (by decide) (by decide) (by decide) (by decide) (by decide), hSk 23 (by decide) (by decide) (by decide) (by decide) (by decide) (by decide), hSk 24 (by decide) (by decide) (by decide) (by decide) (by decide) (by decide), hSk 25 (by decide) (by decide) (by decide) (by decide) (by decide) (by decide), hSk 29 (by decide) (by decide) (by decide) (by decide) (by decide) (by decide), hSk 30 (by decide) (by decide) (by decide) (by decide) (by decide) (by decide), hSk 4 (by decide) (by decide) (by decide) (by decide) (by decide) (by decide), hSk 31 (by decide) (by decide) (by decide) (by decide) (by decide) (by decide), hSk 32 (by decide) (by decide) (by decide) (by decide) (by decide) (by decide), hSk 33 (by decide) (by decide) (by decide) (by decide) (by decide) (by decide), hSk 5 (by decide) (by decide) (by decide) (by decide) (by decide) (by decide), hSk 34 (by decide) (by decide) (by decide) (by decide) (by decide) (by decide)]
  generalize hst : upd (M2 1) 2 (nI (nr + 1)) = st
  have hu : ∀ x, x ≠ 2 → (x < bb ∨ bb + 11 ≤ x) → st x = M 1 x := fun x p1 p2 => by rw [← hst, pk_un p1, hMo x p2]
  have hlo : ∀ r k, r < nr → k < 11 → rl st r k = rl (M 1) r k := fun r k p1 p2 => hu _ (by omega) (by omega)
  have r0 : rl st nr 0 = nI la := by show st (282 + 11 * nr + 0) = _; rw [← hst, pk_un (by omega), hb0]; exact hM0
  have r1 : rl st nr 1 = nI ki := by show st (282 + 11 * nr + 1) = _; rw [← hst, pk_un (by omega), hb0]; exact hM1
  have r2 : rl st nr 2 = nI en := by show st (282 + 11 * nr + 2) = _; rw [← hst, pk_un (by omega), hb0]; exact hM2'
  have r3 : rl st nr 3 = nI w := by show st (282 + 11 * nr + 3) = _; rw [← hst, pk_un (by omega), hb0]; exact hM3
  have r4 : rl st nr 4 = nI f := by show st (282 + 11 * nr + 4) = _; rw [← hst, pk_un (by omega), hb0]; exact hM4
  have r5 : rl st nr 5 = -1 := by show st (282 + 11 * nr + 5) = _; rw [← hst, pk_un (by omega), hb0]; exact hM5
  have r6 : rl st nr 6 = 0 := by show st (282 + 11 * nr + 6) = _; rw [← hst, pk_un (by omega), hb0]; exact hM6
  have no : ∀ n : Nat, n < 2 → ¬ nI n < (0 : Int32) := fun n hn => nI_pos (by omega)
  refine ⟨⟨?_, ?_, ⟨by rw [← hst, pk_us], by omega⟩, ?_, ?_⟩, hRC.congr b1 b2 (fun x h1 h2 => hu x (by omega) (by omega)), ⟨pk_us, fun r hr => ?_, fun r h1 h2 => hRR.2.2 r (by omega) h2⟩, ⟨fun a k r p1 p2 p3 => ?_, fun t x r p1 p2 p3 => ?_, fun a c r p1 p2 p3 => ?_⟩, hRW.congr (fun x h1 h2 => hu x (by omega) (by omega)), hRY.congr b4 (fun x h1 h2 => hu x (by omega) (by omega)), ⟨hRT.1, fun j hj => ?_, fun i j p1 p2 => ?_⟩, hO⟩
  · rw [hu _ (by omega) (by omega)]; exact hC.1
  · rw [hu _ (by omega) (by omega)]; exact hC.2.1
  · rw [hu _ (by omega) (by omega)]; exact hC.2.2.2.1
  · rw [hu _ (by omega) (by omega)]; exact hC.2.2.2.2
  · by_cases er : r = nr
    · subst er
      unfold RRr
      rw [r0, r1, r2, r3, r4, r5, r6, pk_us, pk_us, pk_us, pk_us, pk_us, pk_us]
      exact ⟨⟨rfl, la, hla, rfl⟩, ⟨rfl, ki, hki, rfl⟩, ⟨rfl, en, hen, rfl⟩, ⟨rfl, w, hw, rfl⟩, ⟨rfl, f, hf, rfl⟩, ⟨rfl, Or.inl rfl⟩, ⟨hRR.2.2 r (by omega) hlt, 0, by omega, rfl⟩, fun n q1 q2 => absurd q2 (no n q1)⟩
    · have hq := (hRR.2.1 r (by omega)).congr (st' := st) (fun k hk => hlo r k (by omega) hk)
      unfold RRr at hq ⊢
      rw [pk_un er, pk_un er, pk_un er, pk_un er, pk_un er, pk_un er]
      exact hq
  · have hold := hRB.1 a k r p1 p2 p3
    have hbit : lb (L1 26 (3 * a + k)) r = (lb (L 26 (3 * a + k)) r || (decide (3 * a + k = 3 * la + ki) && decide (nr = r))) := by
      rw [← hL1, qu2L_same]
      by_cases ex : 3 * a + k = 3 * la + ki
      · rw [ex, pk_uLs, lb_or1 _ (by omega) p3]; simp
      · rw [pk_uLn ex]; simp [ex]
    rw [hbit]
    by_cases er : r = nr
    · subst er
      have hf0 : lb (L 26 (3 * a + k)) r = false := by
        cases hh : lb (L 26 (3 * a + k)) r with
        | false => rfl
        | true => exact absurd (hold.mp hh).1 (by omega)
      rw [hf0, r0, r1]
      simp only [Bool.false_or, decide_true, Bool.and_true, decide_eq_true_eq]
      constructor
      · intro q; exact ⟨by omega, by congr 1; omega, by congr 1; omega⟩
      · rintro ⟨-, q1, q2⟩
        have t1 := (nI_eq (by omega) (by omega)).mp q1
        have t2 := (nI_eq (by omega) (by omega)).mp q2
        omega
    · rw [show decide (nr = r) = false from decide_eq_false (fun q => er q.symm), Bool.and_false, Bool.or_false, hold]
      constructor
      · rintro ⟨q1, q2, q3⟩; rw [hlo r 0 q1 (by omega), hlo r 1 q1 (by omega)]; exact ⟨by omega, q2, q3⟩
      · rintro ⟨q1, q2, q3⟩; rw [hlo r 0 (by omega) (by omega)] at q2; rw [hlo r 1 (by omega) (by omega)] at q3; exact ⟨by omega, q2, q3⟩
  · have hold := hRB.2.1 t x r p1 p2 p3
    have hbit : lb (L2 27 (5 * t + x)) r = (lb (L 27 (5 * t + x)) r || (decide (5 ≤ w ∧ 5 * t + x = (w - 5) * 5) && decide (nr = r))) := by
      rw [l27]
      by_cases ex : 5 ≤ w ∧ 5 * t + x = (w - 5) * 5
      · rw [if_pos ex, lb_or1 _ (by omega) p3]; simp [ex]
      · rw [if_neg ex]; simp [ex]
    rw [hbit]
    by_cases er : r = nr
    · subst er
      have hf0 : lb (L 27 (5 * t + x)) r = false := by
        cases hh : lb (L 27 (5 * t + x)) r with
        | false => rfl
        | true => exact absurd (hold.mp hh).1 (by omega)
      rw [hf0]
      unfold brk
      rw [r3, r6]
      simp only [Bool.false_or, decide_true, Bool.and_true, decide_eq_true_eq]
      constructor
      · intro q
        refine ⟨by omega, Or.inl ⟨(m1_eq (by omega)).mpr (by omega), by congr 1; omega⟩⟩
      · rintro ⟨-, (⟨q1, q2⟩ | ⟨n, q1, q2, -⟩)⟩
        · have t1 := (m1_eq (by omega)).mp q1
          have t2 := (nI_eq (by omega) (by omega)).mp q2
          omega
        · exact absurd q2 (no n q1)
    · rw [show decide (nr = r) = false from decide_eq_false (fun q => er q.symm), Bool.and_false, Bool.or_false, hold]
      constructor
      · rintro ⟨q1, q2⟩; exact ⟨by omega, (brk_congr (fun k hk => hlo r k q1 hk)).mpr q2⟩
      · rintro ⟨q1, q2⟩; exact ⟨by omega, (brk_congr (fun k hk => hlo r k (by omega) hk)).mp q2⟩
  · have hold := hRB.2.2 a c r p1 p2 p3
    rw [hold]
    by_cases er : r = nr
    · subst er
      constructor
      · rintro ⟨q1, -⟩; omega
      · rintro ⟨-, n, q1, q2, -⟩
        rw [r6] at q2
        exact absurd q2 (no n q1)
    · constructor
      · rintro ⟨q1, q2⟩; exact ⟨by omega, (prd_congr (fun k hk => hlo r k q1 hk)).mpr q2⟩
      · rintro ⟨q1, q2⟩; exact ⟨by omega, (prd_congr (fun k hk => hlo r k (by omega) hk)).mp q2⟩
  · rw [hu _ (by omega) (by omega)]
    have q := hRT.2.1 j hj
    exact ⟨q.1, q.2.mono (by omega)⟩
  · rw [hu _ (by omega) (by omega), hu _ (by omega) (by omega)]
    exact hRT.2.2 i j p1 p2
