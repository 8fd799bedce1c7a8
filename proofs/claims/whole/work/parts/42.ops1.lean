-- ===== the calls that tell: one number =====
theorem g1 {β : Type} {A B : Int32 → Option β} : ob (some (1 : Int32)) (fun r => if r = 0 then A r else B r) = B 1 := rfl
theorem g0 {β : Type} {A B : Int32 → Option β} : ob (some (0 : Int32)) (fun r => if r = 0 then A r else B r) = A 0 := rfl
theorem CN.upd {st : Nat → Int32} {nc nt nr ny nq x : Nat} {v : Int32} (hx : 5 ≤ x) (h : CN st nc nt nr ny nq) : CN (upd st x v) nc nt nr ny nq := by
  unfold CN
  rw [pk_un (show 0 ≠ x by omega), pk_un (show 1 ≠ x by omega), pk_un (show 2 ≠ x by omega), pk_un (show 3 ≠ x by omega), pk_un (show 4 ≠ x by omega)]
  exact h
theorem mPuts {k : Nat} {v : Int32} {S : Nat → Nat → Int32} (h : k < 994) : sX11_puts (nI k) v S = some (S 1 k, qu2 S 1 k v) := by
  unfold sX11_puts
  rw [ck_n h (by decide), nI_clamp (by omega)]
  rw [bnd_e, ck_n h (by decide), bnd_e]
theorem mOne {k : Nat} {S : Nat → Nat → Int32} (h : k < 994) : sX11_one (nI k) S = some (S 1 k, qu2 S 1 k (S 1 k + 1)) := by
  unfold sX11_one
  rw [ck_n h (by decide), ck_n h (by decide), nI_clamp (by omega)]
  rw [bnd_e, ck_n h (by decide), qu2_same, pk_us]
  have e : S 1 k + 1 - 1 = S 1 k := by
    rw [← Int32.toBitVec_inj]
    simp
  rw [e]
theorem op_sort {S : Nat → Nat → Int32} {L : Nat → Nat → Int64} {M : Nat → Nat → Int32} (R : Rel S L M) (a b c : Int32) : ∃ r S' L' M', sX10_sort a b c S L = some (r, S', L') ∧ sX11_sort a b c M = some (r, M') ∧ Rel S' L' M' := by
  rcases rg a (n := 4) (by decide) with ha | ⟨i, hi, rfl⟩
  · refine ⟨-2, S, L, M, ?_, ?_, R⟩
    · unfold sX10_sort; rw [xLand_bad ha, g0]
    · unfold sX11_sort; rw [mLand_bad ha, g0]
  rcases rg b (n := 3) (by decide) with hb | ⟨j, hj, rfl⟩
  · refine ⟨-2, S, L, M, ?_, ?_, R⟩
    · unfold sX10_sort; rw [xLand_ok hi, g1, xKind_bad hb, g0]
    · unfold sX11_sort; rw [mLand_ok hi, g1, mKind_bad hb, g0]
  rcases rg c (n := 3) (by decide) with hc | ⟨k, hk, rfl⟩
  · refine ⟨-2, S, L, M, ?_, ?_, R⟩
    · unfold sX10_sort; rw [xLand_ok hi, g1, xKind_ok hj, g1, xKind_bad hc, g0]
    · unfold sX11_sort; rw [mLand_ok hi, g1, mKind_ok hj, g1, mKind_bad hc, g0]
  obtain ⟨nc, nt, nr, ny, nq, hC, hRC, hRR, hRB, hRW, hRY, hRT, hO⟩ := R
  have hij : i * 3 + j < 12 := by omega
  have eX : nI i * 3 + nI j = nI (i * 3 + j) := by show nI i * nI 3 + nI j = _; rw [pk_mul, nI_add]
  have eM : 942 + 3 * nI i + nI j = nI (942 + (i * 3 + j)) := by
    show nI 942 + nI 3 * nI i + nI j = _
    rw [pk_mul, nI_add, nI_add]; congr 1; omega
  refine ⟨S 29 (i * 3 + j), qu2 S 29 (i * 3 + j) (nI k), L, qu2 M 1 (942 + (i * 3 + j)) (nI k), ?_, ?_, ?_⟩
  · unfold sX10_sort sX5_ownKind
    rw [xLand_ok hi, g1, xKind_ok hj, g1, xKind_ok hk, g1, eX, ck_n hij (by decide), nI_clamp (by omega), ob_some, ck_n hij (by decide)]
    rfl
  · unfold sX11_sort
    rw [mLand_ok hi, g1, mKind_ok hj, g1, mKind_ok hk, g1, eM, mPuts (by omega), (hRW.1 (i * 3 + j) hij).1]
    rfl
  · refine ⟨nc, nt, nr, ny, nq, ?_⟩
    simp only [RelN, qu2_same, qu2_ne, ne_eq, Nat.reduceEqDiff, not_false_eq_true, reduceCtorEq]
    have hu : ∀ x, x ≠ 942 + (i * 3 + j) → upd (M 1) (942 + (i * 3 + j)) (nI k) x = M 1 x := fun x h => pk_un h
    refine ⟨hC.upd (by omega), hRC.congr hC.1.2 hC.2.1.2 (fun x h1 h2 => hu x (by omega)), hRR.congr hC.2.2.1.2 (fun x h1 h2 => hu x (by omega)), hRB.congr hC.2.2.1.2 (fun x h1 h2 => hu x (by omega)), ⟨fun q hq => ?_, fun q hq => ?_⟩, hRY.congr hC.2.2.2.1.2 (fun x h1 h2 => hu x (by omega)), hRT.congr hC.2.2.2.2.2 (fun x h1 h2 => hu x (by omega)), hO⟩
    · by_cases e : q = i * 3 + j
      · subst e
        rw [pk_us, pk_us]
        exact ⟨rfl, k, hk, rfl⟩
      · rw [pk_un e, hu _ (by omega)]
        exact hRW.1 q hq
    · rw [hu _ (by omega)]
      exact hRW.2 q hq
theorem op_way {S : Nat → Nat → Int32} {L : Nat → Nat → Int64} {M : Nat → Nat → Int32} (R : Rel S L M) (a b : Int32) : ∃ r S' L' M', sX10_way a b S L = some (r, S', L') ∧ sX11_way a b M = some (r, M') ∧ Rel S' L' M' := by
  rcases rg a (n := 4) (by decide) with ha | ⟨i, hi, rfl⟩
  · refine ⟨-2, S, L, M, ?_, ?_, R⟩
    · unfold sX10_way; rw [xLand_bad ha, g0]
    · unfold sX11_way; rw [mLand_bad ha, g0]
  rcases rg b (n := 4) (by decide) with hb | ⟨j, hj, rfl⟩
  · refine ⟨-2, S, L, M, ?_, ?_, R⟩
    · unfold sX10_way; rw [xLand_ok hi, g1, show (4 : Int32) = nI 4 from rfl, ib_bad hb, g0]
    · unfold sX11_way; rw [mLand_ok hi, g1, show (3 : Int32) = nI 4 - 1 from rfl, in_bad (by decide) hb, g0]
  obtain ⟨nc, nt, nr, ny, nq, hC, hRC, hRR, hRB, hRW, hRY, hRT, hO⟩ := R
  have eM : 954 + nI i = nI (954 + i) := by show nI 954 + nI i = _; rw [nI_add]
  refine ⟨S 30 i, qu2 S 30 i (nI j), L, qu2 M 1 (954 + i) (nI j), ?_, ?_, ?_⟩
  · unfold sX10_way
    rw [xLand_ok hi, g1, show (4 : Int32) = nI 4 from rfl, ib_ok hj (by decide), g1, ck_n hi (by decide), nI_clamp (by omega)]
    rw [bnd_e, ck_n hi (by decide), bnd_e]
  · unfold sX11_way
    rw [mLand_ok hi, g1, show (3 : Int32) = nI 4 - 1 from rfl, in_ok hj (by decide), g1, eM, mPuts (by omega), (hRW.2 i hi).1]
    rfl
  · refine ⟨nc, nt, nr, ny, nq, ?_⟩
    simp only [RelN, qu2_same, qu2_ne, ne_eq, Nat.reduceEqDiff, not_false_eq_true, reduceCtorEq]
    have hu : ∀ x, x ≠ 954 + i → upd (M 1) (954 + i) (nI j) x = M 1 x := fun x h => pk_un h
    refine ⟨hC.upd (by omega), hRC.congr hC.1.2 hC.2.1.2 (fun x h1 h2 => hu x (by omega)), hRR.congr hC.2.2.1.2 (fun x h1 h2 => hu x (by omega)), hRB.congr hC.2.2.1.2 (fun x h1 h2 => hu x (by omega)), ⟨fun q hq => ?_, fun q hq => ?_⟩, hRY.congr hC.2.2.2.1.2 (fun x h1 h2 => hu x (by omega)), hRT.congr hC.2.2.2.2.2 (fun x h1 h2 => hu x (by omega)), hO⟩
    · rw [hu _ (by omega)]
      exact hRW.1 q hq
    · by_cases e : q = i
      · subst e
        rw [pk_us, pk_us]
        exact ⟨rfl, j, hj, rfl⟩
      · rw [pk_un e, hu _ (by omega)]
        exact hRW.2 q hq
theorem op_kindOf {S : Nat → Nat → Int32} {L : Nat → Nat → Int64} {M : Nat → Nat → Int32} (R : Rel S L M) (a b : Int32) : ∃ r S' L' M', sX10_kindOf a b S L = some (r, S', L') ∧ sX11_kindOf a b M = some (r, M') ∧ Rel S' L' M' := by
  obtain ⟨nc, nt, nr, ny, nq, hC, hRC, hRR, hRB, hRW, hRY, hRT, hO⟩ := id R
  have b1 := hC.1.2
  have b2 := hC.2.1.2
  have b3 := hC.2.2.1.2
  have b4 := hC.2.2.2.1.2
  have b5 := hC.2.2.2.2.2
  rcases rg a (n := nc) (by omega) with ha | ⟨i, hi, rfl⟩
  · refine ⟨-2, S, L, M, ?_, ?_, R⟩
    · unfold sX10_kindOf; rw [xCase_bad hRC.1 ha, g0]
    · unfold sX11_kindOf; rw [show (0 : Int32) = nI 0 from rfl, mIs_bad (by decide) hC.1.1 (by omega) ha]; rfl
  rcases rg b (n := 3) (by decide) with hb | ⟨j, hj, rfl⟩
  · refine ⟨-2, S, L, M, ?_, ?_, R⟩
    · unfold sX10_kindOf; rw [xCase_ok hRC.1 hC.1.2 hi, g1, xKind_bad hb, g0]
    · unfold sX11_kindOf; rw [show (0 : Int32) = nI 0 from rfl, mIs_ok (by decide) hC.1.1 (by omega) hi]
      show ob (sX11_isKind b) _ = _
      rw [mKind_bad hb]; rfl
  have hn := hC.1.2
  have eM : 10 + 2 * nI i + 1 = nI (11 + 2 * i) := by
    show nI 10 + nI 2 * nI i + nI 1 = _
    rw [pk_mul, nI_add, nI_add]; congr 1; omega
  refine ⟨S 14 i, qu2 S 14 i (nI j), L, qu2 M 1 (11 + 2 * i) (nI j), ?_, ?_, ?_⟩
  · unfold sX10_kindOf
    rw [xCase_ok hRC.1 hn hi, g1, xKind_ok hj, g1, ck_n (show i < 16 by omega) (by decide), nI_clamp (by omega)]
    rw [bnd_e, ck_n (show i < 16 by omega) (by decide), bnd_e]
  · unfold sX11_kindOf
    rw [show (0 : Int32) = nI 0 from rfl, mIs_ok (by decide) hC.1.1 (by omega) hi]
    show ob (sX11_isKind (nI j)) _ = _
    rw [mKind_ok hj]
    show ob2 (sX11_puts _ _ _) _ = _
    rw [eM, mPuts (by omega), (hRC.2.2.1 i hi).2.2.1]
    rfl
  · refine ⟨nc, nt, nr, ny, nq, ?_⟩
    simp only [RelN, qu2_same, qu2_ne, ne_eq, Nat.reduceEqDiff, not_false_eq_true, reduceCtorEq]
    have hu : ∀ x, x ≠ 11 + 2 * i → upd (M 1) (11 + 2 * i) (nI j) x = M 1 x := fun x h => pk_un h
    refine ⟨hC.upd (by omega), ⟨hRC.1, hRC.2.1, fun c hc => ?_, fun c h1 h2 => ?_, fun c t hc ht => ?_, hRC.2.2.2.2.2.1, fun j hj => ?_⟩, hRR.congr hC.2.2.1.2 (fun x h1 h2 => hu x (by omega)), hRB.congr hC.2.2.1.2 (fun x h1 h2 => hu x (by omega)), hRW.congr (fun x h1 h2 => hu x (by omega)), hRY.congr hC.2.2.2.1.2 (fun x h1 h2 => hu x (by omega)), hRT.congr hC.2.2.2.2.2 (fun x h1 h2 => hu x (by omega)), hO⟩
    · have h := hRC.2.2.1 c hc
      rw [hu (10 + 2 * c) (by omega)]
      by_cases e : c = i
      · subst e
        rw [pk_us, pk_us]
        exact ⟨h.1, h.2.1, rfl, j, hj, rfl⟩
      · rw [pk_un e, hu (11 + 2 * c) (by omega)]
        exact h
    · rw [pk_un (by omega)]
      exact hRC.2.2.2.1 c h1 h2
    · have hnt := hC.2.1.2
      rw [lk_congr (hu (10 + 2 * c) (by omega)) (fun x h1 h2 => hu x (by omega))]
      exact hRC.2.2.2.2.1 c t hc ht
    · rw [hu (42 + 4 * j) (by omega), hu (43 + 4 * j) (by omega), hu (44 + 4 * j) (by omega), hu (45 + 4 * j) (by omega)]
      exact hRC.2.2.2.2.2.2 j hj
theorem mAt {k : Nat} {S : Nat → Nat → Int32} {β : Type} {f : Option β} (h : k < 994) : ck (nI k) 994 f = f := ck_n h (by decide)
theorem op_untry {S : Nat → Nat → Int32} {L : Nat → Nat → Int64} {M : Nat → Nat → Int32} (R : Rel S L M) : ∃ r S' L' M', sX10_untry S L = some (r, S', L') ∧ sX11_untry M = some (r, M') ∧ Rel S' L' M' := by
  obtain ⟨nc, nt, nr, ny, nq, hC, hRC, hRR, hRB, hRW, hRY, hRT, hO⟩ := id R
  have b1 := hC.1.2
  have b2 := hC.2.1.2
  have b3 := hC.2.2.1.2
  have b4 := hC.2.2.2.1.2
  have b5 := hC.2.2.2.2.2
  refine ⟨S 5 0, qu2 S 5 0 0, L, qu2 M 1 4 0, rfl, ?_, ?_⟩
  · unfold sX11_untry
    rw [show (4 : Int32) = nI 4 from rfl, mPuts (by decide), hRT.1, hC.2.2.2.2.1]
    rfl
  · refine ⟨nc, nt, nr, ny, 0, ?_⟩
    simp only [RelN, qu2_same, qu2_ne, ne_eq, Nat.reduceEqDiff, not_false_eq_true, reduceCtorEq]
    have hu : ∀ x, x ≠ 4 → upd (M 1) 4 0 x = M 1 x := fun x h => pk_un h
    refine ⟨⟨?_, ?_, ?_, ?_, ?_⟩, hRC.congr b1 b2 (fun x h1 h2 => hu x (by omega)), hRR.congr b3 (fun x h1 h2 => hu x (by omega)), hRB.congr b3 (fun x h1 h2 => hu x (by omega)), hRW.congr (fun x h1 h2 => hu x (by omega)), hRY.congr b4 (fun x h1 h2 => hu x (by omega)), ⟨?_, ?_, ?_⟩, hO⟩
    · rw [hu _ (by omega)]; exact hC.1
    · rw [hu _ (by omega)]; exact hC.2.1
    · rw [hu _ (by omega)]; exact hC.2.2.1
    · rw [hu _ (by omega)]; exact hC.2.2.2.1
    · rw [pk_us]; exact ⟨rfl, by omega⟩
    · rw [pk_us]; rfl
    · intro j hj; omega
    · intro i j h1 h2; omega
theorem op_count {S : Nat → Nat → Int32} {L : Nat → Nat → Int64} {M : Nat → Nat → Int32} (R : Rel S L M) (a : Int32) : ∃ r, sX10_count a S L = some r ∧ sX11_count a M = some r := by
  obtain ⟨nc, nt, nr, ny, nq, hC, hRC, hRR, hRB, hRW, hRY, hRT, hO⟩ := id R
  rcases rg a (n := 5) (by decide) with ha | ⟨i, hi, rfl⟩
  · refine ⟨-2, ?_, ?_⟩
    · unfold sX10_count; rw [show (5 : Int32) = nI 5 from rfl, ib_bad ha, g0]
    · unfold sX11_count; rw [show (4 : Int32) = nI 5 - 1 from rfl, in_bad (by decide) ha]; rfl
  have hM : sX11_count (nI i) M = some (M 1 i) := by
    unfold sX11_count
    rw [show (4 : Int32) = nI 5 - 1 from rfl, in_ok hi (by decide)]
    show ck (nI i) 994 _ = _
    rw [ck_n (show i < 994 by omega) (by decide), nI_clamp (by omega)]
  refine ⟨M 1 i, ?_, hM⟩
  unfold sX10_count
  rw [show (5 : Int32) = nI 5 from rfl, ib_ok hi (by decide), g1]
  rcases (show i = 0 ∨ i = 1 ∨ i = 2 ∨ i = 3 ∨ i = 4 by omega) with rfl | rfl | rfl | rfl | rfl
  · rw [hC.1.1, ← hRC.1]; rfl
  · rw [hC.2.1.1, ← hRC.2.1]; rfl
  · rw [hC.2.2.1.1, ← hRR.1]; rfl
  · rw [hC.2.2.2.1.1, ← hRY.1]; rfl
  · rw [hC.2.2.2.2.1, ← hRT.1]; rfl
theorem op_strike {S : Nat → Nat → Int32} {L : Nat → Nat → Int64} {M : Nat → Nat → Int32} (R : Rel S L M) (a b : Int32) : ∃ r S' L' M', sX10_strike a b S L = some (r, S', L') ∧ sX11_strike a b M = some (r, M') ∧ Rel S' L' M' := by
  obtain ⟨nc, nt, nr, ny, nq, hC, hRC, hRR, hRB, hRW, hRY, hRT, hO⟩ := id R
  have b1 := hC.1.2
  have b2 := hC.2.1.2
  have b3 := hC.2.2.1.2
  have b4 := hC.2.2.2.1.2
  have b5 := hC.2.2.2.2.2
  rcases rg a (n := nr) (by omega) with ha | ⟨i, hi, rfl⟩
  · refine ⟨-2, S, L, M, ?_, ?_, R⟩
    · unfold sX10_strike; rw [xRule_bad hRR.1 ha, g0]
    · unfold sX11_strike; rw [show sX11_is 2 a M = some 0 from mIs_bad (c := 2) (by decide) hC.2.2.1.1 b3 ha, g0]
  rcases rg b (n := 1000) (by decide) with hb | ⟨j, hj, rfl⟩
  · refine ⟨-2, S, L, M, ?_, ?_, R⟩
    · unfold sX10_strike; rw [xRule_ok hRR.1 b3 hi, g1, xDay_bad hb, g0]
    · unfold sX11_strike; rw [show sX11_is 2 (nI i) M = some 1 from mIs_ok (c := 2) (by decide) hC.2.2.1.1 b3 hi, g1, mDay_bad hb, g0]
  have hr := hRR.2.1 i hi
  have e22 : S 22 i = rl (M 1) i 5 := hr.2.2.2.2.2.1.1
  have eI : 282 + 11 * nI i + 5 = nI (282 + 11 * i + 5) := by
    show nI 282 + nI 11 * nI i + nI 5 = _
    rw [pk_mul, nI_add, nI_add]
  have hro : sX11_ruleOf (nI i) 5 M = some (rl (M 1) i 5) := by
    unfold sX11_ruleOf
    rw [eI, ck_n (by omega) (by decide), nI_clamp (by omega)]
    rfl
  by_cases hs : rl (M 1) i 5 = -1
  · refine ⟨1, qu2 S 22 i (nI j), L, qu2 M 1 (282 + 11 * i + 5) (nI j), ?_, ?_, ?_⟩
    · unfold sX10_strike
      rw [xRule_ok hRR.1 b3 hi, g1, xDay_ok hj, g1, ck_n (show i < 60 by omega) (by decide), nI_clamp (by omega), if_pos (e22.trans hs), ck_n (show i < 60 by omega) (by decide), bnd_e]
    · unfold sX11_strike
      rw [show sX11_is 2 (nI i) M = some 1 from mIs_ok (c := 2) (by decide) hC.2.2.1.1 b3 hi, g1, mDay_ok hj, g1, hro, ob_some, if_pos hs, eI, ck_n (by omega) (by decide), nI_clamp (by omega), bnd_e]
    · refine ⟨nc, nt, nr, ny, nq, ?_⟩
      simp only [RelN, qu2_same, qu2_ne, ne_eq, Nat.reduceEqDiff, not_false_eq_true, reduceCtorEq]
      have hu : ∀ x, x ≠ 282 + 11 * i + 5 → upd (M 1) (282 + 11 * i + 5) (nI j) x = M 1 x := fun x h => pk_un h
      have hl : ∀ r k, r < 60 → k < 11 → (r ≠ i ∨ k ≠ 5) → rl (upd (M 1) (282 + 11 * i + 5) (nI j)) r k = rl (M 1) r k := fun r k h1 h2 h3 => hu _ (by omega)
      refine ⟨hC.upd (by omega), hRC.congr b1 b2 (fun x h1 h2 => hu x (by omega)), ⟨hRR.1, fun r hrr => ?_, hRR.2.2⟩, ⟨fun a k r h1 h2 h3 => ?_, fun t x r h1 h2 h3 => ?_, fun a b r h1 h2 h3 => ?_⟩, hRW.congr (fun x h1 h2 => hu x (by omega)), hRY.congr b4 (fun x h1 h2 => hu x (by omega)), hRT.congr b5 (fun x h1 h2 => hu x (by omega)), hO⟩
      · by_cases e : r = i
        · subst e
          obtain ⟨q1, q2, q3, q4, q5, q6, q7, q8⟩ := hr
          refine ⟨?_, ?_, ?_, ?_, ?_, ?_, ?_, fun n h1 h2 => ?_⟩
          · rw [hl r 0 (by omega) (by omega) (Or.inr (by omega))]; exact q1
          · rw [hl r 1 (by omega) (by omega) (Or.inr (by omega))]; exact q2
          · rw [hl r 2 (by omega) (by omega) (Or.inr (by omega))]; exact q3
          · rw [hl r 3 (by omega) (by omega) (Or.inr (by omega))]; exact q4
          · rw [hl r 4 (by omega) (by omega) (Or.inr (by omega))]; exact q5
          · rw [show rl (upd (M 1) (282 + 11 * r + 5) (nI j)) r 5 = nI j from pk_us, pk_us]
            exact ⟨rfl, Or.inr ⟨j, hj, rfl⟩⟩
          · rw [hl r 6 (by omega) (by omega) (Or.inr (by omega))]; exact q7
          · rw [hl r 6 (by omega) (by omega) (Or.inr (by omega))] at h2
            rw [hl r (7 + 2 * n) (by omega) (by omega) (Or.inr (by omega)), hl r (8 + 2 * n) (by omega) (by omega) (Or.inr (by omega))]
            exact q8 n h1 h2
        · have hq := (hRR.2.1 r hrr).congr (st' := upd (M 1) (282 + 11 * i + 5) (nI j)) (fun k hk => hl r k (by omega) hk (Or.inl e))
          unfold RRr at hq ⊢
          rw [pk_un e]
          exact hq
      · rw [hRB.1 a k r h1 h2 h3]
        constructor
        · rintro ⟨q1, q2, q3⟩; rw [hl r 0 (by omega) (by omega) (Or.inr (by omega)), hl r 1 (by omega) (by omega) (Or.inr (by omega))]; exact ⟨q1, q2, q3⟩
        · rintro ⟨q1, q2, q3⟩; rw [hl r 0 (by omega) (by omega) (Or.inr (by omega))] at q2; rw [hl r 1 (by omega) (by omega) (Or.inr (by omega))] at q3; exact ⟨q1, q2, q3⟩
      · rw [hRB.2.1 t x r h1 h2 h3]
        have key : r < nr → (brk (upd (M 1) (282 + 11 * i + 5) (nI j)) r t (nI x - 1) ↔ brk (M 1) r t (nI x - 1)) := by
          intro hrr
          unfold brk
          rw [hl r 3 (by omega) (by omega) (Or.inr (by omega)), hl r 6 (by omega) (by omega) (Or.inr (by omega)), hl r 0 (by omega) (by omega) (Or.inr (by omega))]
          constructor
          · rintro (q | ⟨n, q1, q2, q3, q4⟩)
            · exact Or.inl q
            · rw [hl r (7 + 2 * n) (by omega) (by omega) (Or.inr (by omega))] at q3
              rw [hl r (8 + 2 * n) (by omega) (by omega) (Or.inr (by omega))] at q4
              exact Or.inr ⟨n, q1, q2, q3, q4⟩
          · rintro (q | ⟨n, q1, q2, q3, q4⟩)
            · exact Or.inl q
            · refine Or.inr ⟨n, q1, q2, ?_, ?_⟩
              · rw [hl r (7 + 2 * n) (by omega) (by omega) (Or.inr (by omega))]; exact q3
              · rw [hl r (8 + 2 * n) (by omega) (by omega) (Or.inr (by omega))]; exact q4
        constructor
        · rintro ⟨q1, q2⟩; exact ⟨q1, (key q1).mpr q2⟩
        · rintro ⟨q1, q2⟩; exact ⟨q1, (key q1).mp q2⟩
      · rw [hRB.2.2 a b r h1 h2 h3]
        have key : r < nr → (prd (upd (M 1) (282 + 11 * i + 5) (nI j)) r a b ↔ prd (M 1) r a b) := by
          intro hrr
          unfold prd
          rw [hl r 6 (by omega) (by omega) (Or.inr (by omega))]
          constructor
          · rintro ⟨n, q1, q2, q3⟩
            rw [hl r (7 + 2 * n) (by omega) (by omega) (Or.inr (by omega)), hl r (8 + 2 * n) (by omega) (by omega) (Or.inr (by omega))] at q3
            exact ⟨n, q1, q2, q3⟩
          · rintro ⟨n, q1, q2, q3⟩
            refine ⟨n, q1, q2, ?_⟩
            rw [hl r (7 + 2 * n) (by omega) (by omega) (Or.inr (by omega)), hl r (8 + 2 * n) (by omega) (by omega) (Or.inr (by omega))]
            exact q3
        constructor
        · rintro ⟨q1, q2⟩; exact ⟨q1, (key q1).mpr q2⟩
        · rintro ⟨q1, q2⟩; exact ⟨q1, (key q1).mp q2⟩
  · refine ⟨-3, S, L, M, ?_, ?_, R⟩
    · unfold sX10_strike
      rw [xRule_ok hRR.1 b3 hi, g1, xDay_ok hj, g1, ck_n (show i < 60 by omega) (by decide), nI_clamp (by omega), if_neg (fun e => hs (e22.symm.trans e))]
    · unfold sX11_strike
      rw [show sX11_is 2 (nI i) M = some 1 from mIs_ok (c := 2) (by decide) hC.2.2.1.1 b3 hi, g1, mDay_ok hj, g1, hro, ob_some, if_neg hs]
