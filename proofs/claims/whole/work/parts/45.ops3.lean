theorem nlt32 {a b : Int32} (h : ¬ a < b) : b ≤ a := by rw [Int32.lt_iff_toInt_lt] at h; rw [Int32.le_iff_toInt_le]; omega
theorem nle32 {a b : Int32} (h : ¬ a ≤ b) : b < a := by rw [Int32.le_iff_toInt_le] at h; rw [Int32.lt_iff_toInt_lt]; omega
theorem lt_nle32 {a b : Int32} (h : a < b) : ¬ b ≤ a := by rw [Int32.lt_iff_toInt_lt] at h; rw [Int32.le_iff_toInt_le]; omega
theorem le_nlt32 {a b : Int32} (h : a ≤ b) : ¬ b < a := by rw [Int32.le_iff_toInt_le] at h; rw [Int32.lt_iff_toInt_lt]; omega
theorem sub_add1 (a : Int32) : a - 1 + 1 = a := by rw [← Int32.toBitVec_inj]; simp
theorem add_sub1 (a : Int32) : a + 1 - 1 = a := by rw [← Int32.toBitVec_inj]; simp
theorem m1_eq {x : Nat} (hx : x < 1000000) : nI x - 1 = -1 ↔ x = 0 := by
  constructor
  · intro h
    have h2 : (nI x - nI 1).toInt = (x : Int) - 1 := pk_sub_toInt (by omega) (by decide)
    have h3 : (nI x - 1).toInt = (-1 : Int32).toInt := by rw [h]
    have h4 : (nI x - 1).toInt = (x : Int) - 1 := h2
    rw [h4] at h3
    have h5 : (-1 : Int32).toInt = -1 := rfl
    omega
  · intro h; subst h; rfl
theorem lb_or1 (y : Int64) {a r : Nat} (ha : a < 64) (hr : r < 64) : lb (y ||| lsh 1 (nI a)) r = (lb y r || decide (a = r)) := by rw [lb_or, lb_one ha hr]
-- ===== tie =====
theorem x_tell {S : Nat → Nat → Int32} {L : Nat → Nat → Int64} {c t f nt : Nat} {v : Int32} (hc : c < 16) (ht : t < 6) (h1 : S 1 1 = nI nt) :
    sX2_tell (nI c) (nI t) v (nI f) S L = some (nI (nt + 1), (if nI f ≤ S 13 c ∧ S 16 (6 * c + t) ≤ nI f then qu2 (qu2 (qu2 S 15 (6 * c + t) v) 16 (6 * c + t) (nI f)) 1 1 (nI (nt + 1)) else qu2 S 1 1 (nI (nt + 1))), L) := by
  have e : nI c * 6 + nI t = nI (6 * c + t) := by show nI c * nI 6 + nI t = _; rw [pk_mul, nI_add]; congr 1; omega
  unfold sX2_tell
  rw [e, bnd_e, ck_n hc (by decide), nI_clamp (by omega)]
  by_cases q1 : S 13 c < nI f
  · rw [if_pos q1, if_neg (fun q => lt_nle32 q1 q.1), bnd_e, qu2_same, pk_us, h1, nI_1]
  · rw [if_neg q1, ck_n (by omega) (by decide), nI_clamp (by omega)]
    by_cases q2 : nI f < S 16 (6 * c + t)
    · rw [if_pos q2, if_neg (fun q => lt_nle32 q2 q.2), bnd_e, qu2_same, pk_us, h1, nI_1]
    · rw [if_neg q2, if_pos ⟨nlt32 q1, nlt32 q2⟩, ck_n (by omega) (by decide), bnd_e, ck_n (by omega) (by decide), bnd_e, bnd_e, qu2_same, pk_us, qu2_ne (show 1 ≠ 16 by decide), qu2_ne (show 1 ≠ 15 by decide), h1, nI_1]
theorem op_tie_core {S : Nat → Nat → Int32} {L : Nat → Nat → Int64} {M : Nat → Nat → Int32} {nc nt nr ny nq : Nat} (R : RelN S L M nc nt nr ny nq) {c t f : Nat} {v : Int32} (hc : c < nc) (ht : t < 6) (hv : In1 v 4) (hf : f < 1000) (hlt : nt < 60) :
    Rel (if nI f ≤ S 13 c ∧ S 16 (6 * c + t) ≤ nI f then qu2 (qu2 (qu2 S 15 (6 * c + t) v) 16 (6 * c + t) (nI f)) 1 1 (nI (nt + 1)) else qu2 S 1 1 (nI (nt + 1))) L (qu2 (qu2 (qu2 (qu2 (qu2 M 1 (42 + 4 * nt) (nI c)) 1 (43 + 4 * nt) (nI t)) 1 (44 + 4 * nt) v) 1 (45 + 4 * nt) (nI f)) 1 1 (nI (nt + 1))) := by
  obtain ⟨hC, hRC, hRR, hRB, hRW, hRY, hRT, hO⟩ := R
  have b1 := hC.1.2
  have b2 := hC.2.1.2
  have b3 := hC.2.2.1.2
  have b4 := hC.2.2.2.1.2
  have b5 := hC.2.2.2.2.2
  refine ⟨nc, nt + 1, nr, ny, nq, ?_⟩
  generalize hS' : (if nI f ≤ S 13 c ∧ S 16 (6 * c + t) ≤ nI f then qu2 (qu2 (qu2 S 15 (6 * c + t) v) 16 (6 * c + t) (nI f)) 1 1 (nI (nt + 1)) else qu2 S 1 1 (nI (nt + 1))) = S'
  have hk : ∀ k, k ≠ 1 → k ≠ 15 → k ≠ 16 → S' k = S k := by
    intro k p1 p2 p3
    rw [← hS']
    by_cases q : nI f ≤ S 13 c ∧ S 16 (6 * c + t) ≤ nI f
    · rw [if_pos q, qu2_ne p1, qu2_ne p3, qu2_ne p2]
    · rw [if_neg q, qu2_ne p1]
  have h10 : S' 1 0 = S 1 0 := by
    rw [← hS']
    by_cases q : nI f ≤ S 13 c ∧ S 16 (6 * c + t) ≤ nI f
    · rw [if_pos q, qu2_same, pk_un (by decide), qu2_ne (by decide), qu2_ne (by decide)]
    · rw [if_neg q, qu2_same, pk_un (by decide)]
  have h11 : S' 1 1 = nI (nt + 1) := by
    rw [← hS']
    by_cases q : nI f ≤ S 13 c ∧ S 16 (6 * c + t) ≤ nI f
    · rw [if_pos q, qu2_same, pk_us]
    · rw [if_neg q, qu2_same, pk_us]
  have h15 : ∀ x, S' 15 x = if x = 6 * c + t ∧ nI f ≤ S 13 c ∧ S 16 (6 * c + t) ≤ nI f then v else S 15 x := by
    intro x
    rw [← hS']
    by_cases q : nI f ≤ S 13 c ∧ S 16 (6 * c + t) ≤ nI f
    · rw [if_pos q, qu2_ne (show 15 ≠ 1 by decide), qu2_ne (show 15 ≠ 16 by decide), qu2_same]
      by_cases e : x = 6 * c + t
      · rw [e, pk_us, if_pos ⟨rfl, q⟩]
      · rw [pk_un e, if_neg (fun z => e z.1)]
    · rw [if_neg q, qu2_ne (show 15 ≠ 1 by decide), if_neg (fun z => q z.2)]
  have h16 : ∀ x, S' 16 x = if x = 6 * c + t ∧ nI f ≤ S 13 c ∧ S 16 (6 * c + t) ≤ nI f then nI f else S 16 x := by
    intro x
    rw [← hS']
    by_cases q : nI f ≤ S 13 c ∧ S 16 (6 * c + t) ≤ nI f
    · rw [if_pos q, qu2_ne (show 16 ≠ 1 by decide), qu2_same]
      by_cases e : x = 6 * c + t
      · rw [e, pk_us, if_pos ⟨rfl, q⟩]
      · rw [pk_un e, qu2_ne (show 16 ≠ 15 by decide), if_neg (fun z => e z.1)]
    · rw [if_neg q, qu2_ne (show 16 ≠ 1 by decide), if_neg (fun z => q z.2)]
  clear hS'
  have e13 := hk 13 (by decide) (by decide) (by decide)
  simp only [RelN, qu2_same, qu2_ne, ne_eq, Nat.reduceEqDiff, not_false_eq_true, reduceCtorEq]
  rw [hk 13 (by decide) (by decide) (by decide), hk 14 (by decide) (by decide) (by decide), hk 2 (by decide) (by decide) (by decide), hk 17 (by decide) (by decide) (by decide), hk 18 (by decide) (by decide) (by decide), hk 19 (by decide) (by decide) (by decide), hk 20 (by decide) (by decide) (by decide), hk 21 (by decide) (by decide) (by decide), hk 22 (by decide) (by decide) (by decide), hk 23 (by decide) (by decide) (by decide), hk 24 (by decide) (by decide) (by decide), hk 25 (by decide) (by decide) (by decide), hk 29 (by decide) (by decide) (by decide), hk 30 (by decide) (by decide) (by decide), hk 4 (by decide) (by decide) (by decide), hk 31 (by decide) (by decide) (by decide), hk 32 (by decide) (by decide) (by decide), hk 33 (by decide) (by decide) (by decide), hk 5 (by decide) (by decide) (by decide), hk 34 (by decide) (by decide) (by decide)]
  generalize hst : upd (upd (upd (upd (upd (M 1) (42 + 4 * nt) (nI c)) (43 + 4 * nt) (nI t)) (44 + 4 * nt) v) (45 + 4 * nt) (nI f)) 1 (nI (nt + 1)) = st
  have hu : ∀ x, x ≠ 1 → (x < 42 + 4 * nt ∨ 46 + 4 * nt ≤ x) → st x = M 1 x := fun x p1 p2 => by
    rw [← hst, pk_un p1, pk_un (by omega), pk_un (by omega), pk_un (by omega), pk_un (by omega)]
  have u1 : st 1 = nI (nt + 1) := by rw [← hst, pk_us]
  have u2 : st (42 + 4 * nt) = nI c := by rw [← hst, pk_un (by omega), pk_un (by omega), pk_un (by omega), pk_un (by omega), pk_us]
  have u3 : st (43 + 4 * nt) = nI t := by rw [← hst, pk_un (by omega), pk_un (by omega), pk_un (by omega), pk_us]
  have u4 : st (44 + 4 * nt) = v := by rw [← hst, pk_un (by omega), pk_un (by omega), pk_us]
  have u5 : st (45 + 4 * nt) = nI f := by rw [← hst, pk_un (by omega), pk_us]
  refine ⟨⟨?_, ⟨u1, by omega⟩, ?_, ?_, ?_⟩, ⟨h10.trans hRC.1, h11, fun c' hc' => ?_, hRC.2.2.2.1, fun c' t' hc' ht' => ?_, fun c' t' q1 q2 q3 => ?_, fun j hj => ?_⟩, hRR.congr b3 (fun x h1 h2 => hu x (by omega) (by omega)), hRB.congr b3 (fun x h1 h2 => hu x (by omega) (by omega)), hRW.congr (fun x h1 h2 => hu x (by omega) (by omega)), hRY.congr b4 (fun x h1 h2 => hu x (by omega) (by omega)), hRT.congr b5 (fun x h1 h2 => hu x (by omega) (by omega)), hO⟩
  · rw [hu _ (by omega) (by omega)]; exact hC.1
  · rw [hu _ (by omega) (by omega)]; exact hC.2.2.1
  · rw [hu _ (by omega) (by omega)]; exact hC.2.2.2.1
  · rw [hu _ (by omega) (by omega)]; exact hC.2.2.2.2
  · rw [hu _ (by omega) (by omega), hu _ (by omega) (by omega)]
    exact hRC.2.2.1 c' hc'
  · have hd : S 13 c = M 1 (10 + 2 * c) := (hRC.2.2.1 c hc).1
    have hs : S 16 (6 * c + t) = (lk (M 1) c t nt).2 := (hRC.2.2.2.2.1 c t hc ht).2
    have hlk : lk st c' t' nt = lk (M 1) c' t' nt := lk_congr (hu _ (by omega) (by omega)) (fun x h1 h2 => hu x (by omega) (by omega))
    have h0 := hRC.2.2.2.2.1 c' t' hc' ht'
    rw [h15, h16]
    unfold lk
    rw [hlk, u2, u3, u4, u5, hu (10 + 2 * c') (by omega) (by omega)]
    by_cases e : 6 * c' + t' = 6 * c + t
    · obtain ⟨rfl, rfl⟩ : c' = c ∧ t' = t := by omega
      by_cases q : nI f ≤ S 13 c' ∧ S 16 (6 * c' + t') ≤ nI f
      · have hA : 6 * c' + t' = 6 * c' + t' ∧ nI f ≤ S 13 c' ∧ S 16 (6 * c' + t') ≤ nI f := ⟨rfl, q⟩
        have hB : nI c' = nI c' ∧ nI t' = nI t' ∧ nI f ≤ M 1 (10 + 2 * c') ∧ (lk (M 1) c' t' nt).2 ≤ nI f := ⟨rfl, rfl, by rw [← hd]; exact q.1, by rw [← hs]; exact q.2⟩
        rw [if_pos hA, if_pos hA, if_pos hB]
        exact ⟨rfl, rfl⟩
      · have hA : ¬ (6 * c' + t' = 6 * c' + t' ∧ nI f ≤ S 13 c' ∧ S 16 (6 * c' + t') ≤ nI f) := fun z => q z.2
        have hB : ¬ (nI c' = nI c' ∧ nI t' = nI t' ∧ nI f ≤ M 1 (10 + 2 * c') ∧ (lk (M 1) c' t' nt).2 ≤ nI f) := fun z => q ⟨by rw [hd]; exact z.2.2.1, by rw [hs]; exact z.2.2.2⟩
        rw [if_neg hA, if_neg hA, if_neg hB]
        exact h0
    · have hA : ¬ (6 * c' + t' = 6 * c + t ∧ nI f ≤ S 13 c ∧ S 16 (6 * c + t) ≤ nI f) := fun z => e z.1
      have hB : ¬ (nI c = nI c' ∧ nI t = nI t' ∧ nI f ≤ M 1 (10 + 2 * c') ∧ (lk (M 1) c' t' nt).2 ≤ nI f) := fun z => e (by
        have z1 := (nI_eq (by omega) (by omega)).mp z.1
        have z2 := (nI_eq (by omega) (by omega)).mp z.2.1
        omega)
      rw [if_neg hA, if_neg hA, if_neg hB]
      exact h0
  · rw [h15, h16, if_neg (fun z => by omega), if_neg (fun z => by omega)]
    exact hRC.2.2.2.2.2.1 c' t' q1 q2 q3
  · by_cases e : j = nt
    · subst e
      rw [u2, u3, u4, u5]
      exact ⟨⟨c, hc, rfl⟩, ⟨t, ht, rfl⟩, hv, ⟨f, hf, rfl⟩⟩
    · rw [hu _ (by omega) (by omega), hu _ (by omega) (by omega), hu _ (by omega) (by omega), hu _ (by omega) (by omega)]
      exact hRC.2.2.2.2.2.2 j (by omega)
theorem in3_ok {v : Int32} (h : In1 v 4) : sX11_in v (-1) 3 = some 1 := by
  rcases h with rfl | ⟨j, hj, rfl⟩
  · rfl
  · unfold sX11_in
    rw [if_neg (fun q => le_nlt32 (a := -1) (b := nI j) (by rw [Int32.le_iff_toInt_le, nI_toInt (by omega)]; show (-1 : Int) ≤ _; omega) q), if_neg (show ¬ (3 : Int32) < nI j from nI_nlt (a := 3) (by omega) (by omega))]
theorem in3_bad {v : Int32} (h1 : v ≠ -1) (h : Bad v 4) : sX11_in v (-1) 3 = some 0 := by
  unfold sX11_in
  by_cases c : v < -1
  · rw [if_pos c]
  · rw [if_neg c]
    rcases h with h | h
    · exfalso
      have h2 := nlt32 c
      rw [Int32.lt_iff_toInt_lt] at h
      rw [Int32.le_iff_toInt_le] at h2
      have e1 : (-1 : Int32).toInt = -1 := rfl
      have e2 : (0 : Int32).toInt = 0 := rfl
      apply h1
      rw [← Int32.toInt_inj]
      omega
    · have h4 : (3 : Int32) < v := by
        rw [Int32.le_iff_toInt_le] at h
        rw [Int32.lt_iff_toInt_lt]
        have e1 : (nI 4).toInt = 4 := rfl
        have e2 : (3 : Int32).toInt = 3 := rfl
        omega
      rw [if_pos h4]
theorem op_tie {S : Nat → Nat → Int32} {L : Nat → Nat → Int64} {M : Nat → Nat → Int32} (R : Rel S L M) (a b c d : Int32) : ∃ r S' L' M', sX10_tie a b c d S L = some (r, S', L') ∧ sX11_tie a b c d M = some (r, M') ∧ Rel S' L' M' := by
  obtain ⟨nc, nt, nr, ny, nq, hN⟩ := id R
  have hC := hN.1
  have hRC := hN.2.1
  have b1 := hC.1.2
  have b2 := hC.2.1.2
  have h1 : M 1 1 = nI nt := hC.2.1.1
  rcases rg a (n := nc) (by omega) with ha | ⟨i, hi, rfl⟩
  · refine ⟨-2, S, L, M, ?_, ?_, R⟩
    · unfold sX10_tie; rw [xCase_bad hRC.1 ha, g0]
    · unfold sX11_tie; rw [show sX11_is 0 a M = some 0 from mIs_bad (c := 0) (by decide) hC.1.1 (by omega) ha, g0]
  have hXc : sX10_isCase (nI i) S L = some 1 := xCase_ok hRC.1 b1 hi
  have hMc : sX11_is 0 (nI i) M = some 1 := mIs_ok (c := 0) (by decide) hC.1.1 (by omega) hi
  rcases rg b (n := 6) (by decide) with hb | ⟨t, ht, rfl⟩
  · refine ⟨-2, S, L, M, ?_, ?_, R⟩
    · unfold sX10_tie; rw [hXc, g1, xTie_bad hb, g0]
    · unfold sX11_tie; rw [hMc, g1, mTie_bad hb, g0]
  rcases rg d (n := 1000) (by decide) with hd | ⟨f, hf, rfl⟩
  · refine ⟨-2, S, L, M, ?_, ?_, R⟩
    · unfold sX10_tie; rw [hXc, g1, xTie_ok ht, g1, xDay_bad hd, g0]
    · unfold sX11_tie; rw [hMc, g1, mTie_ok ht, g1]
      by_cases hc1 : c = -1
      · rw [in3_ok (Or.inl hc1), g1, mDay_bad hd, g0]
      · rcases rg c (n := 4) (by decide) with hc | hc
        · rw [in3_bad hc1 hc, g0]
        · rw [in3_ok (Or.inr hc), g1, mDay_bad hd, g0]
  rcases Classical.em (In1 c 4) with hgood | hgood
  case inr =>
    have hc1 : c ≠ -1 := fun e => hgood (Or.inl e)
    have hcb : Bad c 4 := by
      rcases rg c (n := 4) (by decide) with h | h
      · exact h
      · exact absurd (Or.inr h) hgood
    refine ⟨-2, S, L, M, ?_, ?_, R⟩
    · unfold sX10_tie; rw [hXc, g1, xTie_ok ht, g1, xDay_ok hf, g1, if_neg hc1, xLand_bad hcb, g0]
    · unfold sX11_tie; rw [hMc, g1, mTie_ok ht, g1, in3_bad hc1 hcb, g0]
  have hX : sX10_tie (nI i) (nI t) c (nI f) S L = if S 1 1 < 60 then ob3 (sX2_tell (nI i) (nI t) c (nI f) S L) (fun r S' L' => some (r, S', L')) else some ((-4), S, L) := by
    unfold sX10_tie
    rw [hXc, g1, xTie_ok ht, g1, xDay_ok hf, g1]
    rcases hgood with e | ⟨j, hj, rfl⟩
    · rw [if_pos e]
    · rw [if_neg (fun e => by
        have e2 : (nI j).toInt = (-1 : Int32).toInt := by rw [e]
        rw [nI_toInt (by omega)] at e2
        have e3 : (-1 : Int32).toInt = -1 := rfl
        omega), xLand_ok hj, g1]
  by_cases hfull : nt = 60
  · refine ⟨-4, S, L, M, ?_, ?_, R⟩
    · rw [hX, hRC.2.1, if_neg (show ¬ nI nt < 60 from nI_nlt (b := 60) (by omega) (by omega))]
    · unfold sX11_tie; rw [hMc, g1, mTie_ok ht, g1, in3_ok hgood, g1, mDay_ok hf, g1, k1, cl1, h1, if_pos (show nI nt = 60 by rw [hfull]; rfl)]
  have hlt : nt < 60 := by omega
  have e0 : 42 + 4 * nI nt = nI (42 + 4 * nt) := by show nI 42 + nI 4 * nI nt = _; rw [pk_mul, nI_add]
  have e1 : nI (42 + 4 * nt) + 1 = nI (43 + 4 * nt) := by rw [nI_1]; congr 1; omega
  have e2 : nI (42 + 4 * nt) + 2 = nI (44 + 4 * nt) := by show _ + nI 2 = _; rw [nI_add]; congr 1; omega
  have e3 : nI (42 + 4 * nt) + 3 = nI (45 + 4 * nt) := by show _ + nI 3 = _; rw [nI_add]; congr 1; omega
  refine ⟨nI (nt + 1), _, L, _, ?_, ?_, op_tie_core hN hi ht hgood hf hlt⟩
  · rw [hX, hRC.2.1, if_pos (show nI nt < 60 from nI_lt (b := 60) hlt (by decide)), x_tell (by omega) ht hRC.2.1, ob3_some]
  · unfold sX11_tie
    rw [hMc, g1, mTie_ok ht, g1, in3_ok hgood, g1, mDay_ok hf, g1, k1, cl1, h1, if_neg (show ¬ nI nt = 60 from fun e => hfull ((nI_eq (b := 60) (by omega) (by decide)).mp e)), k1, e0, bnd_e, ck_n (by omega) (by decide), nI_clamp (by omega), bnd_e, e1, ck_n (by omega) (by decide), nI_clamp (by omega), bnd_e, e2, ck_n (by omega) (by decide), nI_clamp (by omega), bnd_e, e3, ck_n (by omega) (by decide), nI_clamp (by omega), bnd_e, one1, ob2_some, qu2_same, pk_un (show 1 ≠ 45 + 4 * nt by omega), qu2_same, pk_un (show 1 ≠ 44 + 4 * nt by omega), qu2_same, pk_un (show 1 ≠ 43 + 4 * nt by omega), qu2_same, pk_un (show 1 ≠ 42 + 4 * nt by omega), h1, nI_1]
