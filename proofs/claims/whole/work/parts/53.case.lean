-- ===== the calls of one CASE =====
theorem ms_of {S : Nat → Nat → Int32} {L : Nat → Nat → Int64} {M : Nat → Nat → Int32} {nc nt nr ny nq : Nat} (R : RelN S L M nc nt nr ny nq) {ties : Nat → Int32} {day : Int32} (hT : T6 ties) (h2 : ∀ t, t < 6 → M 2 t = ties t) (hd : M 0 2 = day) : MS M (M 1) ties day (fun _ => false) nr ny := by
  obtain ⟨hC, hRC, hRR, hRB, hRW, hRY, hRT, hO⟩ := R
  exact ⟨rfl, hC.2.2.1, fun r hr => (hRR.2.1 r hr).ok, h2, hd, fun r hr => hO r (by have := hC.2.2.1.2; omega), hT, fun k hk => (hRW.1 k hk).2, fun a ha => (hRW.2 a ha).2, hC.2.2.2.1, fun j hj => ⟨(hRY.2 j hj).1.2, (hRY.2 j hj).2.1.2, (hRY.2 j hj).2.2.2⟩⟩
theorem xs_of {S : Nat → Nat → Int32} {L : Nat → Nat → Int64} {M : Nat → Nat → Int32} {nc nt nr ny nq : Nat} (R : RelN S L M nc nt nr ny nq) {ties : Nat → Int32} {day : Int32} {out : Nat → Bool} (hT : T6 ties) (h35 : ∀ t, t < 6 → S 35 t = ties t) (hH : HeldO (M 1) ties day out nr (L 6 4)) : XS S L (M 1) ties day out nr ny := by
  obtain ⟨hC, hRC, hRR, hRB, hRW, hRY, hRT, hO⟩ := R
  exact ⟨h35, hT, hH, hC.2.2.1.2, hRR, hRB, hRW, hRY, hC.2.2.2.1.2⟩
theorem XS.frame {S S' : Nat → Nat → Int32} {L : Nat → Nat → Int64} {st ties : Nat → Int32} {day : Int32} {out : Nat → Bool} {nr ny : Nat} (h : XS S L st ties day out nr ny) (hS : ∀ k, (scS k = false ∨ k = 35) → S' k = S k) : XS S' L st ties day out nr ny := by
  unfold XS at h ⊢
  rw [hS 35 (Or.inr rfl), hS 2 (Or.inl rfl), hS 17 (Or.inl rfl), hS 18 (Or.inl rfl), hS 19 (Or.inl rfl), hS 20 (Or.inl rfl), hS 21 (Or.inl rfl), hS 22 (Or.inl rfl), hS 23 (Or.inl rfl), hS 24 (Or.inl rfl), hS 25 (Or.inl rfl), hS 29 (Or.inl rfl), hS 30 (Or.inl rfl), hS 4 (Or.inl rfl), hS 31 (Or.inl rfl), hS 32 (Or.inl rfl), hS 33 (Or.inl rfl)]
  exact h
theorem MS.frame {M M' : Nat → Nat → Int32} {st ties : Nat → Int32} {day : Int32} {out : Nat → Bool} {nr ny : Nat} (h : MS M st ties day out nr ny) (h1 : M' 1 = M 1) (h2 : M' 2 = M 2) (h3 : M' 3 = M 3) (h0 : M' 0 2 = M 0 2) : MS M' st ties day out nr ny := by
  unfold MS at h ⊢
  rw [h1, h2, h3, h0]
  exact h
theorem quest {S : Nat → Nat → Int32} {L : Nat → Nat → Int64} {M : Nat → Nat → Int32} {nc nt nr ny nq : Nat} (R : RelN S L M nc nt nr ny nq) (a c k : Int32) :
    (sX10_isQuestion a c k S L = some 0 ∧ sX11_isAsked a c k M = some 0) ∨ ∃ i j l, (i < 4 ∧ a = nI i) ∧ (j < nc ∧ c = nI j) ∧ (l < 3 ∧ k = nI l) ∧ sX10_isQuestion a c k S L = some 1 ∧ sX11_isAsked a c k M = some 1 := by
  have hC := R.1
  have b1 := hC.1.2
  have h1 : S 1 0 = nI nc := R.2.1.1
  unfold sX10_isQuestion sX11_isAsked
  rcases rg a (n := 4) (by decide) with ha | ⟨i, hi, rfl⟩
  · exact Or.inl ⟨by rw [xLand_bad ha, g0], by rw [mLand_bad ha, g0]⟩
  rcases rg c (n := nc) (by omega) with hc | ⟨j, hj, rfl⟩
  · exact Or.inl ⟨by rw [xLand_ok hi, g1, xCase_bad h1 hc, g0], by rw [mLand_ok hi, g1, show sX11_is 0 c M = some 0 from mIs_bad (c := 0) (by decide) hC.1.1 (by omega) hc, g0]⟩
  have m0 : sX11_is 0 (nI j) M = some 1 := mIs_ok (c := 0) (by decide) hC.1.1 (by omega) hj
  rcases rg k (n := 3) (by decide) with hk | ⟨l, hl, rfl⟩
  · exact Or.inl ⟨by rw [xLand_ok hi, g1, xCase_ok h1 b1 hj, g1, xKind_bad hk, g0], by rw [mLand_ok hi, g1, m0, g1, mKind_bad hk, g0]⟩
  · exact Or.inr ⟨i, j, l, ⟨hi, rfl⟩, ⟨hj, rfl⟩, ⟨hl, rfl⟩, by rw [xLand_ok hi, g1, xCase_ok h1 b1 hj, g1, xKind_ok hl, g1], by rw [mLand_ok hi, g1, m0, g1, mKind_ok hl, g1]⟩
theorem op_which {S : Nat → Nat → Int32} {L : Nat → Nat → Int64} {M : Nat → Nat → Int32} (R : Rel S L M) (a b : Int32) : ∃ r M', sX10_which a b S L = some r ∧ sX11_which a b M = some (r, M') ∧ Rel S L M' := by
  obtain ⟨nc, nt, nr, ny, nq, hN⟩ := id R
  have hC := hN.1
  have b1 := hC.1.2
  have h1 : S 1 0 = nI nc := hN.2.1.1
  rcases rg a (n := nc) (by omega) with ha | ⟨j, hj, rfl⟩
  · refine ⟨-10, M, ?_, ?_, R⟩
    · unfold sX10_which; rw [xCase_bad h1 ha, g0]
    · unfold sX11_which; rw [show sX11_is 0 a M = some 0 from mIs_bad (c := 0) (by decide) hC.1.1 (by omega) ha, g0]
  have m0 : sX11_is 0 (nI j) M = some 1 := mIs_ok (c := 0) (by decide) hC.1.1 (by omega) hj
  rcases rg b (n := 6) (by decide) with hb | ⟨t, ht, rfl⟩
  · refine ⟨-10, M, ?_, ?_, R⟩
    · unfold sX10_which; rw [xCase_ok h1 b1 hj, g1, xTie_bad hb, g0]
    · unfold sX11_which; rw [m0, g1, mTie_bad hb, g0]
  obtain ⟨S', L', M', x1, m1, hX, hM, hT, h2, -, -, h35⟩ := look hN hj
  refine ⟨S 15 (6 * j + t), M', ?_, ?_, nc, nt, nr, ny, nq, hN.frame EqX.rf hM⟩
  · unfold sX10_which; rw [xCase_ok h1 b1 hj, g1, xTie_ok ht, g1, x_landOf (by omega) ht, ob_some]
  · unfold sX11_which; rw [m0, g1, mTie_ok ht, g1, m1, ob_some, ck_n ht (by decide), nI_clamp (by omega), h2 t ht, h35 t ht]
theorem op_holds {S : Nat → Nat → Int32} {L : Nat → Nat → Int64} {M : Nat → Nat → Int32} (R : Rel S L M) (a b : Int32) : ∃ r S' L' M', sX10_holds a b S L = some (r, S', L') ∧ sX11_holds a b M = some (r, M') ∧ Rel S' L' M' := by
  obtain ⟨nc, nt, nr, ny, nq, hN⟩ := id R
  have hC := hN.1
  have b1 := hC.1.2
  have b3 := hC.2.2.1.2
  have h1 : S 1 0 = nI nc := hN.2.1.1
  have hR2 : S 2 0 = nI nr := hN.2.2.1.1
  rcases rg a (n := nr) (by omega) with ha | ⟨r, hr, rfl⟩
  · refine ⟨-2, S, L, M, ?_, ?_, R⟩
    · unfold sX10_holds; rw [xRule_bad hR2 ha, g0]
    · unfold sX11_holds; rw [show sX11_is 2 a M = some 0 from mIs_bad (c := 2) (by decide) hC.2.2.1.1 b3 ha, g0]
  have m2 : sX11_is 2 (nI r) M = some 1 := mIs_ok (c := 2) (by decide) hC.2.2.1.1 b3 hr
  rcases rg b (n := nc) (by omega) with hb | ⟨j, hj, rfl⟩
  · refine ⟨-2, S, L, M, ?_, ?_, R⟩
    · unfold sX10_holds; rw [xRule_ok hR2 b3 hr, g1, xCase_bad h1 hb, g0]
    · unfold sX11_holds; rw [m2, g1, show sX11_is 0 b M = some 0 from mIs_bad (c := 0) (by decide) hC.1.1 (by omega) hb, g0]
  have m0 : sX11_is 0 (nI j) M = some 1 := mIs_ok (c := 0) (by decide) hC.1.1 (by omega) hj
  obtain ⟨S', L', M', x1, m1, hX, hM, hT, h2, hd, hH, h35⟩ := look hN hj
  have ok := (hN.2.2.1.2.1 r hr).ok
  have hb := hH r (by omega)
  have hp : p_holds (M' 1) (M' 2) (M' 0 2) r = p_holds (M 1) (S' 35) (M 1 (10 + 2 * j)) r := by rw [hM.1, hd]; exact holds_congr ok h2
  refine ⟨bI (p_holds (M 1) (S' 35) (M 1 (10 + 2 * j)) r), S', L', M', ?_, ?_, nc, nt, nr, ny, nq, hN.frame hX hM⟩
  · unfold sX10_holds
    rw [xRule_ok hR2 b3 hr, g1, xCase_ok h1 b1 hj, g1, x1, ob2_some]
    cases hh : p_holds (M 1) (S' 35) (M 1 (10 + 2 * j)) r with
    | true =>
      have : lb (L' 6 4) r = true := hb.mpr ⟨hr, rfl, hh⟩
      rw [if_neg (fun q => by have := (lush_bit (L' 6 4) (show r < 64 by omega)).mp (lg0.mp q); simp_all)]; rfl
    | false =>
      have : lb (L' 6 4) r = false := by
        cases q : lb (L' 6 4) r with
        | false => rfl
        | true => have := (hb.mp q).2.2; rw [hh] at this; cases this
      rw [if_pos (lg0.mpr ((lush_bit (L' 6 4) (show r < 64 by omega)).mpr this))]; rfl
  · unfold sX11_holds
    rw [m2, g1, m0, g1, m1, ob_some, m_holdsNow (by omega) (by rw [hM.1]; exact ok), ob_some, hp]
    cases p_holds (M 1) (S' 35) (M 1 (10 + 2 * j)) r <;> rfl
theorem op_says {S : Nat → Nat → Int32} {L : Nat → Nat → Int64} {M : Nat → Nat → Int32} (R : Rel S L M) (a b c : Int32) : ∃ r S' L' M', sX10_says a b c S L = some (r, S', L') ∧ sX11_says a b c M = some (r, M') ∧ Rel S' L' M' := by
  obtain ⟨nc, nt, nr, ny, nq, hN⟩ := id R
  rcases quest hN a b c with ⟨q1, q2⟩ | ⟨i, j, l, ⟨hi, rfl⟩, ⟨hj, rfl⟩, ⟨hl, rfl⟩, q1, q2⟩
  · refine ⟨-10, S, L, M, ?_, ?_, R⟩
    · unfold sX10_says; rw [q1, g0]
    · unfold sX11_says; rw [q2, g0]
  obtain ⟨S', L', M', x1, m1, hX, hM, hT, h2, hd, hH, h35⟩ := look hN hj
  have hN' := hN.frame hX hM
  have hms : MS M' (M' 1) (S' 35) (M 1 (10 + 2 * j)) (fun _ => false) nr ny := ms_of hN' hT h2 hd
  have hst : M' 1 = M 1 := hM.1
  refine ⟨oI (FR (M 1) (S' 35) (M 1 (10 + 2 * j)) (fun _ => false) nr l i), S', L', M', ?_, ?_, nc, nt, nr, ny, nq, hN'⟩
  · obtain ⟨ow, how, eow⟩ := (hN'.2.2.2.2.1.1 (3 * i + l) (by omega)).2
    have h29 : S' 29 (3 * i + l) = nI ow := (hN'.2.2.2.2.1.1 (3 * i + l) (by omega)).1.trans eow
    have hB : RB (L' 26) (L' 27) (L' 28) (M 1) nr := by rw [← hst]; exact hN'.2.2.2.1
    unfold sX10_says FR
    rw [q1, g1, x1, ob2_some, x_ownKind hi hl, ob_some, h29, x_firstB hN'.1.2.2.1.2 hi how hH hB, ob_some, ← hst, eow]
  · unfold sX11_says
    rw [q2, g1, m1, ob_some, m_ruleBy hms hi hl, ob_some, hst]
/-- a CASE heard: both sides -/
theorem hearAt {S : Nat → Nat → Int32} {L : Nat → Nat → Int64} {M : Nat → Nat → Int32} {nc nt nr ny nq c k : Nat} (R : RelN S L M nc nt nr ny nq) (hc : c < nc) (hk : k < 3) :
    ∃ S' L' M' ties day, sX10_hear (nI c) (nI k) S L = some (S', L') ∧ sX11_looksAt (nI c) M = some M' ∧ EqX S L S' L' ∧ EqM M M' ∧ MS M' (M 1) ties day (fun _ => false) nr ny ∧ XS S' L' (M 1) ties day (fun _ => false) nr ny ∧ HS S' (sE (M 1) ties day (fun _ => false) nr k) (sT (M 1) ties day (fun _ => false) nr k) ∧ S' 6 5 = nI k := by
  obtain ⟨S1, L1, M', x1, m1, hX, hM, hT, h2, hd, hH, h35⟩ := look R hc
  have hN' := R.frame hX hM
  have hst : M' 1 = M 1 := hM.1
  have hms : MS M' (M 1) (S1 35) (M 1 (10 + 2 * c)) (fun _ => false) nr ny := by rw [← hst]; exact ms_of hN' hT h2 (by rw [hst]; exact hd)
  have hxs : XS S1 L1 (M 1) (S1 35) (M 1 (10 + 2 * c)) (fun _ => false) nr ny := by rw [← hst]; exact xs_of hN' hT (fun _ _ => rfl) (by rw [hst]; exact hH)
  obtain ⟨S2, b1, b2, b3, b4⟩ := x_readBooks hxs hk
  refine ⟨S2, L1, M', S1 35, M 1 (10 + 2 * c), ?_, m1, ⟨fun q hq => ?_, hX.2⟩, hM, hms, hxs.frame (fun q hq => ?_), ⟨fun a ha => ?_, b4⟩, b3⟩
  · unfold sX10_hear; rw [x1, ob2_some, b1, ob2_some]
  · rw [b2 q (fun e => by subst e; cases hq) (fun e => by subst e; cases hq) (fun e => by subst e; cases hq)]; exact hX.1 q hq
  · exact b2 q (fun e => by subst e; rcases hq with h | h <;> cases h) (fun e => by subst e; rcases hq with h | h <;> cases h) (fun e => by subst e; rcases hq with h | h <;> cases h)
  · rcases FR_spec (day := M 1 (10 + 2 * c)) (out := fun _ => false) (k := k) (a := a) hT hms.2.2.1 with ⟨-, q2, q3⟩ | ⟨r, -, -, -, -, q4, q5⟩
    · rw [q2, q3]; exact ⟨by omega, ha⟩
    · exact ⟨q4, q5⟩
theorem op_said {S : Nat → Nat → Int32} {L : Nat → Nat → Int64} {M : Nat → Nat → Int32} (R : Rel S L M) (a b c : Int32) : ∃ r S' L' M', sX10_said a b c S L = some (r, S', L') ∧ sX11_said a b c M = some (r, M') ∧ Rel S' L' M' := by
  obtain ⟨nc, nt, nr, ny, nq, hN⟩ := id R
  rcases quest hN a b c with ⟨q1, q2⟩ | ⟨i, j, l, ⟨hi, rfl⟩, ⟨hj, rfl⟩, ⟨hl, rfl⟩, q1, q2⟩
  · refine ⟨-2, S, L, M, ?_, ?_, R⟩
    · unfold sX10_said; rw [q1, g0]
    · unfold sX11_said; rw [q2, g0]
  obtain ⟨S', L', M', ties, day, x1, m1, hX, hM, hms, hxs, hHS, h65⟩ := hearAt hN hj hl
  refine ⟨nI (10 * sE (M 1) ties day (fun _ => false) nr l i + sT (M 1) ties day (fun _ => false) nr l i), S', L', M', ?_, ?_, nc, nt, nr, ny, nq, hN.frame hX hM⟩
  · unfold sX10_said
    rw [q1, g1, x1, ob2_some, ck_n hi (by decide), ck_n hi (by decide), nI_clamp (by omega), (hHS.2 i hi).1, (hHS.2 i hi).2]
    show some (nI 10 * nI _ + nI _, _, _) = _
    rw [pk_mul, nI_add]
  · unfold sX11_said
    rw [q2, g1, m1, ob_some, m_saying hms hi hl, ob_some]
/-- how a judge ENDS: both sides say it -/
def VJ (st ties : Nat → Int32) (day : Int32) (out : Nat → Bool) (nr ny k a : Nat) : Int32 := en (TY st ties ny k) (sE st ties day out nr k) (sT st ties day out nr k) (fun b => (st (954 + b)).toNatClampNeg) 4 0 a
theorem judgeX {S : Nat → Nat → Int32} {L : Nat → Nat → Int64} {st ties : Nat → Int32} {day : Int32} {out : Nat → Bool} {nr ny k a : Nat} (hxs : XS S L st ties day out nr ny) (hHS : HS S (sE st ties day out nr k) (sT st ties day out nr k)) (h65 : S 6 5 = nI k) (ha : a < 4) : ∃ S', sX4_outcome (nI a) S L = some (VJ st ties day out nr ny k a, S', L) ∧ ∀ q, q ≠ 7 → q ≠ 38 → S' q = S q := by
  obtain ⟨x1, hT, hH, hn, hR, hB, hW, hY, hyn⟩ := hxs
  refine x_outcome hHS (fun b hb => ?_) (fun b hb => ?_) ha
  · obtain ⟨w, hw, ew⟩ := (hW.2 b hb).2
    show S 30 b = nI (st (954 + b)).toNatClampNeg ∧ _
    rw [(hW.2 b hb).1, ew, nI_clamp (by omega)]
    exact ⟨rfl, hw⟩
  · rw [h65]; exact x_tells hY hyn hT x1 hb
theorem judgeM {M : Nat → Nat → Int32} {st ties : Nat → Int32} {day : Int32} {out : Nat → Bool} {nr ny k a : Nat} (hms : MS M st ties day out nr ny) (hk : k < 3) (ha : a < 4) : sX11_endsOf (nI a) (nI k) M = some (VJ st ties day out nr ny k a) := by
  obtain ⟨h1, h2, ok, h3, h4, h5, hT, hs, hw, hy⟩ := id hms
  refine m_endsOf (fun b hb => ?_) (fun b hb => m_saying hms hb hk) (fun b hb => m_treats hms hb) (fun b hb => ?_) ha
  · rcases FR_spec (day := day) (out := out) (k := k) (a := b) hT ok with ⟨-, q2, q3⟩ | ⟨r, -, -, -, -, q4, q5⟩
    · rw [q2, q3]; exact ⟨by omega, hb⟩
    · exact ⟨q4, q5⟩
  · obtain ⟨w, hw, ew⟩ := hw b hb
    show M 1 (954 + b) = nI (st (954 + b)).toNatClampNeg ∧ _
    rw [h1, ew, nI_clamp (by omega)]
    exact ⟨rfl, hw⟩
theorem op_ends {S : Nat → Nat → Int32} {L : Nat → Nat → Int64} {M : Nat → Nat → Int32} (R : Rel S L M) (a b c : Int32) : ∃ r S' L' M', sX10_ends a b c S L = some (r, S', L') ∧ sX11_ends a b c M = some (r, M') ∧ Rel S' L' M' := by
  obtain ⟨nc, nt, nr, ny, nq, hN⟩ := id R
  rcases quest hN a b c with ⟨q1, q2⟩ | ⟨i, j, l, ⟨hi, rfl⟩, ⟨hj, rfl⟩, ⟨hl, rfl⟩, q1, q2⟩
  · refine ⟨-2, S, L, M, ?_, ?_, R⟩
    · unfold sX10_ends; rw [q1, g0]
    · unfold sX11_ends; rw [q2, g0]
  obtain ⟨S', L', M', ties, day, x1, m1, hX, hM, hms, hxs, hHS, h65⟩ := hearAt hN hj hl
  obtain ⟨S2, o1, o2⟩ := judgeX hxs hHS h65 hi
  have hX2 : EqX S' L' S2 L' := ⟨fun q hq => o2 q (fun e => by subst e; cases hq) (fun e => by subst e; cases hq), fun _ _ => rfl⟩
  refine ⟨VJ (M 1) ties day (fun _ => false) nr ny l i, S2, L', M', ?_, ?_, nc, nt, nr, ny, nq, hN.frame (hX.tr hX2) hM⟩
  · unfold sX10_ends
    rw [q1, g1, x1, ob2_some, o1, ob3_some]
  · unfold sX11_ends
    rw [q2, g1, m1, ob_some, judgeM hms hl hi, ob_some]
