-- ===== the fewest struck: the reference's search, and the call =====
theorem ms_at {S : Nat → Nat → Int32} {L : Nat → Nat → Int64} {M M' : Nat → Nat → Int32} {nc nt nr ny nq : Nat} (R : RelN S L M nc nt nr ny nq) {ties : Nat → Int32} {day : Int32} {out : Nat → Bool} (h1 : M' 1 = M 1) (hT : T6 ties) (h2 : ∀ t, t < 6 → M' 2 t = ties t) (hd : M' 0 2 = day) (h3 : ∀ r, r < 60 → M' 3 r = bI (out r)) : MS M' (M 1) ties day out nr ny := by
  obtain ⟨hC, hRC, hRR, hRB, hRW, hRY, hRT, hO⟩ := R
  exact ⟨h1, hC.2.2.1, fun r hr => (hRR.2.1 r hr).ok, h2, hd, fun r hr => h3 r (by have := hC.2.2.1.2; omega), hT, fun k hk => (hRW.1 k hk).2, fun a ha => (hRW.2 a ha).2, hC.2.2.2.1, fun j hj => ⟨(hRY.2 j hj).1.2, (hRY.2 j hj).2.1.2, (hRY.2 j hj).2.2.2⟩⟩
theorem m_alN {S : Nat → Nat → Int32} {L : Nat → Nat → Int64} {M0 : Nat → Nat → Int32} {nc nt nr ny nq : Nat} (R : RelN S L M0 nc nt nr ny nq) {out : Nat → Bool} : ∀ d c, c + d = nc → ∀ f, d + 1 < f → ∀ M : Nat → Nat → Int32, M 1 = M0 1 → (∀ r, r < 60 → M 3 r = bI (out r)) →
    ∃ M', lX11_allAlike_51 f 1 (nI c) M = some (bI (alN (M0 1) nt nr ny out d c), M') ∧ M' 1 = M 1 ∧ M' 3 = M 3 := by
  have b1 := R.1.1.2
  have b2 := R.1.2.1.2
  intro d
  induction d with
  | zero =>
    intro c hc f hf M h1 h3
    have e0 : M 1 0 = nI nc := by rw [h1]; exact R.1.1.1
    obtain ⟨f, rfl⟩ : ∃ g, f = g + 1 := ⟨f - 1, by omega⟩
    refine ⟨M, ?_, rfl, rfl⟩
    rw [lX11_allAlike_51, k0, cl0, e0, if_pos (nI_le (by omega) (by omega))]; rfl
  | succ d ih =>
    intro c hc f hf M h1 h3
    have e0 : M 1 0 = nI nc := by rw [h1]; exact R.1.1.1
    have hcn : c < nc := by omega
    obtain ⟨f, rfl⟩ : ∃ g, f = g + 1 := ⟨f - 1, by omega⟩
    obtain ⟨t1, t2, hk, t3, t4⟩ := tcS R hcn
    obtain ⟨M1, m1, m2, m3, m4⟩ := m_looksAt (M := M) (c := c) (nt := nt) (by omega) b2 (by rw [h1]; exact R.1.2.1.1)
    have hM1 : M1 1 = M 1 := m2 1 (by decide) (by decide)
    have hM3 : M1 3 = M 3 := m2 3 (by decide) (by decide)
    have hms : MS M1 (M0 1) (tc (M0 1) nt c) (M0 1 (10 + 2 * c)) out nr ny := ms_at R (hM1.trans h1) t2 (fun t ht => by rw [m4 t ht, h1]; rfl) (by rw [m3, h1]) (fun r hr => by rw [hM3]; exact h3 r hr)
    have e11 : 10 + 2 * nI c + 1 = nI (11 + 2 * c) := by show nI 10 + nI 2 * nI c + nI 1 = _; rw [pk_mul, nI_add, nI_add]; congr 1; omega
    have ea := m_areAlike hms hk
    have eA : alN (M0 1) nt nr ny out (d + 1) c = (AA (M0 1) (tc (M0 1) nt c) (M0 1 (10 + 2 * c)) out nr ny (kc (M0 1) c) && alN (M0 1) nt nr ny out d (c + 1)) := rfl
    rw [lX11_allAlike_51, k0, cl0, e0, if_neg (nI_ge (by omega) (by omega)), if_neg (by decide), m1, ob_some, e11, ck_n (by omega) (by decide), nI_clamp (by omega), hM1, h1, t4, ea, ob_some, bnd_e, nI_1, eA]
    cases hAA : AA (M0 1) (tc (M0 1) nt c) (M0 1 (10 + 2 * c)) out nr ny (kc (M0 1) c) with
    | true =>
      rw [bI_t, Bool.true_and]
      obtain ⟨M2, z1, z2, z3⟩ := ih (c + 1) (by omega) f (by omega) M1 (hM1.trans h1) (fun r hr => by rw [hM3]; exact h3 r hr)
      exact ⟨M2, z1, z2.trans (hM1.trans h1), z3.trans hM3⟩
    | false =>
      rw [bI_f, Bool.false_and]
      obtain ⟨f, rfl⟩ : ∃ g, f = g + 1 := ⟨f - 1, by omega⟩
      refine ⟨M1, ?_, hM1.trans h1, hM3⟩
      rw [lX11_allAlike_51, k0]
      by_cases q : M1 1 (0 : Int32).toNatClampNeg ≤ nI (c + 1)
      · rw [if_pos q]; rfl
      · rw [if_neg q, if_pos rfl]; rfl
theorem nI_inj {a b : Nat} (ha : a < 2 ^ 31) (hb : b < 2 ^ 31) (h : nI a = nI b) : a = b := by
  have : (nI a).toInt = (nI b).toInt := by rw [h]
  rw [nI_toInt ha, nI_toInt hb] at this
  omega
theorem m_setOut {st : Nat → Int32} {nq nr m : Nat} (h4 : st 4 = nI nq) (hq : nq ≤ 12) (hr : nr ≤ 60) (hm : m < 4096) (hin : ∀ j, j < nq → In (st (982 + j)) nr) (hd : ∀ i j, i < j → j < nq → st (982 + i) ≠ st (982 + j)) : ∀ d j, j + d = nq → ∀ f, d < f → ∀ M : Nat → Nat → Int32, M 1 = st → (∀ x, x < 60 → M 3 x = bI (oR st m j x)) →
    ∃ M', lX11_allAlike_2 (nI m) f (nI j) M = some M' ∧ (∀ k, k ≠ 3 → M' k = M k) ∧ (∀ x, 60 ≤ x → M' 3 x = M 3 x) ∧ ∀ x, x < 60 → M' 3 x = bI (oR st m nq x) := by
  intro d
  induction d with
  | zero =>
    intro j hj f hf M h1 h3
    obtain ⟨f, rfl⟩ : ∃ g, f = g + 1 := ⟨f - 1, by omega⟩
    refine ⟨M, ?_, fun _ _ => rfl, fun _ _ => rfl, fun x hx => by rw [h3 x hx, show j = nq by omega]⟩
    rw [lX11_allAlike_2, k4, cl4, h1, h4, if_pos (nI_le (by omega) (by omega))]
  | succ d ih =>
    intro j hj f hf M h1 h3
    obtain ⟨f, rfl⟩ : ∃ g, f = g + 1 := ⟨f - 1, by omega⟩
    obtain ⟨y, hy, ey⟩ := hin j (by omega)
    have e982 : 982 + nI j = nI (982 + j) := by show nI 982 + nI j = _; rw [nI_add]
    have hb := (b12 (j := j) hm (by omega)).1
    have hold : oR st m j y = false := oR_no j (fun i hi q => hd i j hi (by omega) (by rw [q, ey]))
    have main : ∀ v : Int32, v = bI (m.testBit j) → ∃ M', lX11_allAlike_2 (nI m) f (nI (j + 1)) (qu2 M 3 y v) = some M' ∧ (∀ k, k ≠ 3 → M' k = M k) ∧ (∀ x, 60 ≤ x → M' 3 x = M 3 x) ∧ ∀ x, x < 60 → M' 3 x = bI (oR st m nq x) := by
      intro v hv
      obtain ⟨M', z1, z2, z3, z4⟩ := ih (j + 1) (by omega) f (by omega) (qu2 M 3 y v) (by rw [qu2_ne (by decide)]; exact h1) (fun x hx => by
        rw [qu2_same]
        show _ = bI (oR st m j x || (decide (st (982 + j) = nI x) && m.testBit j))
        by_cases e : x = y
        · subst e; rw [pk_us, hold, decide_eq_true ey, Bool.true_and, Bool.false_or]; exact hv
        · rw [pk_un e, h3 x hx, decide_eq_false (fun q => e (nI_inj (by omega) (by omega) (q.symm.trans ey))), Bool.false_and, Bool.or_false])
      exact ⟨M', z1, fun k hk => (z2 k hk).trans (qu2_ne hk), fun x hx => by rw [z3 x hx, qu2_same, pk_un (by omega)], z4⟩
    rw [lX11_allAlike_2, k4, cl4, h1, h4, if_neg (nI_ge (by omega) (by omega)), e982, ck_n (by omega) (by decide), nI_clamp (by omega), ey, ck_n (by omega) (by decide), ck_n (by omega) (by decide), nI_clamp (by omega), bnd_e, bnd_e, bnd_e, bnd_e, nI_1]
    cases hT : m.testBit j with
    | true =>
      rw [if_pos (hb.mpr hT)]
      exact main (vp_nar .boolean 1) (by rw [hT]; decide)
    | false =>
      have hn : ¬ (nI m >>> (nI j &&& 31)) &&& 1 = 1 := fun q => by rw [hb.mp q] at hT; cases hT
      rw [if_neg hn]
      exact main (vp_nar .boolean 0) (by rw [hT]; decide)
theorem m_clrOut {st : Nat → Int32} {nq nr : Nat} {w : Int32} (h4 : st 4 = nI nq) (hq : nq ≤ 12) (hr : nr ≤ 60) (hin : ∀ j, j < nq → In (st (982 + j)) nr) : ∀ d j, j + d = nq → ∀ f, d < f → ∀ M : Nat → Nat → Int32, M 1 = st → (∀ x, x < 60 → (∀ i, j ≤ i → i < nq → st (982 + i) ≠ nI x) → M 3 x = 0) →
    ∃ M', lX11_allAlike_96 w f (nI j) M = some M' ∧ (∀ k, k ≠ 3 → M' k = M k) ∧ (∀ x, 60 ≤ x → M' 3 x = M 3 x) ∧ ∀ x, x < 60 → M' 3 x = 0 := by
  intro d
  induction d with
  | zero =>
    intro j hj f hf M h1 h3
    obtain ⟨f, rfl⟩ : ∃ g, f = g + 1 := ⟨f - 1, by omega⟩
    refine ⟨M, ?_, fun _ _ => rfl, fun _ _ => rfl, fun x hx => h3 x hx (fun i i1 i2 => by omega)⟩
    rw [lX11_allAlike_96, k4, cl4, h1, h4, if_pos (nI_le (by omega) (by omega))]
  | succ d ih =>
    intro j hj f hf M h1 h3
    obtain ⟨f, rfl⟩ : ∃ g, f = g + 1 := ⟨f - 1, by omega⟩
    obtain ⟨y, hy, ey⟩ := hin j (by omega)
    have e982 : 982 + nI j = nI (982 + j) := by show nI 982 + nI j = _; rw [nI_add]
    obtain ⟨M', z1, z2, z3, z4⟩ := ih (j + 1) (by omega) f (by omega) (qu2 M 3 y (vp_nar .boolean 0)) (by rw [qu2_ne (by decide)]; exact h1) (fun x hx hno => by
      rw [qu2_same]
      by_cases e : x = y
      · subst e; rw [pk_us]; decide
      · rw [pk_un e]
        refine h3 x hx (fun i i1 i2 => ?_)
        by_cases ei : i = j
        · subst ei; intro q; exact e (nI_inj (by omega) (by omega) (q.symm.trans ey))
        · exact hno i (by omega) i2)
    refine ⟨M', ?_, fun k hk => (z2 k hk).trans (qu2_ne hk), fun x hx => by rw [z3 x hx, qu2_same, pk_un (by omega)], z4⟩
    rw [lX11_allAlike_96, k4, cl4, h1, h4, if_neg (nI_ge (by omega) (by omega)), e982, ck_n (by omega) (by decide), nI_clamp (by omega), ey, ck_n (by omega) (by decide), nI_clamp (by omega), bnd_e, bnd_e, nI_1]
    exact z1
theorem m_allAlikeM {S : Nat → Nat → Int32} {L : Nat → Nat → Int64} {M : Nat → Nat → Int32} {nc nt nr ny nq m : Nat} (R : RelN S L M nc nt nr ny nq) (hm : m < 4096) : ∃ M', sX11_allAlike (nI m) M = some (bI (AQm (M 1) nc nt nr ny nq m), M') ∧ EqM M M' := by
  have b1 := R.1.1.2
  have b3 := R.1.2.2.1.2
  have b5 := R.1.2.2.2.2.2
  have h4 := R.1.2.2.2.2.1
  obtain ⟨-, t2, t3⟩ := R.2.2.2.2.2.2.1
  have hO := R.2.2.2.2.2.2.2
  obtain ⟨M1, a1, a2, a3, a4⟩ := m_setOut h4 b5 b3 hm (fun j hj => (t2 j hj).2) t3 nq 0 (by omega) FU (by unfold FU; omega) M rfl (fun x hx => hO x hx)
  have a1' : lX11_allAlike_2 (nI m) FU 0 M = some M1 := a1
  obtain ⟨M2, z1, z2, z3⟩ := m_alN R nc 0 (by omega) FU (by unfold FU; omega) M1 (a2 1 (by decide)) a4
  have z1' : lX11_allAlike_51 FU 1 0 M1 = some (bI (AQm (M 1) nc nt nr ny nq m), M2) := z1
  obtain ⟨M3, y1, y2, y3, y4⟩ := m_clrOut (w := bI (AQm (M 1) nc nt nr ny nq m)) h4 b5 b3 (fun j hj => (t2 j hj).2) nq 0 (by omega) FU (by unfold FU; omega) M2 (z2.trans (a2 1 (by decide))) (fun x hx hno => by
    rw [z3, a4 x hx, oR_no nq (fun i hi => hno i (by omega) hi)]; rfl)
  have y1' : lX11_allAlike_96 (bI (AQm (M 1) nc nt nr ny nq m)) FU 0 M2 = some M3 := y1
  refine ⟨M3, ?_, (y2 1 (by decide)).trans (z2.trans (a2 1 (by decide))), ?_⟩
  · unfold sX11_allAlike
    rw [a1', ob_some, z1', ob2_some, y1', ob_some, zk_in (bI_01 _)]
  · funext x
    by_cases hx : x < 60
    · rw [y4 x hx, hO x hx]
    · rw [y3 x (by omega), z3, a3 x (by omega)]
theorem m_few {S : Nat → Nat → Int32} {L : Nat → Nat → Int64} {nc nt nr ny nq : Nat} {st : Nat → Int32} : ∀ d s, s + d = 2 ^ nq → ∀ f, d < f → ∀ (o : Option Nat) (M : Nat → Nat → Int32), M 1 = st → RelN S L M nc nt nr ny nq → fwS (AQm st nc nt nr ny nq) s o →
    ∃ o' M', lX11_fewest_16 f (oI o) (nI s) M = some (oI o', M') ∧ EqM M M' ∧ fwS (AQm st nc nt nr ny nq) (2 ^ nq) o' := by
  intro d
  induction d with
  | zero =>
    intro s hs f hf o M hst R hF
    have b5 := R.1.2.2.2.2.2
    have h4 := R.1.2.2.2.2.1
    obtain ⟨q1, q2⟩ := sh12 nq (by omega)
    obtain ⟨f, rfl⟩ : ∃ g, f = g + 1 := ⟨f - 1, by omega⟩
    refine ⟨o, M, ?_, ⟨rfl, rfl⟩, by rw [show 2 ^ nq = s by omega]; exact hF⟩
    rw [lX11_fewest_16, k4, cl4, h4, q1, if_pos (nI_le (by omega) (by omega))]
  | succ d ih =>
    intro s hs f hf o M hst R hF
    have b5 := R.1.2.2.2.2.2
    have h4 := R.1.2.2.2.2.1
    obtain ⟨q1, q2⟩ := sh12 nq (by omega)
    have hs4 : s < 4096 := by omega
    obtain ⟨f, rfl⟩ : ∃ g, f = g + 1 := ⟨f - 1, by omega⟩
    obtain ⟨M1, a1, a2⟩ := m_allAlikeM R hs4
    rw [hst] at a1
    rw [lX11_fewest_16, k4, cl4, h4, q1, if_neg (nI_ge (by omega) (by omega)), m_sizeOf hs4, ob_some, a1, ob2_some]
    simp only [bnd_e, nI_1]
    have go : ∀ o2, fwS (AQm st nc nt nr ny nq) (s + 1) o2 → ∃ o' M', lX11_fewest_16 f (oI o2) (nI (s + 1)) M1 = some (oI o', M') ∧ EqM M M' ∧ fwS (AQm st nc nt nr ny nq) (2 ^ nq) o' := fun o2 h2 => by
      obtain ⟨o', M', z1, z2, z3⟩ := ih (s + 1) (by omega) f (by omega) o2 M1 (a2.1.trans hst) (R.frame EqX.rf a2) h2
      exact ⟨o', M', z1, ⟨z2.1.trans a2.1, z2.2.trans a2.2⟩, z3⟩
    cases o with
    | none =>
      rw [oI_none, if_pos rfl]
      cases hA : AQm st nc nt nr ny nq s with
      | false =>
        rw [bI_f, if_pos rfl, ← oI_none]
        refine go none (fun m hm => ?_)
        by_cases e : m = s
        · rw [e]; exact hA
        · exact hF m (by omega)
      | true =>
        rw [bI_t, if_neg (by decide), ← oI_some]
        refine go (some s) ⟨by omega, hA, fun m hm hmA => ?_⟩
        by_cases e : m = s
        · rw [e]; exact Or.inr ⟨rfl, Nat.le_refl _⟩
        · have := hF m (by omega); rw [hmA] at this; cases this
    | some b =>
      obtain ⟨f1, f2, f3⟩ := hF
      have hpb := pcN_le 12 12 b (by omega)
      have hps := pcN_le 12 12 s (by omega)
      rw [oI_some, if_neg (nI_ne_m1 (by omega)), m_sizeOf (by omega), ob_some]
      have keep : (AQm st nc nt nr ny nq s = true → pcN 12 b ≤ pcN 12 s) → fwS (AQm st nc nt nr ny nq) (s + 1) (some b) := fun hh => ⟨by omega, f2, fun m hm hmA => by
        by_cases e : m = s
        · subst e; have := hh hmA; omega
        · exact f3 m (by omega) hmA⟩
      by_cases c : pcN 12 b ≤ pcN 12 s
      · rw [if_pos (nI_le c (by omega)), ← oI_some]
        obtain ⟨o', M', z1, z2, z3⟩ := ih (s + 1) (by omega) f (by omega) (some b) M hst R (keep (fun _ => c))
        exact ⟨o', M', z1, z2, z3⟩
      · have hn : ¬ nI (pcN 12 b) ≤ nI (pcN 12 s) := nI_ge (by omega) (by omega)
        rw [if_neg hn]
        cases hA : AQm st nc nt nr ny nq s with
        | false =>
          rw [bI_f, if_pos rfl, ← oI_some]
          exact go (some b) (keep (fun q => by rw [hA] at q; cases q))
        | true =>
          rw [bI_t, if_neg (by decide), ← oI_some]
          refine go (some s) ⟨by omega, hA, fun m hm hmA => ?_⟩
          by_cases e : m = s
          · rw [e]; exact Or.inr ⟨rfl, Nat.le_refl _⟩
          · have := f3 m (by omega) hmA; omega
theorem op_fewest {S : Nat → Nat → Int32} {L : Nat → Nat → Int64} {M : Nat → Nat → Int32} (R : Rel S L M) : ∃ r S' L' M', sX10_fewest S L = some (r, S', L') ∧ sX11_fewest M = some (r, M') ∧ Rel S' L' M' := by
  obtain ⟨nc, nt, nr, ny, nq, hN⟩ := id R
  have b1 := hN.1.1.2
  have b5 := hN.1.2.2.2.2.2
  have e1 : S 1 0 = nI nc := hN.2.1.1
  have e2 : M 1 0 = nI nc := hN.1.1.1
  unfold sX10_fewest sX11_fewest
  rw [k0, cl0, e1, e2]
  by_cases c : nI nc = 0
  · rw [if_pos c, if_pos c]; exact ⟨-3, S, L, M, rfl, rfl, R⟩
  · rw [if_neg c, if_neg c]
    obtain ⟨q1, q2⟩ := sh12 nq (by omega)
    obtain ⟨S1, L1, x1, x2, x3⟩ := x_heldAll nc 0 (by omega) FU (by unfold FU; omega) S L hN (fun x hx => by omega)
    have x1' : lX7_fewestOf_2 FU 0 S L = some (S1, L1) := x1
    obtain ⟨S2, L2, y1, y2⟩ := x_few (nq + 1) 0 (by omega) FU (by unfold FU; omega) S1 L1 (hN.frame x2 ⟨rfl, rfl⟩) x3
    have y1' : sX7_fewestOf S L = some (oI (fwX (M 1) nc nt nr ny nq (nq + 1) 0), S2, L2) := by
      unfold sX7_fewestOf
      rw [x1', ob2_some]
      exact y1
    obtain ⟨o', M', z1, z2, z3⟩ := m_few (st := M 1) (2 ^ nq) 0 (by omega) FU (by unfold FU; omega) none M rfl hN (fun m hm => by omega)
    have z1' : lX11_fewest_16 FU (-1) 0 M = some (oI o', M') := z1
    have hs := fwX_spec (st := M 1) (nc := nc) (nt := nt) (nr := nr) (ny := ny) (nq := nq) (nq + 1) 0 (by omega) (fun m hm _ => by omega)
    rw [fwS_one hs z3] at y1'
    rw [y1', ob3_some, z1', ob2_some]
    exact ⟨oI o', S2, L2, M', rfl, rfl, nc, nt, nr, ny, nq, hN.frame (x2.tr y2) z2⟩
