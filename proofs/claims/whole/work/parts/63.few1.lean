-- ===== the fewest struck: what a set strikes, whether all end alike =====
def oR (st : Nat → Int32) (m : Nat) : Nat → Nat → Bool
  | 0, _ => false
  | n + 1, r => oR st m n r || (decide (st (982 + n) = nI r) && m.testBit n)
theorem oR_no {st : Nat → Int32} {m r : Nat} : ∀ n, (∀ i, i < n → st (982 + i) ≠ nI r) → oR st m n r = false
  | 0, _ => rfl
  | n + 1, h => by
    unfold oR
    rw [oR_no n (fun i hi => h i (by omega)), decide_eq_false (h n (by omega))]; rfl
def tc (st : Nat → Int32) (nt c : Nat) : Nat → Int32 := fun t => (lk st c t nt).1
def kc (st : Nat → Int32) (c : Nat) : Nat := (st (11 + 2 * c)).toNatClampNeg
def aC (st : Nat → Int32) (nt nr ny : Nat) (out : Nat → Bool) (c : Nat) : Bool := AA st (tc st nt c) (st (10 + 2 * c)) out nr ny (kc st c)
def alN (st : Nat → Int32) (nt nr ny : Nat) (out : Nat → Bool) : Nat → Nat → Bool
  | 0, _ => true
  | d + 1, c => aC st nt nr ny out c && alN st nt nr ny out d (c + 1)
theorem tcS {S : Nat → Nat → Int32} {L : Nat → Nat → Int64} {M : Nat → Nat → Int32} {nc nt nr ny nq c : Nat} (R : RelN S L M nc nt nr ny nq) (hc : c < nc) : (∀ t, t < 6 → S 15 (6 * c + t) = tc (M 1) nt c t) ∧ T6 (tc (M 1) nt c) ∧ kc (M 1) c < 3 ∧ S 14 c = nI (kc (M 1) c) ∧ M 1 (11 + 2 * c) = nI (kc (M 1) c) := by
  have hRC := R.2.1
  refine ⟨fun t ht => (hRC.2.2.2.2.1 c t hc ht).1, fun t ht => lk_in nt (fun j hj => (hRC.2.2.2.2.2.2 j hj).2.2.1), ?_⟩
  obtain ⟨-, -, q3, k, hk, ek⟩ := hRC.2.2.1 c hc
  have : kc (M 1) c = k := by unfold kc; rw [ek, nI_clamp (by omega)]
  rw [this]
  exact ⟨hk, q3.trans ek, ek⟩
theorem HeldO.congr {st ties ties' : Nat → Int32} {day : Int32} {out : Nat → Bool} {nr : Nat} {b : Int64} (ok : ∀ r, r < nr → OKr st r) (h : ∀ t, t < 6 → ties' t = ties t) (H : HeldO st ties' day out nr b) : HeldO st ties day out nr b := by
  intro r hr
  rw [H r hr]
  constructor
  · rintro ⟨a, b, c⟩; exact ⟨a, b, by rw [← holds_congr (ok r a) h]; exact c⟩
  · rintro ⟨a, b, c⟩; exact ⟨a, b, by rw [holds_congr (ok r a) h]; exact c⟩
/-- the class finds of each CASE what holds -/
theorem x_heldAll {nc nt nr ny nq : Nat} {M : Nat → Nat → Int32} : ∀ d c, c + d = nc → ∀ f, d < f → ∀ (S : Nat → Nat → Int32) (L : Nat → Nat → Int64), RelN S L M nc nt nr ny nq → (∀ x, x < c → HeldO (M 1) (tc (M 1) nt x) (M 1 (10 + 2 * x)) (fun _ => false) nr (L 40 x)) →
    ∃ S' L', lX7_fewestOf_2 f (nI c) S L = some (S', L') ∧ EqX S L S' L' ∧ ∀ x, x < nc → HeldO (M 1) (tc (M 1) nt x) (M 1 (10 + 2 * x)) (fun _ => false) nr (L' 40 x) := by
  intro d
  induction d with
  | zero =>
    intro c hc f hf S L R hH
    have b1 := R.1.1.2
    have e1 : S 1 0 = nI nc := R.2.1.1
    obtain ⟨f, rfl⟩ : ∃ g, f = g + 1 := ⟨f - 1, by omega⟩
    refine ⟨S, L, ?_, EqX.rf, fun x hx => hH x (by omega)⟩
    rw [lX7_fewestOf_2, e1, if_pos (nI_le (by omega) (by omega))]
  | succ d ih =>
    intro c hc f hf S L R hH
    have b1 := R.1.1.2
    have e1 : S 1 0 = nI nc := R.2.1.1
    have hcn : c < nc := by omega
    obtain ⟨f, rfl⟩ : ∃ g, f = g + 1 := ⟨f - 1, by omega⟩
    obtain ⟨t1, t2, -⟩ := tcS R hcn
    have ok : ∀ r, r < nr → OKr (M 1) r := fun r hr => (R.2.2.1.2.1 r hr).ok
    obtain ⟨S1, L1, x1, x2, x3, x4, x5⟩ := x_open R hcn (fun t ht => by rw [t1 t ht]; exact t2 t ht)
    have hE : EqX S L S1 (qu2L L1 40 c (L1 6 4)) := ⟨fun k hk => x2 k (fun e => by subst e; cases hk), fun k hk => by
      rw [qu2L_ne (fun e => by subst e; cases hk)]; exact x4 k (fun e => by subst e; cases hk)⟩
    obtain ⟨S2, L2, y1, y2, y3⟩ := ih (c + 1) (by omega) f (by omega) S1 (qu2L L1 40 c (L1 6 4)) (R.frame hE ⟨rfl, rfl⟩) (fun x hx => by
      rw [qu2L_same]
      by_cases e : x = c
      · subst e; rw [show vp_updL (L1 40) x (L1 6 4) x = L1 6 4 from if_pos rfl]
        exact x5.congr ok (fun t ht => by rw [x3 t ht, t1 t ht])
      · rw [show vp_updL (L1 40) c (L1 6 4) x = L1 40 x from if_neg e, x4 40 (by decide)]
        exact hH x (by omega))
    refine ⟨S2, L2, ?_, hE.tr y2, y3⟩
    rw [lX7_fewestOf_2, e1, if_neg (nI_ge (by omega) (by omega)), x1, ob2_some, ck_n (by omega) (by decide), nI_clamp (by omega), bnd_e, bnd_e, nI_1]
    exact y1
theorem x_rulesAt {S : Nat → Nat → Int32} {L : Nat → Nat → Int64} {st : Nat → Int32} {nq nr m : Nat} (R : RT (S 5) (S 34) st nq nr) (hq : nq ≤ 12) (hr : nr ≤ 60) (hm : m < 4096) : ∃ b, sX9_rulesAt (nI m) S L = some b ∧ ∀ r, r < 64 → lb b r = oR st m nq r := by
  have key : ∀ d j, j + d = nq → ∀ f, d < f → ∀ v : Int64, (∀ r, r < 64 → lb v r = oR st m j r) → ∃ b, lX9_rulesAt_5 (nI m) S L f v (nI j) = some b ∧ ∀ r, r < 64 → lb b r = oR st m nq r := by
    intro d
    induction d with
    | zero =>
      intro j hj f hf v hv
      obtain ⟨f, rfl⟩ : ∃ g, f = g + 1 := ⟨f - 1, by omega⟩
      refine ⟨v, ?_, fun r hr => by rw [hv r hr, show j = nq by omega]⟩
      rw [lX9_rulesAt_5, R.1, if_pos (nI_le (by omega) (by omega))]
    | succ d ih =>
      intro j hj f hf v hv
      obtain ⟨f, rfl⟩ : ∃ g, f = g + 1 := ⟨f - 1, by omega⟩
      obtain ⟨e1, x, hx, e2⟩ := R.2.1 j (by omega)
      have hb := (b12 (j := j) hm (by omega)).2
      rw [lX9_rulesAt_5, R.1, if_neg (nI_ge (by omega) (by omega))]
      cases hT : m.testBit j with
      | false =>
        rw [if_pos (hb.mpr hT), bnd_e, nI_1]
        exact ih (j + 1) (by omega) f (by omega) v (fun r hr => by rw [hv r hr]; show _ = (oR st m j r || (_ && m.testBit j)); rw [hT, Bool.and_false, Bool.or_false])
      | true =>
        have hn : ¬ iush (nI m) (nI j) &&& 1 = 0 := fun q => by rw [hb.mp q] at hT; cases hT
        rw [if_neg hn, ck_n (by omega) (by decide), nI_clamp (by omega), bnd_e, bnd_e, nI_1]
        refine ih (j + 1) (by omega) f (by omega) _ (fun r hr => ?_)
        rw [e1, e2, lb_or1 _ (by omega) hr, hv r hr]
        show _ = (oR st m j r || (decide (st (982 + j) = nI r) && m.testBit j))
        rw [hT, Bool.and_true, e2]
        congr 1
        apply Bool.eq_iff_iff.mpr
        rw [decide_eq_true_iff, decide_eq_true_iff]
        constructor
        · intro h; rw [h]
        · intro h
          have : (nI x).toInt = (nI r).toInt := by rw [h]
          rw [nI_toInt (by omega), nI_toInt (by omega)] at this
          omega
  obtain ⟨b, h1, h2⟩ := key nq 0 (by omega) FU (by unfold FU; omega) 0 (fun r hr => lb_zero r)
  refine ⟨b, ?_, h2⟩
  unfold sX9_rulesAt
  rw [show lX9_rulesAt_5 (nI m) S L FU 0 0 = some b from h1, ob_some]
/-- the class: whether all end alike without those struck -/
theorem x_without {nc nt nr ny nq : Nat} {M : Nat → Nat → Int32} {b : Int64} {out : Nat → Bool} (hb : ∀ r, r < 64 → lb b r = out r) : ∀ d c, c + d = nc → ∀ f, d < f → ∀ (S : Nat → Nat → Int32) (L : Nat → Nat → Int64), RelN S L M nc nt nr ny nq → (∀ x, x < nc → HeldO (M 1) (tc (M 1) nt x) (M 1 (10 + 2 * x)) (fun _ => false) nr (L 40 x)) →
    ∃ S' L', os2 (lX7_allAlikeWithout_2 b f (nI c) S L) (un2 fun S21 L22 => some (0, S21, L22)) (un2 fun S23 L24 => some (1, S23, L24)) = some (bI (alN (M 1) nt nr ny out d c), S', L') ∧ EqX S L S' L' ∧ L' 40 = L 40 := by
  intro d
  induction d with
  | zero =>
    intro c hc f hf S L R hH
    have b1 := R.1.1.2
    have e1 : S 1 0 = nI nc := R.2.1.1
    obtain ⟨f, rfl⟩ : ∃ g, f = g + 1 := ⟨f - 1, by omega⟩
    refine ⟨S, L, ?_, EqX.rf, rfl⟩
    rw [lX7_allAlikeWithout_2, e1, if_pos (nI_le (by omega) (by omega))]; rfl
  | succ d ih =>
    intro c hc f hf S L R hH
    have b1 := R.1.1.2
    have b3 := R.1.2.2.1.2
    have e1 : S 1 0 = nI nc := R.2.1.1
    have hcn : c < nc := by omega
    obtain ⟨f, rfl⟩ : ∃ g, f = g + 1 := ⟨f - 1, by omega⟩
    obtain ⟨t1, t2, hk, t3, t4⟩ := tcS R hcn
    have ok : ∀ r, r < nr → OKr (M 1) r := fun r hr => (R.2.2.1.2.1 r hr).ok
    obtain ⟨S1, s1, s2, s3⟩ := x_takeTies (S := S) (L := L) (c := c) (by omega)
    generalize hL1 : qu2L L 6 4 ((L 40 c) &&& (b ^^^ (-1))) = L1
    have l1 : ∀ k, k ≠ 6 → L1 k = L k := fun k hk => by rw [← hL1, qu2L_ne hk]
    have l2 : L1 6 4 = (L 40 c) &&& (b ^^^ (-1)) := by rw [← hL1, qu2L_same]; exact if_pos rfl
    have hE1 : EqX S L S1 L1 := ⟨fun k hk => s2 k (fun e => by subst e; cases hk), fun k hk => l1 k (fun e => by subst e; cases hk)⟩
    have hH1 : HeldO (M 1) (tc (M 1) nt c) (M 1 (10 + 2 * c)) out nr (L1 6 4) := by
      intro r hr
      rw [l2, lb_and, lb_not _ hr, hb r hr, Bool.and_eq_true, hH c hcn r hr]
      cases out r <;> simp
    have hxs : XS S1 L1 (M 1) (tc (M 1) nt c) (M 1 (10 + 2 * c)) out nr ny := xs_of (R.frame hE1 ⟨rfl, rfl⟩) t2 (fun t ht => by rw [s3 t ht, t1 t ht]) hH1
    obtain ⟨S2, r1, r2, r3, r4⟩ := x_readBooks hxs hk
    have hxs2 : XS S2 L1 (M 1) (tc (M 1) nt c) (M 1 (10 + 2 * c)) out nr ny := hxs.frame (fun q hq => r2 q (fun e => by subst e; rcases hq with h | h <;> cases h) (fun e => by subst e; rcases hq with h | h <;> cases h) (fun e => by subst e; rcases hq with h | h <;> cases h))
    have hHS2 : HS S2 (sE (M 1) (tc (M 1) nt c) (M 1 (10 + 2 * c)) out nr (kc (M 1) c)) (sT (M 1) (tc (M 1) nt c) (M 1 (10 + 2 * c)) out nr (kc (M 1) c)) := ⟨fun a ha => by
      rcases FR_spec (day := M 1 (10 + 2 * c)) (out := out) (k := kc (M 1) c) (a := a) t2 ok with ⟨-, q2, q3⟩ | ⟨r, -, -, -, -, q4, q5⟩
      · rw [q2, q3]; exact ⟨by omega, ha⟩
      · exact ⟨q4, q5⟩, r4⟩
    have hE2 : EqX S L S2 L1 := hE1.tr ⟨fun q hq => r2 q (fun e => by subst e; cases hq) (fun e => by subst e; cases hq) (fun e => by subst e; cases hq), fun _ _ => rfl⟩
    obtain ⟨S3, a1, a2, -⟩ := x_allAlike (d2 := 0) hxs2 hHS2 r3
    have hE3 := hE2.tr a2
    have eU : alN (M 1) nt nr ny out (d + 1) c = (aC (M 1) nt nr ny out c && alN (M 1) nt nr ny out d (c + 1)) := rfl
    have eA : aC (M 1) nt nr ny out c = AA (M 1) (tc (M 1) nt c) (M 1 (10 + 2 * c)) out nr ny (kc (M 1) c) := rfl
    rw [lX7_allAlikeWithout_2, e1, if_neg (nI_ge (by omega) (by omega)), s1, ob2_some, ck_n (by omega) (by decide), nI_clamp (by omega), bnd_e, hL1, ck_n (by omega) (by decide), s2 14 (by decide), t3, r1, ob2_some, a1, ob3_some, eU, eA]
    cases hAA : AA (M 1) (tc (M 1) nt c) (M 1 (10 + 2 * c)) out nr ny (kc (M 1) c) with
    | false =>
      refine ⟨S3, L1, ?_, hE3, l1 40 (by decide)⟩
      rw [bI_f, if_pos rfl, Bool.false_and]; rfl
    | true =>
      rw [bI_t, if_neg (by decide), bnd_e, nI_1, Bool.true_and]
      obtain ⟨S4, L4, z1, z2, z3⟩ := ih (c + 1) (by omega) f (by omega) S3 L1 (R.frame hE3 ⟨rfl, rfl⟩) (fun x hx => by rw [l1 40 (by decide)]; exact hH x hx)
      exact ⟨S4, L4, z1, hE3.tr z2, z3.trans (l1 40 (by decide))⟩
