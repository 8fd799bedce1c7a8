-- ===== frames: what is no state =====
def scS (k : Nat) : Bool := k == 6 || k == 7 || k == 10 || k == 11 || k == 12 || k == 35 || k == 36 || k == 37 || k == 38 || k == 41 || k == 42
def scL (k : Nat) : Bool := k == 6 || k == 39 || k == 40
def EqX (S : Nat → Nat → Int32) (L : Nat → Nat → Int64) (S' : Nat → Nat → Int32) (L' : Nat → Nat → Int64) : Prop := (∀ k, scS k = false → S' k = S k) ∧ ∀ k, scL k = false → L' k = L k
theorem EqX.rf {S : Nat → Nat → Int32} {L : Nat → Nat → Int64} : EqX S L S L := ⟨fun _ _ => rfl, fun _ _ => rfl⟩
theorem EqX.tr {S S1 S2 : Nat → Nat → Int32} {L L1 L2 : Nat → Nat → Int64} (h : EqX S L S1 L1) (g : EqX S1 L1 S2 L2) : EqX S L S2 L2 := ⟨fun k hk => (g.1 k hk).trans (h.1 k hk), fun k hk => (g.2 k hk).trans (h.2 k hk)⟩
def EqM (M M' : Nat → Nat → Int32) : Prop := M' 1 = M 1 ∧ M' 3 = M 3
theorem RelN.frame {S S' : Nat → Nat → Int32} {L L' : Nat → Nat → Int64} {M M' : Nat → Nat → Int32} {nc nt nr ny nq : Nat} (R : RelN S L M nc nt nr ny nq) (hX : EqX S L S' L') (hM : EqM M M') : RelN S' L' M' nc nt nr ny nq := by
  unfold RelN at R ⊢
  rw [hM.1, hM.2, hX.2 26 rfl, hX.2 27 rfl, hX.2 28 rfl, hX.1 1 rfl, hX.1 13 rfl, hX.1 14 rfl, hX.1 15 rfl, hX.1 16 rfl, hX.1 2 rfl, hX.1 17 rfl, hX.1 18 rfl, hX.1 19 rfl, hX.1 20 rfl, hX.1 21 rfl, hX.1 22 rfl, hX.1 23 rfl, hX.1 24 rfl, hX.1 25 rfl, hX.1 29 rfl, hX.1 30 rfl, hX.1 4 rfl, hX.1 31 rfl, hX.1 32 rfl, hX.1 33 rfl, hX.1 5 rfl, hX.1 34 rfl]
  exact R
theorem Rel.frame {S S' : Nat → Nat → Int32} {L L' : Nat → Nat → Int64} {M M' : Nat → Nat → Int32} (R : Rel S L M) (hX : EqX S L S' L') (hM : EqM M M') : Rel S' L' M' := by
  obtain ⟨nc, nt, nr, ny, nq, R⟩ := R
  exact ⟨nc, nt, nr, ny, nq, R.frame hX hM⟩
def HeldO (st ties : Nat → Int32) (day : Int32) (out : Nat → Bool) (nr : Nat) (b : Int64) : Prop := ∀ r, r < 64 → (lb b r = true ↔ (r < nr ∧ out r = false ∧ p_holds st ties day r = true))
-- ===== a CASE is opened =====
theorem x_open {S : Nat → Nat → Int32} {L : Nat → Nat → Int64} {M : Nat → Nat → Int32} {nc nt nr ny nq c : Nat} (R : RelN S L M nc nt nr ny nq) (hc : c < nc) (hT : ∀ t, t < 6 → In1 (S 15 (6 * c + t)) 4) :
    ∃ S' L', sX4_open (nI c) S L = some (S', L') ∧ (∀ k, k ≠ 35 → S' k = S k) ∧ (∀ t, t < 6 → S' 35 t = S 15 (6 * c + t)) ∧ (∀ k, k ≠ 6 → L' k = L k) ∧ HeldO (M 1) (S' 35) (M 1 (10 + 2 * c)) (fun _ => false) nr (L' 6 4) := by
  obtain ⟨hC, hRC, hRR, hRB, -⟩ := R
  have b1 := hC.1.2
  have b3 := hC.2.2.1.2
  obtain ⟨S1, s1, s2, s3⟩ := x_takeTies (S := S) (L := L) (c := c) (by omega)
  have hd : S1 13 c = M 1 (10 + 2 * c) := by rw [s2 13 (by decide)]; exact (hRC.2.2.1 c hc).1
  obtain ⟨b, t1, t2⟩ := x_standing (S := S1) (L := L) (st := M 1) (nr := nr) b3 (by rw [s2 2 (by decide)]; exact hRR.1) (fun r hr => by rw [s2 21 (by decide)]; exact (hRR.2.1 r hr).2.2.2.2.1.1) (fun r hr => by rw [s2 22 (by decide)]; exact (hRR.2.1 r hr).2.2.2.2.2.1.1) (M 1 (10 + 2 * c))
  have hT1 : T6 (S1 35) := fun t ht => by rw [s3 t ht]; exact hT t ht
  have key : ∀ d v, v + d = 6 → ∀ f, d < f → ∀ L0 : Nat → Nat → Int64, (∀ k, k ≠ 6 → L0 k = L k) → ∃ L', lX4_open_25 f (nI v) S1 L0 = some (S1, L') ∧ (∀ k, k ≠ 6 → L' k = L k) ∧ ∀ r, r < 64 → (lb (L' 6 4) r = true ↔ (lb (L0 6 4) r = true ∧ ∀ t, v ≤ t → t < 6 → ¬ (r < nr ∧ ¬ LB (M 1) (S1 35) r t))) := by
    intro d
    induction d with
    | zero =>
      intro v hv f hf L0 hL0
      obtain ⟨f, rfl⟩ : ∃ g, f = g + 1 := ⟨f - 1, by omega⟩
      refine ⟨L0, ?_, hL0, fun r hr => ⟨fun h => ⟨h, fun t h1 h2 => by omega⟩, fun h => h.1⟩⟩
      rw [lX4_open_25, if_pos (show (6 : Int32) ≤ nI v from nI_le (a := 6) (by omega) (by omega))]
    | succ d ih =>
      intro v hv f hf L0 hL0
      obtain ⟨f, rfl⟩ : ∃ g, f = g + 1 := ⟨f - 1, by omega⟩
      have hB0 : RB (L0 26) (L0 27) (L0 28) (M 1) nr := by rw [hL0 26 (by decide), hL0 27 (by decide), hL0 28 (by decide)]; exact hRB
      obtain ⟨y, y1, y2⟩ := x_letBy (S := S1) (L := L0) (t := v) b3 (by omega) hT1 hB0
      obtain ⟨L', l1, l2, l3⟩ := ih (v + 1) (by omega) f (by omega) (qu2L L0 6 4 (L0 6 4 &&& y)) (fun k hk => by rw [qu2L_ne hk]; exact hL0 k hk)
      refine ⟨L', ?_, l2, fun r hr => ?_⟩
      · rw [lX4_open_25, if_neg (show ¬ (6 : Int32) ≤ nI v from nI_ge (b := 6) (by omega) (by decide)), y1, ob_some, bnd_e, bnd_e, nI_1]
        exact l1
      · rw [l3 r hr, qu2L_same, pk_uLs, lb_and, Bool.and_eq_true, y2 r hr]
        constructor
        · rintro ⟨⟨h1, h2⟩, h3⟩
          refine ⟨h1, fun t p1 p2 => ?_⟩
          by_cases e : t = v
          · subst e; exact h2
          · exact h3 t (by omega) p2
        · rintro ⟨h1, h2⟩
          exact ⟨⟨h1, h2 v (by omega) (by omega)⟩, fun t p1 p2 => h2 t (by omega) p2⟩
  obtain ⟨L', l1, l2, l3⟩ := key 6 0 (by omega) FU (by unfold FU; omega) (qu2L L 6 4 b) (fun k hk => qu2L_ne hk)
  refine ⟨S1, L', ?_, s2, s3, l2, fun r hr => ?_⟩
  · unfold sX4_open
    rw [s1, ob2_some, ck_n (by omega) (by decide), nI_clamp (by omega), hd, t1, ob_some, bnd_e, show lX4_open_25 FU 0 S1 _ = _ from l1, ob2_some]
  · rw [l3 r hr, qu2L_same, pk_uLs, t2 r hr]
    constructor
    · rintro ⟨⟨h1, h2⟩, h3⟩
      exact ⟨h1, rfl, (holds_iff (hRR.2.1 r h1).ok).mpr ⟨h2, fun t ht => Classical.byContradiction (fun q => h3 t (by omega) ht ⟨h1, q⟩)⟩⟩
    · rintro ⟨h1, -, h2⟩
      obtain ⟨h3, h4⟩ := (holds_iff (hRR.2.1 r h1).ok).mp h2
      exact ⟨⟨h1, h3⟩, fun t p1 p2 q => q.2 (h4 t p2)⟩
-- ===== the reference looks at a CASE =====
theorem m_looksIn {st : Nat → Int32} {c t nt : Nat} (ht : t < 6) (hn : nt ≤ 60) (h1 : st 1 = nI nt) : ∀ d i, i + d = nt → ∀ f, d < f → ∀ M0 : Nat → Nat → Int32, M0 1 = st → M0 0 2 = st (10 + 2 * c) → M0 2 t = (lk st c t i).1 →
    ∃ M', lX11_looksAt_35 (nI c) (nI t) f (lk st c t i).2 (nI i) M0 = some M' ∧ (∀ k, k ≠ 2 → M' k = M0 k) ∧ (∀ x, x ≠ t → M' 2 x = M0 2 x) ∧ M' 2 t = (lk st c t nt).1 := by
  intro d
  induction d with
  | zero =>
    intro i hi f hf M0 e1 e2 e3
    obtain ⟨f, rfl⟩ : ∃ g, f = g + 1 := ⟨f - 1, by omega⟩
    refine ⟨M0, ?_, fun _ _ => rfl, fun _ _ => rfl, by rw [e3, show i = nt by omega]⟩
    rw [lX11_looksAt_35, k1, cl1, e1, h1, if_pos (nI_le (by omega) (by omega))]
  | succ d ih =>
    intro i hi f hf M0 e1 e2 e3
    obtain ⟨f, rfl⟩ : ∃ g, f = g + 1 := ⟨f - 1, by omega⟩
    have x0 : 42 + 4 * nI i = nI (42 + 4 * i) := by show nI 42 + nI 4 * nI i = _; rw [pk_mul, nI_add]
    have x1 : nI (42 + 4 * i) + 1 = nI (43 + 4 * i) := by rw [nI_1]; congr 1; omega
    have x2 : nI (42 + 4 * i) + 2 = nI (44 + 4 * i) := by show _ + nI 2 = _; rw [nI_add]; congr 1; omega
    have x3 : nI (42 + 4 * i) + 3 = nI (45 + 4 * i) := by show _ + nI 3 = _; rw [nI_add]; congr 1; omega
    have hlk : ∀ P : Prop, [Decidable P] → (P ↔ (st (42 + 4 * i) = nI c ∧ st (43 + 4 * i) = nI t ∧ st (45 + 4 * i) ≤ st (10 + 2 * c) ∧ (lk st c t i).2 ≤ st (45 + 4 * i))) → lk st c t (i + 1) = if P then (st (44 + 4 * i), st (45 + 4 * i)) else lk st c t i := by
      intro P _ hP
      show (if _ then _ else _) = _
      by_cases q : P
      · rw [if_pos q, if_pos (hP.mp q)]
      · rw [if_neg q, if_neg (fun z => q (hP.mpr z))]
    rw [lX11_looksAt_35, k1, cl1, e1, h1, if_neg (nI_ge (by omega) (by omega)), x0, bnd_e, ck_n (by omega) (by decide), nI_clamp (by omega)]
    have skip : lk st c t (i + 1) = lk st c t i → ∃ M', (bnd (nI i + 1) fun x => lX11_looksAt_35 (nI c) (nI t) f (lk st c t i).2 x M0) = some M' ∧ (∀ k, k ≠ 2 → M' k = M0 k) ∧ (∀ x, x ≠ t → M' 2 x = M0 2 x) ∧ M' 2 t = (lk st c t nt).1 := by
      intro he
      obtain ⟨M', q⟩ := ih (i + 1) (by omega) f (by omega) M0 e1 e2 (by rw [he]; exact e3)
      rw [he] at q
      exact ⟨M', by rw [bnd_e, nI_1]; exact q.1, q.2⟩
    by_cases c1 : st (42 + 4 * i) = nI c
    · rw [if_pos c1, x1, ck_n (by omega) (by decide), nI_clamp (by omega)]
      by_cases c2 : st (43 + 4 * i) = nI t
      · rw [if_pos c2, x3, ck_n (by omega) (by decide), nI_clamp (by omega), e2]
        by_cases c3 : st (10 + 2 * c) < st (45 + 4 * i)
        · rw [if_pos c3]
          exact skip (by rw [hlk False ⟨fun q => q.elim, fun q => lt_nle32 c3 q.2.2.1⟩, if_neg id])
        · rw [if_neg c3, ck_n (by omega) (by decide)]
          by_cases c4 : st (45 + 4 * i) < (lk st c t i).2
          · rw [if_pos c4]
            exact skip (by rw [hlk False ⟨fun q => q.elim, fun q => lt_nle32 c4 q.2.2.2⟩, if_neg id])
          · rw [if_neg c4, x2, ck_n (by omega) (by decide), nI_clamp (by omega), ck_n ht (by decide), nI_clamp (by omega), bnd_e, ck_n (by omega) (by decide), qu2_ne (show 1 ≠ 2 by decide), e1, bnd_e, bnd_e, nI_1]
            have he : lk st c t (i + 1) = (st (44 + 4 * i), st (45 + 4 * i)) := by rw [hlk True ⟨fun _ => ⟨c1, c2, nlt32 c3, nlt32 c4⟩, fun _ => trivial⟩, if_pos trivial]
            obtain ⟨M', q1, q2, q3, q4⟩ := ih (i + 1) (by omega) f (by omega) (qu2 M0 2 t (st (44 + 4 * i))) (by rw [qu2_ne (by decide)]; exact e1) (by rw [qu2_ne (by decide)]; exact e2) (by rw [he, qu2_same, pk_us])
            rw [he] at q1
            refine ⟨M', q1, fun k hk => by rw [q2 k hk, qu2_ne hk], fun x hx => by rw [q3 x hx, qu2_same, pk_un hx], q4⟩
      · rw [if_neg c2]
        exact skip (by rw [hlk False ⟨fun q => q.elim, fun q => c2 q.2.1⟩, if_neg id])
    · rw [if_neg c1]
      exact skip (by rw [hlk False ⟨fun q => q.elim, fun q => c1 q.1⟩, if_neg id])
theorem m_looksAt {M : Nat → Nat → Int32} {c nt : Nat} (hc : c < 16) (hn : nt ≤ 60) (h1 : M 1 1 = nI nt) : ∃ M', sX11_looksAt (nI c) M = some M' ∧ (∀ k, k ≠ 0 → k ≠ 2 → M' k = M k) ∧ M' 0 2 = M 1 (10 + 2 * c) ∧ ∀ t, t < 6 → M' 2 t = (lk (M 1) c t nt).1 := by
  have key : ∀ d t, t + d = 6 → ∀ f, d < f → ∀ M0 : Nat → Nat → Int32, M0 1 = M 1 → M0 0 2 = M 1 (10 + 2 * c) → ∃ M', lX11_looksAt_17 (nI c) f (nI t) M0 = some M' ∧ (∀ k, k ≠ 2 → M' k = M0 k) ∧ ∀ x, x < 6 → M' 2 x = if t ≤ x then (lk (M 1) c x nt).1 else M0 2 x := by
    intro d
    induction d with
    | zero =>
      intro t ht f hf M0 e1 e2
      obtain ⟨f, rfl⟩ : ∃ g, f = g + 1 := ⟨f - 1, by omega⟩
      refine ⟨M0, ?_, fun _ _ => rfl, fun x hx => by rw [if_neg (by omega)]⟩
      rw [lX11_looksAt_17, if_pos (show (6 : Int32) ≤ nI t from nI_le (a := 6) (by omega) (by omega))]
    | succ d ih =>
      intro t ht f hf M0 e1 e2
      obtain ⟨f, rfl⟩ : ∃ g, f = g + 1 := ⟨f - 1, by omega⟩
      obtain ⟨M1, m1, m2, m3, m4⟩ := m_looksIn (st := M 1) (c := c) (t := t) (by omega) hn h1 nt 0 (by omega) FU (by unfold FU; omega) (qu2 M0 2 t (-1)) (by rw [qu2_ne (by decide)]; exact e1) (by rw [qu2_ne (by decide)]; exact e2) (by rw [qu2_same, pk_us]; rfl)
      obtain ⟨M', q1, q2, q3⟩ := ih (t + 1) (by omega) f (by omega) M1 (by rw [m2 1 (by decide), qu2_ne (by decide)]; exact e1) (by rw [m2 0 (by decide), qu2_ne (by decide)]; exact e2)
      refine ⟨M', ?_, fun k hk => by rw [q2 k hk, m2 k hk, qu2_ne hk], fun x hx => ?_⟩
      · rw [lX11_looksAt_17, if_neg (show ¬ (6 : Int32) ≤ nI t from nI_ge (b := 6) (by omega) (by decide)), ck_n (by omega) (by decide), nI_clamp (by omega), bnd_e, show lX11_looksAt_35 (nI c) (nI t) FU (-1) 0 _ = _ from m1, ob_some, bnd_e, nI_1]
        exact q1
      · rw [q3 x hx]
        by_cases e : x = t
        · subst e; rw [if_neg (by omega), if_pos (by omega)]; exact m4
        · by_cases e2 : t ≤ x
          · rw [if_pos (by omega), if_pos e2]
          · rw [if_neg (by omega), if_neg e2, m3 x e, qu2_same, pk_un e]
  have e : 10 + 2 * nI c = nI (10 + 2 * c) := by show nI 10 + nI 2 * nI c = _; rw [pk_mul, nI_add]
  obtain ⟨M', q1, q2, q3⟩ := key 6 0 (by omega) FU (by unfold FU; omega) (qu2 M 0 2 (M 1 (10 + 2 * c))) (qu2_ne (by decide)) (by rw [qu2_same, pk_us])
  refine ⟨M', ?_, fun k h1 h2 => by rw [q2 k h2, qu2_ne h1], by rw [q2 0 (by decide), qu2_same, pk_us], fun t ht => by rw [q3 t ht, if_pos (by omega)]⟩
  unfold sX11_looksAt
  rw [e, ck_n (by omega) (by decide), nI_clamp (by omega), bnd_e, show lX11_looksAt_17 (nI c) FU 0 _ = _ from q1, ob_some]
theorem lk_in {st : Nat → Int32} {c t : Nat} : ∀ n, (∀ j, j < n → In1 (st (44 + 4 * j)) 4) → In1 (lk st c t n).1 4
  | 0, _ => Or.inl rfl
  | n + 1, h => by
    unfold lk
    by_cases q : st (42 + 4 * n) = nI c ∧ st (43 + 4 * n) = nI t ∧ st (45 + 4 * n) ≤ st (10 + 2 * c) ∧ (lk st c t n).2 ≤ st (45 + 4 * n)
    · rw [if_pos q]; exact h n (by omega)
    · rw [if_neg q]; exact lk_in n (fun j hj => h j (by omega))
/-- both look at a CASE: the same TIES, the same DAY -/
theorem look {S : Nat → Nat → Int32} {L : Nat → Nat → Int64} {M : Nat → Nat → Int32} {nc nt nr ny nq c : Nat} (R : RelN S L M nc nt nr ny nq) (hc : c < nc) :
    ∃ S' L' M', sX4_open (nI c) S L = some (S', L') ∧ sX11_looksAt (nI c) M = some M' ∧ EqX S L S' L' ∧ EqM M M' ∧ T6 (S' 35) ∧ (∀ t, t < 6 → M' 2 t = S' 35 t) ∧ M' 0 2 = M 1 (10 + 2 * c) ∧ HeldO (M 1) (S' 35) (M 1 (10 + 2 * c)) (fun _ => false) nr (L' 6 4) ∧ ∀ t, t < 6 → S' 35 t = S 15 (6 * c + t) := by
  have hC := R.1
  have hRC := R.2.1
  have b1 := hC.1.2
  have b2 := hC.2.1.2
  have hlk : ∀ t, t < 6 → S 15 (6 * c + t) = (lk (M 1) c t nt).1 := fun t ht => (hRC.2.2.2.2.1 c t hc ht).1
  have hin : ∀ t, t < 6 → In1 (S 15 (6 * c + t)) 4 := fun t ht => by rw [hlk t ht]; exact lk_in nt (fun j hj => (hRC.2.2.2.2.2.2 j hj).2.2.1)
  obtain ⟨S', L', x1, x2, x3, x4, x5⟩ := x_open R hc hin
  obtain ⟨M', m1, m2, m3, m4⟩ := m_looksAt (M := M) (c := c) (by omega) b2 hC.2.1.1
  refine ⟨S', L', M', x1, m1, ⟨fun k hk => x2 k (fun e => by subst e; cases hk), fun k hk => x4 k (fun e => by subst e; cases hk)⟩, ⟨m2 1 (by decide) (by decide), m2 3 (by decide) (by decide)⟩, fun t ht => by rw [x3 t ht]; exact hin t ht, fun t ht => by rw [m4 t ht, x3 t ht, hlk t ht], m3, x5, x3⟩
