-- ===== dead =====
theorem nar0 : vp_nar .boolean 0 = 0 := rfl
theorem nar1 : vp_nar .boolean 1 = 1 := rfl
theorem b8 : ∀ m, m < 8 → ∀ x, x < 3 → ((nI m ||| ((1 : Int32) <<< (nI x &&& 31))) = nI (m ||| 2 ^ x) ∧ (m ||| 2 ^ x) < 8 ∧ (∀ y, y < 3 → ((m ||| 2 ^ x).testBit y = (m.testBit y || decide (x = y)))) ∧ (iush (nI m) (nI x) &&& 1 = 0 ↔ m.testBit x = false)) := by decide +kernel
theorem x_kindsSorted {S : Nat → Nat → Int32} {L : Nat → Nat → Int64} {st : Nat → Int32} {a : Nat} (hW : RW (S 29) (S 30) st) (ha : a < 4) : ∃ m, m < 8 ∧ sX5_kindsSorted (nI a) S L = some (nI m) ∧ ∀ y, y < 3 → (m.testBit y = true ↔ ∃ k, k < 3 ∧ st (942 + (3 * a + k)) = nI y) := by
  have key : ∀ d k, k + d = 3 → ∀ f, d < f → ∀ m, m < 8 → ∃ m', m' < 8 ∧ lX5_kindsSorted_4 (nI a) S L f (nI m) (nI k) = some (nI m') ∧ ∀ y, y < 3 → (m'.testBit y = true ↔ (m.testBit y = true ∨ ∃ k', k ≤ k' ∧ k' < 3 ∧ st (942 + (3 * a + k')) = nI y)) := by
    intro d
    induction d with
    | zero =>
      intro k hk f hf m hm
      obtain ⟨f, rfl⟩ : ∃ g, f = g + 1 := ⟨f - 1, by omega⟩
      refine ⟨m, hm, ?_, fun y hy => ⟨Or.inl, fun q => q.elim id (fun ⟨k', q1, q2, _⟩ => by omega)⟩⟩
      rw [lX5_kindsSorted_4, if_pos (show (3 : Int32) ≤ nI k from nI_le (a := 3) (by omega) (by omega))]
    | succ d ih =>
      intro k hk f hf m hm
      obtain ⟨f, rfl⟩ : ∃ g, f = g + 1 := ⟨f - 1, by omega⟩
      obtain ⟨e1, ⟨x, hx, e2⟩⟩ := hW.1 (3 * a + k) (by omega)
      obtain ⟨c1, c2, c3, -⟩ := b8 m hm x hx
      obtain ⟨m', h1, h2, h3⟩ := ih (k + 1) (by omega) f (by omega) (m ||| 2 ^ x) c2
      refine ⟨m', h1, ?_, fun y hy => ?_⟩
      · rw [lX5_kindsSorted_4, if_neg (show ¬ (3 : Int32) ≤ nI k from nI_ge (b := 3) (by omega) (by decide)), x_ownKind ha (by omega), ob_some, e1, e2, c1, bnd_e, bnd_e, nI_1]
        exact h2
      · rw [h3 y hy, c3 y hy, Bool.or_eq_true, decide_eq_true_eq]
        constructor
        · rintro ((q | q) | ⟨k', q1, q2, q3⟩)
          · exact Or.inl q
          · subst q; exact Or.inr ⟨k, by omega, by omega, e2⟩
          · exact Or.inr ⟨k', by omega, q2, q3⟩
        · rintro (q | ⟨k', q1, q2, q3⟩)
          · exact Or.inl (Or.inl q)
          · by_cases e : k' = k
            · subst e
              rw [e2] at q3
              exact Or.inl (Or.inr ((nI_eq (by omega) (by omega)).mp q3))
            · exact Or.inr ⟨k', by omega, q2, q3⟩
  obtain ⟨m, h1, h2, h3⟩ := key 3 0 (by omega) FU (by unfold FU; omega) 0 (by decide)
  refine ⟨m, h1, ?_, fun y hy => ?_⟩
  · unfold sX5_kindsSorted; rw [show lX5_kindsSorted_4 (nI a) S L FU 0 0 = _ from h2, ob_some]
  · rw [h3 y hy]
    constructor
    · rintro (q | ⟨k, -, q2, q3⟩)
      · simp at q
      · exact ⟨k, q2, q3⟩
    · rintro ⟨k, q2, q3⟩; exact Or.inr ⟨k, by omega, q2, q3⟩
/-- the first RULE under a KIND of its own -/
def FK (st ties : Nat → Int32) (day : Int32) (nr a y : Nat) : Option Nat := fsI (bk st ties day (fun _ => false) (nI a) (nI y)) nr 0
theorem FK_lt {st ties : Nat → Int32} {day : Int32} {nr a y r : Nat} (h : FK st ties day nr a y = some r) : r < nr := by
  unfold FK at h
  rcases fsI_spec (P := bk st ties day (fun _ => false) (nI a) (nI y)) (d := nr) (j := 0) with ⟨h1, -⟩ | ⟨k, h1, -, h3, -⟩
  · rw [h1] at h; cases h
  · rw [h1] at h; cases h; omega
theorem x_everIn {S : Nat → Nat → Int32} {L : Nat → Nat → Int64} {st ties : Nat → Int32} {day : Int32} {nr ny a m : Nat} {v5 : Int32} (hxs : XS S L st ties day (fun _ => false) nr ny) (ha : a < 4) (hm : m < 8) (v : Int64) :
    ∃ v', lX0_everFirst_28 (nI a) (nI m) v5 S L FU v 0 = some v' ∧ ∀ r, r < 64 → (lb v' r = true ↔ (lb v r = true ∨ ∃ y, y < 3 ∧ m.testBit y = true ∧ FK st ties day nr a y = some r)) := by
  obtain ⟨x1, hT, hH, hn, hR, hB, hW, hY, hyn⟩ := hxs
  have key : ∀ d y, y + d = 3 → ∀ f, d < f → ∀ v, ∃ v', lX0_everFirst_28 (nI a) (nI m) v5 S L f v (nI y) = some v' ∧ ∀ r, r < 64 → (lb v' r = true ↔ (lb v r = true ∨ ∃ y', y ≤ y' ∧ y' < 3 ∧ m.testBit y' = true ∧ FK st ties day nr a y' = some r)) := by
    intro d
    induction d with
    | zero =>
      intro y hy f hf v
      obtain ⟨f, rfl⟩ : ∃ g, f = g + 1 := ⟨f - 1, by omega⟩
      refine ⟨v, ?_, fun r hr => ⟨Or.inl, fun q => q.elim id (fun ⟨y', q1, q2, _⟩ => by omega)⟩⟩
      rw [lX0_everFirst_28, if_pos (show (3 : Int32) ≤ nI y from nI_le (a := 3) (by omega) (by omega))]
    | succ d ih =>
      intro y hy f hf v
      obtain ⟨f, rfl⟩ : ∃ g, f = g + 1 := ⟨f - 1, by omega⟩
      have hb := (b8 m hm y (by omega)).2.2.2
      have hf1 : sX6_first (L 6 4) (nI a) (nI y) S L = some (oI (FK st ties day nr a y)) := x_firstB hn ha (by omega) hH hB
      rw [lX0_everFirst_28, if_neg (show ¬ (3 : Int32) ≤ nI y from nI_ge (b := 3) (by omega) (by decide))]
      have skip : (∀ r, ¬ (m.testBit y = true ∧ FK st ties day nr a y = some r)) → ∃ v', lX0_everFirst_28 (nI a) (nI m) v5 S L f v (nI (y + 1)) = some v' ∧ ∀ r, r < 64 → (lb v' r = true ↔ (lb v r = true ∨ ∃ y', y ≤ y' ∧ y' < 3 ∧ m.testBit y' = true ∧ FK st ties day nr a y' = some r)) := by
        intro hno
        obtain ⟨v', h1, h2⟩ := ih (y + 1) (by omega) f (by omega) v
        refine ⟨v', h1, fun r hr => ?_⟩
        rw [h2 r hr]
        constructor
        · rintro (q | ⟨y', q1, q2⟩)
          · exact Or.inl q
          · exact Or.inr ⟨y', by omega, q2⟩
        · rintro (q | ⟨y', q1, q2, q3⟩)
          · exact Or.inl q
          · by_cases e : y' = y
            · subst e; exact absurd q3 (hno r)
            · exact Or.inr ⟨y', by omega, q2, q3⟩
      by_cases c : m.testBit y = false
      · rw [if_pos (hb.mpr c), bnd_e, nI_1]
        exact skip (fun r q => by rw [c] at q; cases q.1)
      · rw [if_neg (fun q => c (hb.mp q)), hf1, ob_some]
        cases hF : FK st ties day nr a y with
        | none =>
          rw [oI_none, if_pos rfl, bnd_e, nI_1]
          exact skip (fun r q => by rw [hF] at q; cases q.2)
        | some r0 =>
          have hr0 := FK_lt hF
          rw [oI_some, if_neg (nI_ne_m1 (show r0 < 1000000 by omega)), bnd_e, bnd_e, nI_1]
          obtain ⟨v', h1, h2⟩ := ih (y + 1) (by omega) f (by omega) (v ||| lsh 1 (nI r0))
          refine ⟨v', h1, fun r hr => ?_⟩
          rw [h2 r hr, lb_or1 _ (by omega) hr, Bool.or_eq_true, decide_eq_true_eq]
          constructor
          · rintro ((q | q) | ⟨y', q1, q2⟩)
            · exact Or.inl q
            · subst q; exact Or.inr ⟨y, by omega, by omega, ts_nf' c, hF⟩
            · exact Or.inr ⟨y', by omega, q2⟩
          · rintro (q | ⟨y', q1, q2, q3, q4⟩)
            · exact Or.inl (Or.inl q)
            · by_cases e : y' = y
              · subst e
                rw [hF] at q4
                exact Or.inl (Or.inr (Option.some.inj q4))
              · exact Or.inr ⟨y', by omega, q2, q3, q4⟩
  obtain ⟨v', h1, h2⟩ := key 3 0 (by omega) FU (by unfold FU; omega) v
  refine ⟨v', h1, fun r hr => ?_⟩
  rw [h2 r hr]
  constructor
  · rintro (q | ⟨y', -, q2, q3⟩)
    · exact Or.inl q
    · exact Or.inr ⟨y', q2, q3⟩
  · rintro (q | ⟨y', q2, q3⟩)
    · exact Or.inl q
    · exact Or.inr ⟨y', by omega, q2, q3⟩
theorem m_deadIn {st ties : Nat → Int32} {day : Int32} {nr ny a : Nat} {p2 v15 : Int32} (ha : a < 4) : ∀ d k, k + d = 3 → ∀ f, d < f → ∀ M : Nat → Nat → Int32, MS M st ties day (fun _ => false) nr ny → (∀ r, r < 60 → M 5 r = 0 ∨ M 5 r = 1) →
    ∃ M', lX11_dead_56 (nI a) p2 v15 f (nI k) M = some M' ∧ (∀ q, q ≠ 5 → M' q = M q) ∧ (∀ r, r < 60 → M' 5 r = 0 ∨ M' 5 r = 1) ∧ ∀ r, r < 60 → (M' 5 r = 1 ↔ (M 5 r = 1 ∨ ∃ k', k ≤ k' ∧ k' < 3 ∧ FR st ties day (fun _ => false) nr k' a = some r)) := by
  intro d
  induction d with
  | zero =>
    intro k hk f hf M hms h01
    obtain ⟨f, rfl⟩ : ∃ g, f = g + 1 := ⟨f - 1, by omega⟩
    refine ⟨M, ?_, fun _ _ => rfl, h01, fun r hr => ⟨Or.inl, fun q => q.elim id (fun ⟨k', q1, q2, _⟩ => by omega)⟩⟩
    rw [lX11_dead_56, if_pos (show (3 : Int32) ≤ nI k from nI_le (a := 3) (by omega) (by omega))]
  | succ d ih =>
    intro k hk f hf M hms h01
    obtain ⟨f, rfl⟩ : ∃ g, f = g + 1 := ⟨f - 1, by omega⟩
    rw [lX11_dead_56, if_neg (show ¬ (3 : Int32) ≤ nI k from nI_ge (b := 3) (by omega) (by decide)), m_ruleBy hms ha (by omega), ob_some]
    cases hF : FR st ties day (fun _ => false) nr k a with
    | none =>
      rw [oI_none, if_pos rfl, bnd_e, nI_1]
      obtain ⟨M', h1, h2, h3, h4⟩ := ih (k + 1) (by omega) f (by omega) M hms h01
      refine ⟨M', h1, h2, h3, fun r hr => ?_⟩
      rw [h4 r hr]
      constructor
      · rintro (q | ⟨k', q1, q2⟩)
        · exact Or.inl q
        · exact Or.inr ⟨k', by omega, q2⟩
      · rintro (q | ⟨k', q1, q2, q3⟩)
        · exact Or.inl q
        · by_cases e : k' = k
          · subst e; rw [hF] at q3; cases q3
          · exact Or.inr ⟨k', by omega, q2, q3⟩
    | some r0 =>
      have hr0 : r0 < nr := by
        rcases FR_spec (day := day) (out := fun _ => false) (k := k) (a := a) hms.2.2.2.2.2.2.1 hms.2.2.1 with ⟨q, -⟩ | ⟨r, q, q', -⟩
        · rw [hF] at q; cases q
        · rw [hF] at q'; cases q'; exact q
      have hn := hms.2.1.2
      rw [oI_some, if_neg (nI_ne_m1 (show r0 < 1000000 by omega)), ck_n (show r0 < 60 by omega) (by decide), nI_clamp (show r0 < 2 ^ 31 by omega), nar1, bnd_e, bnd_e, nI_1]
      obtain ⟨M', h1, h2, h3, h4⟩ := ih (k + 1) (by omega) f (by omega) (qu2 M 5 r0 1) (hms.frame (qu2_ne (by decide)) (qu2_ne (by decide)) (qu2_ne (by decide)) (by rw [qu2_ne (by decide)])) (fun r hr => by
        rw [qu2_same]
        by_cases e : r = r0
        · subst e; rw [pk_us]; exact Or.inr rfl
        · rw [pk_un e]; exact h01 r hr)
      refine ⟨M', h1, fun q hq => by rw [h2 q hq, qu2_ne hq], h3, fun r hr => ?_⟩
      rw [h4 r hr, qu2_same]
      by_cases e : r = r0
      · subst e
        rw [pk_us]
        exact ⟨fun _ => Or.inr ⟨k, by omega, by omega, hF⟩, fun _ => Or.inl rfl⟩
      · rw [pk_un e]
        constructor
        · rintro (q | ⟨k', q1, q2⟩)
          · exact Or.inl q
          · exact Or.inr ⟨k', by omega, q2⟩
        · rintro (q | ⟨k', q1, q2, q3⟩)
          · exact Or.inl q
          · by_cases e2 : k' = k
            · subst e2
              rw [hF] at q3
              exact absurd (Option.some.inj q3).symm e
            · exact Or.inr ⟨k', by omega, q2, q3⟩
theorem dead_sync {nc nt nr ny nq a m : Nat} {d : Int32} (ha : a < 4) (hm : m < 8) : ∀ dd i, i + dd = 15625 → ∀ f1 f2, dd < f1 → dd < f2 → ∀ (v : Int64) (S : Nat → Nat → Int32) (L : Nat → Nat → Int64) (M : Nat → Nat → Int32), RelN S L M nc nt nr ny nq → AI S L (M 1) nr d →
    (∀ y, y < 3 → (m.testBit y = true ↔ ∃ k, k < 3 ∧ M 1 (942 + (3 * a + k)) = nI y)) → (∀ r, r < 60 → M 5 r = 0 ∨ M 5 r = 1) → (∀ r, r < 60 → (lb v r = true ↔ M 5 r = 1)) → (M 0 2 = d ∨ 0 < dd) →
    ∃ v' S' L' M', lX0_everFirst_11 (nI a) (nI m) f1 v (nI i) S L = some (v', S', L') ∧ lX11_dead_40 (nI a) d f2 (nI i) M = some M' ∧ EqX S L S' L' ∧ EqM M M' ∧ M' 0 2 = d ∧ (∀ r, r < 60 → M' 5 r = 0 ∨ M' 5 r = 1) ∧ ∀ r, r < 60 → (lb v' r = true ↔ M' 5 r = 1) := by
  intro dd
  induction dd with
  | zero =>
    intro i hi f1 f2 h1 h2 v S L M R hA hmk h01 hv hd
    obtain ⟨f1, rfl⟩ : ∃ g, f1 = g + 1 := ⟨f1 - 1, by omega⟩
    obtain ⟨f2, rfl⟩ : ∃ g, f2 = g + 1 := ⟨f2 - 1, by omega⟩
    refine ⟨v, S, L, M, ?_, ?_, EqX.rf, ⟨rfl, rfl⟩, hd.elim id (fun q => by omega), h01, hv⟩
    · rw [lX0_everFirst_11, sw15625, if_pos (nI_le (by omega) (by omega))]
    · rw [lX11_dead_40, sw15625, if_pos (nI_le (by omega) (by omega))]
  | succ dd ih =>
    intro i hi f1 f2 h1 h2 v S L M R hA hmk h01 hv hd
    obtain ⟨f1, rfl⟩ : ∃ g, f1 = g + 1 := ⟨f1 - 1, by omega⟩
    obtain ⟨f2, rfl⟩ : ∃ g, f2 = g + 1 := ⟨f2 - 1, by omega⟩
    obtain ⟨S1, L1, x1, x2, x3, x4⟩ := x_setTies R hA (show i < 15625 by omega)
    obtain ⟨M1, m1, m2, m3, m4⟩ := m_looksN (M := M) (day := d) (show i < 15625 by omega)
    have hM1 : EqM M M1 := ⟨m2 1 (by decide) (by decide), m2 3 (by decide) (by decide)⟩
    have R' := R.frame x2 hM1
    have hst : M1 1 = M 1 := hM1.1
    have ok : ∀ r, r < nr → OKr (M 1) r := fun r hr => (R.2.2.1.2.1 r hr).ok
    have hxs : XS S1 L1 (M 1) (tiesN i) d (fun _ => false) nr ny := by rw [← hst]; exact xs_of R' (tiesN_T6 i) x4 (by rw [hst]; exact x3.held ok x4)
    have hms : MS M1 (M 1) (tiesN i) d (fun _ => false) nr ny := by rw [← hst]; exact ms_of R' (tiesN_T6 i) m4 m3
    obtain ⟨v1, w1, w2⟩ := x_everIn (v5 := nI i) hxs ha hm v
    have h5 : M1 5 = M 5 := m2 5 (by decide) (by decide)
    obtain ⟨M2, n1, n2, n3, n4⟩ := m_deadIn (p2 := d) (v15 := nI i) ha 3 0 (by omega) FU (by unfold FU; omega) M1 hms (by rw [h5]; exact h01)
    have hM2 : EqM M M2 := ⟨(n2 1 (by decide)).trans hM1.1, (n2 3 (by decide)).trans hM1.2⟩
    have R2 := R.frame x2 hM2
    obtain ⟨v', S3, L3, M3, y1, y2, y3, y4, y5, y6, y7⟩ := ih (i + 1) (by omega) f1 f2 (by omega) (by omega) v1 S1 L1 M2 R2 (by rw [hM2.1]; exact x3) (by rw [hM2.1]; exact hmk) n3 (fun r hr => by
      rw [w2 r (by omega), hv r hr, n4 r hr, h5]
      constructor
      · rintro (q | ⟨y, q1, q2, q3⟩)
        · exact Or.inl q
        · obtain ⟨k, k1, k2⟩ := (hmk y q1).mp q2
          exact Or.inr ⟨k, by omega, k1, by unfold FR; rw [k2]; exact q3⟩
      · rintro (q | ⟨k, q1, q2, q3⟩)
        · exact Or.inl q
        · obtain ⟨y, hy, ey⟩ := hms.2.2.2.2.2.2.2.1 (3 * a + k) (by omega)
          refine Or.inr ⟨y, hy, (hmk y hy).mpr ⟨k, q2, ey⟩, ?_⟩
          unfold FR at q3; rw [ey] at q3; exact q3) (Or.inl (by rw [n2 0 (by decide)]; exact m3))
    refine ⟨v', S3, L3, M3, ?_, ?_, x2.tr y3, ⟨y4.1.trans hM2.1, y4.2.trans hM2.2⟩, y5, y6, y7⟩
    · rw [lX0_everFirst_11, sw15625, if_neg (nI_ge (by omega) (by omega)), x1, ob2_some, w1, ob_some, bnd_e, nI_1]; exact y1
    · rw [lX11_dead_40, sw15625, if_neg (nI_ge (by omega) (by omega)), m1, ob_some, show lX11_dead_56 (nI a) d (nI i) FU 0 M1 = _ from n1, ob_some, bnd_e, nI_1]; exact y2
theorem places_sync {S : Nat → Nat → Int32} {L : Nat → Nat → Int64} {M : Nat → Nat → Int32} {nr a : Nat} {d : Int32} {v : Int64} (hn : nr ≤ 60) (h2 : M 1 2 = nI nr) (hR : RR (S 2) (S 17) (S 18) (S 19) (S 20) (S 21) (S 22) (S 23) (S 24) (S 25) (M 1) nr) (hd : M 0 2 = d) (h01 : ∀ r, r < 60 → M 5 r = 0 ∨ M 5 r = 1) (hv : ∀ r, r < 60 → (lb v r = true ↔ M 5 r = 1)) :
    ∃ z, sX6_placesWithout v (nI a) d S L = some z ∧ lX11_dead_105 (nI a) M FU 0 0 0 = some z := by
  have late : ∀ dd r, r + dd = nr → ∀ f, dd < f → ∀ (w : Int32) (p : Nat), 30 ≤ p → p + dd < 1000 → lX6_placesWithout_9 v (nI a) d S L f w (nI p) (nI r) = some w := by
    intro dd
    induction dd with
    | zero =>
      intro r hr f hf w p hp hp2
      obtain ⟨f, rfl⟩ : ∃ g, f = g + 1 := ⟨f - 1, by omega⟩
      rw [lX6_placesWithout_9, hR.1, if_pos (nI_le (by omega) (by omega))]
    | succ dd ih =>
      intro r hr f hf w p hp hp2
      obtain ⟨f, rfl⟩ : ∃ g, f = g + 1 := ⟨f - 1, by omega⟩
      have hr' := hR.2.1 r (by omega)
      rw [lX6_placesWithout_9, hR.1, if_neg (nI_ge (by omega) (by omega)), ck_n (by omega) (by decide), nI_clamp (by omega), x_stands (st := M 1) (by omega) hr'.2.2.2.2.1.1 hr'.2.2.2.2.2.1.1]
      by_cases c1 : S 17 r = nI a
      · rw [if_pos c1, ob_some]
        cases p_stands (M 1) d r with
        | false => rw [if_pos bI_f, bnd_e, nI_1]; exact ih (r + 1) (by omega) f (by omega) w p hp (by omega)
        | true => rw [if_neg (by rw [bI_t]; decide), if_pos (show (30 : Int32) ≤ nI p from nI_le (a := 30) hp (by omega)), bnd_e, bnd_e, nI_1, nI_1]; exact ih (r + 1) (by omega) f (by omega) w (p + 1) (by omega) (by omega)
      · rw [if_neg c1, bnd_e, nI_1]; exact ih (r + 1) (by omega) f (by omega) w p hp (by omega)
  have key : ∀ dd r, r + dd = nr → ∀ f1 f2, dd < f1 → dd < f2 → ∀ (w : Int32) (p : Nat), p ≤ r → ∃ z, lX6_placesWithout_9 v (nI a) d S L f1 w (nI p) (nI r) = some z ∧ lX11_dead_105 (nI a) M f2 w (nI p) (nI r) = some z := by
    intro dd
    induction dd with
    | zero =>
      intro r hr f1 f2 h1 h2' w p hp
      obtain ⟨f1, rfl⟩ : ∃ g, f1 = g + 1 := ⟨f1 - 1, by omega⟩
      obtain ⟨f2, rfl⟩ : ∃ g, f2 = g + 1 := ⟨f2 - 1, by omega⟩
      refine ⟨w, ?_, ?_⟩
      · rw [lX6_placesWithout_9, hR.1, if_pos (nI_le (by omega) (by omega))]
      · rw [lX11_dead_105, k2, cl2, h2, if_pos (nI_le (by omega) (by omega))]
    | succ dd ih =>
      intro r hr f1 f2 h1 h2' w p hp
      by_cases hp30 : 30 ≤ p
      · refine ⟨w, late (dd + 1) r hr f1 h1 w p hp30 (by omega), ?_⟩
        obtain ⟨f2, rfl⟩ : ∃ g, f2 = g + 1 := ⟨f2 - 1, by omega⟩
        rw [lX11_dead_105, k2, cl2, h2, if_neg (nI_ge (by omega) (by omega)), if_pos (show (30 : Int32) ≤ nI p from nI_le (a := 30) hp30 (by omega))]
      obtain ⟨f1, rfl⟩ : ∃ g, f1 = g + 1 := ⟨f1 - 1, by omega⟩
      obtain ⟨f2, rfl⟩ : ∃ g, f2 = g + 1 := ⟨f2 - 1, by omega⟩
      have hr' := hR.2.1 r (by omega)
      have n30 : ¬ (30 : Int32) ≤ nI p := nI_ge (b := 30) (by omega) (by decide)
      have hbit : (lg_cmp (lush v (nI r) &&& 1) 0 = 0) ↔ M 5 r = 0 := by
        rw [lg0, lush_bit v (show r < 64 by omega)]
        rcases h01 r (by omega) with e | e
        · rw [e]
          refine ⟨fun _ => rfl, fun _ => ?_⟩
          cases hh : lb v r with
          | false => rfl
          | true => have := (hv r (by omega)).mp hh; rw [e] at this; exact absurd this (by decide)
        · rw [(hv r (by omega)).mpr e, e]
          exact ⟨fun q => (by cases q), fun q => absurd q (by decide)⟩
      have or0 : w ||| 0 = w := by rw [← Int32.toBitVec_inj]; simp
      have uX : lX6_placesWithout_9 v (nI a) d S L (f1 + 1) w (nI p) (nI r) = if rl (M 1) r 0 = nI a then (if p_stands (M 1) d r = true then (if M 5 r = 0 then lX6_placesWithout_9 v (nI a) d S L f1 (w ||| ((1 : Int32) <<< (nI p &&& 31))) (nI (p + 1)) (nI (r + 1)) else lX6_placesWithout_9 v (nI a) d S L f1 w (nI (p + 1)) (nI (r + 1))) else lX6_placesWithout_9 v (nI a) d S L f1 w (nI p) (nI (r + 1))) else lX6_placesWithout_9 v (nI a) d S L f1 w (nI p) (nI (r + 1)) := by
        rw [lX6_placesWithout_9, hR.1, if_neg (nI_ge (by omega) (by omega)), ck_n (by omega) (by decide), nI_clamp (by omega), x_stands (st := M 1) (by omega) hr'.2.2.2.2.1.1 hr'.2.2.2.2.2.1.1, hr'.1.1, ob_some, if_neg n30]
        by_cases c1 : rl (M 1) r 0 = nI a
        · rw [if_pos c1, if_pos c1]
          cases hp' : p_stands (M 1) d r with
          | false => rw [if_pos bI_f, if_neg (by decide), bnd_e, nI_1]
          | true =>
            rw [if_neg (show ¬ bI true = 0 by rw [bI_t]; decide), if_pos rfl]
            by_cases c2 : M 5 r = 0
            · rw [if_pos (hbit.mpr c2), if_pos c2, bnd_e, bnd_e, bnd_e, nI_1, nI_1]
            · rw [if_neg (fun q => c2 (hbit.mp q)), if_neg c2, bnd_e, bnd_e, nI_1, nI_1]
        · rw [if_neg c1, if_neg c1, bnd_e, nI_1]
      have uM : lX11_dead_105 (nI a) M (f2 + 1) w (nI p) (nI r) = if rl (M 1) r 0 = nI a then (if p_stands (M 1) d r = true then (if M 5 r = 0 then lX11_dead_105 (nI a) M f2 (w ||| ((1 : Int32) <<< (nI p &&& 31))) (nI (p + 1)) (nI (r + 1)) else lX11_dead_105 (nI a) M f2 w (nI (p + 1)) (nI (r + 1))) else lX11_dead_105 (nI a) M f2 w (nI p) (nI (r + 1))) else lX11_dead_105 (nI a) M f2 w (nI p) (nI (r + 1)) := by
        rw [lX11_dead_105, k2, cl2, h2, if_neg (nI_ge (by omega) (by omega)), if_neg n30, mr0 (show r < 60 by omega), ob_some, m_stands (show r < 60 by omega), hd]
        by_cases c1 : rl (M 1) r 0 = nI a
        · rw [if_pos c1, if_pos c1, ob_some]
          cases hp' : p_stands (M 1) d r with
          | false => rw [if_pos bI_f, if_neg (by decide), bnd_e, nI_1]
          | true =>
            rw [if_neg (show ¬ bI true = 0 by rw [bI_t]; decide), if_pos rfl, ck_n (by omega) (by decide), nI_clamp (by omega)]
            by_cases c2 : M 5 r = 0
            · rw [if_pos c2, if_pos c2, bnd_e, bnd_e, bnd_e, nI_1, nI_1]
            · rw [if_neg c2, if_neg c2, bnd_e, bnd_e, bnd_e, nI_1, nI_1, or0]
        · rw [if_neg c1, if_neg c1, bnd_e, nI_1]
      rw [uX, uM]
      by_cases c1 : rl (M 1) r 0 = nI a
      · rw [if_pos c1, if_pos c1]
        by_cases c2 : p_stands (M 1) d r = true
        · rw [if_pos c2, if_pos c2]
          by_cases c3 : M 5 r = 0
          · rw [if_pos c3, if_pos c3]; exact ih (r + 1) (by omega) f1 f2 (by omega) (by omega) _ (p + 1) (by omega)
          · rw [if_neg c3, if_neg c3]; exact ih (r + 1) (by omega) f1 f2 (by omega) (by omega) _ (p + 1) (by omega)
        · rw [if_neg c2, if_neg c2]; exact ih (r + 1) (by omega) f1 f2 (by omega) (by omega) _ p (by omega)
      · rw [if_neg c1, if_neg c1]; exact ih (r + 1) (by omega) f1 f2 (by omega) (by omega) _ p (by omega)
  obtain ⟨z, z1, z2⟩ := key nr 0 (by omega) FU FU (by unfold FU; omega) (by unfold FU; omega) 0 0 (by omega)
  refine ⟨z, ?_, z2⟩
  unfold sX6_placesWithout
  rw [show lX6_placesWithout_9 v (nI a) d S L FU 0 0 0 = _ from z1, ob_some]
theorem m_deadZ {p1 p2 : Int32} : ∀ d r, r + d = 60 → ∀ f, d < f → ∀ M : Nat → Nat → Int32, ∃ M', lX11_dead_19 p1 p2 f (nI r) M = some M' ∧ (∀ q, q ≠ 5 → M' q = M q) ∧ ∀ x, x < 60 → M' 5 x = if r ≤ x then 0 else M 5 x := by
  intro d
  induction d with
  | zero =>
    intro r hr f hf M
    obtain ⟨f, rfl⟩ : ∃ g, f = g + 1 := ⟨f - 1, by omega⟩
    refine ⟨M, ?_, fun _ _ => rfl, fun x hx => by rw [if_neg (by omega)]⟩
    rw [lX11_dead_19, if_pos (show (60 : Int32) ≤ nI r from nI_le (a := 60) (by omega) (by omega))]
  | succ d ih =>
    intro r hr f hf M
    obtain ⟨f, rfl⟩ : ∃ g, f = g + 1 := ⟨f - 1, by omega⟩
    obtain ⟨M', h1, h2, h3⟩ := ih (r + 1) (by omega) f (by omega) (qu2 M 5 r 0)
    refine ⟨M', ?_, fun q hq => by rw [h2 q hq, qu2_ne hq], fun x hx => ?_⟩
    · rw [lX11_dead_19, if_neg (show ¬ (60 : Int32) ≤ nI r from nI_ge (b := 60) (by omega) (by decide)), ck_n (by omega) (by decide), nI_clamp (by omega), nar0, bnd_e, bnd_e, nI_1]; exact h1
    · rw [h3 x hx, qu2_same]
      by_cases e : x = r
      · subst e; rw [pk_us, if_neg (by omega), if_pos (by omega)]
      · rw [pk_un e]
        by_cases e2 : r ≤ x
        · rw [if_pos (by omega), if_pos e2]
        · rw [if_neg (by omega), if_neg e2]
theorem op_dead {S : Nat → Nat → Int32} {L : Nat → Nat → Int64} {M : Nat → Nat → Int32} (R : Rel S L M) (a d : Int32) : ∃ r S' L' M', sX10_dead a d S L = some (r, S', L') ∧ sX11_dead a d M = some (r, M') ∧ Rel S' L' M' := by
  rcases rg a (n := 4) (by decide) with ha | ⟨i, hi, rfl⟩
  · refine ⟨-2, S, L, M, ?_, ?_, R⟩
    · unfold sX10_dead; rw [xLand_bad ha, g0]
    · unfold sX11_dead; rw [mLand_bad ha, g0]
  rcases rg d (n := 1000) (by decide) with hd | ⟨f, hf, rfl⟩
  · refine ⟨-2, S, L, M, ?_, ?_, R⟩
    · unfold sX10_dead; rw [xLand_ok hi, g1, xDay_bad hd, g0]
    · unfold sX11_dead; rw [mLand_ok hi, g1, mDay_bad hd, g0]
  obtain ⟨nc, nt, nr, ny, nq, hN⟩ := id R
  obtain ⟨m, hm, k1', k2'⟩ := x_kindsSorted (L := L) hN.2.2.2.2.1 hi
  obtain ⟨S1, L1, x1, x2, x3⟩ := x_start hN (nI f)
  obtain ⟨M1, z1, z2, z3⟩ := m_deadZ (p1 := nI i) (p2 := nI f) 60 0 (by omega) FU (by unfold FU; omega) M
  have hM1 : EqM M M1 := ⟨z2 1 (by decide), z2 3 (by decide)⟩
  have z0 : ∀ r, r < 60 → M1 5 r = 0 := fun r hr => by rw [z3 r hr, if_pos (by omega)]
  obtain ⟨v, S2, L2, M2, y1, y2, y3, y4, y5, y6, y7⟩ := dead_sync (d := nI f) hi hm 15625 0 (by omega) FU FU (by unfold FU; omega) (by unfold FU; omega) 0 S1 L1 M1 (hN.frame x2 hM1) (by rw [hM1.1]; exact x3) (by rw [hM1.1]; exact k2') (fun r hr => Or.inl (z0 r hr)) (fun r hr => by rw [lb_zero, z0 r hr]; exact ⟨fun q => (by cases q), fun q => absurd q (by decide)⟩) (Or.inr (by omega))
  have hM2 : EqM M M2 := ⟨y4.1.trans hM1.1, y4.2.trans hM1.2⟩
  have hN2 := hN.frame (x2.tr y3) hM2
  obtain ⟨z, p1, p2⟩ := places_sync (a := i) (L := L2) hN.1.2.2.1.2 (by rw [hM2.1]; exact hN.1.2.2.1.1) hN2.2.2.1 y5 y6 y7
  refine ⟨z, S2, L2, M2, ?_, ?_, nc, nt, nr, ny, nq, hN2⟩
  · unfold sX10_dead sX0_everFirst
    rw [xLand_ok hi, g1, xDay_ok hf, g1, k1', ob_some, x1, ob2_some, show lX0_everFirst_11 (nI i) (nI m) FU 0 0 S1 L1 = _ from y1, ob3_some, ob3_some, p1, ob_some]
  · unfold sX11_dead
    rw [mLand_ok hi, g1, mDay_ok hf, g1, show lX11_dead_19 (nI i) (nI f) FU 0 M = _ from z1, ob_some, show lX11_dead_40 (nI i) (nI f) FU 0 M1 = _ from y2, ob_some, p2, ob_some]
