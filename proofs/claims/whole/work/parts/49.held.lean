-- ===== which RULES hold, as bits and as told =====
theorem In1.enc {v : Int32} (h : In1 v 4) : ∃ x, x < 5 ∧ v = nI x - 1 := by
  rcases h with rfl | ⟨j, hj, rfl⟩
  · exact ⟨0, by omega, rfl⟩
  · exact ⟨j + 1, by omega, (nI_pred j).symm⟩
theorem nI_ne_m1 {j : Nat} (hj : j < 1000000) : nI j ≠ -1 := by
  intro e
  have e2 : (nI j).toInt = (-1 : Int32).toInt := by rw [e]
  rw [nI_toInt (by omega)] at e2
  have e3 : (-1 : Int32).toInt = -1 := rfl
  omega
theorem endOf_m1 {st ties : Nat → Int32} {r : Nat} (h0 : In (rl st r 0) 4) (h3 : In (rl st r 3) 11) : p_endOf st ties r = -1 ↔ ∃ t, t < 6 ∧ rl st r 3 = nI (5 + t) ∧ ties t = -1 := by
  obtain ⟨w, hw, e⟩ := h3
  obtain ⟨a, ha, ea⟩ := h0
  unfold p_endOf
  rw [e, ea]
  by_cases c0 : w = 0
  · subst c0
    rw [if_pos (show nI 0 = 0 from rfl)]
    constructor
    · intro h; exact absurd h (nI_ne_m1 (by omega))
    · rintro ⟨t, ht, h1, -⟩
      have := (nI_eq (by omega) (by omega)).mp h1
      omega
  · rw [if_neg (show ¬ nI w = 0 from fun q => c0 ((nI_eq (b := 0) (by omega) (by decide)).mp q))]
    by_cases c5 : 5 ≤ w
    · rw [if_pos (show (5 : Int32) ≤ nI w from nI_le (a := 5) c5 (by omega)), show nI w - 5 = nI (w - 5) from pk_sub (b := 5) c5, nI_clamp (by omega)]
      constructor
      · intro h; exact ⟨w - 5, by omega, by congr 1; omega, h⟩
      · rintro ⟨t, ht, h1, h2⟩
        have := (nI_eq (by omega) (by omega)).mp h1
        rw [show w - 5 = t by omega]; exact h2
    · rw [if_neg (show ¬ (5 : Int32) ≤ nI w from nI_ge (b := 5) (by omega) (by decide))]
      constructor
      · intro h
        have := (m1_eq (x := w) (by omega)).mp h
        omega
      · rintro ⟨t, ht, h1, -⟩
        have := (nI_eq (by omega) (by omega)).mp h1
        omega
theorem isSo_fit {ties : Nat → Int32} {land : Int32} {a w : Nat} (ha : a < 6) (hw : w < 14) : p_isSo ties land (nI a) (nI w) = true ↔ (fitB (nI w) (ties a) land = true ∧ (8 ≤ w → ties a = ties (w - 8))) := by
  unfold p_isSo fitB
  rw [nI_clamp (by omega)]
  by_cases c8 : 8 ≤ w
  · have k4 : (4 : Int32) ≤ nI w := nI_le (a := 4) (by omega) (by omega)
    have k8 : (8 : Int32) ≤ nI w := nI_le (a := 8) c8 (by omega)
    have n1 : ¬ nI w = 1 := fun q => by have := (nI_eq (b := 1) (by omega) (by decide)).mp q; omega
    have n0 : ¬ nI w = 0 := fun q => by have := (nI_eq (b := 0) (by omega) (by decide)).mp q; omega
    have n8 : ¬ nI w < 8 := nI_nlt (b := 8) c8 (by omega)
    rw [if_pos k4, if_pos k8, if_neg n1, if_neg n0, if_neg n8, show nI w - 8 = nI (w - 8) from pk_sub (b := 8) c8, nI_clamp (by omega)]
    simp [c8]
  · have n8 : ¬ (8 : Int32) ≤ nI w := nI_ge (b := 8) (by omega) (by decide)
    have l8 : nI w < 8 := nI_lt (b := 8) (by omega) (by decide)
    have hno : (8 ≤ w → ties a = ties (w - 8)) ↔ True := ⟨fun _ => trivial, fun _ q => absurd q c8⟩
    rw [hno, and_true]
    rcases (show w = 0 ∨ w = 1 ∨ w = 2 ∨ w = 3 ∨ 4 ≤ w by omega) with rfl | rfl | rfl | rfl | c4
    · exact Iff.rfl
    · exact Iff.rfl
    · exact Iff.rfl
    · exact Iff.rfl
    · have k4 : (4 : Int32) ≤ nI w := nI_le (a := 4) c4 (by omega)
      have n1 : ¬ nI w = 1 := fun q => by have := (nI_eq (b := 1) (by omega) (by decide)).mp q; omega
      have n0 : ¬ nI w = 0 := fun q => by have := (nI_eq (b := 0) (by omega) (by decide)).mp q; omega
      have n2 : ¬ nI w = 2 := fun q => by have := (nI_eq (b := 2) (by omega) (by decide)).mp q; omega
      have n3 : ¬ nI w = 3 := fun q => by have := (nI_eq (b := 3) (by omega) (by decide)).mp q; omega
      rw [if_pos k4, if_neg n8, if_neg n1, if_neg n0, if_pos l8, if_neg n2, if_neg n3]
def LB (st ties : Nat → Int32) (r t : Nat) : Prop := ¬ brk st r t (ties t) ∧ ∀ u, t < u → u < 6 → ties u ≠ ties t → ¬ prd st r t u
theorem holds_iff {st ties : Nat → Int32} {day : Int32} {r : Nat} (ok : OKr st r) : p_holds st ties day r = true ↔ (p_stands st day r = true ∧ ∀ t, t < 6 → LB st ties r t) := by
  obtain ⟨o0, o1, o2, o3, o4, o5, o6, ot⟩ := ok
  have ht : ∀ n, n < 2 → (p_test st ties r n = true ↔ (nI n < rl st r 6 → ∃ a w, a < 6 ∧ w < 14 ∧ rl st r (7 + 2 * n) = nI a ∧ rl st r (8 + 2 * n) = nI w ∧ fitB (nI w) (ties a) (rl st r 0) = true ∧ (8 ≤ w → ties a = ties (w - 8)))) := by
    intro n hn
    unfold p_test
    by_cases c : nI n < rl st r 6
    · obtain ⟨⟨a, ha, ea⟩, ⟨w, hw, ew⟩⟩ := ot n hn c
      rw [decide_eq_true c, ea, ew]
      simp only [Bool.not_true, Bool.false_or]
      rw [isSo_fit ha hw]
      constructor
      · intro h _; exact ⟨a, w, ha, hw, rfl, rfl, h.1, h.2⟩
      · intro h
        obtain ⟨a', w', h1, h2, h3, h4, h5, h6⟩ := h c
        have e1 := (nI_eq (by omega) (by omega)).mp h3
        have e2 := (nI_eq (by omega) (by omega)).mp h4
        subst e1; subst e2
        exact ⟨h5, h6⟩
    · rw [decide_eq_false c]
      simp [c]
  unfold p_holds
  simp only [Bool.and_eq_true, Bool.not_eq_true', decide_eq_false_iff_not]
  rw [endOf_m1 o0 o3, ht 0 (by omega), ht 1 (by omega)]
  constructor
  · rintro ⟨⟨⟨h1, h2⟩, h3⟩, h4⟩
    have hall : ∀ n, n < 2 → nI n < rl st r 6 → ∃ a w, a < 6 ∧ w < 14 ∧ rl st r (7 + 2 * n) = nI a ∧ rl st r (8 + 2 * n) = nI w ∧ fitB (nI w) (ties a) (rl st r 0) = true ∧ (8 ≤ w → ties a = ties (w - 8)) := by
      intro n hn
      rcases (show n = 0 ∨ n = 1 by omega) with rfl | rfl
      · exact h3
      · exact h4
    refine ⟨h1, fun t ht' => ⟨?_, fun u q1 q2 q3 => ?_⟩⟩
    · rintro (⟨q1, q2⟩ | ⟨n, q1, q2, q3, q4⟩)
      · exact h2 ⟨t, ht', q2, q1⟩
      · obtain ⟨a, w, a1, a2, a3, a4, a5, a6⟩ := hall n q1 q2
        rw [a3] at q3
        have e := (nI_eq (by omega) (by omega)).mp q3
        subst e
        rw [a4, a5] at q4
        cases q4
    · rintro ⟨n, z1, z2, z3⟩
      obtain ⟨a, w, a1, a2, a3, a4, a5, a6⟩ := hall n z1 z2
      rw [a3, a4] at z3
      rcases z3 with ⟨y1, y2⟩ | ⟨y1, y2⟩
      · have e1 := (nI_eq (by omega) (by omega)).mp y1
        have e2 := (nI_eq (by omega) (by omega)).mp y2
        subst e1; subst e2
        have := a6 (by omega)
        rw [show 8 + u - 8 = u by omega] at this
        exact q3 this.symm
      · have e1 := (nI_eq (by omega) (by omega)).mp y1
        have e2 := (nI_eq (by omega) (by omega)).mp y2
        subst e1; subst e2
        have := a6 (by omega)
        rw [show 8 + t - 8 = t by omega] at this
        exact q3 this
  · rintro ⟨h1, h2⟩
    have hall : ∀ n, n < 2 → nI n < rl st r 6 → ∃ a w, a < 6 ∧ w < 14 ∧ rl st r (7 + 2 * n) = nI a ∧ rl st r (8 + 2 * n) = nI w ∧ fitB (nI w) (ties a) (rl st r 0) = true ∧ (8 ≤ w → ties a = ties (w - 8)) := by
      intro n hn hl
      obtain ⟨⟨a, ha, ea⟩, ⟨w, hw, ew⟩⟩ := ot n hn hl
      refine ⟨a, w, ha, hw, ea, ew, ?_, fun h8 => ?_⟩
      · cases hh : fitB (nI w) (ties a) (rl st r 0) with
        | true => rfl
        | false => exact absurd (Or.inr ⟨n, hn, hl, ea, by rw [ew]; exact hh⟩) (h2 a ha).1
      · have key : ∀ x y, x < y → y < 6 → ((a = x ∧ w - 8 = y) ∨ (a = y ∧ w - 8 = x)) → ties y = ties x := by
          intro x y q1 q2 q3
          apply Classical.byContradiction
          intro q4
          refine (h2 x (by omega)).2 y q1 q2 q4 ⟨n, hn, hl, ?_⟩
          rw [ea, ew]
          rcases q3 with q3 | q3
          · exact Or.inl ⟨by congr 1; omega, by congr 1; omega⟩
          · exact Or.inr ⟨by congr 1; omega, by congr 1; omega⟩
        rcases (show a < w - 8 ∨ a = w - 8 ∨ w - 8 < a by omega) with q | q | q
        · exact (key a (w - 8) q (by omega) (Or.inl ⟨rfl, rfl⟩)).symm
        · rw [← q]
        · exact key (w - 8) a q (by omega) (Or.inr ⟨rfl, rfl⟩)
    refine ⟨⟨⟨h1, ?_⟩, hall 0 (by omega)⟩, hall 1 (by omega)⟩
    rintro ⟨t, t1, t2, t3⟩
    exact (h2 t t1).1 (Or.inl ⟨t3, t2⟩)
-- ===== the class's bits =====
theorem x_landOf {S : Nat → Nat → Int32} {L : Nat → Nat → Int64} {c t : Nat} (hc : c < 16) (ht : t < 6) : sX2_landOf (nI c) (nI t) S L = some (S 15 (6 * c + t)) := by
  have e : nI c * 6 + nI t = nI (6 * c + t) := by show nI c * nI 6 + nI t = _; rw [pk_mul, nI_add]; congr 1; omega
  unfold sX2_landOf
  rw [e, ck_n (by omega) (by decide), nI_clamp (by omega)]
theorem x_takeTies {S : Nat → Nat → Int32} {L : Nat → Nat → Int64} {c : Nat} (hc : c < 16) : ∃ S', sX4_takeTies (nI c) S L = some (S', L) ∧ (∀ k, k ≠ 35 → S' k = S k) ∧ ∀ t, t < 6 → S' 35 t = S 15 (6 * c + t) := by
  have key : ∀ d v, v + d = 6 → ∀ f, d < f → ∀ S0 : Nat → Nat → Int32, ∃ S', lX4_takeTies_2 (nI c) f (nI v) S0 L = some (S', L) ∧ (∀ k, k ≠ 35 → S' k = S0 k) ∧ ∀ t, t < 6 → S' 35 t = if v ≤ t then S0 15 (6 * c + t) else S0 35 t := by
    intro d
    induction d with
    | zero =>
      intro v hv f hf S0
      obtain ⟨f, rfl⟩ : ∃ g, f = g + 1 := ⟨f - 1, by omega⟩
      refine ⟨S0, ?_, fun _ _ => rfl, fun t ht => by rw [if_neg (by omega)]⟩
      rw [lX4_takeTies_2, if_pos (show (6 : Int32) ≤ nI v from nI_le (a := 6) (by omega) (by omega))]
    | succ d ih =>
      intro v hv f hf S0
      obtain ⟨f, rfl⟩ : ∃ g, f = g + 1 := ⟨f - 1, by omega⟩
      obtain ⟨S', s1, s2, s3⟩ := ih (v + 1) (by omega) f (by omega) (qu2 S0 35 v (S0 15 (6 * c + v)))
      refine ⟨S', ?_, fun k hk => by rw [s2 k hk, qu2_ne hk], fun t ht => ?_⟩
      · rw [lX4_takeTies_2, if_neg (show ¬ (6 : Int32) ≤ nI v from nI_ge (b := 6) (by omega) (by decide)), x_landOf hc (by omega), ob_some, ck_n (by omega) (by decide), nI_clamp (by omega), bnd_e, bnd_e, nI_1]
        exact s1
      · rw [s3 t ht, qu2_ne (show 15 ≠ 35 by decide), qu2_same]
        by_cases e : t = v
        · subst e; rw [pk_us, if_neg (by omega), if_pos (by omega)]
        · rw [pk_un e]
          by_cases e2 : v ≤ t
          · rw [if_pos (by omega), if_pos e2]
          · rw [if_neg (by omega), if_neg e2]
  obtain ⟨S', s1, s2, s3⟩ := key 6 0 (by omega) FU (by unfold FU; omega) S
  refine ⟨S', ?_, s2, fun t ht => by rw [s3 t ht, if_pos (by omega)]⟩
  unfold sX4_takeTies
  rw [show lX4_takeTies_2 (nI c) FU 0 S L = _ from s1, ob2_some]
theorem x_stands {S : Nat → Nat → Int32} {L : Nat → Nat → Int64} {st : Nat → Int32} {day : Int32} {r : Nat} (hr : r < 60) (h4 : S 21 r = rl st r 4) (h5 : S 22 r = rl st r 5) : sX6_stands (nI r) day S L = some (bI (p_stands st day r)) := by
  unfold sX6_stands p_stands
  rw [ck_n hr (by decide), nI_clamp (by omega), h4, h5]
  by_cases h1 : day < rl st r 4
  · rw [if_pos h1, decide_eq_false (lt_nle32 h1)]; rfl
  · rw [if_neg h1, decide_eq_true (nlt32 h1), ck_n hr (by decide)]
    by_cases h2 : rl st r 5 = -1
    · rw [if_pos h2, decide_eq_true h2]; rfl
    · rw [if_neg h2, decide_eq_false h2, ck_n hr (by decide)]
      by_cases h3 : rl st r 5 ≤ day
      · rw [if_pos h3, decide_eq_false (le_nlt32 h3)]; rfl
      · rw [if_neg h3, decide_eq_true (nle32 h3)]; rfl
theorem x_standing {S : Nat → Nat → Int32} {L : Nat → Nat → Int64} {st : Nat → Int32} {nr : Nat} (hn : nr ≤ 60) (h2 : S 2 0 = nI nr) (h4 : ∀ r, r < nr → S 21 r = rl st r 4) (h5 : ∀ r, r < nr → S 22 r = rl st r 5) (day : Int32) : ∃ b, sX6_standing day S L = some b ∧ ∀ r, r < 64 → (lb b r = true ↔ (r < nr ∧ p_stands st day r = true)) := by
  have key : ∀ d j, j + d = nr → ∀ f, d < f → ∀ b0, ∃ b, lX6_standing_5 day S L f b0 (nI j) = some b ∧ ∀ r, r < 64 → (lb b r = true ↔ (lb b0 r = true ∨ (j ≤ r ∧ r < nr ∧ p_stands st day r = true))) := by
    intro d
    induction d with
    | zero =>
      intro j hj f hf b0
      obtain ⟨f, rfl⟩ : ∃ g, f = g + 1 := ⟨f - 1, by omega⟩
      refine ⟨b0, ?_, fun r hr => ⟨Or.inl, fun q => q.elim id (fun q => by omega)⟩⟩
      rw [lX6_standing_5, h2, if_pos (nI_le (by omega) (by omega))]
    | succ d ih =>
      intro j hj f hf b0
      obtain ⟨f, rfl⟩ : ∃ g, f = g + 1 := ⟨f - 1, by omega⟩
      rw [lX6_standing_5, h2, if_neg (nI_ge (by omega) (by omega)), x_stands (by omega) (h4 j (by omega)) (h5 j (by omega)), ob_some]
      cases hp : p_stands st day j with
      | false =>
        obtain ⟨b, q1, q2⟩ := ih (j + 1) (by omega) f (by omega) b0
        refine ⟨b, by rw [if_pos bI_f, bnd_e, nI_1]; exact q1, fun r hr => ?_⟩
        rw [q2 r hr]
        constructor
        · rintro (h | h)
          · exact Or.inl h
          · exact Or.inr ⟨by omega, h.2⟩
        · rintro (h | h)
          · exact Or.inl h
          · by_cases e : r = j
            · subst e; rw [hp] at h; exact absurd h.2.2 (by decide)
            · exact Or.inr ⟨by omega, h.2⟩
      | true =>
        obtain ⟨b, q1, q2⟩ := ih (j + 1) (by omega) f (by omega) (b0 ||| lsh 1 (nI j))
        refine ⟨b, by rw [if_neg (by rw [bI_t]; decide), bnd_e, bnd_e, nI_1]; exact q1, fun r hr => ?_⟩
        rw [q2 r hr, lb_or1 _ (by omega) hr, Bool.or_eq_true, decide_eq_true_eq]
        constructor
        · rintro ((h | h) | h)
          · exact Or.inl h
          · subst h; exact Or.inr ⟨by omega, by omega, hp⟩
          · exact Or.inr ⟨by omega, h.2⟩
        · rintro (h | h)
          · exact Or.inl (Or.inl h)
          · by_cases e : j = r
            · exact Or.inl (Or.inr e)
            · exact Or.inr ⟨by omega, h.2⟩
  obtain ⟨b, q1, q2⟩ := key nr 0 (by omega) FU (by unfold FU; omega) 0
  refine ⟨b, ?_, fun r hr => ?_⟩
  · unfold sX6_standing
    rw [show lX6_standing_5 day S L FU 0 0 = _ from q1, ob_some]
  · rw [q2 r hr, lb_zero]
    constructor
    · rintro (h | h)
      · cases h
      · exact h.2
    · intro h; exact Or.inr ⟨by omega, h⟩
theorem x_letBy {S : Nat → Nat → Int32} {L : Nat → Nat → Int64} {st : Nat → Int32} {nr t : Nat} (hn : nr ≤ 60) (ht : t < 6) (hT : T6 (S 35)) (hB : RB (L 26) (L 27) (L 28) st nr) : ∃ b, sX6_letBy (nI t) S L = some b ∧ ∀ r, r < 64 → (lb b r = true ↔ ¬ (r < nr ∧ ¬ LB st (S 35) r t)) := by
  have key : ∀ d u, u + d = 6 → t < u → ∀ f, d < f → ∀ b0, ∃ b, lX6_letBy_24 (nI t) S L f b0 (nI u) = some b ∧ ∀ r, r < 64 → (lb b r = true ↔ (lb b0 r = true ∧ ∀ v, u ≤ v → v < 6 → S 35 v ≠ S 35 t → ¬ (r < nr ∧ prd st r t v))) := by
    intro d
    induction d with
    | zero =>
      intro u hu htu f hf b0
      obtain ⟨f, rfl⟩ : ∃ g, f = g + 1 := ⟨f - 1, by omega⟩
      refine ⟨b0, ?_, fun r hr => ⟨fun h => ⟨h, fun v h1 h2 => by omega⟩, fun h => h.1⟩⟩
      rw [lX6_letBy_24, if_pos (show (6 : Int32) ≤ nI u from nI_le (a := 6) (by omega) (by omega))]
    | succ d ih =>
      intro u hu htu f hf b0
      obtain ⟨f, rfl⟩ : ∃ g, f = g + 1 := ⟨f - 1, by omega⟩
      have e : nI t * 6 + nI u = nI (6 * t + u) := by show nI t * nI 6 + nI u = _; rw [pk_mul, nI_add]; congr 1; omega
      rw [lX6_letBy_24, if_neg (show ¬ (6 : Int32) ≤ nI u from nI_ge (b := 6) (by omega) (by decide)), ck_n (by omega) (by decide), ck_n ht (by decide), nI_clamp (by omega), nI_clamp (by omega)]
      by_cases c : S 35 u = S 35 t
      · obtain ⟨b, q1, q2⟩ := ih (u + 1) (by omega) (by omega) f (by omega) b0
        refine ⟨b, by rw [if_pos c, bnd_e, nI_1]; exact q1, fun r hr => ?_⟩
        rw [q2 r hr]
        constructor
        · rintro ⟨h1, h2⟩
          refine ⟨h1, fun v p1 p2 p3 => ?_⟩
          by_cases ev : v = u
          · subst ev; exact absurd c p3
          · exact h2 v (by omega) p2 p3
        · rintro ⟨h1, h2⟩
          exact ⟨h1, fun v p1 p2 p3 => h2 v (by omega) p2 p3⟩
      · obtain ⟨b, q1, q2⟩ := ih (u + 1) (by omega) (by omega) f (by omega) (b0 &&& (L 28 (6 * t + u) ^^^ (-1)))
        refine ⟨b, by rw [if_neg c, e, ck_n (by omega) (by decide), nI_clamp (by omega), bnd_e, bnd_e, nI_1]; exact q1, fun r hr => ?_⟩
        rw [q2 r hr, lb_and, lb_not _ hr, Bool.and_eq_true, Bool.not_eq_true']
        have hp := hB.2.2 t u r htu (by omega) hr
        have hp' : lb (L 28 (6 * t + u)) r = false ↔ ¬ (r < nr ∧ prd st r t u) := by rw [← hp]; simp
        rw [hp']
        constructor
        · rintro ⟨⟨h1, h2⟩, h3⟩
          refine ⟨h1, fun v p1 p2 p3 => ?_⟩
          by_cases ev : v = u
          · subst ev; exact h2
          · exact h3 v (by omega) p2 p3
        · rintro ⟨h1, h2⟩
          exact ⟨⟨h1, h2 u (by omega) (by omega) c⟩, fun v p1 p2 p3 => h2 v (by omega) p2 p3⟩
  obtain ⟨x, hx, ex⟩ := (hT t ht).enc
  have e0 : nI t * 5 + S 35 t + 1 = nI (5 * t + x) := by
    rw [ex]
    show nI t * nI 5 + (nI x - 1) + 1 = _
    rw [Int32.add_assoc, sub_add1, pk_mul, nI_add]; congr 1; omega
  obtain ⟨b, q1, q2⟩ := key (5 - t) (t + 1) (by omega) (by omega) FU (by unfold FU; omega) (L 27 (5 * t + x) ^^^ (-1))
  refine ⟨b, ?_, fun r hr => ?_⟩
  · unfold sX6_letBy
    rw [ck_n ht (by decide), nI_clamp (by omega), e0, ck_n (by omega) (by decide), nI_clamp (by omega), bnd_e, bnd_e, nI_1, q1, ob_some]
  · rw [q2 r hr, lb_not _ hr, Bool.not_eq_true']
    have hb := hB.2.1 t x r ht hx hr
    have hb' : lb (L 27 (5 * t + x)) r = false ↔ ¬ (r < nr ∧ brk st r t (S 35 t)) := by rw [ex, ← hb]; simp
    rw [hb']
    unfold LB
    constructor
    · rintro ⟨h1, h2⟩ ⟨h3, h4⟩
      exact h4 ⟨fun q => h1 ⟨h3, q⟩, fun u p1 p2 p3 p4 => h2 u (by omega) p2 p3 ⟨h3, p4⟩⟩
    · intro h
      constructor
      · rintro ⟨h3, h4⟩; exact h ⟨h3, fun q => q.1 h4⟩
      · rintro v p1 p2 p3 ⟨h3, h4⟩; exact h ⟨h3, fun q => q.2 v (by omega) p2 p3 h4⟩
