-- ===== ALL CASES =====
def tiesN (i : Nat) : Nat → Int32 := fun t => nI (i / 5 ^ t % 5) - 1
theorem tiesN_T6 (i : Nat) : T6 (tiesN i) := fun t _ => by
  have h : i / 5 ^ t % 5 < 5 := Nat.mod_lt _ (by decide)
  show In1 (nI (i / 5 ^ t % 5) - 1) 4
  by_cases e : i / 5 ^ t % 5 = 0
  · rw [e]; exact Or.inl rfl
  · obtain ⟨m, hm⟩ : ∃ m, i / 5 ^ t % 5 = m + 1 := ⟨i / 5 ^ t % 5 - 1, by omega⟩
    rw [hm, nI_pred]
    exact Or.inr ⟨m, by omega, rfl⟩
/-- letFrom at a place is what the next has and the TIE there lets -/
def LF (S : Nat → Nat → Int32) (L : Nat → Nat → Int64) (st : Nat → Int32) (nr t : Nat) : Prop := ∀ r, r < 64 → (lb (L 39 t) r = true ↔ (lb (L 39 (t + 1)) r = true ∧ ¬ (r < nr ∧ ¬ LB st (S 35) r t)))
def AI (S : Nat → Nat → Int32) (L : Nat → Nat → Int64) (st : Nat → Int32) (nr : Nat) (day : Int32) : Prop := T6 (S 35) ∧ (∀ r, r < 64 → (lb (L 39 6) r = true ↔ (r < nr ∧ p_stands st day r = true))) ∧ (∀ t, t < 6 → LF S L st nr t) ∧ L 6 4 = L 39 0
theorem AI.held {S : Nat → Nat → Int32} {L : Nat → Nat → Int64} {st ties : Nat → Int32} {nr : Nat} {day : Int32} (h : AI S L st nr day) (ok : ∀ r, r < nr → OKr st r) (ht : ∀ t, t < 6 → S 35 t = ties t) : HeldO st ties day (fun _ => false) nr (L 6 4) := by
  obtain ⟨h1, h2, h3, h4⟩ := h
  have key : ∀ d t, t + d = 6 → ∀ r, r < 64 → (lb (L 39 t) r = true ↔ ((r < nr ∧ p_stands st day r = true) ∧ ∀ u, t ≤ u → u < 6 → ¬ (r < nr ∧ ¬ LB st (S 35) r u))) := by
    intro d
    induction d with
    | zero =>
      intro t htt r hr
      rw [show t = 6 by omega, h2 r hr]
      exact ⟨fun q => ⟨q, fun u p1 p2 => by omega⟩, fun q => q.1⟩
    | succ d ih =>
      intro t htt r hr
      rw [h3 t (by omega) r hr, ih (t + 1) (by omega) r hr]
      constructor
      · rintro ⟨⟨q1, q2⟩, q3⟩
        refine ⟨q1, fun u p1 p2 => ?_⟩
        by_cases e : u = t
        · subst e; exact q3
        · exact q2 u (by omega) p2
      · rintro ⟨q1, q2⟩
        exact ⟨⟨q1, fun u p1 p2 => q2 u (by omega) p2⟩, q2 t (by omega) (by omega)⟩
  intro r hr
  rw [h4, key 6 0 (by omega) r hr]
  constructor
  · rintro ⟨⟨q1, q2⟩, q3⟩
    refine ⟨q1, rfl, ?_⟩
    rw [← holds_congr (ok r q1) ht]
    exact (holds_iff (ok r q1)).mpr ⟨q2, fun t p => Classical.byContradiction (fun q => q3 t (by omega) p ⟨q1, q⟩)⟩
  · rintro ⟨q1, -, q2⟩
    rw [← holds_congr (ok r q1) ht] at q2
    obtain ⟨q3, q4⟩ := (holds_iff (ok r q1)).mp q2
    exact ⟨⟨q1, q3⟩, fun t p1 p2 q => q.2 (q4 t p2)⟩
theorem LB_congr {st ties ties' : Nat → Int32} {r t : Nat} (h : ∀ u, t ≤ u → u < 6 → ties' u = ties u) (ht : t < 6) : LB st ties' r t ↔ LB st ties r t := by
  unfold LB
  rw [h t (by omega) ht]
  constructor
  · rintro ⟨q1, q2⟩; exact ⟨q1, fun u p1 p2 p3 => q2 u p1 p2 (by rw [h u (by omega) p2]; exact p3)⟩
  · rintro ⟨q1, q2⟩; exact ⟨q1, fun u p1 p2 p3 => q2 u p1 p2 (by rw [h u (by omega) p2] at p3; exact p3)⟩
theorem x_letBelow {S : Nat → Nat → Int32} {L : Nat → Nat → Int64} {st : Nat → Int32} {nr m : Nat} (hn : nr ≤ 60) (hm : m ≤ 6) (hT : T6 (S 35)) (hB : RB (L 26) (L 27) (L 28) st nr) (hL : ∀ t, m ≤ t → t < 6 → LF S L st nr t) :
    ∃ L', sX0_letBelow (nI m - 1) S L = some (S, L') ∧ (∀ k, k ≠ 6 → k ≠ 39 → L' k = L k) ∧ L' 39 6 = L 39 6 ∧ (∀ t, t < 6 → LF S L' st nr t) ∧ L' 6 4 = L' 39 0 := by
  have key : ∀ m, m ≤ 6 → ∀ f, m < f → ∀ L0 : Nat → Nat → Int64, (∀ k, k ≠ 39 → L0 k = L k) → (∀ t, m ≤ t → t < 6 → LF S L0 st nr t) → ∃ L', lX0_letBelow_2 f (nI m - 1) S L0 = some (S, L') ∧ (∀ k, k ≠ 39 → L' k = L k) ∧ L' 39 6 = L0 39 6 ∧ ∀ t, t < 6 → LF S L' st nr t := by
    intro m
    induction m with
    | zero =>
      intro hm f hf L0 h0 h1
      obtain ⟨f, rfl⟩ : ∃ g, f = g + 1 := ⟨f - 1, by omega⟩
      exact ⟨L0, by rw [lX0_letBelow_2, if_pos (by decide)], h0, rfl, fun t ht => h1 t (by omega) ht⟩
    | succ m ih =>
      intro hm f hf L0 h0 h1
      obtain ⟨f, rfl⟩ : ∃ g, f = g + 1 := ⟨f - 1, by omega⟩
      have hB0 : RB (L0 26) (L0 27) (L0 28) st nr := by rw [h0 26 (by decide), h0 27 (by decide), h0 28 (by decide)]; exact hB
      obtain ⟨y, y1, y2⟩ := x_letBy (S := S) (L := L0) (t := m) hn (by omega) hT hB0
      obtain ⟨L', l1, l2, l3, l4⟩ := ih (by omega) f (by omega) (qu2L L0 39 m (L0 39 (m + 1) &&& y)) (fun k hk => by rw [qu2L_ne hk]; exact h0 k hk) (fun t p1 p2 => by
        by_cases e : t = m
        · subst e
          intro r hr
          rw [qu2L_same, pk_uLs, pk_uLn (by omega), lb_and, Bool.and_eq_true, y2 r hr]
        · intro r hr
          rw [qu2L_same, pk_uLn e, pk_uLn (by omega)]
          exact h1 t (by omega) p2 r hr)
      refine ⟨L', ?_, l2, by rw [l3, qu2L_same, pk_uLn (by omega)], l4⟩
      rw [lX0_letBelow_2, nI_pred, if_neg (nI_pos (by omega)), nI_1, ck_n (by omega) (by decide), nI_clamp (by omega), y1, ob_some, ck_n (by omega) (by decide), nI_clamp (by omega), bnd_e, bnd_e, show nI m + -1 = nI m - 1 by rw [Int32.sub_eq_add_neg]]
      exact l1
  obtain ⟨L', l1, l2, l3, l4⟩ := key m hm FU (by unfold FU; omega) L (fun _ _ => rfl) hL
  refine ⟨qu2L L' 6 4 (L' 39 0), ?_, fun k k1 k2 => by rw [qu2L_ne k1, l2 k k2], by rw [qu2L_ne (by decide), l3], fun t ht r hr => by rw [qu2L_ne (by decide)]; exact l4 t ht r hr, by rw [qu2L_same, pk_uLs, qu2L_ne (by decide)]⟩
  unfold sX0_letBelow
  rw [l1, ob2_some, show ∀ {β : Type} (o : Option β), ck 0 7 o = o from fun o => ck_n (j := 0) (n := 7) (by decide) (by decide), cl0, bnd_e]
theorem x_fill {S : Nat → Nat → Int32} {L : Nat → Nat → Int64} {p : Int32} : ∃ S', sJ7_fill_53178_35 p S L = some (S', L) ∧ (∀ k, k ≠ 35 → S' k = S k) ∧ ∀ t, t < 6 → S' 35 t = p := by
  have key : ∀ d v, v + d = 6 → ∀ f, d < f → ∀ S0 : Nat → Nat → Int32, ∃ S', lJ7_fill_53178_35_5 p f (nI v) S0 L = some (S', L) ∧ (∀ k, k ≠ 35 → S' k = S0 k) ∧ ∀ t, t < 6 → S' 35 t = if v ≤ t then p else S0 35 t := by
    intro d
    induction d with
    | zero =>
      intro v hv f hf S0
      obtain ⟨f, rfl⟩ : ∃ g, f = g + 1 := ⟨f - 1, by omega⟩
      refine ⟨S0, ?_, fun _ _ => rfl, fun t ht => by rw [if_neg (by omega)]⟩
      rw [lJ7_fill_53178_35_5, if_pos (show (6 : Int32) ≤ nI v from nI_le (a := 6) (by omega) (by omega))]
    | succ d ih =>
      intro v hv f hf S0
      obtain ⟨f, rfl⟩ : ∃ g, f = g + 1 := ⟨f - 1, by omega⟩
      obtain ⟨S', s1, s2, s3⟩ := ih (v + 1) (by omega) f (by omega) (qu2 S0 35 v p)
      refine ⟨S', ?_, fun k hk => by rw [s2 k hk, qu2_ne hk], fun t ht => ?_⟩
      · rw [lJ7_fill_53178_35_5, if_neg (show ¬ (6 : Int32) ≤ nI v from nI_ge (b := 6) (by omega) (by decide)), ck_n (by omega) (by decide), nI_clamp (by omega), bnd_e, bnd_e, nI_1]
        exact s1
      · rw [s3 t ht, qu2_same]
        by_cases e : t = v
        · subst e; rw [pk_us, if_neg (by omega), if_pos (by omega)]
        · rw [pk_un e]
          by_cases e2 : v ≤ t
          · rw [if_pos (by omega), if_pos e2]
          · rw [if_neg (by omega), if_neg e2]
  obtain ⟨S', s1, s2, s3⟩ := key 6 0 (by omega) FU (by unfold FU; omega) S
  refine ⟨S', ?_, s2, fun t ht => by rw [s3 t ht, if_pos (by omega)]⟩
  unfold sJ7_fill_53178_35
  rw [show lJ7_fill_53178_35_5 p FU 0 S L = _ from s1, ob2_some]
theorem x_startF {S : Nat → Nat → Int32} {L : Nat → Nat → Int64} {M : Nat → Nat → Int32} {nc nt nr ny nq : Nat} (R : RelN S L M nc nt nr ny nq) (day : Int32) : ∃ S' L', sX0_start day S L = some (S', L') ∧ EqX S L S' L' ∧ AI S' L' (M 1) nr day ∧ ∀ k, k ≠ 35 → S' k = S k := by
  obtain ⟨hC, hRC, hRR, hRB, -⟩ := R
  have b3 := hC.2.2.1.2
  obtain ⟨S1, s1, s2, s3⟩ := x_fill (S := S) (L := L) (p := -1)
  have hT : T6 (S1 35) := fun t ht => by rw [s3 t ht]; exact Or.inl rfl
  obtain ⟨b, t1, t2⟩ := x_standing (S := S1) (L := L) (st := M 1) (nr := nr) b3 (by rw [s2 2 (by decide)]; exact hRR.1) (fun r hr => by rw [s2 21 (by decide)]; exact (hRR.2.1 r hr).2.2.2.2.1.1) (fun r hr => by rw [s2 22 (by decide)]; exact (hRR.2.1 r hr).2.2.2.2.2.1.1) day
  have hB1 : RB (qu2L L 39 6 b 26) (qu2L L 39 6 b 27) (qu2L L 39 6 b 28) (M 1) nr := by rw [qu2L_ne (by decide), qu2L_ne (by decide), qu2L_ne (by decide)]; exact hRB
  obtain ⟨L', l1, l2, l3, l4, l5⟩ := x_letBelow (S := S1) (m := 6) b3 (by omega) hT hB1 (fun t p1 p2 => by omega)
  refine ⟨S1, L', ?_, ⟨fun k hk => s2 k (fun e => by subst e; cases hk), fun k hk => by rw [l2 k (fun e => by subst e; cases hk) (fun e => by subst e; cases hk), qu2L_ne (fun e => by subst e; cases hk)]⟩, ⟨hT, fun r hr => by rw [l3, qu2L_same, pk_uLs]; exact t2 r hr, l4, l5⟩, s2⟩
  unfold sX0_start
  rw [s1, ob2_some, t1, ob_some, show ∀ {β : Type} (o : Option β), ck 6 7 o = o from fun o => ck_n (j := 6) (n := 7) (by decide) (by decide), show (6 : Int32).toNatClampNeg = 6 from rfl, bnd_e, show sX0_letBelow 5 S1 (qu2L L 39 6 b) = _ from l1, ob2_some]
theorem x_start {S : Nat → Nat → Int32} {L : Nat → Nat → Int64} {M : Nat → Nat → Int32} {nc nt nr ny nq : Nat} (R : RelN S L M nc nt nr ny nq) (day : Int32) : ∃ S' L', sX0_start day S L = some (S', L') ∧ EqX S L S' L' ∧ AI S' L' (M 1) nr day := by
  obtain ⟨S', L', h1, h2, h3, -⟩ := x_startF R day
  exact ⟨S', L', h1, h2, h3⟩
theorem rem5 {a : Nat} (ha : a < 2 ^ 31) : irm (nI a) 5 = nI (a % 5) := pk_rem (d := 5) ha (by decide) (by decide)
theorem div5 {a : Nat} (ha : a < 2 ^ 31) : nI a / 5 = nI (a / 5) := pk_div (d := 5) ha (by decide) (by decide)
theorem pw5 (i t : Nat) : i / 5 ^ t / 5 = i / 5 ^ (t + 1) := by rw [Nat.div_div_eq_div_mul, Nat.pow_succ]
theorem x_setTiesF {S : Nat → Nat → Int32} {L : Nat → Nat → Int64} {M : Nat → Nat → Int32} {nc nt nr ny nq i : Nat} {day : Int32} (R : RelN S L M nc nt nr ny nq) (hA : AI S L (M 1) nr day) (hi : i < 15625) :
    ∃ S' L', sX0_setTies (nI i) S L = some (S', L') ∧ EqX S L S' L' ∧ AI S' L' (M 1) nr day ∧ (∀ t, t < 6 → S' 35 t = tiesN i t) ∧ ∀ k, k ≠ 35 → S' k = S k := by
  have b3 := R.1.2.2.1.2
  have key : ∀ d t, t + d = 6 → ∀ f, d < f → ∀ (S0 : Nat → Nat → Int32) (m : Nat), m ≤ t → (∀ k, k ≠ 35 → S0 k = S k) → (∀ u, u < t → S0 35 u = tiesN i u) → (∀ u, t ≤ u → u < 6 → S0 35 u = S 35 u) → (∀ u, m ≤ u → u < t → S 35 u = tiesN i u) →
      ∃ S' m', lX0_setTies_7 f (nI (i / 5 ^ t)) (nI m - 1) (nI t) S0 L = some (nI m' - 1, S', L) ∧ m' ≤ 6 ∧ (∀ k, k ≠ 35 → S' k = S k) ∧ (∀ u, u < 6 → S' 35 u = tiesN i u) ∧ ∀ u, m' ≤ u → u < 6 → S 35 u = tiesN i u := by
    intro d
    induction d with
    | zero =>
      intro t ht f hf S0 m hm h1 h2 h3 h4
      obtain ⟨f, rfl⟩ : ∃ g, f = g + 1 := ⟨f - 1, by omega⟩
      refine ⟨S0, m, ?_, by omega, h1, fun u hu => h2 u (by omega), fun u p1 p2 => h4 u p1 (by omega)⟩
      rw [lX0_setTies_7, if_pos (show (6 : Int32) ≤ nI t from nI_le (a := 6) (by omega) (by omega))]
    | succ d ih =>
      intro t ht f hf S0 m hm h1 h2 h3 h4
      obtain ⟨f, rfl⟩ : ∃ g, f = g + 1 := ⟨f - 1, by omega⟩
      have hb : i / 5 ^ t < 2 ^ 31 := Nat.lt_of_le_of_lt (Nat.div_le_self _ _) (by omega)
      have e0 : S0 35 t = S 35 t := h3 t (by omega) (by omega)
      rw [lX0_setTies_7, if_neg (show ¬ (6 : Int32) ≤ nI t from nI_ge (b := 6) (by omega) (by decide)), rem5 hb, bnd_e, div5 hb, bnd_e, pw5, ck_n (by omega) (by decide), nI_clamp (by omega), e0]
      by_cases c : S 35 t = nI (i / 5 ^ t % 5) - 1
      · rw [if_pos c, bnd_e, nI_1]
        exact ih (t + 1) (by omega) f (by omega) S0 m (by omega) h1 (fun u hu => by
          by_cases e : u = t
          · subst e; rw [e0]; exact c
          · exact h2 u (by omega)) (fun u p1 p2 => h3 u (by omega) p2) (fun u p1 p2 => by
          by_cases e : u = t
          · subst e; exact c
          · exact h4 u p1 (by omega))
      · rw [if_neg c, ck_n (by omega) (by decide), bnd_e, bnd_e, nI_1]
        have := ih (t + 1) (by omega) f (by omega) (qu2 S0 35 t (nI (i / 5 ^ t % 5) - 1)) (t + 1) (by omega) (fun k hk => by rw [qu2_ne hk]; exact h1 k hk) (fun u hu => by
          rw [qu2_same]
          by_cases e : u = t
          · subst e; rw [pk_us]; rfl
          · rw [pk_un e]; exact h2 u (by omega)) (fun u p1 p2 => by rw [qu2_same, pk_un (by omega)]; exact h3 u (by omega) p2) (fun u p1 p2 => by omega)
        rw [nI_pred] at this
        exact this
  obtain ⟨S', m', k1, k2, k3, k4, k5⟩ := key 6 0 (by omega) FU (by unfold FU; omega) S 0 (by omega) (fun _ _ => rfl) (fun u hu => by omega) (fun _ _ _ => rfl) (fun u p1 p2 => by omega)
  rw [show i / 5 ^ 0 = i by simp] at k1
  have hT' : T6 (S' 35) := fun t ht => by rw [k4 t ht]; exact tiesN_T6 i t ht
  have hB : RB (L 26) (L 27) (L 28) (M 1) nr := R.2.2.2.1
  obtain ⟨L', l1, l2, l3, l4, l5⟩ := x_letBelow (S := S') (L := L) (m := m') b3 k2 hT' hB (fun t p1 p2 r hr => by
    rw [hA.2.2.1 t p2 r hr, LB_congr (ties := S' 35) (ties' := S 35) (fun u q1 q2 => by rw [k5 u (by omega) q2, k4 u q2]) p2])
  refine ⟨S', L', ?_, ⟨fun k hk => k3 k (fun e => by subst e; cases hk), fun k hk => l2 k (fun e => by subst e; cases hk) (fun e => by subst e; cases hk)⟩, ⟨hT', fun r hr => by rw [l3]; exact hA.2.1 r hr, l4, l5⟩, k4, k3⟩
  unfold sX0_setTies
  rw [show lX0_setTies_7 FU (nI i) (-1) 0 S L = _ from k1, ob3_some, l1, ob2_some]
theorem x_setTies {S : Nat → Nat → Int32} {L : Nat → Nat → Int64} {M : Nat → Nat → Int32} {nc nt nr ny nq i : Nat} {day : Int32} (R : RelN S L M nc nt nr ny nq) (hA : AI S L (M 1) nr day) (hi : i < 15625) :
    ∃ S' L', sX0_setTies (nI i) S L = some (S', L') ∧ EqX S L S' L' ∧ AI S' L' (M 1) nr day ∧ ∀ t, t < 6 → S' 35 t = tiesN i t := by
  obtain ⟨S', L', h1, h2, h3, h4, -⟩ := x_setTiesF R hA hi
  exact ⟨S', L', h1, h2, h3, h4⟩
theorem m_looksN {M : Nat → Nat → Int32} {i : Nat} {day : Int32} (hi : i < 15625) : ∃ M', sX11_looksAtNumber (nI i) day M = some M' ∧ (∀ k, k ≠ 0 → k ≠ 2 → M' k = M k) ∧ M' 0 2 = day ∧ ∀ t, t < 6 → M' 2 t = tiesN i t := by
  have key : ∀ d t, t + d = 6 → ∀ f, d < f → ∀ M0 : Nat → Nat → Int32, ∃ M', lX11_looksAtNumber_10 f (nI (i / 5 ^ t)) (nI t) M0 = some M' ∧ (∀ k, k ≠ 2 → M' k = M0 k) ∧ ∀ u, u < 6 → M' 2 u = if t ≤ u then tiesN i u else M0 2 u := by
    intro d
    induction d with
    | zero =>
      intro t ht f hf M0
      obtain ⟨f, rfl⟩ : ∃ g, f = g + 1 := ⟨f - 1, by omega⟩
      refine ⟨M0, ?_, fun _ _ => rfl, fun u hu => by rw [if_neg (by omega)]⟩
      rw [lX11_looksAtNumber_10, if_pos (show (6 : Int32) ≤ nI t from nI_le (a := 6) (by omega) (by omega))]
    | succ d ih =>
      intro t ht f hf M0
      obtain ⟨f, rfl⟩ : ∃ g, f = g + 1 := ⟨f - 1, by omega⟩
      have hb : i / 5 ^ t < 2 ^ 31 := Nat.lt_of_le_of_lt (Nat.div_le_self _ _) (by omega)
      obtain ⟨M', m1, m2, m3⟩ := ih (t + 1) (by omega) f (by omega) (qu2 M0 2 t (nI (i / 5 ^ t % 5) - 1))
      refine ⟨M', ?_, fun k hk => by rw [m2 k hk, qu2_ne hk], fun u hu => ?_⟩
      · rw [lX11_looksAtNumber_10, if_neg (show ¬ (6 : Int32) ≤ nI t from nI_ge (b := 6) (by omega) (by decide)), ck_n (by omega) (by decide), nI_clamp (by omega), rem5 hb, bnd_e, div5 hb, bnd_e, pw5, bnd_e, nI_1]
        exact m1
      · rw [m3 u hu, qu2_same]
        by_cases e : u = t
        · subst e; rw [pk_us, if_neg (by omega), if_pos (by omega)]; rfl
        · rw [pk_un e]
          by_cases e2 : t ≤ u
          · rw [if_pos (by omega), if_pos e2]
          · rw [if_neg (by omega), if_neg e2]
  obtain ⟨M', m1, m2, m3⟩ := key 6 0 (by omega) FU (by unfold FU; omega) (qu2 M 0 2 day)
  rw [show i / 5 ^ 0 = i by simp] at m1
  refine ⟨M', ?_, fun k h1 h2 => by rw [m2 k h2, qu2_ne h1], by rw [m2 0 (by decide), qu2_same, pk_us], fun t ht => by rw [m3 t ht, if_pos (by omega)]⟩
  unfold sX11_looksAtNumber
  rw [bnd_e, show lX11_looksAtNumber_10 FU (nI i) 0 _ = _ from m1, ob_some]
/-- both turn to one of ALL CASES, the books not read -/
theorem turn0 {S : Nat → Nat → Int32} {L : Nat → Nat → Int64} {M : Nat → Nat → Int32} {nc nt nr ny nq i : Nat} {day : Int32} (R : RelN S L M nc nt nr ny nq) (hA : AI S L (M 1) nr day) (hi : i < 15625) :
    ∃ S' L' M', sX0_setTies (nI i) S L = some (S', L') ∧ sX11_looksAtNumber (nI i) day M = some M' ∧ EqX S L S' L' ∧ EqM M M' ∧ AI S' L' (M 1) nr day ∧ XS S' L' (M 1) (tiesN i) day (fun _ => false) nr ny ∧ MS M' (M 1) (tiesN i) day (fun _ => false) nr ny := by
  obtain ⟨S', L', x1, x2, x3, x4⟩ := x_setTies R hA hi
  obtain ⟨M', m1, m2, m3, m4⟩ := m_looksN (M := M) (day := day) hi
  have hM : EqM M M' := ⟨m2 1 (by decide) (by decide), m2 3 (by decide) (by decide)⟩
  have R' := R.frame x2 hM
  have hst : M' 1 = M 1 := hM.1
  have ok : ∀ r, r < nr → OKr (M 1) r := fun r hr => (R.2.2.1.2.1 r hr).ok
  refine ⟨S', L', M', x1, m1, x2, hM, x3, ?_, ?_⟩
  · rw [← hst]; exact xs_of R' (tiesN_T6 i) x4 (by rw [hst]; exact x3.held ok x4)
  · rw [← hst]; exact ms_of R' (tiesN_T6 i) m4 m3
theorem turn {S : Nat → Nat → Int32} {L : Nat → Nat → Int64} {M : Nat → Nat → Int32} {nc nt nr ny nq i k : Nat} {day : Int32} (R : RelN S L M nc nt nr ny nq) (hA : AI S L (M 1) nr day) (hi : i < 15625) (hk : k < 3) :
    ∃ S' L' M', sX0_turnTo (nI i) (nI k) S L = some (S', L') ∧ sX11_looksAtNumber (nI i) day M = some M' ∧ EqX S L S' L' ∧ EqM M M' ∧ AI S' L' (M 1) nr day ∧ XS S' L' (M 1) (tiesN i) day (fun _ => false) nr ny ∧ MS M' (M 1) (tiesN i) day (fun _ => false) nr ny ∧ HS S' (sE (M 1) (tiesN i) day (fun _ => false) nr k) (sT (M 1) (tiesN i) day (fun _ => false) nr k) ∧ S' 6 5 = nI k := by
  obtain ⟨S1, L1, M', x1, m1, x2, hM, hA1, hxs, hms⟩ := turn0 R hA hi
  obtain ⟨S2, b1, b2, b3, b4⟩ := x_readBooks hxs hk
  have h35 : S2 35 = S1 35 := b2 35 (by decide) (by decide) (by decide)
  refine ⟨S2, L1, M', ?_, m1, ⟨fun q hq => ?_, x2.2⟩, hM, ?_, hxs.frame (fun q hq => ?_), hms, ⟨fun a ha => ?_, b4⟩, b3⟩
  · unfold sX0_turnTo; rw [x1, ob2_some, b1, ob2_some]
  · rw [b2 q (fun e => by subst e; cases hq) (fun e => by subst e; cases hq) (fun e => by subst e; cases hq)]; exact x2.1 q hq
  · unfold AI LF at hA1 ⊢; rw [h35]; exact hA1
  · exact b2 q (fun e => by subst e; rcases hq with h | h <;> cases h) (fun e => by subst e; rcases hq with h | h <;> cases h) (fun e => by subst e; rcases hq with h | h <;> cases h)
  · rcases FR_spec (day := day) (out := fun _ => false) (k := k) (a := a) (tiesN_T6 i) hms.2.2.1 with ⟨-, q2, q3⟩ | ⟨r, -, -, -, -, q4, q5⟩
    · rw [q2, q3]; exact ⟨by omega, ha⟩
    · exact ⟨q4, q5⟩
/-- what a judge's end leaves as it was -/
theorem judgeX' {S : Nat → Nat → Int32} {L : Nat → Nat → Int64} {st ties : Nat → Int32} {day d2 : Int32} {out : Nat → Bool} {nr ny k a : Nat} (hxs : XS S L st ties day out nr ny) (hHS : HS S (sE st ties day out nr k) (sT st ties day out nr k)) (h65 : S 6 5 = nI k) (ha : a < 4) : ∃ S', sX4_outcome (nI a) S L = some (VJ st ties day out nr ny k a, S', L) ∧ EqX S L S' L ∧ XS S' L st ties day out nr ny ∧ HS S' (sE st ties day out nr k) (sT st ties day out nr k) ∧ S' 6 5 = nI k ∧ (AI S L st nr d2 → AI S' L st nr d2) ∧ S' 35 = S 35 := by
  obtain ⟨S', o1, o2⟩ := judgeX hxs hHS h65 ha
  have h35 : S' 35 = S 35 := o2 35 (by decide) (by decide)
  refine ⟨S', o1, ⟨fun q hq => o2 q (fun e => by subst e; cases hq) (fun e => by subst e; cases hq), fun _ _ => rfl⟩, hxs.frame (fun q hq => o2 q (fun e => by subst e; rcases hq with h | h <;> cases h) (fun e => by subst e; rcases hq with h | h <;> cases h)), ⟨hHS.1, fun b hb => by rw [o2 36 (by decide) (by decide), o2 37 (by decide) (by decide)]; exact hHS.2 b hb⟩, by rw [o2 6 (by decide) (by decide)]; exact h65, fun hA => ?_, h35⟩
  unfold AI LF at hA ⊢; rw [h35]; exact hA
