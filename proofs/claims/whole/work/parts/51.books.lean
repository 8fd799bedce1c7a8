-- ===== both sides at one CASE =====
def MS (M : Nat → Nat → Int32) (st ties : Nat → Int32) (day : Int32) (out : Nat → Bool) (nr ny : Nat) : Prop :=
  M 1 = st ∧ (st 2 = nI nr ∧ nr ≤ 60) ∧ (∀ r, r < nr → OKr st r) ∧ (∀ t, t < 6 → M 2 t = ties t) ∧ M 0 2 = day ∧ (∀ r, r < nr → M 3 r = bI (out r)) ∧ T6 ties ∧
  (∀ k, k < 12 → In (st (942 + k)) 3) ∧ (∀ a, a < 4 → In (st (954 + a)) 4) ∧ (st 3 = nI ny ∧ ny ≤ 8) ∧ ∀ j, j < ny → In (st (958 + 3 * j)) 3 ∧ In (st (959 + 3 * j)) 16 ∧ In (st (960 + 3 * j)) 6
def XS (S : Nat → Nat → Int32) (L : Nat → Nat → Int64) (st ties : Nat → Int32) (day : Int32) (out : Nat → Bool) (nr ny : Nat) : Prop :=
  (∀ t, t < 6 → S 35 t = ties t) ∧ T6 ties ∧ HeldO st ties day out nr (L 6 4) ∧ nr ≤ 60 ∧ RR (S 2) (S 17) (S 18) (S 19) (S 20) (S 21) (S 22) (S 23) (S 24) (S 25) st nr ∧ RB (L 26) (L 27) (L 28) st nr ∧ RW (S 29) (S 30) st ∧ RY (S 4) (S 31) (S 32) (S 33) st ny ∧ ny ≤ 8
theorem holds_congr {st ties ties' : Nat → Int32} {day : Int32} {r : Nat} (ok : OKr st r) (h : ∀ t, t < 6 → ties' t = ties t) : p_holds st ties' day r = p_holds st ties day r := by
  have key : (∀ t, t < 6 → LB st ties' r t) ↔ (∀ t, t < 6 → LB st ties r t) := by
    constructor
    · intro q t ht
      refine ⟨by rw [← h t ht]; exact (q t ht).1, fun u p1 p2 p3 => (q t ht).2 u p1 p2 (by rw [h u p2, h t ht]; exact p3)⟩
    · intro q t ht
      refine ⟨by rw [h t ht]; exact (q t ht).1, fun u p1 p2 p3 => (q t ht).2 u p1 p2 (by rw [h u p2, h t ht] at p3; exact p3)⟩
  have h1 := holds_iff (ties := ties') (day := day) ok
  have h2 := holds_iff (ties := ties) (day := day) ok
  rw [key] at h1
  rw [Bool.eq_iff_iff, h1, h2]
theorem endOf_congr {st ties ties' : Nat → Int32} {r : Nat} (h3 : In (rl st r 3) 11) (h : ∀ t, t < 6 → ties' t = ties t) : p_endOf st ties' r = p_endOf st ties r := by
  obtain ⟨w, hw, e⟩ := h3
  unfold p_endOf
  by_cases c5 : 5 ≤ w
  · rw [e, show nI w - 5 = nI (w - 5) from pk_sub (b := 5) c5, nI_clamp (by omega), h (w - 5) (by omega)]
  · rw [e, if_neg (show ¬ (5 : Int32) ≤ nI w from nI_ge (b := 5) (by omega) (by decide)), if_neg (show ¬ (5 : Int32) ≤ nI w from nI_ge (b := 5) (by omega) (by decide))]
theorem endOf_in {st ties : Nat → Int32} {r : Nat} (ok : OKr st r) (hT : T6 ties) : In1 (p_endOf st ties r) 4 := by
  obtain ⟨w, hw, e⟩ := ok.2.2.2.1
  unfold p_endOf
  rw [e]
  by_cases c0 : w = 0
  · subst c0; rw [if_pos (show nI 0 = 0 from rfl)]; exact Or.inr ok.1
  · rw [if_neg (show ¬ nI w = 0 from fun q => c0 ((nI_eq (b := 0) (by omega) (by decide)).mp q))]
    by_cases c5 : 5 ≤ w
    · rw [if_pos (show (5 : Int32) ≤ nI w from nI_le (a := 5) c5 (by omega)), show nI w - 5 = nI (w - 5) from pk_sub (b := 5) c5, nI_clamp (by omega)]
      exact hT _ (by omega)
    · rw [if_neg (show ¬ (5 : Int32) ≤ nI w from nI_ge (b := 5) (by omega) (by decide)), show nI w - 1 = nI (w - 1) from pk_sub (b := 1) (by omega)]
      exact Or.inr ⟨w - 1, by omega, rfl⟩
/-- the first RULE of a BOOK that holds -/
def FR (st ties : Nat → Int32) (day : Int32) (out : Nat → Bool) (nr k a : Nat) : Option Nat := fsI (bk st ties day out (nI a) (st (942 + (3 * a + k)))) nr 0
def sE (st ties : Nat → Int32) (day : Int32) (out : Nat → Bool) (nr k a : Nat) : Nat := match FR st ties day out nr k a with
  | none => 0
  | some r => (rl st r 2).toNatClampNeg
def sT (st ties : Nat → Int32) (day : Int32) (out : Nat → Bool) (nr k a : Nat) : Nat := match FR st ties day out nr k a with
  | none => a
  | some r => (p_endOf st ties r).toNatClampNeg
theorem FR_spec {st ties : Nat → Int32} {day : Int32} {out : Nat → Bool} {nr k a : Nat} (hT : T6 ties) (ok : ∀ r, r < nr → OKr st r) :
    (FR st ties day out nr k a = none ∧ sE st ties day out nr k a = 0 ∧ sT st ties day out nr k a = a) ∨ ∃ r, r < nr ∧ FR st ties day out nr k a = some r ∧ rl st r 2 = nI (sE st ties day out nr k a) ∧ p_endOf st ties r = nI (sT st ties day out nr k a) ∧ sE st ties day out nr k a < 2 ∧ sT st ties day out nr k a < 4 := by
  rcases fsI_spec (P := bk st ties day out (nI a) (st (942 + (3 * a + k)))) (d := nr) (j := 0) with ⟨h1, -⟩ | ⟨r, h1, -, h3, h4, -⟩
  · refine Or.inl ⟨h1, ?_, ?_⟩
    · unfold sE FR; rw [h1]
    · unfold sT FR; rw [h1]
  · refine Or.inr ⟨r, by omega, h1, ?_⟩
    have hr := ok r (by omega)
    have e1 : sE st ties day out nr k a = (rl st r 2).toNatClampNeg := by unfold sE FR; rw [h1]
    have e2 : sT st ties day out nr k a = (p_endOf st ties r).toNatClampNeg := by unfold sT FR; rw [h1]
    obtain ⟨e, he, ee⟩ := hr.2.2.1
    have hh : p_holds st ties day r = true := by
      unfold bk at h4
      simp only [Bool.and_eq_true] at h4
      exact h4.2
    have hne : p_endOf st ties r ≠ -1 := by
      intro q
      unfold p_holds at hh
      rw [decide_eq_true q] at hh
      simp at hh
    obtain ⟨t, ht, et⟩ := (endOf_in hr hT).resolve_left hne
    rw [e1, e2, ee, et, nI_clamp (by omega), nI_clamp (by omega)]
    exact ⟨rfl, rfl, he, ht⟩
theorem bk_congr {st ties ties' : Nat → Int32} {day : Int32} {out out' : Nat → Bool} {a own : Int32} {nr : Nat} (ok : ∀ r, r < nr → OKr st r) (h : ∀ t, t < 6 → ties' t = ties t) (ho : ∀ r, r < nr → out' r = out r) : fsI (bk st ties' day out' a own) nr 0 = fsI (bk st ties day out a own) nr 0 := by
  apply fsI_congr
  intro i h1 h2
  unfold bk
  rw [holds_congr (ok i (by omega)) h, ho i (by omega)]
theorem m_ruleBy {M : Nat → Nat → Int32} {st ties : Nat → Int32} {day : Int32} {out : Nat → Bool} {nr ny k a : Nat} (hM : MS M st ties day out nr ny) (ha : a < 4) (hk : k < 3) : sX11_ruleBy (nI a) (nI k) M = some (oI (FR st ties day out nr k a)) := by
  obtain ⟨h1, h2, ok, h3, h4, h5, hT, hs, hw, hy⟩ := hM
  have e : 942 + 3 * nI a + nI k = nI (942 + (3 * a + k)) := by
    show nI 942 + nI 3 * nI a + nI k = _
    rw [pk_mul, nI_add, nI_add]; congr 1; omega
  unfold sX11_ruleBy
  rw [e, ck_n (by omega) (by decide), nI_clamp (by omega), m_firstOf (nr := nr) (out := out) (by rw [h1]; exact h2.1) h2.2 (by rw [h1]; exact ok) h5, ob_some, h1, h4, bk_congr ok h3 (fun _ _ => rfl)]
  rfl
theorem oI_some (r : Nat) : oI (some r) = nI r := rfl
theorem oI_none : oI none = -1 := rfl
theorem m_saying {M : Nat → Nat → Int32} {st ties : Nat → Int32} {day : Int32} {out : Nat → Bool} {nr ny k a : Nat} (hM : MS M st ties day out nr ny) (ha : a < 4) (hk : k < 3) : sX11_saying (nI a) (nI k) M = some (nI (10 * sE st ties day out nr k a + sT st ties day out nr k a)) := by
  unfold sX11_saying
  rw [m_ruleBy hM ha hk, ob_some]
  obtain ⟨h1, h2, ok, h3, h4, h5, hT, hs, hw, hy⟩ := hM
  rcases FR_spec (day := day) (out := out) (k := k) (a := a) hT ok with ⟨q1, q2, q3⟩ | ⟨r, hr, q1, q2, q3, q4, q5⟩
  · rw [q1, q2, q3, if_pos (show oI none = -1 from rfl)]; simp
  · rw [q1, oI_some, if_neg (nI_ne_m1 (show r < 1000000 by omega))]
    rw [mr2 (by omega), ob_some, m_endOf (by omega) (by rw [h1]; exact (ok r hr).2.2.2.1), ob_some, h1, endOf_congr (ok r hr).2.2.2.1 h3, q2, q3]
    show some (nI 10 * nI _ + nI _) = _
    rw [pk_mul, nI_add]
theorem x_ownKind {S : Nat → Nat → Int32} {L : Nat → Nat → Int64} {a k : Nat} (ha : a < 4) (hk : k < 3) : sX5_ownKind (nI a) (nI k) S L = some (S 29 (3 * a + k)) := by
  have e : nI a * 3 + nI k = nI (3 * a + k) := by show nI a * nI 3 + nI k = _; rw [pk_mul, nI_add]; congr 1; omega
  unfold sX5_ownKind
  rw [e, ck_n (by omega) (by decide), nI_clamp (by omega)]
theorem x_firstB {S : Nat → Nat → Int32} {L : Nat → Nat → Int64} {st ties : Nat → Int32} {day : Int32} {out : Nat → Bool} {nr a k : Nat} {b : Int64} (hn : nr ≤ 60) (ha : a < 4) (hk : k < 3) (hH : HeldO st ties day out nr b) (hB : RB (L 26) (L 27) (L 28) st nr) : sX6_first b (nI a) (nI k) S L = some (oI (fsI (bk st ties day out (nI a) (nI k)) nr 0)) := by
  have key : ∀ r, r < 64 → ((lb b r && lb (L 26 (3 * a + k)) r) = true ↔ (r < nr ∧ bk st ties day out (nI a) (nI k) r = true)) := by
    intro r hr
    unfold bk
    simp only [Bool.and_eq_true, hH r hr, hB.1 a k r ha hk hr, decide_eq_true_eq, Bool.not_eq_true']
    constructor
    · rintro ⟨⟨h1, h2, h3⟩, h4, h5, h6⟩; exact ⟨h1, ⟨⟨h5, h6⟩, h2⟩, h3⟩
    · rintro ⟨h1, ⟨⟨h2, h3⟩, h4⟩, h5⟩; exact ⟨⟨h1, h4, h5⟩, h1, h2, h3⟩
  rcases x_first (S := S) (L := L) (held := b) ha hk with ⟨h1, h2⟩ | ⟨r, hr, h1, h2, h3⟩
  · rw [h1, fsI_none (fun i q1 q2 => ?_)]
    · rfl
    · cases hb : bk st ties day out (nI a) (nI k) i with
      | false => rfl
      | true =>
        have := (key i (by omega)).mpr ⟨by omega, hb⟩
        rw [h2 i (by omega)] at this
        cases this
  · obtain ⟨q1, q2⟩ := (key r hr).mp h2
    rw [h1, fsI_some (k := r) (by omega) (by omega) q2 (fun i p1 p2 => ?_)]
    · rfl
    · cases hb : bk st ties day out (nI a) (nI k) i with
      | false => rfl
      | true =>
        have := (key i (by omega)).mpr ⟨by omega, hb⟩
        rw [h3 i p2] at this
        cases this
theorem x_landMeant {S : Nat → Nat → Int32} {L : Nat → Nat → Int64} {st ties : Nat → Int32} {r nr : Nat} (hr : r < nr) (hn : nr ≤ 60) (hR : RR (S 2) (S 17) (S 18) (S 19) (S 20) (S 21) (S 22) (S 23) (S 24) (S 25) st nr) (hT : ∀ t, t < 6 → S 35 t = ties t) : sX6_landMeant (nI r) S L = some (p_endOf st ties r) := by
  have h := hR.2.1 r hr
  obtain ⟨w, hw, e⟩ := h.2.2.2.1.2
  have e20 : S 20 r = nI w := h.2.2.2.1.1.trans e
  unfold sX6_landMeant p_endOf
  rw [ck_n (by omega) (by decide), nI_clamp (by omega), e20, e, bnd_e]
  by_cases c0 : nI w = 0
  · rw [if_pos c0, if_pos c0, ck_n (by omega) (by decide), h.1.1]
  · rw [if_neg c0, if_neg c0]
    by_cases c5 : (5 : Int32) ≤ nI w
    · have c5' : 5 ≤ w := (nI_leI (a := 5) (by decide) (by omega)).mp c5
      rw [if_pos c5, if_pos c5, show nI w - 5 = nI (w - 5) from pk_sub (b := 5) c5', ck_n (by omega) (by decide), nI_clamp (by omega), hT _ (by omega)]
    · rw [if_neg c5, if_neg c5]
theorem x_readBooks {S : Nat → Nat → Int32} {L : Nat → Nat → Int64} {st ties : Nat → Int32} {day : Int32} {out : Nat → Bool} {nr ny k : Nat} (hX : XS S L st ties day out nr ny) (hk : k < 3) :
    ∃ S', sX4_readBooks (nI k) S L = some (S', L) ∧ (∀ q, q ≠ 6 → q ≠ 36 → q ≠ 37 → S' q = S q) ∧ S' 6 5 = nI k ∧ ∀ a, a < 4 → S' 36 a = nI (sE st ties day out nr k a) ∧ S' 37 a = nI (sT st ties day out nr k a) := by
  obtain ⟨x1, hT, hH, hn, hR, hB, hW, hY, hyn⟩ := hX
  have ok : ∀ r, r < nr → OKr st r := fun r hr => (hR.2.1 r hr).ok
  have key : ∀ d v, v + d = 4 → ∀ f, d < f → ∀ S0 : Nat → Nat → Int32, (∀ q, q ≠ 6 → q ≠ 36 → q ≠ 37 → S0 q = S q) → ∃ S', lX4_readBooks_7 (nI k) f (nI v) S0 L = some (S', L) ∧ (∀ q, q ≠ 36 → q ≠ 37 → S' q = S0 q) ∧ ∀ a, a < 4 → S' 36 a = (if v ≤ a then nI (sE st ties day out nr k a) else S0 36 a) ∧ S' 37 a = (if v ≤ a then nI (sT st ties day out nr k a) else S0 37 a) := by
    intro d
    induction d with
    | zero =>
      intro v hv f hf S0 _
      obtain ⟨f, rfl⟩ : ∃ g, f = g + 1 := ⟨f - 1, by omega⟩
      refine ⟨S0, ?_, fun _ _ _ => rfl, fun a ha => by rw [if_neg (by omega), if_neg (by omega)]; exact ⟨rfl, rfl⟩⟩
      rw [lX4_readBooks_7, if_pos (show (4 : Int32) ≤ nI v from nI_le (a := 4) (by omega) (by omega))]
    | succ d ih =>
      intro v hv f hf S0 h0
      obtain ⟨f, rfl⟩ : ∃ g, f = g + 1 := ⟨f - 1, by omega⟩
      have hv4 : v < 4 := by omega
      have h29 : S0 29 (3 * v + k) = st (942 + (3 * v + k)) := by rw [h0 29 (by decide) (by decide) (by decide)]; exact (hW.1 _ (by omega)).1
      obtain ⟨ow, how, eow⟩ := (hW.1 (3 * v + k) (by omega)).2
      have hfst : sX6_first (L 6 4) (nI v) (st (942 + (3 * v + k))) S0 L = some (oI (FR st ties day out nr k v)) := by
        unfold FR; rw [eow]; exact x_firstB hn hv4 how hH hB
      have step : ∀ e t : Int32, e = nI (sE st ties day out nr k v) → t = nI (sT st ties day out nr k v) → ∃ S', (bnd (nI v + 1) fun x => lX4_readBooks_7 (nI k) f x (qu2 (qu2 S0 36 v e) 37 v t) L) = some (S', L) ∧ (∀ q, q ≠ 36 → q ≠ 37 → S' q = S0 q) ∧ ∀ a, a < 4 → S' 36 a = (if v ≤ a then nI (sE st ties day out nr k a) else S0 36 a) ∧ S' 37 a = (if v ≤ a then nI (sT st ties day out nr k a) else S0 37 a) := by
        intro e t he ht
        obtain ⟨S', s1, s2, s3⟩ := ih (v + 1) (by omega) f (by omega) (qu2 (qu2 S0 36 v e) 37 v t) (fun q p1 p2 p3 => by rw [qu2_ne p3, qu2_ne p2]; exact h0 q p1 p2 p3)
        refine ⟨S', by rw [bnd_e, nI_1]; exact s1, fun q p1 p2 => by rw [s2 q p1 p2, qu2_ne p2, qu2_ne p1], fun a ha => ?_⟩
        obtain ⟨z1, z2⟩ := s3 a ha
        rw [z1, z2, qu2_ne (show 36 ≠ 37 by decide), qu2_same, qu2_same]
        by_cases ea : a = v
        · subst ea
          rw [pk_us, pk_us, if_neg (show ¬ a + 1 ≤ a by omega), if_neg (show ¬ a + 1 ≤ a by omega), if_pos (show a ≤ a by omega), if_pos (show a ≤ a by omega)]
          exact ⟨he, ht⟩
        · rw [pk_un ea, pk_un ea]
          by_cases ev : v ≤ a
          · rw [if_pos (show v + 1 ≤ a by omega), if_pos (show v + 1 ≤ a by omega), if_pos ev, if_pos ev]; exact ⟨rfl, rfl⟩
          · rw [if_neg (show ¬ v + 1 ≤ a by omega), if_neg (show ¬ v + 1 ≤ a by omega), if_neg ev, if_neg ev]; exact ⟨rfl, rfl⟩
      rw [lX4_readBooks_7, if_neg (show ¬ (4 : Int32) ≤ nI v from nI_ge (b := 4) (by omega) (by decide)), x_ownKind hv4 hk, ob_some, h29, hfst, ob_some]
      rcases FR_spec (day := day) (out := out) (k := k) (a := v) hT ok with ⟨q1, q2, q3⟩ | ⟨r, hr, q1, q2, q3, q4, q5⟩
      · rw [q1, if_pos (show oI none = -1 from rfl), ck_n hv4 (by decide), nI_clamp (by omega), bnd_e, if_pos (show oI none = -1 from rfl), ck_n hv4 (by decide), bnd_e]
        exact step 0 (nI v) (by rw [q2]; rfl) (by rw [q3])
      · have hne : ¬ nI r = -1 := nI_ne_m1 (by omega)
        have hRR' : RR (qu2 S0 36 v (S0 19 r) 2) (qu2 S0 36 v (S0 19 r) 17) (qu2 S0 36 v (S0 19 r) 18) (qu2 S0 36 v (S0 19 r) 19) (qu2 S0 36 v (S0 19 r) 20) (qu2 S0 36 v (S0 19 r) 21) (qu2 S0 36 v (S0 19 r) 22) (qu2 S0 36 v (S0 19 r) 23) (qu2 S0 36 v (S0 19 r) 24) (qu2 S0 36 v (S0 19 r) 25) st nr := by
          simp only [qu2_ne, ne_eq, Nat.reduceEqDiff, not_false_eq_true, reduceCtorEq]
          rw [h0 2 (by decide) (by decide) (by decide), h0 17 (by decide) (by decide) (by decide), h0 18 (by decide) (by decide) (by decide), h0 19 (by decide) (by decide) (by decide), h0 20 (by decide) (by decide) (by decide), h0 21 (by decide) (by decide) (by decide), h0 22 (by decide) (by decide) (by decide), h0 23 (by decide) (by decide) (by decide), h0 24 (by decide) (by decide) (by decide), h0 25 (by decide) (by decide) (by decide)]
          exact hR
        rw [q1, oI_some, if_neg hne, ck_n (show r < 60 by omega) (by decide), nI_clamp (show r < 2 ^ 31 by omega), ck_n hv4 (by decide), nI_clamp (show v < 2 ^ 31 by omega), bnd_e, if_neg hne, x_landMeant (ties := ties) hr hn hRR' (fun t ht => by rw [qu2_ne (by decide), h0 35 (by decide) (by decide) (by decide)]; exact x1 t ht), ob_some, ck_n hv4 (by decide), bnd_e]
        exact step (S0 19 r) (p_endOf st ties r) (by rw [h0 19 (by decide) (by decide) (by decide), (hR.2.1 r hr).2.2.1.1]; exact q2) q3
  obtain ⟨S', s1, s2, s3⟩ := key 4 0 (by omega) FU (by unfold FU; omega) (qu2 S 6 5 (nI k)) (fun q p1 p2 p3 => qu2_ne p1)
  refine ⟨S', ?_, fun q p1 p2 p3 => by rw [s2 q p2 p3, qu2_ne p1], by rw [s2 6 (by decide) (by decide), qu2_same, pk_us], fun a ha => ?_⟩
  · unfold sX4_readBooks
    rw [bnd_e, show lX4_readBooks_7 (nI k) FU 0 _ L = _ from s1, ob2_some]
  · have := s3 a ha
    rw [if_pos (by omega), if_pos (by omega)] at this
    exact this
-- ===== treaties =====
theorem ts_nf' {x : Bool} (h : ¬ x = false) : x = true := by cases x; exact absurd rfl h; rfl
theorem ts_nt' {x : Bool} (h : ¬ x = true) : x = false := by cases x; rfl; exact absurd rfl h
theorem bitI : ∀ m, m < 16 → ∀ a, a < 4 → (((nI m >>> (nI a &&& 31)) &&& 1 = 1 ↔ m.testBit a = true) ∧ (iush (nI m) (nI a) &&& 1 = 0 ↔ m.testBit a = false)) := by decide +kernel
def trB (st ties : Nat → Int32) (k a j : Nat) : Bool := decide (st (958 + 3 * j) = nI k) && (st (959 + 3 * j)).toNatClampNeg.testBit a && !decide (ties (st (960 + 3 * j)).toNatClampNeg = -1) && (st (959 + 3 * j)).toNatClampNeg.testBit (ties (st (960 + 3 * j)).toNatClampNeg).toNatClampNeg
def TY (st ties : Nat → Int32) (ny k a : Nat) : Int32 := match fsI (trB st ties k a) ny 0 with
  | none => -1
  | some j => ties (st (960 + 3 * j)).toNatClampNeg
theorem TY_in {st ties : Nat → Int32} {ny k a : Nat} (hT : T6 ties) (h : ∀ j, j < ny → In (st (960 + 3 * j)) 6) : In1 (TY st ties ny k a) 4 := by
  unfold TY
  rcases fsI_spec (P := trB st ties k a) (d := ny) (j := 0) with ⟨h1, -⟩ | ⟨j, h1, -, h3, -⟩
  · rw [h1]; exact Or.inl rfl
  · rw [h1]
    obtain ⟨t, ht, e⟩ := h j (by omega)
    show In1 (ties (st (960 + 3 * j)).toNatClampNeg) 4
    rw [e, nI_clamp (by omega)]
    exact hT t ht
theorem x_tells {S : Nat → Nat → Int32} {L : Nat → Nat → Int64} {st ties : Nat → Int32} {ny k a : Nat} (hY : RY (S 4) (S 31) (S 32) (S 33) st ny) (hyn : ny ≤ 8) (hT : T6 ties) (h35 : ∀ t, t < 6 → S 35 t = ties t) (ha : a < 4) : sX8_tells (nI a) (nI k) S L = some (TY st ties ny k a) := by
  have key : ∀ d j, j + d = ny → ∀ f, d < f → lX8_tells_3 (nI a) (nI k) S L f (nI j) = some (match fsI (trB st ties k a) d j with | none => .inr () | some i => .inl (ties (st (960 + 3 * i)).toNatClampNeg)) := by
    intro d
    induction d with
    | zero =>
      intro j hj f hf
      obtain ⟨f, rfl⟩ : ∃ g, f = g + 1 := ⟨f - 1, by omega⟩
      rw [lX8_tells_3, hY.1, if_pos (nI_le (by omega) (by omega))]
      rfl
    | succ d ih =>
      intro j hj f hf
      obtain ⟨f, rfl⟩ : ∃ g, f = g + 1 := ⟨f - 1, by omega⟩
      have ih := ih (j + 1) (by omega) f (by omega)
      obtain ⟨⟨e1, -⟩, ⟨e2, m, hm, em⟩, ⟨e3, t, ht, et⟩⟩ := hY.2 j (by omega)
      have eb : ∀ b, trB st ties k a j = b → fsI (trB st ties k a) (d + 1) j = if b = true then some j else fsI (trB st ties k a) d (j + 1) := fun b hb => by
        show (if trB st ties k a j = true then some j else _) = _
        rw [hb]
      have hval : ties (st (960 + 3 * j)).toNatClampNeg = ties t := by rw [et, nI_clamp (by omega)]
      rw [lX8_tells_3, hY.1, if_neg (nI_ge (by omega) (by omega)), ck_n (by omega) (by decide), nI_clamp (by omega), e3, et, ck_n ht (by decide), nI_clamp (by omega), h35 t ht, bnd_e, ck_n (by omega) (by decide), e1]
      by_cases c1 : st (958 + 3 * j) = nI k
      · rw [if_pos c1]
        by_cases c2 : ties t = -1
        · rw [if_pos c2, bnd_e, nI_1, ih, eb false (by unfold trB; rw [hval, decide_eq_true c2]; simp), if_neg (by decide)]
        · obtain ⟨x, hx, ex⟩ := (hT t ht).resolve_left c2
          rw [if_neg c2, ck_n (by omega) (by decide), e2, em]
          have h1 := (bitI m hm a ha).2
          have h2 := (bitI m hm x hx).2
          by_cases c3 : m.testBit a = false
          · rw [if_pos (h1.mpr c3), bnd_e, nI_1, ih, eb false (by unfold trB; rw [em, nI_clamp (by omega), c3]; simp), if_neg (by decide)]
          · rw [if_neg (fun q => c3 (h1.mp q)), ck_n (by omega) (by decide), ex]
            by_cases c4 : m.testBit x = false
            · rw [if_pos (h2.mpr c4), bnd_e, nI_1, ih, eb false (by unfold trB; rw [hval, ex, em, nI_clamp (by omega), nI_clamp (by omega), c4]; simp), if_neg (by decide)]
            · rw [if_neg (fun q => c4 (h2.mp q)), eb true (by unfold trB; rw [hval, em, nI_clamp (by omega), ex, nI_clamp (by omega), decide_eq_true c1, decide_eq_false (nI_ne_m1 (by omega)), ts_nf' c3, ts_nf' c4]; rfl), if_pos rfl]
              show some (Sum.inl (nI x)) = some (Sum.inl (ties (st (960 + 3 * j)).toNatClampNeg))
              rw [hval, ex]
      · rw [if_neg c1, bnd_e, nI_1, ih, eb false (by unfold trB; rw [decide_eq_false c1]; simp), if_neg (by decide)]
  unfold sX8_tells TY
  rw [show lX8_tells_3 (nI a) (nI k) S L FU 0 = _ from key ny 0 (by omega) FU (by unfold FU; omega)]
  cases fsI (trB st ties k a) ny 0 with
  | none => rfl
  | some i => rfl
theorem m_treats {M : Nat → Nat → Int32} {st ties : Nat → Int32} {day : Int32} {out : Nat → Bool} {nr ny k a : Nat} (hM : MS M st ties day out nr ny) (ha : a < 4) : sX11_treats (nI a) (nI k) M = some (TY st ties ny k a) := by
  obtain ⟨h1, h2, ok, h3, h4, h5, hT, hs, hw, ⟨hy3, hyn⟩, hY⟩ := hM
  have key : ∀ d j, j + d = ny → ∀ f, d < f → lX11_treats_2 (nI a) (nI k) M f (nI j) = some (match fsI (trB st ties k a) d j with | none => .inr () | some i => .inl (ties (st (960 + 3 * i)).toNatClampNeg)) := by
    intro d
    induction d with
    | zero =>
      intro j hj f hf
      obtain ⟨f, rfl⟩ : ∃ g, f = g + 1 := ⟨f - 1, by omega⟩
      rw [lX11_treats_2, k3, cl3, h1, hy3, if_pos (nI_le (by omega) (by omega))]
      rfl
    | succ d ih =>
      intro j hj f hf
      obtain ⟨f, rfl⟩ : ∃ g, f = g + 1 := ⟨f - 1, by omega⟩
      have ih := ih (j + 1) (by omega) f (by omega)
      obtain ⟨-, ⟨m, hm, em⟩, ⟨t, ht, et⟩⟩ := hY j (by omega)
      have eb : ∀ b, trB st ties k a j = b → fsI (trB st ties k a) (d + 1) j = if b = true then some j else fsI (trB st ties k a) d (j + 1) := fun b hb => by
        show (if trB st ties k a j = true then some j else _) = _
        rw [hb]
      have hval : ties (st (960 + 3 * j)).toNatClampNeg = ties t := by rw [et, nI_clamp (by omega)]
      have x0 : 958 + 3 * nI j = nI (958 + 3 * j) := by show nI 958 + nI 3 * nI j = _; rw [pk_mul, nI_add]
      have x1 : nI (958 + 3 * j) + 1 = nI (959 + 3 * j) := by rw [nI_1]; congr 1; omega
      have x2 : nI (958 + 3 * j) + 2 = nI (960 + 3 * j) := by show _ + nI 2 = _; rw [nI_add]; congr 1; omega
      rw [lX11_treats_2, k3, cl3, h1, hy3, if_neg (nI_ge (by omega) (by omega)), x0, bnd_e, x2, ck_n (by omega) (by decide), nI_clamp (by omega), et, ck_n ht (by decide), nI_clamp (by omega), h3 t ht, bnd_e, ck_n (by omega) (by decide), nI_clamp (by omega)]
      by_cases c1 : st (958 + 3 * j) = nI k
      · rw [if_pos c1, x1, ck_n (by omega) (by decide), nI_clamp (by omega), em]
        have q1 := (bitI m hm a ha).1
        by_cases c3 : m.testBit a = true
        · rw [if_pos (q1.mpr c3)]
          by_cases c2 : ties t = -1
          · rw [if_pos c2, bnd_e, nI_1, ih, eb false (by unfold trB; rw [hval, decide_eq_true c2]; simp), if_neg (by decide)]
          · obtain ⟨x, hx, ex⟩ := (hT t ht).resolve_left c2
            have q2 := (bitI m hm x hx).1
            rw [if_neg c2, ck_n (by omega) (by decide), ex]
            by_cases c4 : m.testBit x = true
            · rw [if_pos (q2.mpr c4), eb true (by unfold trB; rw [hval, em, nI_clamp (by omega), ex, nI_clamp (by omega), decide_eq_true c1, decide_eq_false (nI_ne_m1 (by omega)), c3, c4]; rfl), if_pos rfl]
              show some (Sum.inl (nI x)) = some (Sum.inl (ties (st (960 + 3 * j)).toNatClampNeg))
              rw [hval, ex]
            · rw [if_neg (fun q => c4 (q2.mp q)), bnd_e, nI_1, ih, eb false (by unfold trB; rw [hval, ex, em, nI_clamp (by omega), nI_clamp (by omega), ts_nt' c4]; simp), if_neg (by decide)]
        · rw [if_neg (fun q => c3 (q1.mp q)), bnd_e, nI_1, ih, eb false (by unfold trB; rw [em, nI_clamp (by omega), ts_nt' c3]; simp), if_neg (by decide)]
      · rw [if_neg c1, bnd_e, nI_1, ih, eb false (by unfold trB; rw [decide_eq_false c1]; simp), if_neg (by decide)]
  unfold sX11_treats TY
  rw [show lX11_treats_2 (nI a) (nI k) M FU 0 = _ from key ny 0 (by omega) FU (by unfold FU; omega)]
  cases fsI (trB st ties k a) ny 0 with
  | none => rfl
  | some i => rfl
