-- ===== where to ask =====
theorem b64 : ∀ m, m < 64 → ∀ x, x < 6 → (((nI m >>> (nI x &&& 31)) &&& 1 = 0 ↔ m.testBit x = false) ∧ (iush (nI m) (nI x) &&& 1 = 0 ↔ m.testBit x = false)) := by decide +kernel
theorem made_sync {S : Nat → Nat → Int32} {L : Nat → Nat → Int64} {M : Nat → Nat → Int32} {c fr : Nat} (hc : c < 16) (hfr : fr < 64) (h2 : ∀ t, t < 6 → M 2 t = S 35 t) (h6 : ∀ t, t < 6 → M 6 t = S 15 (6 * c + t)) :
    ∃ z, sX1_tiesMade (nI c) (nI fr) S L = some z ∧ sX11_other (nI fr) M = some z ∧ (z = -1 ∨ ∃ n, n ≤ 6 ∧ z = nI n) := by
  have key : ∀ d t, t + d = 6 → ∀ f1 f2, d < f1 → d < f2 → ∀ n, n ≤ t → ∃ z, lX1_tiesMade_5 (nI c) (nI fr) S L f1 (nI n) (nI t) = some z ∧ lX11_other_4 (nI fr) M f2 (nI n) (nI t) = some z ∧ (z = .inl () ∨ ∃ n', n' ≤ 6 ∧ z = .inr (nI n')) := by
    intro d
    induction d with
    | zero =>
      intro t ht f1 f2 h1 h2' n hn
      obtain ⟨f1, rfl⟩ : ∃ g, f1 = g + 1 := ⟨f1 - 1, by omega⟩
      obtain ⟨f2, rfl⟩ : ∃ g, f2 = g + 1 := ⟨f2 - 1, by omega⟩
      refine ⟨.inr (nI n), ?_, ?_, Or.inr ⟨n, by omega, rfl⟩⟩
      · rw [lX1_tiesMade_5, if_pos (show (6 : Int32) ≤ nI t from nI_le (a := 6) (by omega) (by omega))]
      · rw [lX11_other_4, if_pos (show (6 : Int32) ≤ nI t from nI_le (a := 6) (by omega) (by omega))]
    | succ d ih =>
      intro t ht f1 f2 h1 h2' n hn
      obtain ⟨f1, rfl⟩ : ∃ g, f1 = g + 1 := ⟨f1 - 1, by omega⟩
      obtain ⟨f2, rfl⟩ : ∃ g, f2 = g + 1 := ⟨f2 - 1, by omega⟩
      have n6 : ¬ (6 : Int32) ≤ nI t := nI_ge (b := 6) (by omega) (by decide)
      obtain ⟨q1, q2⟩ := b64 fr hfr t (by omega)
      rw [lX1_tiesMade_5, if_neg n6, ck_n (by omega) (by decide), nI_clamp (by omega), bnd_e, x_landOf hc (by omega), ob_some, lX11_other_4, if_neg n6, ck_n (by omega) (by decide), ck_n (by omega) (by decide), nI_clamp (by omega), h2 t (by omega), h6 t (by omega)]
      by_cases c1 : S 35 t = S 15 (6 * c + t)
      · rw [if_pos c1, if_pos c1, bnd_e, bnd_e, nI_1]
        exact ih (t + 1) (by omega) f1 f2 (by omega) (by omega) n (by omega)
      · rw [if_neg c1, if_neg c1, ck_n (by omega) (by decide)]
        by_cases c2 : S 35 t = -1
        · rw [if_pos c2, if_pos c2]; exact ⟨.inl (), rfl, rfl, Or.inl rfl⟩
        · rw [if_neg c2, if_neg c2]
          by_cases c3 : fr.testBit t = false
          · rw [if_pos (q2.mpr c3), if_pos (q1.mpr c3)]; exact ⟨.inl (), rfl, rfl, Or.inl rfl⟩
          · rw [if_neg (fun q => c3 (q2.mp q)), if_neg (fun q => c3 (q1.mp q)), bnd_e, bnd_e, bnd_e, bnd_e, nI_1, nI_1]
            exact ih (t + 1) (by omega) f1 f2 (by omega) (by omega) (n + 1) (by omega)
  obtain ⟨z, z1, z2, z3⟩ := key 6 0 (by omega) FU FU (by unfold FU; omega) (by unfold FU; omega) 0 (by omega)
  have z1' : lX1_tiesMade_5 (nI c) (nI fr) S L FU 0 0 = some z := z1
  have z2' : lX11_other_4 (nI fr) M FU 0 0 = some z := z2
  rcases z3 with rfl | ⟨n, hn, rfl⟩
  · exact ⟨-1, by unfold sX1_tiesMade; rw [z1']; rfl, by unfold sX11_other; rw [z2']; rfl, Or.inl rfl⟩
  · exact ⟨nI n, by unfold sX1_tiesMade; rw [z1']; rfl, by unfold sX11_other; rw [z2']; rfl, Or.inr ⟨n, hn, rfl⟩⟩
theorem x_judgeIn {st ties : Nat → Int32} {day : Int32} {out : Nat → Bool} {nr ny k : Nat} {L : Nat → Nat → Int64} {w : Int32} : ∀ d a, a + d = 4 → ∀ f, d < f → ∀ S : Nat → Nat → Int32, XS S L st ties day out nr ny → HS S (sE st ties day out nr k) (sT st ties day out nr k) → S 6 5 = nI k →
    ∃ S', os2 (lX1_judgeEndingIn_2 w f (nI a) S L) (un3 fun w12 S13 L14 => some (w12, S13, L14)) (un2 fun S15 L16 => some ((-1), S15, L16)) = some (oI (fsI (fun b => decide (VJ st ties day out nr ny k b = w)) d a), S', L) ∧ ∀ q, q ≠ 7 → q ≠ 38 → S' q = S q := by
  intro d
  induction d with
  | zero =>
    intro a ha f hf S hxs hHS h65
    obtain ⟨f, rfl⟩ : ∃ g, f = g + 1 := ⟨f - 1, by omega⟩
    refine ⟨S, ?_, fun _ _ _ => rfl⟩
    rw [lX1_judgeEndingIn_2, if_pos (show (4 : Int32) ≤ nI a from nI_le (a := 4) (by omega) (by omega))]; rfl
  | succ d ih =>
    intro a ha f hf S hxs hHS h65
    obtain ⟨f, rfl⟩ : ∃ g, f = g + 1 := ⟨f - 1, by omega⟩
    obtain ⟨S1, o1, o2⟩ := judgeX hxs hHS h65 (show a < 4 by omega)
    have eU : fsI (fun b => decide (VJ st ties day out nr ny k b = w)) (d + 1) a = if decide (VJ st ties day out nr ny k a = w) = true then some a else fsI (fun b => decide (VJ st ties day out nr ny k b = w)) d (a + 1) := rfl
    rw [lX1_judgeEndingIn_2, if_neg (show ¬ (4 : Int32) ≤ nI a from nI_ge (b := 4) (by omega) (by decide)), o1, ob3_some, eU]
    by_cases c : VJ st ties day out nr ny k a = w
    · have cc : decide (VJ st ties day out nr ny k a = w) = true := decide_eq_true c
      rw [if_pos c, if_pos cc]; exact ⟨S1, rfl, o2⟩
    · have cc : ¬ decide (VJ st ties day out nr ny k a = w) = true := by simp [c]
      rw [if_neg c, if_neg cc, bnd_e, nI_1]
      obtain ⟨S2, z1, z2⟩ := ih (a + 1) (by omega) f (by omega) S1 (hxs.frame (fun q hq => o2 q (fun e => by subst e; rcases hq with h | h <;> cases h) (fun e => by subst e; rcases hq with h | h <;> cases h))) ⟨hHS.1, fun b hb => by rw [o2 36 (by decide) (by decide), o2 37 (by decide) (by decide)]; exact hHS.2 b hb⟩ (by rw [o2 6 (by decide) (by decide)]; exact h65)
      exact ⟨S2, z1, fun q q1 q2 => (z2 q q1 q2).trans (o2 q q1 q2)⟩
def askC (fw jd : Int32) (n : Nat) (a : Nat) : Prop := fw = -1 ∨ nI n < fw ∨ (nI n = fw ∧ nI a < jd)
theorem m_askIn {M : Nat → Nat → Int32} {st ties : Nat → Int32} {day : Int32} {out : Nat → Bool} {nr ny k n : Nat} {p1 p4 p5 w v30 : Int32} (hms : MS M st ties day out nr ny) (hk : k < 3) (hn : n ≤ 6) (fw jd nm : Int32) (hdec : ∀ a, askC fw jd n a ∨ ¬ askC fw jd n a) :
    (∀ a, fsI (fun b => decide (VJ st ties day out nr ny k b = w)) 4 0 = some a → askC fw jd n a → lX11_ask_130 p1 (nI k) w p4 p5 v30 (nI n) M FU fw jd nm 0 = some (nI n, nI a, v30)) ∧ ((∀ a, fsI (fun b => decide (VJ st ties day out nr ny k b = w)) 4 0 = some a → ¬ askC fw jd n a) → lX11_ask_130 p1 (nI k) w p4 p5 v30 (nI n) M FU fw jd nm 0 = some (fw, jd, nm)) := by
  have hnm : ¬ nI n = -1 := nI_ne_m1 (by omega)
  have hj : ∀ a, a < 4 → sX11_endsOf (nI a) (nI k) M = some (VJ st ties day out nr ny k a) := fun a ha => judgeM hms hk ha
  have n4 : ∀ l, l < 4 → ¬ (4 : Int32) ≤ nI l := fun l hl => nI_ge (b := 4) (by omega) (by decide)
  have hstop : ∀ f l x y z, 4 ≤ l → l < 100 → lX11_ask_130 p1 (nI k) w p4 p5 v30 (nI n) M (f + 1) x y z (nI l) = some (x, y, z) := fun f l x y z h1 h2 => by rw [lX11_ask_130, if_pos (show (4 : Int32) ≤ nI l from nI_le (a := 4) h1 (by omega))]
  -- one step, whatever has been found
  have step : ∀ f l x y z, l < 4 → lX11_ask_130 p1 (nI k) w p4 p5 v30 (nI n) M (f + 1) x y z (nI l) = (if (x = -1 ∨ nI n < x ∨ (nI n = x ∧ nI l < y)) ∧ VJ st ties day out nr ny k l = w then lX11_ask_130 p1 (nI k) w p4 p5 v30 (nI n) M f (nI n) (nI l) v30 (nI (l + 1)) else lX11_ask_130 p1 (nI k) w p4 p5 v30 (nI n) M f x y z (nI (l + 1))) := by
    intro f l x y z hl
    rw [lX11_ask_130, if_neg (n4 l hl), if_neg hnm, hj l hl]
    by_cases a1 : x = -1
    · rw [if_pos a1, ob_some]
      by_cases c : VJ st ties day out nr ny k l = w
      · rw [if_pos c, if_pos ⟨Or.inl a1, c⟩, bnd_e, nI_1]
      · rw [if_neg c, if_neg (fun q => c q.2), bnd_e, nI_1]
    · rw [if_neg a1]
      by_cases a2 : nI n < x
      · rw [if_pos a2, ob_some]
        by_cases c : VJ st ties day out nr ny k l = w
        · rw [if_pos c, if_pos ⟨Or.inr (Or.inl a2), c⟩, bnd_e, nI_1]
        · rw [if_neg c, if_neg (fun q => c q.2), bnd_e, nI_1]
      · rw [if_neg a2]
        by_cases a3 : nI n = x
        · rw [if_pos a3]
          by_cases a4 : y ≤ nI l
          · rw [if_pos a4, if_neg (fun q => q.1.elim a1 (fun q => q.elim a2 (fun q => le_nlt32 a4 q.2))), bnd_e, nI_1]
          · rw [if_neg a4, ob_some]
            by_cases c : VJ st ties day out nr ny k l = w
            · rw [if_pos c, if_pos ⟨Or.inr (Or.inr ⟨a3, nle32 a4⟩), c⟩, bnd_e, nI_1]
            · rw [if_neg c, if_neg (fun q => c q.2), bnd_e, nI_1]
        · rw [if_neg a3, if_neg (fun q => q.1.elim a1 (fun q => q.elim a2 (fun q => a3 q.1))), bnd_e, nI_1]
  have irr : ¬ nI n < nI n := by rw [nI_ltI (by omega) (by omega)]; omega
  have done : ∀ d l, l + d = 4 → ∀ f, d < f → ∀ a, a < l → lX11_ask_130 p1 (nI k) w p4 p5 v30 (nI n) M f (nI n) (nI a) v30 (nI l) = some (nI n, nI a, v30) := by
    intro d
    induction d with
    | zero => intro l hl f hf a ha; obtain ⟨f, rfl⟩ : ∃ g, f = g + 1 := ⟨f - 1, by omega⟩; exact hstop f l _ _ _ (by omega) (by omega)
    | succ d ih =>
      intro l hl f hf a ha
      obtain ⟨f, rfl⟩ : ∃ g, f = g + 1 := ⟨f - 1, by omega⟩
      rw [step f l _ _ _ (by omega), if_neg (fun q => q.1.elim hnm (fun q => q.elim irr (fun q => by have := (nI_ltI (by omega) (by omega)).mp q.2; omega)))]
      exact ih (l + 1) (by omega) f (by omega) a (by omega)
  have never : ∀ d l, l + d = 4 → ∀ f, d < f → (∀ b, l ≤ b → b < 4 → ¬ (askC fw jd n b ∧ VJ st ties day out nr ny k b = w)) → lX11_ask_130 p1 (nI k) w p4 p5 v30 (nI n) M f fw jd nm (nI l) = some (fw, jd, nm) := by
    intro d
    induction d with
    | zero => intro l hl f hf _; obtain ⟨f, rfl⟩ : ∃ g, f = g + 1 := ⟨f - 1, by omega⟩; exact hstop f l _ _ _ (by omega) (by omega)
    | succ d ih =>
      intro l hl f hf hno
      obtain ⟨f, rfl⟩ : ∃ g, f = g + 1 := ⟨f - 1, by omega⟩
      have hn' : ¬ ((fw = -1 ∨ nI n < fw ∨ (nI n = fw ∧ nI l < jd)) ∧ VJ st ties day out nr ny k l = w) := hno l (by omega) (by omega)
      rw [step f l _ _ _ (by omega), if_neg hn']
      exact ih (l + 1) (by omega) f (by omega) (fun b b1 b2 => hno b (by omega) b2)
  have upto : ∀ d l, l + d ≤ 4 → ∀ f, (∀ b, l ≤ b → b < l + d → VJ st ties day out nr ny k b ≠ w) → lX11_ask_130 p1 (nI k) w p4 p5 v30 (nI n) M (f + d) fw jd nm (nI l) = lX11_ask_130 p1 (nI k) w p4 p5 v30 (nI n) M f fw jd nm (nI (l + d)) := by
    intro d
    induction d with
    | zero => intro l hl f _; rfl
    | succ d ih =>
      intro l hl f hno
      rw [show f + (d + 1) = (f + d) + 1 by omega, step (f + d) l _ _ _ (by omega), if_neg (fun q => hno l (by omega) (by omega) q.2), ih (l + 1) (by omega) f (fun b b1 b2 => hno b (by omega) (by omega)), show l + 1 + d = l + (d + 1) by omega]
  refine ⟨fun a hF hC => ?_, fun hno => ?_⟩
  · rcases fsI_spec (P := fun b => decide (VJ st ties day out nr ny k b = w)) (d := 4) (j := 0) with ⟨h1, -⟩ | ⟨a', h1, -, h3, h4, h5⟩
    · rw [h1] at hF; cases hF
    · rw [h1] at hF; cases hF
      have e := upto a 0 (by omega) (19999 - a + 1) (fun b b1 b2 => by have := h5 b b1 (by omega); simpa using this)
      rw [show 19999 - a + 1 + a = FU by unfold FU; omega, Nat.zero_add] at e
      rw [show lX11_ask_130 p1 (nI k) w p4 p5 v30 (nI n) M FU fw jd nm 0 = lX11_ask_130 p1 (nI k) w p4 p5 v30 (nI n) M FU fw jd nm (nI 0) from rfl, e, step _ a _ _ _ (by omega), if_pos ⟨hC, by simpa using h4⟩]
      exact done (3 - a) (a + 1) (by omega) _ (by omega) a (by omega)
  · refine never 4 0 (by omega) FU (by unfold FU; omega) (fun b b1 b2 q => ?_)
    rcases fsI_spec (P := fun b => decide (VJ st ties day out nr ny k b = w)) (d := 4) (j := 0) with ⟨h1, h2⟩ | ⟨a', h1, -, h3, h4, h5⟩
    · have := h2 b b1 (by omega); simp [q.2] at this
    · have hle : a' ≤ b := by
        apply Classical.byContradiction
        intro hlt
        have := h5 b (by omega) (by omega)
        simp [q.2] at this
      apply hno a' h1
      rcases q.1 with z | z | ⟨z1, z2⟩
      · exact Or.inl z
      · exact Or.inr (Or.inl z)
      · refine Or.inr (Or.inr ⟨z1, ?_⟩)
        rw [Int32.lt_iff_toInt_lt] at z2 ⊢
        rw [nI_toInt (by omega)] at z2 ⊢
        omega
/-- what has been found so far, on both sides -/
def AQ (S : Nat → Nat → Int32) (fw jd nm : Int32) : Prop := (fw = -1 ∧ S 10 2 = -1 ∧ S 10 3 = -1 ∧ S 10 4 = -1) ∨ (fw ≠ -1 ∧ S 10 2 = fw ∧ S 10 3 = jd ∧ S 10 4 = nm)
theorem ask_sync {nc nt nr ny nq k c w fr : Nat} {d p5 : Int32} (hk : k < 3) (hc : c < nc) (hw : w < 4) (hfr : fr < 64) : ∀ dd i, i + dd = 15625 → ∀ f1 f2, dd < f1 → dd < f2 → ∀ (fw jd nm : Int32) (S : Nat → Nat → Int32) (L : Nat → Nat → Int64) (M : Nat → Nat → Int32), AQ S fw jd nm → RelN S L M nc nt nr ny nq → AI S L (M 1) nr d → M 1 (10 + 2 * c) = d → (∀ t, t < 6 → M 6 t = S 15 (6 * c + t)) →
    ∃ fw' jd' nm' S' L' M', lX1_search_34 (nI c) (nI k) (nI w) (nI fr) f1 (nI i) S L = some (S', L') ∧ lX11_ask_94 (nI c) (nI k) (nI w) (nI fr) p5 f2 fw jd nm (nI i) M = some (fw', jd', nm', M') ∧ EqX S L S' L' ∧ EqM M M' ∧ AQ S' fw' jd' nm' := by
  intro dd
  induction dd with
  | zero =>
    intro i hi f1 f2 h1 h2 fw jd nm S L M hQ R hA hd h6
    obtain ⟨f1, rfl⟩ : ∃ g, f1 = g + 1 := ⟨f1 - 1, by omega⟩
    obtain ⟨f2, rfl⟩ : ∃ g, f2 = g + 1 := ⟨f2 - 1, by omega⟩
    refine ⟨fw, jd, nm, S, L, M, ?_, ?_, EqX.rf, ⟨rfl, rfl⟩, hQ⟩
    · rw [lX1_search_34, sw15625, if_pos (nI_le (by omega) (by omega))]
    · rw [lX11_ask_94, sw15625, if_pos (nI_le (by omega) (by omega))]
  | succ dd ih =>
    intro i hi f1 f2 h1 h2 fw jd nm S L M hQ R hA hd h6
    have b1 := R.1.1.2
    obtain ⟨f1, rfl⟩ : ∃ g, f1 = g + 1 := ⟨f1 - 1, by omega⟩
    obtain ⟨f2, rfl⟩ : ∃ g, f2 = g + 1 := ⟨f2 - 1, by omega⟩
    obtain ⟨S1, L1, x1, x2, x3, x4, x5⟩ := x_setTiesF R hA (show i < 15625 by omega)
    obtain ⟨M1, m1, m2, m3, m4⟩ := m_looksN (M := M) (day := d) (show i < 15625 by omega)
    have hM1 : EqM M M1 := ⟨m2 1 (by decide) (by decide), m2 3 (by decide) (by decide)⟩
    have R' := R.frame x2 hM1
    have hst : M1 1 = M 1 := hM1.1
    have ok : ∀ r, r < nr → OKr (M 1) r := fun r hr => (R.2.2.1.2.1 r hr).ok
    have hxs : XS S1 L1 (M 1) (tiesN i) d (fun _ => false) nr ny := by rw [← hst]; exact xs_of R' (tiesN_T6 i) x4 (by rw [hst]; exact x3.held ok x4)
    have hms : MS M1 (M 1) (tiesN i) d (fun _ => false) nr ny := by rw [← hst]; exact ms_of R' (tiesN_T6 i) m4 m3
    have h6' : ∀ t, t < 6 → M1 6 t = S1 15 (6 * c + t) := fun t ht => by rw [m2 6 (by decide) (by decide), x5 15 (by decide)]; exact h6 t ht
    have hS10 : S1 10 = S 10 := x5 10 (by decide)
    obtain ⟨z, z1, z2, z3⟩ := made_sync (L := L1) (show c < 16 by omega) hfr (fun t ht => by rw [m4 t ht, x4 t ht]) h6'
    have e10 : 10 + 2 * nI c = nI (10 + 2 * c) := by show nI 10 + nI 2 * nI c = _; rw [pk_mul, nI_add]
    have uM : lX11_ask_94 (nI c) (nI k) (nI w) (nI fr) p5 (f2 + 1) fw jd nm (nI i) M = ob3 (lX11_ask_130 (nI c) (nI k) (nI w) (nI fr) p5 (nI i) z M1 FU fw jd nm 0) (fun w71 w72 w73 => lX11_ask_94 (nI c) (nI k) (nI w) (nI fr) p5 f2 w71 w72 w73 (nI (i + 1)) M1) := by
      rw [lX11_ask_94, sw15625, if_neg (nI_ge (by omega) (by omega)), e10, ck_n (by omega) (by decide), nI_clamp (by omega), hd, m1, ob_some, z2, ob_some]
      simp only [bnd_e, nI_1]
    -- going on
    have go : ∀ (S2 : Nat → Nat → Int32) (fw2 jd2 nm2 : Int32), (∀ q, q ≠ 10 → scS q = false → S2 q = S1 q) → S2 35 = S1 35 → AQ S2 fw2 jd2 nm2 → ∃ fw' jd' nm' S' L' M', lX1_search_34 (nI c) (nI k) (nI w) (nI fr) f1 (nI (i + 1)) S2 L1 = some (S', L') ∧ lX11_ask_94 (nI c) (nI k) (nI w) (nI fr) p5 f2 fw2 jd2 nm2 (nI (i + 1)) M1 = some (fw', jd', nm', M') ∧ EqX S L S' L' ∧ EqM M M' ∧ AQ S' fw' jd' nm' := by
      intro S2 fw2 jd2 nm2 g1' g2' g3'
      have hE : EqX S1 L1 S2 L1 := ⟨fun q hq => g1' q (fun e => by subst e; cases hq) hq, fun _ _ => rfl⟩
      obtain ⟨a1, a2, a3, S3, L3, M3, y1, y2, y3, y4, y5⟩ := ih (i + 1) (by omega) f1 f2 (by omega) (by omega) fw2 jd2 nm2 S2 L1 M1 g3' (R.frame (x2.tr hE) hM1) (by rw [hst]; unfold AI LF at x3 ⊢; rw [g2']; exact x3) (by rw [hst]; exact hd) (fun t ht => by rw [g1' 15 (by decide) rfl]; exact h6' t ht)
      exact ⟨a1, a2, a3, S3, L3, M3, y1, y2, (x2.tr hE).tr y3, ⟨y4.1.trans hM1.1, y4.2.trans hM1.2⟩, y5⟩
    have hQ1 : AQ S1 fw jd nm := by unfold AQ at hQ ⊢; rw [hS10]; exact hQ
    have keep := go S1 fw jd nm (fun _ _ _ => rfl) rfl hQ1
    rw [lX1_search_34, sw15625, if_neg (nI_ge (by omega) (by omega)), x1, ob2_some, z1, ob_some, uM]
    rcases z3 with rfl | ⟨n, hn, rfl⟩
    · have e130 : lX11_ask_130 (nI c) (nI k) (nI w) (nI fr) p5 (nI i) (-1) M1 FU fw jd nm 0 = some (fw, jd, nm) := by
        show lX11_ask_130 _ _ _ _ _ _ _ _ (19999 + 1) _ _ _ _ = _
        rw [lX11_ask_130, if_neg (by decide), if_pos rfl]
      rw [if_pos rfl, bnd_e, nI_1, e130, ob3_some]
      exact keep
    · obtain ⟨A1, A2⟩ := m_askIn (p1 := nI c) (p4 := nI fr) (p5 := p5) (w := nI w) (v30 := nI i) hms hk hn fw jd nm (fun a => Classical.em _)
      have hnm : ¬ nI n = -1 := nI_ne_m1 (by omega)
      rw [if_neg hnm]
      -- the class looks only where it may be better
      obtain ⟨S2, r1, r2, r3, r4⟩ := x_readBooks hxs hk
      have hxs2 : XS S2 L1 (M 1) (tiesN i) d (fun _ => false) nr ny := hxs.frame (fun q hq => r2 q (fun e => by subst e; rcases hq with h | h <;> cases h) (fun e => by subst e; rcases hq with h | h <;> cases h) (fun e => by subst e; rcases hq with h | h <;> cases h))
      have hHS2 : HS S2 (sE (M 1) (tiesN i) d (fun _ => false) nr k) (sT (M 1) (tiesN i) d (fun _ => false) nr k) := ⟨fun a ha => by
        rcases FR_spec (day := d) (out := fun _ => false) (k := k) (a := a) (tiesN_T6 i) hms.2.2.1 with ⟨-, q2, q3⟩ | ⟨r, -, -, -, -, q4, q5⟩
        · rw [q2, q3]; exact ⟨by omega, ha⟩
        · exact ⟨q4, q5⟩, r4⟩
      obtain ⟨S3, j1, j2⟩ := x_judgeIn (w := nI w) 4 0 (by omega) FU (by unfold FU; omega) S2 hxs2 hHS2 r3
      have j1' : sX1_judgeEndingIn (nI w) S2 L1 = some (oI (fsI (fun b => decide (VJ (M 1) (tiesN i) d (fun _ => false) nr ny k b = nI w)) 4 0), S3, L1) := j1
      have h3f : ∀ q, q ≠ 10 → scS q = false → S3 q = S1 q := fun q _ hq => (j2 q (fun e => by subst e; cases hq) (fun e => by subst e; cases hq)).trans (r2 q (fun e => by subst e; cases hq) (fun e => by subst e; cases hq) (fun e => by subst e; cases hq))
      have h3p : S3 35 = S1 35 := (j2 35 (by decide) (by decide)).trans (r2 35 (by decide) (by decide) (by decide))
      have h310 : S3 10 = S1 10 := (j2 10 (by decide) (by decide)).trans (r2 10 (by decide) (by decide) (by decide))
      have hQ3 : AQ S3 fw jd nm := by unfold AQ at hQ1 ⊢; rw [h310]; exact hQ1
      have h102 : S1 10 2 = fw := by rcases hQ1 with ⟨q1, q2, -⟩ | ⟨-, q2, -⟩ <;> simp [*]
      have look : (fw = -1 ∨ nI n ≤ fw) → ∃ fw' jd' nm' S' L' M', (ob2 (sX4_readBooks (nI k) S1 L1) fun S21 L22 => ob3 (sX1_judgeEndingIn (nI w) S21 L22) fun r26 S24 L25 => ob2 (sX1_keepIfBetter (nI i) (nI n) r26 S24 L25) fun S28 L29 => bnd (nI i + 1) fun x30 => lX1_search_34 (nI c) (nI k) (nI w) (nI fr) f1 x30 S28 L29) = some (S', L') ∧ (ob3 (lX11_ask_130 (nI c) (nI k) (nI w) (nI fr) p5 (nI i) (nI n) M1 FU fw jd nm 0) fun w71 w72 w73 => lX11_ask_94 (nI c) (nI k) (nI w) (nI fr) p5 f2 w71 w72 w73 (nI (i + 1)) M1) = some (fw', jd', nm', M') ∧ EqX S L S' L' ∧ EqM M M' ∧ AQ S' fw' jd' nm' := by
        intro hle
        rw [r1, ob2_some, j1', ob3_some]
        rcases fsI_spec (P := fun b => decide (VJ (M 1) (tiesN i) d (fun _ => false) nr ny k b = nI w)) (d := 4) (j := 0) with ⟨hF, -⟩ | ⟨a, hF, -, ha4, -⟩
        · rw [A2 (fun a q => by rw [hF] at q; cases q), hF, ob3_some]
          unfold sX1_keepIfBetter
          rw [oI_none, if_pos rfl, ob2_some, bnd_e, nI_1]
          exact go S3 fw jd nm h3f h3p hQ3
        · rw [hF, oI_some]
          have hna : ¬ nI a = -1 := nI_ne_m1 (by omega)
          generalize hS5 : qu2 (qu2 (qu2 S3 10 2 (nI n)) 10 3 (nI a)) 10 4 (nI i) = S5
          have f5 : ∀ q, q ≠ 10 → scS q = false → S5 q = S1 q := fun q q1 q2 => by rw [← hS5, qu2_ne q1, qu2_ne q1, qu2_ne q1]; exact h3f q q1 q2
          have p5' : S5 35 = S1 35 := by rw [← hS5, qu2_ne (by decide), qu2_ne (by decide), qu2_ne (by decide)]; exact h3p
          have Q5 : AQ S5 (nI n) (nI a) (nI i) := Or.inr ⟨hnm, by rw [← hS5, qu2_same, pk_un (by decide), qu2_same, pk_un (by decide), qu2_same, pk_us], by rw [← hS5, qu2_same, pk_un (by decide), qu2_same, pk_us], by rw [← hS5, qu2_same, pk_us]⟩
          have e2 : S3 10 2 = fw := by rw [h310]; exact h102
          by_cases hCC : askC fw jd n a
          · have hk' : sX1_keepIfBetter (nI i) (nI n) (nI a) S3 L1 = some (S5, L1) := by
              unfold sX1_keepIfBetter
              rw [if_neg hna, e2]
              by_cases c1 : fw = -1
              · rw [if_pos c1, bnd_e, bnd_e, bnd_e, hS5]
              · rw [if_neg c1]
                by_cases c2 : nI n < fw
                · rw [if_pos c2, bnd_e, bnd_e, bnd_e, hS5]
                · have c3 := (hCC.resolve_left c1).resolve_left c2
                  have e3 : S3 10 3 = jd := by
                    rcases hQ3 with ⟨q, -⟩ | ⟨-, -, q, -⟩
                    · exact absurd q c1
                    · exact q
                  rw [if_neg c2, e3, if_neg (lt_nle32 c3.2), bnd_e, bnd_e, bnd_e, hS5]
            rw [A1 a hF hCC, ob3_some, hk', ob2_some, bnd_e, nI_1]
            exact go S5 (nI n) (nI a) (nI i) f5 p5' Q5
          · have c1 : ¬ fw = -1 := fun q => hCC (Or.inl q)
            have c2 : ¬ nI n < fw := fun q => hCC (Or.inr (Or.inl q))
            have hk' : sX1_keepIfBetter (nI i) (nI n) (nI a) S3 L1 = some (S3, L1) := by
              have e3 : S3 10 3 = jd := by
                rcases hQ3 with ⟨q, -⟩ | ⟨-, -, q, -⟩
                · exact absurd q c1
                · exact q
              have heq : nI n = fw := by
                have h1' := hle.resolve_left c1
                have h2' := nlt32 c2
                rw [Int32.le_iff_toInt_le] at h1' h2'
                rw [← Int32.toInt_inj]; omega
              have hle' : jd ≤ nI a := nlt32 (fun q => hCC (Or.inr (Or.inr ⟨heq, q⟩)))
              unfold sX1_keepIfBetter
              rw [if_neg hna, e2, if_neg c1, if_neg c2, e3, if_pos hle']
            rw [A2 (fun a' q => by rw [hF] at q; cases q; exact hCC), ob3_some, hk', ob2_some, bnd_e, nI_1]
            exact go S3 fw jd nm h3f h3p hQ3
      rw [h102]
      by_cases c1 : fw = -1
      · rw [if_pos c1]; exact look (Or.inl c1)
      · rw [if_neg c1]
        by_cases c2 : nI n ≤ fw
        · rw [if_pos c2]; exact look (Or.inr c2)
        · have c3 := nle32 c2
          rw [if_neg c2, bnd_e, nI_1, A2 (fun a q hh => by
            rcases hh with z | z | ⟨z, -⟩
            · exact c1 z
            · exact lt_nle32 z (by rw [Int32.le_iff_toInt_le]; rw [Int32.lt_iff_toInt_lt] at c3; omega)
            · rw [z] at c3; rw [Int32.lt_iff_toInt_lt] at c3; omega), ob3_some]
          exact keep
