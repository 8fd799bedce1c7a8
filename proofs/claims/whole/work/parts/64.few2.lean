-- ===== the fewest struck: the class's search =====
def AQm (st : Nat → Int32) (nc nt nr ny nq m : Nat) : Bool := alN st nt nr ny (fun r => oR st m nq r) nc 0
theorem x_fewIn {nc nt nr ny nq sz : Nat} {M : Nat → Nat → Int32} (hsz : sz ≤ 13) : ∀ d s, s + d = 2 ^ nq → ∀ f, d < f → ∀ (S : Nat → Nat → Int32) (L : Nat → Nat → Int64), RelN S L M nc nt nr ny nq → (∀ x, x < nc → HeldO (M 1) (tc (M 1) nt x) (M 1 (10 + 2 * x)) (fun _ => false) nr (L 40 x)) →
    ∃ S' L', lX7_fewestOf_59 (nI sz) f (nI s) S L = some (match fsI (fun m => decide (pcN 12 m = sz) && AQm (M 1) nc nt nr ny nq m) d s with | none => .inr (S', L') | some m => .inl (nI m, S', L')) ∧ EqX S L S' L' ∧ L' 40 = L 40 := by
  intro d
  induction d with
  | zero =>
    intro s hs f hf S L R hH
    have b5 := R.1.2.2.2.2.2
    have e5 : S 5 0 = nI nq := R.2.2.2.2.2.2.1.1
    obtain ⟨q1, q2⟩ := sh12 nq (by omega)
    obtain ⟨f, rfl⟩ : ∃ g, f = g + 1 := ⟨f - 1, by omega⟩
    refine ⟨S, L, ?_, EqX.rf, rfl⟩
    rw [lX7_fewestOf_59, e5, q1, if_pos (nI_le (by omega) (by omega))]; rfl
  | succ d ih =>
    intro s hs f hf S L R hH
    have b1 := R.1.1.2
    have b3 := R.1.2.2.1.2
    have b5 := R.1.2.2.2.2.2
    have e5 : S 5 0 = nI nq := R.2.2.2.2.2.2.1.1
    obtain ⟨q1, q2⟩ := sh12 nq (by omega)
    have hs4 : s < 4096 := by omega
    obtain ⟨f, rfl⟩ : ∃ g, f = g + 1 := ⟨f - 1, by omega⟩
    have eU : fsI (fun m => decide (pcN 12 m = sz) && AQm (M 1) nc nt nr ny nq m) (d + 1) s = if (decide (pcN 12 s = sz) && AQm (M 1) nc nt nr ny nq s) = true then some s else fsI (fun m => decide (pcN 12 m = sz) && AQm (M 1) nc nt nr ny nq m) d (s + 1) := rfl
    have hp := pcN_le 12 12 s (by omega)
    rw [lX7_fewestOf_59, e5, q1, if_neg (nI_ge (by omega) (by omega)), x_bitCount hs4, ob_some, eU]
    by_cases c : pcN 12 s = sz
    · obtain ⟨b, r1, r2⟩ := x_rulesAt (L := L) R.2.2.2.2.2.2.1 b5 b3 hs4
      obtain ⟨S1, L1, z1, z2, z3⟩ := x_without r2 nc 0 (by omega) FU (by unfold FU; omega) S L R hH
      have z1' : sX7_allAlikeWithout b S L = some (bI (AQm (M 1) nc nt nr ny nq s), S1, L1) := z1
      rw [if_pos (by rw [c]), r1, ob_some, z1', ob3_some]
      cases hA : AQm (M 1) nc nt nr ny nq s with
      | false =>
        rw [bI_f, if_pos rfl, if_neg (by simp), bnd_e, nI_1]
        obtain ⟨S2, L2, y1, y2, y3⟩ := ih (s + 1) (by omega) f (by omega) S1 L1 (R.frame z2 ⟨rfl, rfl⟩) (fun x hx => by rw [z3]; exact hH x hx)
        exact ⟨S2, L2, y1, z2.tr y2, y3.trans z3⟩
      | true =>
        refine ⟨S1, L1, ?_, z2, z3⟩
        rw [bI_t, if_neg (by decide), if_pos (by simp [c])]
    · have hn : ¬ nI (pcN 12 s) = nI sz := fun q => by
        have : (nI (pcN 12 s)).toInt = (nI sz).toInt := by rw [q]
        rw [nI_toInt (by omega), nI_toInt (by omega)] at this
        omega
      rw [if_neg hn, if_neg (by simp [c]), bnd_e, nI_1]
      exact ih (s + 1) (by omega) f (by omega) S L R hH
/-- the first by how many, then by number -/
def fwX (st : Nat → Int32) (nc nt nr ny nq : Nat) : Nat → Nat → Option Nat
  | 0, _ => none
  | d + 1, sz => match fsI (fun m => decide (pcN 12 m = sz) && AQm st nc nt nr ny nq m) (2 ^ nq) 0 with
    | some m => some m
    | none => fwX st nc nt nr ny nq d (sz + 1)
theorem x_few {nc nt nr ny nq : Nat} {M : Nat → Nat → Int32} : ∀ d sz, sz + d = nq + 1 → ∀ f, d < f → ∀ (S : Nat → Nat → Int32) (L : Nat → Nat → Int64), RelN S L M nc nt nr ny nq → (∀ x, x < nc → HeldO (M 1) (tc (M 1) nt x) (M 1 (10 + 2 * x)) (fun _ => false) nr (L 40 x)) →
    ∃ S' L', os2 (lX7_fewestOf_46 f (nI sz) S L) (un3 fun w42 S43 L44 => some (w42, S43, L44)) (un2 fun S45 L46 => some ((-1), S45, L46)) = some (oI (fwX (M 1) nc nt nr ny nq d sz), S', L') ∧ EqX S L S' L' := by
  intro d
  induction d with
  | zero =>
    intro sz hs f hf S L R hH
    have b5 := R.1.2.2.2.2.2
    have e5 : S 5 0 = nI nq := R.2.2.2.2.2.2.1.1
    obtain ⟨f, rfl⟩ : ∃ g, f = g + 1 := ⟨f - 1, by omega⟩
    refine ⟨S, L, ?_, EqX.rf⟩
    rw [lX7_fewestOf_46, e5, if_pos ((nI_ltI (by omega) (by omega)).mpr (by omega))]; rfl
  | succ d ih =>
    intro sz hs f hf S L R hH
    have b5 := R.1.2.2.2.2.2
    have e5 : S 5 0 = nI nq := R.2.2.2.2.2.2.1.1
    obtain ⟨q1, q2⟩ := sh12 nq (by omega)
    obtain ⟨f, rfl⟩ : ∃ g, f = g + 1 := ⟨f - 1, by omega⟩
    obtain ⟨S1, L1, z1, z2, z3⟩ := x_fewIn (sz := sz) (by omega) (2 ^ nq) 0 (by omega) FU (by unfold FU; omega) S L R hH
    have z1' : lX7_fewestOf_59 (nI sz) FU 0 S L = _ := z1
    have eU : fwX (M 1) nc nt nr ny nq (d + 1) sz = match fsI (fun m => decide (pcN 12 m = sz) && AQm (M 1) nc nt nr ny nq m) (2 ^ nq) 0 with
      | some m => some m
      | none => fwX (M 1) nc nt nr ny nq d (sz + 1) := rfl
    rw [lX7_fewestOf_46, e5, if_neg (fun q => by have := (nI_ltI (by omega) (by omega)).mp q; omega), z1', eU]
    cases hF : fsI (fun m => decide (pcN 12 m = sz) && AQm (M 1) nc nt nr ny nq m) (2 ^ nq) 0 with
    | some m => exact ⟨S1, L1, rfl, z2⟩
    | none =>
      obtain ⟨S2, L2, y1, y2⟩ := ih (sz + 1) (by omega) f (by omega) S1 L1 (R.frame z2 ⟨rfl, rfl⟩) (fun x hx => by rw [z3]; exact hH x hx)
      refine ⟨S2, L2, ?_, z2.tr y2⟩
      show os2 (bnd (nI sz + 1) (fun x40 => lX7_fewestOf_46 f x40 S1 L1)) _ _ = _
      rw [bnd_e, nI_1]
      exact y1
/-- what both look for -/
def fwS (A : Nat → Bool) (N : Nat) (o : Option Nat) : Prop := match o with
  | none => ∀ m, m < N → A m = false
  | some b => b < N ∧ A b = true ∧ ∀ m, m < N → A m = true → pcN 12 b < pcN 12 m ∨ (pcN 12 b = pcN 12 m ∧ b ≤ m)
theorem fwS_one {A : Nat → Bool} {N : Nat} {o o' : Option Nat} (h : fwS A N o) (h' : fwS A N o') : o = o' := by
  cases o with
  | none =>
    cases o' with
    | none => rfl
    | some b => have := h b h'.1; rw [h'.2.1] at this; cases this
  | some a =>
    cases o' with
    | none => have := h' a h.1; rw [h.2.1] at this; cases this
    | some b =>
      have q1 := h.2.2 b h'.1 h'.2.1
      have q2 := h'.2.2 a h.1 h.2.1
      have : a = b := by omega
      rw [this]
theorem fwX_spec {st : Nat → Int32} {nc nt nr ny nq : Nat} : ∀ d sz, sz + d = nq + 1 → (∀ m, m < 2 ^ nq → AQm st nc nt nr ny nq m = true → sz ≤ pcN 12 m) → fwS (AQm st nc nt nr ny nq) (2 ^ nq) (fwX st nc nt nr ny nq d sz) := by
  intro d
  induction d with
  | zero =>
    intro sz hs h m hm
    cases hA : AQm st nc nt nr ny nq m with
    | false => rfl
    | true =>
      have := h m hm hA
      have := pcN_le nq 12 m hm
      omega
  | succ d ih =>
    intro sz hs h
    unfold fwX
    rcases fsI_spec (P := fun m => decide (pcN 12 m = sz) && AQm st nc nt nr ny nq m) (d := 2 ^ nq) (j := 0) with ⟨h1, h2⟩ | ⟨k, h1, -, h3, h4, h5⟩
    · rw [h1]
      refine ih (sz + 1) (by omega) (fun m hm hA => ?_)
      have q := h m hm hA
      have q2 := h2 m (by omega) (by omega)
      rw [hA, Bool.and_true] at q2
      have q3 := of_decide_eq_false q2
      omega
    · rw [h1]
      have h4' : pcN 12 k = sz ∧ AQm st nc nt nr ny nq k = true := by
        have := h4
        rw [Bool.and_eq_true] at this
        exact ⟨of_decide_eq_true this.1, this.2⟩
      refine ⟨by omega, h4'.2, fun m hm hA => ?_⟩
      have q := h m hm hA
      by_cases e : pcN 12 m = sz
      · refine Or.inr ⟨by omega, ?_⟩
        apply Classical.byContradiction
        intro hlt
        have := h5 m (by omega) (by omega)
        rw [hA, Bool.and_true] at this
        exact of_decide_eq_false this e
      · exact Or.inl (by omega)
