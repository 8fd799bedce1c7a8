-- ===== how judges end =====
def pc4 (m : Nat) : Nat := (m.testBit 0).toNat + (m.testBit 1).toNat + (m.testBit 2).toNat + (m.testBit 3).toNat
theorem bF : ∀ m, m < 16 → ∀ x, x < 4 → ((nI m ||| ((1 : Int32) <<< (nI x &&& 31))) = nI (m ||| 2 ^ x) ∧ (m ||| 2 ^ x) < 16 ∧ (m.testBit x = false → pc4 (m ||| 2 ^ x) = pc4 m + 1) ∧ (pc4 m = 4 → m.testBit x = true) ∧ ((1 : Int32) <<< (nI x &&& 31)) = nI (2 ^ x) ∧ 2 ^ x < 16 ∧ pc4 (2 ^ x) = 1) := by decide +kernel
theorem bT : ∀ x, x < 4 → ∀ y, y < 4 → ((2 ^ x).testBit y = decide (x = y)) := by decide +kernel
/-- the chain on from a LAND: the LANDS behind it, how it ends and where -/
def cw (e t : Nat → Nat) : Nat → Nat → Nat → List Nat × Nat × Nat
  | 0, _, a => ([], e a, t a)
  | n + 1, met, a => if e a = 0 ∨ met.testBit (t a) = true then ([], e a, t a) else (t a :: (cw e t n (met ||| 2 ^ (t a)) (t a)).1, (cw e t n (met ||| 2 ^ (t a)) (t a)).2)
theorem cw_stop {e t : Nat → Nat} {n met a : Nat} (h : e a = 0 ∨ met.testBit (t a) = true) : cw e t n met a = ([], e a, t a) := by
  cases n with
  | zero => rfl
  | succ n => show (if _ then _ else _) = _; rw [if_pos h]
theorem cw_go {e t : Nat → Nat} {n met a : Nat} (h : ¬ (e a = 0 ∨ met.testBit (t a) = true)) : cw e t (n + 1) met a = (t a :: (cw e t n (met ||| 2 ^ (t a)) (t a)).1, (cw e t n (met ||| 2 ^ (t a)) (t a)).2) := by
  show (if _ then _ else _) = _; rw [if_neg h]
theorem cw_len {e t : Nat → Nat} : ∀ n met a, (cw e t n met a).1.length ≤ n
  | 0, _, _ => Nat.le_refl 0
  | n + 1, met, a => by
    by_cases h : e a = 0 ∨ met.testBit (t a) = true
    · rw [cw_stop h]; exact Nat.zero_le _
    · rw [cw_go h]
      have := cw_len (e := e) (t := t) n (met ||| 2 ^ (t a)) (t a)
      show _ + 1 ≤ n + 1
      omega
def en (y : Nat → Int32) (e t w : Nat → Nat) : Nat → Nat → Nat → Int32
  | 0, _, _ => -5
  | n + 1, ws, a => if y a ≠ -1 then y a else if e a = 0 ∨ t a = a ∨ w a = 0 then nI (t a) else if w a = 1 then nI (t (t a)) else if w a = 2 then nI (cw e t 3 (2 ^ a) a).2.2 else if (ws ||| 2 ^ a).testBit (t a) = true then -5 else en y e t w n (ws ||| 2 ^ a) (t a)
/-- what the hearing holds -/
def HS (S : Nat → Nat → Int32) (e t : Nat → Nat) : Prop := (∀ a, a < 4 → e a < 2 ∧ t a < 4) ∧ ∀ a, a < 4 → S 36 a = nI (e a) ∧ S 37 a = nI (t a)
theorem fol_7 {L : Nat → Nat → Int64} {e t : Nat → Nat} : ∀ n sz, sz + n = 4 → 1 ≤ sz → ∀ f, n < f → ∀ (S0 : Nat → Nat → Int32) (met a : Nat), HS S0 e t → met < 16 → a < 4 → pc4 met = sz → S0 7 1 = nI sz → S0 38 (sz - 1) = nI a →
    ∃ S' z, lX3_follow_7_6_19 f (nI met) (nI (sz - 1)) S0 L = some z ∧ (z = .inl (S', L) ∨ z = .inr (S', L)) ∧ (∀ k, k ≠ 7 → k ≠ 38 → S' k = S0 k) ∧ S' 7 1 = nI (sz + (cw e t n met a).1.length) ∧ S' 7 2 = nI (cw e t n met a).2.1 ∧ S' 7 3 = nI (cw e t n met a).2.2 ∧ (∀ i, i < sz → S' 38 i = S0 38 i) ∧ ∀ i x, (cw e t n met a).1[i]? = some x → S' 38 (sz + i) = nI x := by
  intro n
  induction n with
  | zero =>
    intro sz hsz h1 f hf S0 met a hS hm ha hp e1 e2
    obtain ⟨f, rfl⟩ : ∃ g, f = g + 1 := ⟨f - 1, by omega⟩
    obtain ⟨he, ht⟩ := hS.1 a ha
    obtain ⟨r1, r2⟩ := hS.2 a ha
    have es : nI sz - 1 = nI (sz - 1) := pk_sub (b := 1) h1
    have hbit : met.testBit (t a) = true := (bF met hm (t a) ht).2.2.2.1 (by omega)
    refine ⟨qu2 (qu2 S0 7 2 (nI (e a))) 7 3 (nI (t a)), .inl (qu2 (qu2 S0 7 2 (nI (e a))) 7 3 (nI (t a)), L), ?_, Or.inl rfl, fun k k1 k2 => by rw [qu2_ne k1, qu2_ne k1], ?_, ?_, ?_, fun i hi => by rw [qu2_ne (by decide), qu2_ne (by decide)], fun i x hx => by cases hx⟩
    · rw [lX3_follow_7_6_19, if_neg (show ¬ (4 : Int32) ≤ nI (sz - 1) from nI_ge (b := 4) (by omega) (by decide)), e1, es, ck_n (by omega) (by decide), nI_clamp (by omega), e2, bnd_e, ck_n ha (by decide), nI_clamp (by omega), r1, bnd_e, ck_n ha (by decide), qu2_ne (show 37 ≠ 7 by decide), r2, bnd_e]
      by_cases c : e a = 0
      · rw [if_pos (show (qu2 (qu2 S0 7 2 (nI (e a))) 7 3 (nI (t a))) 7 2 = 0 by rw [qu2_same, pk_un (by decide), qu2_same, pk_us, c]; rfl)]
      · rw [if_neg (show ¬ (qu2 (qu2 S0 7 2 (nI (e a))) 7 3 (nI (t a))) 7 2 = 0 by rw [qu2_same, pk_un (by decide), qu2_same, pk_us]; exact fun q => c ((nI_eq (b := 0) (by omega) (by decide)).mp q)), if_neg (show ¬ (iush (nI met) ((qu2 (qu2 S0 7 2 (nI (e a))) 7 3 (nI (t a))) 7 3)) &&& 1 = 0 by rw [qu2_same, pk_us]; exact fun q => by rw [(bitI met hm (t a) ht).2] at q; rw [hbit] at q; cases q)]
    · rw [qu2_same, pk_un (by decide), qu2_same, pk_un (by decide), e1]; rfl
    · rw [qu2_same, pk_un (by decide), qu2_same, pk_us]; rfl
    · rw [qu2_same, pk_us]; rfl
  | succ n ih =>
    intro sz hsz h1 f hf S0 met a hS hm ha hp e1 e2
    obtain ⟨f, rfl⟩ : ∃ g, f = g + 1 := ⟨f - 1, by omega⟩
    obtain ⟨he, ht⟩ := hS.1 a ha
    obtain ⟨r1, r2⟩ := hS.2 a ha
    have es : nI sz - 1 = nI (sz - 1) := pk_sub (b := 1) h1
    generalize hS1 : qu2 (qu2 S0 7 2 (nI (e a))) 7 3 (nI (t a)) = S1
    have s1 : S1 7 1 = nI sz := by rw [← hS1, qu2_same, pk_un (by decide), qu2_same, pk_un (by decide), e1]
    have s2 : S1 7 2 = nI (e a) := by rw [← hS1, qu2_same, pk_un (by decide), qu2_same, pk_us]
    have s3 : S1 7 3 = nI (t a) := by rw [← hS1, qu2_same, pk_us]
    have sk : ∀ k, k ≠ 7 → S1 k = S0 k := fun k hk => by rw [← hS1, qu2_ne hk, qu2_ne hk]
    by_cases hstop : e a = 0 ∨ met.testBit (t a) = true
    · rw [cw_stop hstop]
      refine ⟨S1, .inl (S1, L), ?_, Or.inl rfl, fun k k1 k2 => sk k k1, by rw [s1]; rfl, s2, s3, fun i hi => by rw [sk _ (by decide)], fun i x hx => by simp at hx⟩
      rw [lX3_follow_7_6_19, if_neg (show ¬ (4 : Int32) ≤ nI (sz - 1) from nI_ge (b := 4) (by omega) (by decide)), e1, es, ck_n (by omega) (by decide), nI_clamp (by omega), e2, bnd_e, ck_n ha (by decide), nI_clamp (by omega), r1, bnd_e, ck_n ha (by decide), qu2_ne (show 37 ≠ 7 by decide), r2, bnd_e, hS1, s2, s3]
      by_cases c : e a = 0
      · rw [if_pos (show nI (e a) = 0 by rw [c]; rfl)]
      · rw [if_neg (show ¬ nI (e a) = 0 from fun q => c ((nI_eq (b := 0) (by omega) (by decide)).mp q)), if_neg (show ¬ iush (nI met) (nI (t a)) &&& 1 = 0 from fun q => by rw [(bitI met hm (t a) ht).2, hstop.resolve_left c] at q; cases q)]
    · have c : ¬ e a = 0 := fun q => hstop (Or.inl q)
      have hb : met.testBit (t a) = false := by
        cases hh : met.testBit (t a) with
        | false => rfl
        | true => exact absurd (Or.inr hh) hstop
      obtain ⟨f1, f2, f3, -⟩ := bF met hm (t a) ht
      rw [cw_go hstop]
      have hS2 : HS (qu2 (qu2 S1 38 sz (nI (t a))) 7 1 (nI (sz + 1))) e t := ⟨hS.1, fun b hb => by rw [qu2_ne (by decide), qu2_ne (by decide), sk 36 (by decide), qu2_ne (by decide), qu2_ne (by decide), sk 37 (by decide)]; exact hS.2 b hb⟩
      obtain ⟨S', z, z1, z2, z3, z4, z5, z6, z7, z8⟩ := ih (sz + 1) (by omega) (by omega) f (by omega) (qu2 (qu2 S1 38 sz (nI (t a))) 7 1 (nI (sz + 1))) (met ||| 2 ^ (t a)) (t a) hS2 f2 ht (by rw [f3 hb]; omega) (by rw [qu2_same, pk_us]) (by rw [qu2_ne (by decide), qu2_same, show sz + 1 - 1 = sz by omega, pk_us])
      refine ⟨S', z, ?_, z2, fun k k1 k2 => by rw [z3 k k1 k2, qu2_ne k1, qu2_ne k2, sk k k1], ?_, z5, z6, fun i hi => by rw [z7 i (by omega), qu2_ne (by decide), qu2_same, pk_un (by omega), sk _ (by decide)], fun i x hx => ?_⟩
      · rw [lX3_follow_7_6_19, if_neg (show ¬ (4 : Int32) ≤ nI (sz - 1) from nI_ge (b := 4) (by omega) (by decide)), e1, es, ck_n (by omega) (by decide), nI_clamp (by omega), e2, bnd_e, ck_n ha (by decide), nI_clamp (by omega), r1, bnd_e, ck_n ha (by decide), qu2_ne (show 37 ≠ 7 by decide), r2, bnd_e, hS1, s2, s3, if_neg (show ¬ nI (e a) = 0 from fun q => c ((nI_eq (b := 0) (by omega) (by decide)).mp q)), if_pos ((bitI met hm (t a) ht).2.mpr hb), s1, if_pos (show nI sz < 4 from nI_lt (b := 4) (by omega) (by decide)), f1, bnd_e, ck_n (by omega) (by decide), nI_clamp (by omega), bnd_e, qu2_ne (show 7 ≠ 38 by decide), s1, nI_1, bnd_e, bnd_e, nI_1]
        rw [show sz + 1 - 1 = sz - 1 + 1 by omega] at z1
        exact z1
      · rw [z4]; congr 1; show sz + 1 + _ = sz + (_ + 1); omega
      · cases i with
        | zero =>
          have : t a = x := by simpa using hx
          rw [Nat.add_zero, z7 sz (by omega), qu2_ne (by decide), qu2_same, pk_us, this]
        | succ i =>
          have := z8 i x (by simpa using hx)
          rw [show sz + (i + 1) = sz + 1 + i by omega]
          exact this
theorem follow_7 {S : Nat → Nat → Int32} {L : Nat → Nat → Int64} {e t : Nat → Nat} {a : Nat} (hS : HS S e t) (ha : a < 4) :
    ∃ S', sX3_follow_7_6 (nI a) S L = some (S', L) ∧ (∀ k, k ≠ 7 → k ≠ 38 → S' k = S k) ∧ S' 7 1 = nI (1 + (cw e t 3 (2 ^ a) a).1.length) ∧ S' 7 2 = nI (cw e t 3 (2 ^ a) a).2.1 ∧ S' 7 3 = nI (cw e t 3 (2 ^ a) a).2.2 ∧ S' 38 0 = nI a ∧ ∀ i x, (cw e t 3 (2 ^ a) a).1[i]? = some x → S' 38 (1 + i) = nI x := by
  obtain ⟨-, -, -, -, f5, f6, f7⟩ := bF 0 (by decide) a ha
  have hS2 : HS (qu2 (qu2 S 38 0 (nI a)) 7 1 1) e t := ⟨hS.1, fun b hb => by rw [qu2_ne (by decide), qu2_ne (by decide), qu2_ne (by decide), qu2_ne (by decide)]; exact hS.2 b hb⟩
  obtain ⟨S', z, z1, z2, z3, z4, z5, z6, z7, z8⟩ := fol_7 (L := L) 3 1 (by omega) (by omega) FU (by unfold FU; omega) _ (2 ^ a) a hS2 f6 ha f7 (by rw [qu2_same, pk_us]; rfl) (by rw [qu2_ne (by decide), qu2_same, pk_us])
  refine ⟨S', ?_, fun k k1 k2 => by rw [z3 k k1 k2, qu2_ne k1, qu2_ne k2], z4, z5, z6, by rw [z7 0 (by omega), qu2_ne (by decide), qu2_same, pk_us], z8⟩
  unfold sX3_follow_7_6
  rw [f5, bnd_e, show ∀ {β : Type} (o : Option β), ck 0 4 o = o from fun o => ck_n (j := 0) (n := 4) (by decide) (by decide), cl0, bnd_e, bnd_e, show lX3_follow_7_6_19 FU (nI (2 ^ a)) 0 _ L = _ from z1]
  rcases z2 with rfl | rfl <;> rfl
theorem fol_11 {L : Nat → Nat → Int64} {e t : Nat → Nat} : ∀ n sz, sz + n = 4 → 1 ≤ sz → ∀ f, n < f → ∀ (S0 : Nat → Nat → Int32) (met a : Nat), HS S0 e t → met < 16 → a < 4 → pc4 met = sz → S0 11 1 = nI sz → S0 41 (sz - 1) = nI a →
    ∃ S' z, lX3_follow_11_6_19 f (nI met) (nI (sz - 1)) S0 L = some z ∧ (z = .inl (S', L) ∨ z = .inr (S', L)) ∧ (∀ k, k ≠ 11 → k ≠ 41 → S' k = S0 k) ∧ S' 11 1 = nI (sz + (cw e t n met a).1.length) ∧ S' 11 2 = nI (cw e t n met a).2.1 ∧ S' 11 3 = nI (cw e t n met a).2.2 ∧ (∀ i, i < sz → S' 41 i = S0 41 i) ∧ ∀ i x, (cw e t n met a).1[i]? = some x → S' 41 (sz + i) = nI x := by
  intro n
  induction n with
  | zero =>
    intro sz hsz h1 f hf S0 met a hS hm ha hp e1 e2
    obtain ⟨f, rfl⟩ : ∃ g, f = g + 1 := ⟨f - 1, by omega⟩
    obtain ⟨he, ht⟩ := hS.1 a ha
    obtain ⟨r1, r2⟩ := hS.2 a ha
    have es : nI sz - 1 = nI (sz - 1) := pk_sub (b := 1) h1
    have hbit : met.testBit (t a) = true := (bF met hm (t a) ht).2.2.2.1 (by omega)
    refine ⟨qu2 (qu2 S0 11 2 (nI (e a))) 11 3 (nI (t a)), .inl (qu2 (qu2 S0 11 2 (nI (e a))) 11 3 (nI (t a)), L), ?_, Or.inl rfl, fun k k1 k2 => by rw [qu2_ne k1, qu2_ne k1], ?_, ?_, ?_, fun i hi => by rw [qu2_ne (by decide), qu2_ne (by decide)], fun i x hx => by cases hx⟩
    · rw [lX3_follow_11_6_19, if_neg (show ¬ (4 : Int32) ≤ nI (sz - 1) from nI_ge (b := 4) (by omega) (by decide)), e1, es, ck_n (by omega) (by decide), nI_clamp (by omega), e2, bnd_e, ck_n ha (by decide), nI_clamp (by omega), r1, bnd_e, ck_n ha (by decide), qu2_ne (show 37 ≠ 11 by decide), r2, bnd_e]
      by_cases c : e a = 0
      · rw [if_pos (show (qu2 (qu2 S0 11 2 (nI (e a))) 11 3 (nI (t a))) 11 2 = 0 by rw [qu2_same, pk_un (by decide), qu2_same, pk_us, c]; rfl)]
      · rw [if_neg (show ¬ (qu2 (qu2 S0 11 2 (nI (e a))) 11 3 (nI (t a))) 11 2 = 0 by rw [qu2_same, pk_un (by decide), qu2_same, pk_us]; exact fun q => c ((nI_eq (b := 0) (by omega) (by decide)).mp q)), if_neg (show ¬ (iush (nI met) ((qu2 (qu2 S0 11 2 (nI (e a))) 11 3 (nI (t a))) 11 3)) &&& 1 = 0 by rw [qu2_same, pk_us]; exact fun q => by rw [(bitI met hm (t a) ht).2] at q; rw [hbit] at q; cases q)]
    · rw [qu2_same, pk_un (by decide), qu2_same, pk_un (by decide), e1]; rfl
    · rw [qu2_same, pk_un (by decide), qu2_same, pk_us]; rfl
    · rw [qu2_same, pk_us]; rfl
  | succ n ih =>
    intro sz hsz h1 f hf S0 met a hS hm ha hp e1 e2
    obtain ⟨f, rfl⟩ : ∃ g, f = g + 1 := ⟨f - 1, by omega⟩
    obtain ⟨he, ht⟩ := hS.1 a ha
    obtain ⟨r1, r2⟩ := hS.2 a ha
    have es : nI sz - 1 = nI (sz - 1) := pk_sub (b := 1) h1
    generalize hS1 : qu2 (qu2 S0 11 2 (nI (e a))) 11 3 (nI (t a)) = S1
    have s1 : S1 11 1 = nI sz := by rw [← hS1, qu2_same, pk_un (by decide), qu2_same, pk_un (by decide), e1]
    have s2 : S1 11 2 = nI (e a) := by rw [← hS1, qu2_same, pk_un (by decide), qu2_same, pk_us]
    have s3 : S1 11 3 = nI (t a) := by rw [← hS1, qu2_same, pk_us]
    have sk : ∀ k, k ≠ 11 → S1 k = S0 k := fun k hk => by rw [← hS1, qu2_ne hk, qu2_ne hk]
    by_cases hstop : e a = 0 ∨ met.testBit (t a) = true
    · rw [cw_stop hstop]
      refine ⟨S1, .inl (S1, L), ?_, Or.inl rfl, fun k k1 k2 => sk k k1, by rw [s1]; rfl, s2, s3, fun i hi => by rw [sk _ (by decide)], fun i x hx => by simp at hx⟩
      rw [lX3_follow_11_6_19, if_neg (show ¬ (4 : Int32) ≤ nI (sz - 1) from nI_ge (b := 4) (by omega) (by decide)), e1, es, ck_n (by omega) (by decide), nI_clamp (by omega), e2, bnd_e, ck_n ha (by decide), nI_clamp (by omega), r1, bnd_e, ck_n ha (by decide), qu2_ne (show 37 ≠ 11 by decide), r2, bnd_e, hS1, s2, s3]
      by_cases c : e a = 0
      · rw [if_pos (show nI (e a) = 0 by rw [c]; rfl)]
      · rw [if_neg (show ¬ nI (e a) = 0 from fun q => c ((nI_eq (b := 0) (by omega) (by decide)).mp q)), if_neg (show ¬ iush (nI met) (nI (t a)) &&& 1 = 0 from fun q => by rw [(bitI met hm (t a) ht).2, hstop.resolve_left c] at q; cases q)]
    · have c : ¬ e a = 0 := fun q => hstop (Or.inl q)
      have hb : met.testBit (t a) = false := by
        cases hh : met.testBit (t a) with
        | false => rfl
        | true => exact absurd (Or.inr hh) hstop
      obtain ⟨f1, f2, f3, -⟩ := bF met hm (t a) ht
      rw [cw_go hstop]
      have hS2 : HS (qu2 (qu2 S1 41 sz (nI (t a))) 11 1 (nI (sz + 1))) e t := ⟨hS.1, fun b hb => by rw [qu2_ne (by decide), qu2_ne (by decide), sk 36 (by decide), qu2_ne (by decide), qu2_ne (by decide), sk 37 (by decide)]; exact hS.2 b hb⟩
      obtain ⟨S', z, z1, z2, z3, z4, z5, z6, z7, z8⟩ := ih (sz + 1) (by omega) (by omega) f (by omega) (qu2 (qu2 S1 41 sz (nI (t a))) 11 1 (nI (sz + 1))) (met ||| 2 ^ (t a)) (t a) hS2 f2 ht (by rw [f3 hb]; omega) (by rw [qu2_same, pk_us]) (by rw [qu2_ne (by decide), qu2_same, show sz + 1 - 1 = sz by omega, pk_us])
      refine ⟨S', z, ?_, z2, fun k k1 k2 => by rw [z3 k k1 k2, qu2_ne k1, qu2_ne k2, sk k k1], ?_, z5, z6, fun i hi => by rw [z7 i (by omega), qu2_ne (by decide), qu2_same, pk_un (by omega), sk _ (by decide)], fun i x hx => ?_⟩
      · rw [lX3_follow_11_6_19, if_neg (show ¬ (4 : Int32) ≤ nI (sz - 1) from nI_ge (b := 4) (by omega) (by decide)), e1, es, ck_n (by omega) (by decide), nI_clamp (by omega), e2, bnd_e, ck_n ha (by decide), nI_clamp (by omega), r1, bnd_e, ck_n ha (by decide), qu2_ne (show 37 ≠ 11 by decide), r2, bnd_e, hS1, s2, s3, if_neg (show ¬ nI (e a) = 0 from fun q => c ((nI_eq (b := 0) (by omega) (by decide)).mp q)), if_pos ((bitI met hm (t a) ht).2.mpr hb), s1, if_pos (show nI sz < 4 from nI_lt (b := 4) (by omega) (by decide)), f1, bnd_e, ck_n (by omega) (by decide), nI_clamp (by omega), bnd_e, qu2_ne (show 11 ≠ 41 by decide), s1, nI_1, bnd_e, bnd_e, nI_1]
        rw [show sz + 1 - 1 = sz - 1 + 1 by omega] at z1
        exact z1
      · rw [z4]; congr 1; show sz + 1 + _ = sz + (_ + 1); omega
      · cases i with
        | zero =>
          have : t a = x := by simpa using hx
          rw [Nat.add_zero, z7 sz (by omega), qu2_ne (by decide), qu2_same, pk_us, this]
        | succ i =>
          have := z8 i x (by simpa using hx)
          rw [show sz + (i + 1) = sz + 1 + i by omega]
          exact this
theorem follow_11 {S : Nat → Nat → Int32} {L : Nat → Nat → Int64} {e t : Nat → Nat} {a : Nat} (hS : HS S e t) (ha : a < 4) :
    ∃ S', sX3_follow_11_6 (nI a) S L = some (S', L) ∧ (∀ k, k ≠ 11 → k ≠ 41 → S' k = S k) ∧ S' 11 1 = nI (1 + (cw e t 3 (2 ^ a) a).1.length) ∧ S' 11 2 = nI (cw e t 3 (2 ^ a) a).2.1 ∧ S' 11 3 = nI (cw e t 3 (2 ^ a) a).2.2 ∧ S' 41 0 = nI a ∧ ∀ i x, (cw e t 3 (2 ^ a) a).1[i]? = some x → S' 41 (1 + i) = nI x := by
  obtain ⟨-, -, -, -, f5, f6, f7⟩ := bF 0 (by decide) a ha
  have hS2 : HS (qu2 (qu2 S 41 0 (nI a)) 11 1 1) e t := ⟨hS.1, fun b hb => by rw [qu2_ne (by decide), qu2_ne (by decide), qu2_ne (by decide), qu2_ne (by decide)]; exact hS.2 b hb⟩
  obtain ⟨S', z, z1, z2, z3, z4, z5, z6, z7, z8⟩ := fol_11 (L := L) 3 1 (by omega) (by omega) FU (by unfold FU; omega) _ (2 ^ a) a hS2 f6 ha f7 (by rw [qu2_same, pk_us]; rfl) (by rw [qu2_ne (by decide), qu2_same, pk_us])
  refine ⟨S', ?_, fun k k1 k2 => by rw [z3 k k1 k2, qu2_ne k1, qu2_ne k2], z4, z5, z6, by rw [z7 0 (by omega), qu2_ne (by decide), qu2_same, pk_us], z8⟩
  unfold sX3_follow_11_6
  rw [f5, bnd_e, show ∀ {β : Type} (o : Option β), ck 0 4 o = o from fun o => ck_n (j := 0) (n := 4) (by decide) (by decide), cl0, bnd_e, bnd_e, show lX3_follow_11_6_19 FU (nI (2 ^ a)) 0 _ L = _ from z1]
  rcases z2 with rfl | rfl <;> rfl
theorem fol_12 {L : Nat → Nat → Int64} {e t : Nat → Nat} : ∀ n sz, sz + n = 4 → 1 ≤ sz → ∀ f, n < f → ∀ (S0 : Nat → Nat → Int32) (met a : Nat), HS S0 e t → met < 16 → a < 4 → pc4 met = sz → S0 12 1 = nI sz → S0 42 (sz - 1) = nI a →
    ∃ S' z, lX3_follow_12_6_19 f (nI met) (nI (sz - 1)) S0 L = some z ∧ (z = .inl (S', L) ∨ z = .inr (S', L)) ∧ (∀ k, k ≠ 12 → k ≠ 42 → S' k = S0 k) ∧ S' 12 1 = nI (sz + (cw e t n met a).1.length) ∧ S' 12 2 = nI (cw e t n met a).2.1 ∧ S' 12 3 = nI (cw e t n met a).2.2 ∧ (∀ i, i < sz → S' 42 i = S0 42 i) ∧ ∀ i x, (cw e t n met a).1[i]? = some x → S' 42 (sz + i) = nI x := by
  intro n
  induction n with
  | zero =>
    intro sz hsz h1 f hf S0 met a hS hm ha hp e1 e2
    obtain ⟨f, rfl⟩ : ∃ g, f = g + 1 := ⟨f - 1, by omega⟩
    obtain ⟨he, ht⟩ := hS.1 a ha
    obtain ⟨r1, r2⟩ := hS.2 a ha
    have es : nI sz - 1 = nI (sz - 1) := pk_sub (b := 1) h1
    have hbit : met.testBit (t a) = true := (bF met hm (t a) ht).2.2.2.1 (by omega)
    refine ⟨qu2 (qu2 S0 12 2 (nI (e a))) 12 3 (nI (t a)), .inl (qu2 (qu2 S0 12 2 (nI (e a))) 12 3 (nI (t a)), L), ?_, Or.inl rfl, fun k k1 k2 => by rw [qu2_ne k1, qu2_ne k1], ?_, ?_, ?_, fun i hi => by rw [qu2_ne (by decide), qu2_ne (by decide)], fun i x hx => by cases hx⟩
    · rw [lX3_follow_12_6_19, if_neg (show ¬ (4 : Int32) ≤ nI (sz - 1) from nI_ge (b := 4) (by omega) (by decide)), e1, es, ck_n (by omega) (by decide), nI_clamp (by omega), e2, bnd_e, ck_n ha (by decide), nI_clamp (by omega), r1, bnd_e, ck_n ha (by decide), qu2_ne (show 37 ≠ 12 by decide), r2, bnd_e]
      by_cases c : e a = 0
      · rw [if_pos (show (qu2 (qu2 S0 12 2 (nI (e a))) 12 3 (nI (t a))) 12 2 = 0 by rw [qu2_same, pk_un (by decide), qu2_same, pk_us, c]; rfl)]
      · rw [if_neg (show ¬ (qu2 (qu2 S0 12 2 (nI (e a))) 12 3 (nI (t a))) 12 2 = 0 by rw [qu2_same, pk_un (by decide), qu2_same, pk_us]; exact fun q => c ((nI_eq (b := 0) (by omega) (by decide)).mp q)), if_neg (show ¬ (iush (nI met) ((qu2 (qu2 S0 12 2 (nI (e a))) 12 3 (nI (t a))) 12 3)) &&& 1 = 0 by rw [qu2_same, pk_us]; exact fun q => by rw [(bitI met hm (t a) ht).2] at q; rw [hbit] at q; cases q)]
    · rw [qu2_same, pk_un (by decide), qu2_same, pk_un (by decide), e1]; rfl
    · rw [qu2_same, pk_un (by decide), qu2_same, pk_us]; rfl
    · rw [qu2_same, pk_us]; rfl
  | succ n ih =>
    intro sz hsz h1 f hf S0 met a hS hm ha hp e1 e2
    obtain ⟨f, rfl⟩ : ∃ g, f = g + 1 := ⟨f - 1, by omega⟩
    obtain ⟨he, ht⟩ := hS.1 a ha
    obtain ⟨r1, r2⟩ := hS.2 a ha
    have es : nI sz - 1 = nI (sz - 1) := pk_sub (b := 1) h1
    generalize hS1 : qu2 (qu2 S0 12 2 (nI (e a))) 12 3 (nI (t a)) = S1
    have s1 : S1 12 1 = nI sz := by rw [← hS1, qu2_same, pk_un (by decide), qu2_same, pk_un (by decide), e1]
    have s2 : S1 12 2 = nI (e a) := by rw [← hS1, qu2_same, pk_un (by decide), qu2_same, pk_us]
    have s3 : S1 12 3 = nI (t a) := by rw [← hS1, qu2_same, pk_us]
    have sk : ∀ k, k ≠ 12 → S1 k = S0 k := fun k hk => by rw [← hS1, qu2_ne hk, qu2_ne hk]
    by_cases hstop : e a = 0 ∨ met.testBit (t a) = true
    · rw [cw_stop hstop]
      refine ⟨S1, .inl (S1, L), ?_, Or.inl rfl, fun k k1 k2 => sk k k1, by rw [s1]; rfl, s2, s3, fun i hi => by rw [sk _ (by decide)], fun i x hx => by simp at hx⟩
      rw [lX3_follow_12_6_19, if_neg (show ¬ (4 : Int32) ≤ nI (sz - 1) from nI_ge (b := 4) (by omega) (by decide)), e1, es, ck_n (by omega) (by decide), nI_clamp (by omega), e2, bnd_e, ck_n ha (by decide), nI_clamp (by omega), r1, bnd_e, ck_n ha (by decide), qu2_ne (show 37 ≠ 12 by decide), r2, bnd_e, hS1, s2, s3]
      by_cases c : e a = 0
      · rw [if_pos (show nI (e a) = 0 by rw [c]; rfl)]
      · rw [if_neg (show ¬ nI (e a) = 0 from fun q => c ((nI_eq (b := 0) (by omega) (by decide)).mp q)), if_neg (show ¬ iush (nI met) (nI (t a)) &&& 1 = 0 from fun q => by rw [(bitI met hm (t a) ht).2, hstop.resolve_left c] at q; cases q)]
    · have c : ¬ e a = 0 := fun q => hstop (Or.inl q)
      have hb : met.testBit (t a) = false := by
        cases hh : met.testBit (t a) with
        | false => rfl
        | true => exact absurd (Or.inr hh) hstop
      obtain ⟨f1, f2, f3, -⟩ := bF met hm (t a) ht
      rw [cw_go hstop]
      have hS2 : HS (qu2 (qu2 S1 42 sz (nI (t a))) 12 1 (nI (sz + 1))) e t := ⟨hS.1, fun b hb => by rw [qu2_ne (by decide), qu2_ne (by decide), sk 36 (by decide), qu2_ne (by decide), qu2_ne (by decide), sk 37 (by decide)]; exact hS.2 b hb⟩
      obtain ⟨S', z, z1, z2, z3, z4, z5, z6, z7, z8⟩ := ih (sz + 1) (by omega) (by omega) f (by omega) (qu2 (qu2 S1 42 sz (nI (t a))) 12 1 (nI (sz + 1))) (met ||| 2 ^ (t a)) (t a) hS2 f2 ht (by rw [f3 hb]; omega) (by rw [qu2_same, pk_us]) (by rw [qu2_ne (by decide), qu2_same, show sz + 1 - 1 = sz by omega, pk_us])
      refine ⟨S', z, ?_, z2, fun k k1 k2 => by rw [z3 k k1 k2, qu2_ne k1, qu2_ne k2, sk k k1], ?_, z5, z6, fun i hi => by rw [z7 i (by omega), qu2_ne (by decide), qu2_same, pk_un (by omega), sk _ (by decide)], fun i x hx => ?_⟩
      · rw [lX3_follow_12_6_19, if_neg (show ¬ (4 : Int32) ≤ nI (sz - 1) from nI_ge (b := 4) (by omega) (by decide)), e1, es, ck_n (by omega) (by decide), nI_clamp (by omega), e2, bnd_e, ck_n ha (by decide), nI_clamp (by omega), r1, bnd_e, ck_n ha (by decide), qu2_ne (show 37 ≠ 12 by decide), r2, bnd_e, hS1, s2, s3, if_neg (show ¬ nI (e a) = 0 from fun q => c ((nI_eq (b := 0) (by omega) (by decide)).mp q)), if_pos ((bitI met hm (t a) ht).2.mpr hb), s1, if_pos (show nI sz < 4 from nI_lt (b := 4) (by omega) (by decide)), f1, bnd_e, ck_n (by omega) (by decide), nI_clamp (by omega), bnd_e, qu2_ne (show 12 ≠ 42 by decide), s1, nI_1, bnd_e, bnd_e, nI_1]
        rw [show sz + 1 - 1 = sz - 1 + 1 by omega] at z1
        exact z1
      · rw [z4]; congr 1; show sz + 1 + _ = sz + (_ + 1); omega
      · cases i with
        | zero =>
          have : t a = x := by simpa using hx
          rw [Nat.add_zero, z7 sz (by omega), qu2_ne (by decide), qu2_same, pk_us, this]
        | succ i =>
          have := z8 i x (by simpa using hx)
          rw [show sz + (i + 1) = sz + 1 + i by omega]
          exact this
theorem follow_12 {S : Nat → Nat → Int32} {L : Nat → Nat → Int64} {e t : Nat → Nat} {a : Nat} (hS : HS S e t) (ha : a < 4) :
    ∃ S', sX3_follow_12_6 (nI a) S L = some (S', L) ∧ (∀ k, k ≠ 12 → k ≠ 42 → S' k = S k) ∧ S' 12 1 = nI (1 + (cw e t 3 (2 ^ a) a).1.length) ∧ S' 12 2 = nI (cw e t 3 (2 ^ a) a).2.1 ∧ S' 12 3 = nI (cw e t 3 (2 ^ a) a).2.2 ∧ S' 42 0 = nI a ∧ ∀ i x, (cw e t 3 (2 ^ a) a).1[i]? = some x → S' 42 (1 + i) = nI x := by
  obtain ⟨-, -, -, -, f5, f6, f7⟩ := bF 0 (by decide) a ha
  have hS2 : HS (qu2 (qu2 S 42 0 (nI a)) 12 1 1) e t := ⟨hS.1, fun b hb => by rw [qu2_ne (by decide), qu2_ne (by decide), qu2_ne (by decide), qu2_ne (by decide)]; exact hS.2 b hb⟩
  obtain ⟨S', z, z1, z2, z3, z4, z5, z6, z7, z8⟩ := fol_12 (L := L) 3 1 (by omega) (by omega) FU (by unfold FU; omega) _ (2 ^ a) a hS2 f6 ha f7 (by rw [qu2_same, pk_us]; rfl) (by rw [qu2_ne (by decide), qu2_same, pk_us])
  refine ⟨S', ?_, fun k k1 k2 => by rw [z3 k k1 k2, qu2_ne k1, qu2_ne k2], z4, z5, z6, by rw [z7 0 (by omega), qu2_ne (by decide), qu2_same, pk_us], z8⟩
  unfold sX3_follow_12_6
  rw [f5, bnd_e, show ∀ {β : Type} (o : Option β), ck 0 4 o = o from fun o => ck_n (j := 0) (n := 4) (by decide) (by decide), cl0, bnd_e, bnd_e, show lX3_follow_12_6_19 FU (nI (2 ^ a)) 0 _ L = _ from z1]
  rcases z2 with rfl | rfl <;> rfl
theorem x_way {S : Nat → Nat → Int32} {L : Nat → Nat → Int64} {e t w : Nat → Nat} {a : Nat} (hS : HS S e t) (hw : ∀ a, a < 4 → S 30 a = nI (w a)) (ha : a < 4) : sX4_wayTaken (nI a) S L = some (if e a = 0 ∨ t a = a then 0 else nI (w a)) := by
  obtain ⟨he, ht⟩ := hS.1 a ha
  obtain ⟨r1, r2⟩ := hS.2 a ha
  unfold sX4_wayTaken
  rw [ck_n ha (by decide), nI_clamp (by omega), r1]
  by_cases c : e a = 0
  · rw [if_pos (Or.inl c), if_neg (show ¬ nI (e a) = 1 from fun q => by have := (nI_eq (b := 1) (by omega) (by decide)).mp q; omega)]
  · rw [if_pos (show nI (e a) = 1 by rw [show e a = 1 by omega]; rfl), ck_n ha (by decide), r2]
    by_cases c2 : t a = a
    · rw [if_pos (Or.inr c2), if_pos (by rw [c2])]
    · have hn : ¬ (e a = 0 ∨ t a = a) := fun q => q.elim c c2
      have hn2 : ¬ nI (t a) = nI a := fun q => c2 ((nI_eq (by omega) (by omega)).mp q)
      rw [if_neg hn, if_neg hn2, ck_n ha (by decide), hw a ha]
theorem x_byBooks {S : Nat → Nat → Int32} {L : Nat → Nat → Int64} {e t w : Nat → Nat} {a : Nat} (hS : HS S e t) (hw : ∀ a, a < 4 → S 30 a = nI (w a) ∧ w a < 4) (ha : a < 4) (h3 : ¬ (if e a = 0 ∨ t a = a then (0 : Int32) else nI (w a)) = 3) :
    ∃ S', sX4_byBooks (nI a) S L = some (if e a = 0 ∨ t a = a ∨ w a = 0 then nI (t a) else if w a = 1 then nI (t (t a)) else nI (cw e t 3 (2 ^ a) a).2.2, S', L) ∧ ∀ k, k ≠ 7 → k ≠ 38 → S' k = S k := by
  obtain ⟨he, ht⟩ := hS.1 a ha
  obtain ⟨r1, r2⟩ := hS.2 a ha
  have hwa := (hw a ha).2
  unfold sX4_byBooks
  rw [x_way hS (fun a ha => (hw a ha).1) ha, ob_some]
  by_cases c : e a = 0 ∨ t a = a
  · rw [if_pos c, if_neg (by decide), if_neg (by decide), ck_n ha (by decide), nI_clamp (by omega), r2, if_pos (c.elim Or.inl (fun q => Or.inr (Or.inl q)))]
    exact ⟨S, rfl, fun _ _ _ => rfl⟩
  · rw [if_neg c] at h3
    rw [if_neg c]
    have h3' : w a ≠ 3 := fun q => h3 (by rw [q]; rfl)
    rcases (show w a = 0 ∨ w a = 1 ∨ w a = 2 by omega) with q | q | q
    · rw [q, if_neg (by decide), if_neg (by decide), ck_n ha (by decide), nI_clamp (by omega), r2, if_pos (Or.inr (Or.inr rfl))]
      exact ⟨S, rfl, fun _ _ _ => rfl⟩
    · rw [q, if_pos (by decide), ck_n ha (by decide), nI_clamp (by omega), r2, ck_n ht (by decide), nI_clamp (by omega), (hS.2 (t a) ht).2, if_neg (fun z => z.elim (fun z => c (Or.inl z)) (fun z => z.elim (fun z => c (Or.inr z)) (by decide))), if_pos rfl]
      exact ⟨S, rfl, fun _ _ _ => rfl⟩
    · obtain ⟨S', f1, f2, -, -, f5, -⟩ := follow_7 (L := L) hS ha
      rw [q, if_neg (by decide), if_pos (by decide), f1, ob2_some, f5, if_neg (fun z => z.elim (fun z => c (Or.inl z)) (fun z => z.elim (fun z => c (Or.inr z)) (by decide))), if_neg (by decide)]
      exact ⟨S', rfl, f2⟩
/-- a judge who waits for another -/
def wq (y : Nat → Int32) (e t w : Nat → Nat) (a : Nat) : Prop := y a = -1 ∧ ¬ (e a = 0 ∨ t a = a ∨ w a = 0) ∧ w a ≠ 1 ∧ w a ≠ 2
/-- how a judge ends, those who wait counted and not listed -/
def en0 (y : Nat → Int32) (e t w : Nat → Nat) : Nat → Nat → Int32
  | 0, _ => -5
  | n + 1, a => if y a ≠ -1 then y a else if e a = 0 ∨ t a = a ∨ w a = 0 then nI (t a) else if w a = 1 then nI (t (t a)) else if w a = 2 then nI (cw e t 3 (2 ^ a) a).2.2 else en0 y e t w n (t a)
theorem en0_go {y : Nat → Int32} {e t w : Nat → Nat} {n a : Nat} (h : wq y e t w a) : en0 y e t w (n + 1) a = en0 y e t w n (t a) := by
  have n1 : ¬ (y a ≠ -1) := fun q => q h.1
  show (if _ then _ else _) = _
  rw [if_neg n1, if_neg h.2.1, if_neg h.2.2.1, if_neg h.2.2.2]
theorem en_go {y : Nat → Int32} {e t w : Nat → Nat} {n ws a : Nat} (h : wq y e t w a) : en y e t w (n + 1) ws a = if (ws ||| 2 ^ a).testBit (t a) = true then -5 else en y e t w n (ws ||| 2 ^ a) (t a) := by
  have n1 : ¬ (y a ≠ -1) := fun q => q h.1
  show (if _ then _ else _) = _
  rw [if_neg n1, if_neg h.2.1, if_neg h.2.2.1, if_neg h.2.2.2]
theorem en_no {y : Nat → Int32} {e t w : Nat → Nat} {n ws a : Nat} (h : ¬ wq y e t w a) : en0 y e t w (n + 1) a = en y e t w (n + 1) ws a := by
  show (if _ then _ else _) = (if _ then _ else _)
  by_cases c1 : y a ≠ -1
  · rw [if_pos c1, if_pos c1]
  · rw [if_neg c1, if_neg c1]
    by_cases c2 : e a = 0 ∨ t a = a ∨ w a = 0
    · rw [if_pos c2, if_pos c2]
    · rw [if_neg c2, if_neg c2]
      by_cases c3 : w a = 1
      · rw [if_pos c3, if_pos c3]
      · rw [if_neg c3, if_neg c3]
        by_cases c4 : w a = 2
        · rw [if_pos c4, if_pos c4]
        · exact absurd ⟨Decidable.not_not.mp c1, c2, c3, c4⟩ h
theorem en0_ring {y : Nat → Int32} {e t w : Nat → Nat} {P : Nat → Prop} (hP : ∀ x, P x → wq y e t w x ∧ P (t x)) : ∀ n x, P x → en0 y e t w n x = -5
  | 0, _, _ => rfl
  | n + 1, x, h => by
    rw [en0_go (hP x h).1]
    exact en0_ring hP n (t x) (hP x h).2
theorem bitOr {m x z : Nat} : (m ||| 2 ^ x).testBit z = true ↔ (m.testBit z = true ∨ x = z) := by
  rw [Nat.testBit_or, Nat.testBit_two_pow, Bool.or_eq_true, decide_eq_true_iff]
theorem en0_en {y : Nat → Int32} {e t w : Nat → Nat} : ∀ n ws a, (∀ x, ws.testBit x = true → wq y e t w x ∧ (ws ||| 2 ^ a).testBit (t x) = true) → en0 y e t w n a = en y e t w n ws a
  | 0, _, _, _ => rfl
  | n + 1, ws, a, h => by
    by_cases c : wq y e t w a
    · rw [en0_go c, en_go c]
      by_cases d : (ws ||| 2 ^ a).testBit (t a) = true
      · rw [if_pos d]
        refine en0_ring (P := fun x => (ws ||| 2 ^ a).testBit x = true) (fun x hx => ?_) n (t a) d
        rcases bitOr.mp hx with q | q
        · exact h x q
        · cases q; exact ⟨c, d⟩
      · rw [if_neg d]
        refine en0_en n (ws ||| 2 ^ a) (t a) (fun x hx => ?_)
        rcases bitOr.mp hx with q | q
        · exact ⟨(h x q).1, bitOr.mpr (Or.inl (h x q).2)⟩
        · cases q; exact ⟨c, bitOr.mpr (Or.inr rfl)⟩
    · exact en_no c
theorem x_outcome {S : Nat → Nat → Int32} {L : Nat → Nat → Int64} {y : Nat → Int32} {e t w : Nat → Nat} (hS : HS S e t) (hw : ∀ a, a < 4 → S 30 a = nI (w a) ∧ w a < 4) (hy : ∀ a, a < 4 → sX8_tells (nI a) (S 6 5) S L = some (y a)) {a : Nat} (ha : a < 4) :
    ∃ S', sX4_outcome (nI a) S L = some (en y e t w 4 0 a, S', L) ∧ ∀ k, k ≠ 7 → k ≠ 38 → S' k = S k := by
  have key : ∀ n s, s + n = 4 → ∀ f, n < f → ∀ b, b < 4 → ∃ S', os3 (lX4_outcome_4 S L f (nI b) (nI s)) (fun w14 => some (w14, S, L)) (fun w15 => ob3 (sX4_byBooks w15 S L) (fun r19 S17 L18 => some (r19, S17, L18))) (fun _ => some ((-5), S, L)) = some (en0 y e t w n b, S', L) ∧ ∀ k, k ≠ 7 → k ≠ 38 → S' k = S k := by
    intro n
    induction n with
    | zero =>
      intro s hs f hf b hb
      obtain ⟨f, rfl⟩ : ∃ g, f = g + 1 := ⟨f - 1, by omega⟩
      refine ⟨S, ?_, fun _ _ _ => rfl⟩
      rw [lX4_outcome_4, if_pos (show (4 : Int32) ≤ nI s from nI_le (a := 4) (by omega) (by omega))]
      rfl
    | succ n ih =>
      intro s hs f hf b hb
      obtain ⟨f, rfl⟩ : ∃ g, f = g + 1 := ⟨f - 1, by omega⟩
      obtain ⟨he, ht⟩ := hS.1 b hb
      obtain ⟨r1, r2⟩ := hS.2 b hb
      have hwb := (hw b hb).2
      have enU : en0 y e t w (n + 1) b = if y b ≠ -1 then y b else if e b = 0 ∨ t b = b ∨ w b = 0 then nI (t b) else if w b = 1 then nI (t (t b)) else if w b = 2 then nI (cw e t 3 (2 ^ b) b).2.2 else en0 y e t w n (t b) := rfl
      rw [lX4_outcome_4, if_neg (show ¬ (4 : Int32) ≤ nI s from nI_ge (b := 4) (by omega) (by decide)), hy b hb, ob_some]
      by_cases c1 : y b = -1
      · rw [if_pos c1, x_way hS (fun a ha => (hw a ha).1) hb, ob_some]
        by_cases c2 : (if e b = 0 ∨ t b = b then (0 : Int32) else nI (w b)) = 3
        · have hnot : ¬ (e b = 0 ∨ t b = b) := fun q => by rw [if_pos q] at c2; exact absurd c2 (by decide)
          have hw3 : w b = 3 := by
            rw [if_neg hnot] at c2
            exact (nI_eq (b := 3) (by omega) (by decide)).mp c2
          have n1 : ¬ (y b ≠ -1) := fun q => q c1
          have n2 : ¬ (e b = 0 ∨ t b = b ∨ w b = 0) := fun z => z.elim (fun z => hnot (Or.inl z)) (fun z => z.elim (fun z => hnot (Or.inr z)) (by omega))
          rw [if_pos c2, ck_n hb (by decide), nI_clamp (by omega), r2, bnd_e, enU, if_neg n1, if_neg n2, if_neg (show ¬ w b = 1 by omega), if_neg (show ¬ w b = 2 by omega), bnd_e, nI_1]
          exact ih (s + 1) (by omega) f (by omega) (t b) ht
        · rw [if_neg c2]
          obtain ⟨S', z1, z2⟩ := x_byBooks (L := L) hS hw hb c2
          refine ⟨S', ?_, z2⟩
          show ob3 (sX4_byBooks (nI b) S L) _ = _
          have n1 : ¬ (y b ≠ -1) := fun q => q c1
          rw [z1, ob3_some, enU, if_neg n1]
          by_cases d1 : e b = 0 ∨ t b = b ∨ w b = 0
          · rw [if_pos d1, if_pos d1]
          · rw [if_neg d1, if_neg d1]
            by_cases d2 : w b = 1
            · rw [if_pos d2, if_pos d2]
            · have hnot : ¬ (e b = 0 ∨ t b = b) := fun q => d1 (q.elim Or.inl (fun q => Or.inr (Or.inl q)))
              rw [if_neg hnot] at c2
              have : w b ≠ 3 := fun q => c2 (by rw [q]; rfl)
              have d0 : w b ≠ 0 := fun q => d1 (Or.inr (Or.inr q))
              rw [if_neg d2, if_neg d2, if_pos (show w b = 2 by omega)]
      · rw [if_neg c1, enU, if_pos c1]
        exact ⟨S, rfl, fun _ _ _ => rfl⟩
  obtain ⟨S', z1, z2⟩ := key 4 0 (by omega) FU (by unfold FU; omega) a ha
  rw [en0_en 4 0 a (fun x hx => absurd hx (by rw [Nat.zero_testBit]; decide))] at z1
  exact ⟨S', z1, z2⟩
-- ===== the reference's =====
theorem irm10 {e t : Nat} (he : e < 2) (ht : t < 4) : irm (nI (10 * e + t)) 10 = nI t := by
  show nI (10 * e + t) - nI (10 * e + t) / nI 10 * nI 10 = _
  rw [pk_rem (by omega) (by decide) (by decide)]
  congr 1
  omega
theorem lt10 {e t : Nat} (he : e < 2) (ht : t < 4) : nI (10 * e + t) < 10 ↔ e = 0 := by
  rw [show (nI (10 * e + t) < (10 : Int32)) = (nI (10 * e + t) < nI 10) from rfl, nI_ltI (by omega) (by decide)]
  omega
theorem m_toTheEnd {M : Nat → Nat → Int32} {e t : Nat → Nat} {k : Nat} (hb : ∀ a, a < 4 → e a < 2 ∧ t a < 4) (hs : ∀ a, a < 4 → sX11_saying (nI a) (nI k) M = some (nI (10 * e a + t a))) :
    ∀ n f, n < f → ∀ met a, met < 16 → a < 4 → 4 ≤ pc4 met + n → lX11_toTheEnd_12 (nI k) M f (nI met) (nI a) = some (nI (cw e t n met a).2.2) := by
  intro n
  induction n with
  | zero =>
    intro f hf met a hm ha hp
    obtain ⟨f, rfl⟩ : ∃ g, f = g + 1 := ⟨f - 1, by omega⟩
    obtain ⟨he, ht⟩ := hb a ha
    have hp4 : pc4 met = 4 := by
      have : ∀ m, m < 16 → pc4 m ≤ 4 := by decide +kernel
      have := this met hm
      omega
    have hbit := (bF met hm (t a) ht).2.2.2.1 hp4
    rw [lX11_toTheEnd_12, hs a ha, ob_some, irm10 he ht, bnd_e]
    by_cases c : e a = 0
    · rw [if_pos ((lt10 he ht).mpr c)]; rfl
    · rw [if_neg (fun q => c ((lt10 he ht).mp q)), if_pos ((bitI met hm (t a) ht).1.mpr hbit)]; rfl
  | succ n ih =>
    intro f hf met a hm ha hp
    obtain ⟨f, rfl⟩ : ∃ g, f = g + 1 := ⟨f - 1, by omega⟩
    obtain ⟨he, ht⟩ := hb a ha
    rw [lX11_toTheEnd_12, hs a ha, ob_some, irm10 he ht, bnd_e]
    by_cases c : e a = 0
    · rw [if_pos ((lt10 he ht).mpr c), cw_stop (Or.inl c)]
    · rw [if_neg (fun q => c ((lt10 he ht).mp q))]
      by_cases c2 : met.testBit (t a) = true
      · rw [if_pos ((bitI met hm (t a) ht).1.mpr c2), cw_stop (Or.inr c2)]
      · obtain ⟨f1, f2, f3, -⟩ := bF met hm (t a) ht
        rw [if_neg (fun q => c2 ((bitI met hm (t a) ht).1.mp q)), f1, bnd_e, cw_go (fun q => q.elim c c2)]
        exact ih f (by omega) (met ||| 2 ^ (t a)) (t a) f2 ht (by rw [f3 (ts_nt' c2)]; omega)
theorem m_endsOf {M : Nat → Nat → Int32} {y : Nat → Int32} {e t w : Nat → Nat} {k : Nat} (hb : ∀ a, a < 4 → e a < 2 ∧ t a < 4) (hs : ∀ a, a < 4 → sX11_saying (nI a) (nI k) M = some (nI (10 * e a + t a))) (hy : ∀ a, a < 4 → sX11_treats (nI a) (nI k) M = some (y a)) (hw : ∀ a, a < 4 → M 1 (954 + a) = nI (w a) ∧ w a < 4) {a : Nat} (ha : a < 4) : sX11_endsOf (nI a) (nI k) M = some (en y e t w 4 0 a) := by
  have key : ∀ n f, n < f → ∀ ws b, ws < 16 → b < 4 → ws.testBit b = false → pc4 ws + n = 4 → os4 (lX11_endsOf_5 (nI k) M f (nI ws) (nI b)) (fun w18 => some w18) (fun w19 => some w19) (un3 fun w20 w21 w22 => if w22 = 1 then ob (sX11_saying w21 (nI k) M) (fun r27 => some (irm r27 10)) else ob (sX11_toTheEnd w20 w21 (nI k) M) (fun r25 => some r25)) (fun _ => some (-5)) = some (en y e t w n ws b) := by
    intro n
    induction n with
    | zero =>
      intro f hf ws b hws hbb hbit hp
      have := (bF ws hws b hbb).2.2.2.1 (by omega)
      rw [hbit] at this
      cases this
    | succ n ih =>
      intro f hf ws b hws hbb hbit hp
      obtain ⟨f, rfl⟩ : ∃ g, f = g + 1 := ⟨f - 1, by omega⟩
      obtain ⟨he, ht⟩ := hb b hbb
      obtain ⟨hw1, hw2⟩ := hw b hbb
      have e954 : 954 + nI b = nI (954 + b) := nI_add 954 b
      have enU : en y e t w (n + 1) ws b = if y b ≠ -1 then y b else if e b = 0 ∨ t b = b ∨ w b = 0 then nI (t b) else if w b = 1 then nI (t (t b)) else if w b = 2 then nI (cw e t 3 (2 ^ b) b).2.2 else if (ws ||| 2 ^ b).testBit (t b) = true then -5 else en y e t w n (ws ||| 2 ^ b) (t b) := rfl
      rw [lX11_endsOf_5, hy b hbb, ob_some, hs b hbb, ob_some, irm10 he ht, bnd_e, e954, ck_n (by omega) (by decide), nI_clamp (by omega), hw1, bnd_e, enU]
      by_cases c1 : y b = -1
      · have n1 : ¬ (y b ≠ -1) := fun q => q c1
        rw [if_pos c1, if_neg n1]
        by_cases c2 : e b = 0
        · rw [if_pos ((lt10 he ht).mpr c2), if_pos (Or.inl c2)]; rfl
        · rw [if_neg (fun q => c2 ((lt10 he ht).mp q))]
          by_cases c3 : t b = b
          · rw [if_pos (show nI (t b) = nI b by rw [c3]), if_pos (Or.inr (Or.inl c3))]; rfl
          · rw [if_neg (fun q => c3 ((nI_eq (by omega) (by omega)).mp q))]
            by_cases c4 : w b = 0
            · rw [if_pos (show nI (w b) = 0 by rw [c4]; rfl), if_pos (Or.inr (Or.inr c4))]; rfl
            · have n2 : ¬ (e b = 0 ∨ t b = b ∨ w b = 0) := fun z => z.elim c2 (fun z => z.elim c3 c4)
              rw [if_neg (show ¬ nI (w b) = 0 from fun q => c4 ((nI_eq (b := 0) (by omega) (by decide)).mp q)), if_neg n2]
              by_cases c5 : w b = 3
              · obtain ⟨f1, f2, f3, -⟩ := bF ws hws b hbb
                rw [if_pos (show (3 : Int32) ≤ nI (w b) by rw [c5]; decide), f1, bnd_e, if_neg (show ¬ w b = 1 by omega), if_neg (show ¬ w b = 2 by omega)]
                by_cases c6 : (ws ||| 2 ^ b).testBit (t b) = true
                · rw [if_pos ((bitI _ f2 (t b) ht).1.mpr c6), if_pos c6]; rfl
                · rw [if_neg (fun q => c6 ((bitI _ f2 (t b) ht).1.mp q)), if_neg c6]
                  exact ih f (by omega) _ _ f2 ht (ts_nt' c6) (by rw [f3 hbit]; omega)
              · rw [if_neg (show ¬ (3 : Int32) ≤ nI (w b) from nI_ge (b := 3) (by omega) (by decide))]
                show (if nI (w b) = 1 then ob (sX11_saying (nI (t b)) (nI k) M) (fun r27 => some (irm r27 10)) else ob (sX11_toTheEnd (nI b) (nI (t b)) (nI k) M) (fun r25 => some r25)) = _
                by_cases c6 : w b = 1
                · obtain ⟨he2, ht2⟩ := hb (t b) ht
                  rw [if_pos (show nI (w b) = 1 by rw [c6]; rfl), if_pos c6, hs (t b) ht, ob_some, irm10 he2 ht2]
                · have c7 : w b = 2 := by omega
                  rw [if_neg (show ¬ nI (w b) = 1 from fun q => c6 ((nI_eq (b := 1) (by omega) (by decide)).mp q)), if_neg c6, if_pos c7]
                  obtain ⟨-, -, -, -, g5, g6, g7⟩ := bF 0 (by decide) b hbb
                  have hne : (2 ^ b).testBit (t b) = false := by rw [bT b hbb (t b) ht]; exact decide_eq_false (fun q => c3 q.symm)
                  obtain ⟨p1, p2, p3, -⟩ := bF (2 ^ b) g6 (t b) ht
                  unfold sX11_toTheEnd
                  rw [g5, p1, bnd_e, m_toTheEnd hb hs 2 FU (by unfold FU; omega) _ _ p2 ht (by rw [p3 hne, g7]; omega), ob_some, cw_go (n := 2) (fun q => q.elim c2 (fun q => by rw [hne] at q; cases q))]
                  rfl
      · rw [if_neg c1, if_pos c1]; rfl
  exact key 4 FU (by unfold FU; omega) 0 a (by decide) ha (by simp) (by decide)
