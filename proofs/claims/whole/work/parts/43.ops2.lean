theorem cl0 : (0 : Int32).toNatClampNeg = 0 := rfl
theorem cl1 : (1 : Int32).toNatClampNeg = 1 := rfl
theorem cl2 : (2 : Int32).toNatClampNeg = 2 := rfl
theorem cl3 : (3 : Int32).toNatClampNeg = 3 := rfl
theorem cl4 : (4 : Int32).toNatClampNeg = 4 := rfl
theorem ckl {α : Type} {k : Int32} {n : Nat} {o : Option α} (j : Nat) (e : k = nI j) (h : j < n) (hn : n < 2 ^ 31) : ck k n o = o := by rw [e]; exact ck_n h hn
theorem k0 {α : Type} {o : Option α} : ck 0 994 o = o := ck_n (j := 0) (n := 994) (by decide) (by decide)
theorem one0 {S : Nat → Nat → Int32} : sX11_one 0 S = some (S 1 0, qu2 S 1 0 (S 1 0 + 1)) := mOne (k := 0) (by decide)
theorem k1 {α : Type} {o : Option α} : ck 1 994 o = o := ck_n (j := 1) (n := 994) (by decide) (by decide)
theorem one1 {S : Nat → Nat → Int32} : sX11_one 1 S = some (S 1 1, qu2 S 1 1 (S 1 1 + 1)) := mOne (k := 1) (by decide)
theorem k2 {α : Type} {o : Option α} : ck 2 994 o = o := ck_n (j := 2) (n := 994) (by decide) (by decide)
theorem one2 {S : Nat → Nat → Int32} : sX11_one 2 S = some (S 1 2, qu2 S 1 2 (S 1 2 + 1)) := mOne (k := 2) (by decide)
theorem k3 {α : Type} {o : Option α} : ck 3 994 o = o := ck_n (j := 3) (n := 994) (by decide) (by decide)
theorem one3 {S : Nat → Nat → Int32} : sX11_one 3 S = some (S 1 3, qu2 S 1 3 (S 1 3 + 1)) := mOne (k := 3) (by decide)
theorem k4 {α : Type} {o : Option α} : ck 4 994 o = o := ck_n (j := 4) (n := 994) (by decide) (by decide)
theorem one4 {S : Nat → Nat → Int32} : sX11_one 4 S = some (S 1 4, qu2 S 1 4 (S 1 4 + 1)) := mOne (k := 4) (by decide)
theorem In.mono {x : Int32} {a b : Nat} (h : In x a) (hab : a ≤ b) : In x b := by
  obtain ⟨j, hj, e⟩ := h
  exact ⟨j, by omega, e⟩
theorem lk_none {st : Nat → Int32} {c t n : Nat} (h : ∀ j, j < n → st (42 + 4 * j) ≠ nI c) : lk st c t n = (-1, -1) := by
  induction n with
  | zero => rfl
  | succ n ih =>
    unfold lk
    rw [if_neg (fun q => h n (by omega) q.1)]
    exact ih (fun j hj => h j (by omega))
theorem nI_one_sub (n : Nat) : nI n + 1 - 1 = nI n := by rw [← nI_succ, nI_pred]
theorem op_newCase {S : Nat → Nat → Int32} {L : Nat → Nat → Int64} {M : Nat → Nat → Int32} (R : Rel S L M) (a : Int32) : ∃ r S' L' M', sX10_newCase a S L = some (r, S', L') ∧ sX11_newCase a M = some (r, M') ∧ Rel S' L' M' := by
  obtain ⟨nc, nt, nr, ny, nq, hC, hRC, hRR, hRB, hRW, hRY, hRT, hO⟩ := id R
  have b1 := hC.1.2
  have b2 := hC.2.1.2
  have b3 := hC.2.2.1.2
  have b4 := hC.2.2.2.1.2
  have b5 := hC.2.2.2.2.2
  have h0 : M 1 0 = nI nc := hC.1.1
  rcases rg a (n := 1000) (by decide) with ha | ⟨i, hi, rfl⟩
  · refine ⟨-2, S, L, M, ?_, ?_, R⟩
    · unfold sX10_newCase; rw [xDay_bad ha, g0]
    · unfold sX11_newCase; rw [mDay_bad ha, g0]
  by_cases hf : nc = 16
  · refine ⟨-4, S, L, M, ?_, ?_, R⟩
    · unfold sX10_newCase; rw [xDay_ok hi, g1, hRC.1, if_neg (show ¬ nI nc < 16 from nI_nlt (b := 16) (by omega) (by omega))]
    · unfold sX11_newCase; rw [mDay_ok hi, g1, k0, cl0, h0, if_pos (show nI nc = 16 by rw [hf]; rfl)]
  have hlt : nc < 16 := by omega
  have e1 : 10 + 2 * nI nc = nI (10 + 2 * nc) := by show nI 10 + nI 2 * nI nc = _; rw [pk_mul, nI_add]
  have e2 : nI (10 + 2 * nc) + 1 = nI (11 + 2 * nc) := by rw [nI_1]; congr 1; omega
  refine ⟨nI nc, qu2 (qu2 S 13 nc (nI i)) 1 0 (nI (nc + 1)), L, qu2 (qu2 (qu2 M 1 (10 + 2 * nc) (nI i)) 1 (11 + 2 * nc) 0) 1 0 (nI (nc + 1)), ?_, ?_, ?_⟩
  · unfold sX10_newCase sX2_add
    rw [xDay_ok hi, g1, hRC.1, if_pos (show nI nc < 16 from nI_lt (b := 16) hlt (by decide)), ck_n hlt (by decide), nI_clamp (by omega), bnd_e, bnd_e, qu2_ne (show 1 ≠ 13 by decide), hRC.1, ob3_some, qu2_same, pk_us, nI_one_sub, nI_succ]
  · unfold sX11_newCase
    rw [mDay_ok hi, g1, k0, cl0, h0, if_neg (show ¬ nI nc = 16 from fun e => hf ((nI_eq (b := 16) (by omega) (by decide)).mp e)), k0, e1, ck_n (by omega) (by decide), nI_clamp (by omega), bnd_e, k0,
      qu2_same, pk_un (show 0 ≠ 10 + 2 * nc by omega), h0, e1, e2, ck_n (by omega) (by decide), nI_clamp (by omega), bnd_e, one0, ob2_some, qu2_same, pk_un (show 0 ≠ 11 + 2 * nc by omega), qu2_same, pk_un (show 0 ≠ 10 + 2 * nc by omega), h0, nI_1]
  · refine ⟨nc + 1, nt, nr, ny, nq, ?_⟩
    simp only [RelN, qu2_same, qu2_ne, ne_eq, Nat.reduceEqDiff, not_false_eq_true, reduceCtorEq]
    have hu : ∀ x, x ≠ 0 → x ≠ 10 + 2 * nc → x ≠ 11 + 2 * nc → upd (upd (upd (M 1) (10 + 2 * nc) (nI i)) (11 + 2 * nc) 0) 0 (nI (nc + 1)) x = M 1 x := fun x p1 p2 p3 => by rw [pk_un p1, pk_un p3, pk_un p2]
    have u0 : upd (upd (upd (M 1) (10 + 2 * nc) (nI i)) (11 + 2 * nc) 0) 0 (nI (nc + 1)) 0 = nI (nc + 1) := pk_us
    have u1 : upd (upd (upd (M 1) (10 + 2 * nc) (nI i)) (11 + 2 * nc) 0) 0 (nI (nc + 1)) (10 + 2 * nc) = nI i := by rw [pk_un (by omega), pk_un (by omega), pk_us]
    have u2 : upd (upd (upd (M 1) (10 + 2 * nc) (nI i)) (11 + 2 * nc) 0) 0 (nI (nc + 1)) (11 + 2 * nc) = 0 := by rw [pk_un (by omega), pk_us]
    generalize upd (upd (upd (M 1) (10 + 2 * nc) (nI i)) (11 + 2 * nc) 0) 0 (nI (nc + 1)) = st at hu u0 u1 u2 ⊢
    refine ⟨⟨⟨u0, by omega⟩, ?_, ?_, ?_, ?_⟩, ⟨pk_us, ?_, fun c hc => ?_, fun c h1 h2 => hRC.2.2.2.1 c (by omega) h2, fun c t hc ht => ?_, fun c t h1 h2 h3 => hRC.2.2.2.2.2.1 c t (by omega) h2 h3, fun j hj => ?_⟩, hRR.congr b3 (fun x h1 h2 => hu x (by omega) (by omega) (by omega)), hRB.congr b3 (fun x h1 h2 => hu x (by omega) (by omega) (by omega)), hRW.congr (fun x h1 h2 => hu x (by omega) (by omega) (by omega)), hRY.congr b4 (fun x h1 h2 => hu x (by omega) (by omega) (by omega)), hRT.congr b5 (fun x h1 h2 => hu x (by omega) (by omega) (by omega)), hO⟩
    · rw [hu _ (by omega) (by omega) (by omega)]; exact hC.2.1
    · rw [hu _ (by omega) (by omega) (by omega)]; exact hC.2.2.1
    · rw [hu _ (by omega) (by omega) (by omega)]; exact hC.2.2.2.1
    · rw [hu _ (by omega) (by omega) (by omega)]; exact hC.2.2.2.2
    · rw [pk_un (by omega)]; exact hRC.2.1
    · by_cases e : c = nc
      · subst e
        rw [u1, u2, pk_us]
        exact ⟨rfl, ⟨i, hi, rfl⟩, hRC.2.2.2.1 c (by omega) hlt, ⟨0, by omega, rfl⟩⟩
      · rw [hu _ (by omega) (by omega) (by omega), hu _ (by omega) (by omega) (by omega), pk_un e]
        exact hRC.2.2.1 c (by omega)
    · by_cases e : c = nc
      · subst e
        rw [lk_none (fun j hj q => ?_)]
        · exact hRC.2.2.2.2.2.1 c t (by omega) hlt ht
        · rw [hu _ (by omega) (by omega) (by omega)] at q
          obtain ⟨k, hk, ek⟩ := (hRC.2.2.2.2.2.2 j hj).1
          rw [ek, nI_eq (by omega) (by omega)] at q
          omega
      · rw [lk_congr (hu _ (by omega) (by omega) (by omega)) (fun x h1 h2 => hu x (by omega) (by omega) (by omega))]
        exact hRC.2.2.2.2.1 c t (by omega) ht
    · rw [hu (42 + 4 * j) (by omega) (by omega) (by omega), hu (43 + 4 * j) (by omega) (by omega) (by omega), hu (44 + 4 * j) (by omega) (by omega) (by omega), hu (45 + 4 * j) (by omega) (by omega) (by omega)]
      have q := hRC.2.2.2.2.2.2 j hj
      exact ⟨q.1.mono (by omega), q.2⟩
theorem op_treaty {S : Nat → Nat → Int32} {L : Nat → Nat → Int64} {M : Nat → Nat → Int32} (R : Rel S L M) (a b c : Int32) : ∃ r S' L' M', sX10_treaty a b c S L = some (r, S', L') ∧ sX11_treaty a b c M = some (r, M') ∧ Rel S' L' M' := by
  obtain ⟨nc, nt, nr, ny, nq, hC, hRC, hRR, hRB, hRW, hRY, hRT, hO⟩ := id R
  have b1 := hC.1.2
  have b2 := hC.2.1.2
  have b3 := hC.2.2.1.2
  have b4 := hC.2.2.2.1.2
  have b5 := hC.2.2.2.2.2
  have h3 : M 1 3 = nI ny := hC.2.2.2.1.1
  rcases rg a (n := 3) (by decide) with ha | ⟨i, hi, rfl⟩
  · refine ⟨-2, S, L, M, ?_, ?_, R⟩
    · unfold sX10_treaty; rw [xKind_bad ha, g0]
    · unfold sX11_treaty; rw [mKind_bad ha, g0]
  rcases rg b (n := 16) (by decide) with hb | ⟨j, hj, rfl⟩
  · refine ⟨-2, S, L, M, ?_, ?_, R⟩
    · unfold sX10_treaty; rw [xKind_ok hi, g1, show (16 : Int32) = nI 16 from rfl, ib_bad hb, g0]
    · unfold sX11_treaty; rw [mKind_ok hi, g1, show (15 : Int32) = nI 16 - 1 from rfl, in_bad (by decide) hb, g0]
  rcases rg c (n := 6) (by decide) with hc | ⟨k, hk, rfl⟩
  · refine ⟨-2, S, L, M, ?_, ?_, R⟩
    · unfold sX10_treaty; rw [xKind_ok hi, g1, show (16 : Int32) = nI 16 from rfl, ib_ok hj (by decide), g1, xTie_bad hc, g0]
    · unfold sX11_treaty; rw [mKind_ok hi, g1, show (15 : Int32) = nI 16 - 1 from rfl, in_ok hj (by decide), g1, mTie_bad hc, g0]
  by_cases hf : ny = 8
  · refine ⟨-4, S, L, M, ?_, ?_, R⟩
    · unfold sX10_treaty; rw [xKind_ok hi, g1, show (16 : Int32) = nI 16 from rfl, ib_ok hj (by decide), g1, xTie_ok hk, g1, hRY.1, if_neg (show ¬ nI ny < 8 from nI_nlt (b := 8) (by omega) (by omega))]
    · unfold sX11_treaty; rw [mKind_ok hi, g1, show (15 : Int32) = nI 16 - 1 from rfl, in_ok hj (by decide), g1, mTie_ok hk, g1, k3, cl3, h3, if_pos (show nI ny = 8 by rw [hf]; rfl)]
  have hlt : ny < 8 := by omega
  have e0 : 958 + 3 * nI ny = nI (958 + 3 * ny) := by show nI 958 + nI 3 * nI ny = _; rw [pk_mul, nI_add]
  have e1 : nI (958 + 3 * ny) + 1 = nI (959 + 3 * ny) := by rw [nI_1]; congr 1; omega
  have e2 : nI (958 + 3 * ny) + 2 = nI (960 + 3 * ny) := by show _ + nI 2 = _; rw [nI_add]; congr 1; omega
  refine ⟨nI ny, qu2 (qu2 (qu2 (qu2 S 31 ny (nI i)) 32 ny (nI j)) 33 ny (nI k)) 4 0 (nI (ny + 1)), L, qu2 (qu2 (qu2 (qu2 M 1 (958 + 3 * ny) (nI i)) 1 (959 + 3 * ny) (nI j)) 1 (960 + 3 * ny) (nI k)) 1 3 (nI (ny + 1)), ?_, ?_, ?_⟩
  · unfold sX10_treaty sX8_add
    rw [xKind_ok hi, g1, show (16 : Int32) = nI 16 from rfl, ib_ok hj (by decide), g1, xTie_ok hk, g1, hRY.1, if_pos (show nI ny < 8 from nI_lt (b := 8) hlt (by decide)), ck_n hlt (by decide), nI_clamp (by omega), bnd_e, qu2_ne (show 4 ≠ 31 by decide), hRY.1, ck_n hlt (by decide), nI_clamp (by omega), bnd_e, qu2_ne (show 4 ≠ 32 by decide), qu2_ne (show 4 ≠ 31 by decide), hRY.1, ck_n hlt (by decide), nI_clamp (by omega), bnd_e, bnd_e, qu2_ne (show 4 ≠ 33 by decide), qu2_ne (show 4 ≠ 32 by decide), qu2_ne (show 4 ≠ 31 by decide), hRY.1, ob3_some, qu2_same, pk_us, nI_one_sub, nI_succ]
  · unfold sX11_treaty
    rw [mKind_ok hi, g1, show (15 : Int32) = nI 16 - 1 from rfl, in_ok hj (by decide), g1, mTie_ok hk, g1, k3, cl3, h3, if_neg (show ¬ nI ny = 8 from fun e => hf ((nI_eq (b := 8) (by omega) (by decide)).mp e)), k3, e0, bnd_e, ck_n (by omega) (by decide), nI_clamp (by omega), bnd_e, e1, ck_n (by omega) (by decide), nI_clamp (by omega), bnd_e, e2, ck_n (by omega) (by decide), nI_clamp (by omega), bnd_e, one3, ob2_some, qu2_same, pk_un (show 3 ≠ 960 + 3 * ny by omega), qu2_same, pk_un (show 3 ≠ 959 + 3 * ny by omega), qu2_same, pk_un (show 3 ≠ 958 + 3 * ny by omega), h3, nI_1]
  · refine ⟨nc, nt, nr, ny + 1, nq, ?_⟩
    simp only [RelN, qu2_same, qu2_ne, ne_eq, Nat.reduceEqDiff, not_false_eq_true, reduceCtorEq]
    generalize hst : upd (upd (upd (upd (M 1) (958 + 3 * ny) (nI i)) (959 + 3 * ny) (nI j)) (960 + 3 * ny) (nI k)) 3 (nI (ny + 1)) = st
    have hu : ∀ x, x ≠ 3 → x ≠ 958 + 3 * ny → x ≠ 959 + 3 * ny → x ≠ 960 + 3 * ny → st x = M 1 x := fun x p1 p2 p3 p4 => by rw [← hst, pk_un p1, pk_un p4, pk_un p3, pk_un p2]
    have u0 : st 3 = nI (ny + 1) := by rw [← hst, pk_us]
    have u1 : st (958 + 3 * ny) = nI i := by rw [← hst, pk_un (by omega), pk_un (by omega), pk_un (by omega), pk_us]
    have u2 : st (959 + 3 * ny) = nI j := by rw [← hst, pk_un (by omega), pk_un (by omega), pk_us]
    have u3 : st (960 + 3 * ny) = nI k := by rw [← hst, pk_un (by omega), pk_us]
    refine ⟨⟨?_, ?_, ?_, ⟨u0, by omega⟩, ?_⟩, hRC.congr b1 b2 (fun x h1 h2 => hu x (by omega) (by omega) (by omega) (by omega)), hRR.congr b3 (fun x h1 h2 => hu x (by omega) (by omega) (by omega) (by omega)), hRB.congr b3 (fun x h1 h2 => hu x (by omega) (by omega) (by omega) (by omega)), hRW.congr (fun x h1 h2 => hu x (by omega) (by omega) (by omega) (by omega)), ⟨pk_us, fun q hq => ?_⟩, hRT.congr b5 (fun x h1 h2 => hu x (by omega) (by omega) (by omega) (by omega)), hO⟩
    · rw [hu _ (by omega) (by omega) (by omega) (by omega)]; exact hC.1
    · rw [hu _ (by omega) (by omega) (by omega) (by omega)]; exact hC.2.1
    · rw [hu _ (by omega) (by omega) (by omega) (by omega)]; exact hC.2.2.1
    · rw [hu _ (by omega) (by omega) (by omega) (by omega)]; exact hC.2.2.2.2
    · by_cases e : q = ny
      · subst e
        rw [u1, u2, u3, pk_us, pk_us, pk_us]
        exact ⟨⟨rfl, i, hi, rfl⟩, ⟨rfl, j, hj, rfl⟩, ⟨rfl, k, hk, rfl⟩⟩
      · rw [hu (958 + 3 * q) (by omega) (by omega) (by omega) (by omega), hu (959 + 3 * q) (by omega) (by omega) (by omega) (by omega), hu (960 + 3 * q) (by omega) (by omega) (by omega) (by omega), pk_un e, pk_un e, pk_un e]
        exact hRY.2 q (by omega)
theorem trial_sync {S : Nat → Nat → Int32} {L : Nat → Nat → Int64} {M : Nat → Nat → Int32} {p : Int32} {nq : Nat} (h4 : M 1 4 = nI nq) (hq : nq ≤ 12) (h5 : S 5 0 = nI nq) (he : ∀ j, j < nq → S 34 j = M 1 (982 + j)) :
    ∀ d j, j + d = nq → ∀ f1 f2, d < f1 → d < f2 → ∃ z, lX9_has_2 p S L f1 (nI j) = some z ∧ lX11_trial_14 p M f2 (nI j) = some z ∧ (z = .inr () → ∀ k, j ≤ k → k < nq → M 1 (982 + k) ≠ p) := by
  intro d
  induction d with
  | zero =>
    intro j hj f1 f2 h1 h2
    obtain ⟨f1, rfl⟩ : ∃ f, f1 = f + 1 := ⟨f1 - 1, by omega⟩
    obtain ⟨f2, rfl⟩ : ∃ f, f2 = f + 1 := ⟨f2 - 1, by omega⟩
    refine ⟨.inr (), ?_, ?_, fun _ k h1 h2 => by omega⟩
    · rw [lX9_has_2, h5, if_pos (nI_le (by omega) (by omega))]
    · rw [lX11_trial_14, k4, cl4, h4, if_pos (nI_le (by omega) (by omega))]
  | succ d ih =>
    intro j hj f1 f2 h1 h2
    obtain ⟨f1, rfl⟩ : ∃ f, f1 = f + 1 := ⟨f1 - 1, by omega⟩
    obtain ⟨f2, rfl⟩ : ∃ f, f2 = f + 1 := ⟨f2 - 1, by omega⟩
    have e : 982 + nI j = nI (982 + j) := by show nI 982 + nI j = _; rw [nI_add]
    by_cases hp : M 1 (982 + j) = p
    · refine ⟨.inl (), ?_, ?_, fun q => by cases q⟩
      · rw [lX9_has_2, h5, if_neg (nI_ge (by omega) (by omega)), ck_n (by omega) (by decide), nI_clamp (by omega), he j (by omega), if_pos hp]
      · rw [lX11_trial_14, k4, cl4, h4, if_neg (nI_ge (by omega) (by omega)), e, ck_n (by omega) (by decide), nI_clamp (by omega), if_pos hp]
    · obtain ⟨z, z1, z2, z3⟩ := ih (j + 1) (by omega) f1 f2 (by omega) (by omega)
      refine ⟨z, ?_, ?_, fun q k h1 h2 => ?_⟩
      · rw [lX9_has_2, h5, if_neg (nI_ge (by omega) (by omega)), ck_n (by omega) (by decide), nI_clamp (by omega), he j (by omega), if_neg hp, bnd_e, nI_1]; exact z1
      · rw [lX11_trial_14, k4, cl4, h4, if_neg (nI_ge (by omega) (by omega)), e, ck_n (by omega) (by decide), nI_clamp (by omega), if_neg hp, bnd_e, nI_1]; exact z2
      · by_cases ek : k = j
        · subst ek; exact hp
        · exact z3 q k (by omega) h2
theorem op_trial {S : Nat → Nat → Int32} {L : Nat → Nat → Int64} {M : Nat → Nat → Int32} (R : Rel S L M) (a : Int32) : ∃ r S' L' M', sX10_trial a S L = some (r, S', L') ∧ sX11_trial a M = some (r, M') ∧ Rel S' L' M' := by
  obtain ⟨nc, nt, nr, ny, nq, hC, hRC, hRR, hRB, hRW, hRY, hRT, hO⟩ := id R
  have b1 := hC.1.2
  have b2 := hC.2.1.2
  have b3 := hC.2.2.1.2
  have b4 := hC.2.2.2.1.2
  have b5 := hC.2.2.2.2.2
  have h4 : M 1 4 = nI nq := hC.2.2.2.2.1
  rcases rg a (n := nr) (by omega) with ha | ⟨i, hi, rfl⟩
  · refine ⟨-2, S, L, M, ?_, ?_, R⟩
    · unfold sX10_trial; rw [xRule_bad hRR.1 ha, g0]
    · unfold sX11_trial; rw [show sX11_is 2 a M = some 0 from mIs_bad (c := 2) (by decide) hC.2.2.1.1 b3 ha, g0]
  have hisM : sX11_is 2 (nI i) M = some 1 := mIs_ok (c := 2) (by decide) hC.2.2.1.1 b3 hi
  obtain ⟨z, z1, z2, z3⟩ := trial_sync (L := L) (p := nI i) h4 b5 hRT.1 (fun j hj => (hRT.2.1 j hj).1) nq 0 (by omega) FU FU (by unfold FU; omega) (by unfold FU; omega)
  match z, z1, z2, z3 with
  | .inl (), z1, z2, z3 =>
    refine ⟨-2, S, L, M, ?_, ?_, R⟩
    · unfold sX10_trial sX9_has; rw [xRule_ok hRR.1 b3 hi, g1, show lX9_has_2 (nI i) S L FU 0 = _ from z1]; rfl
    · unfold sX11_trial; rw [hisM, g1, show lX11_trial_14 (nI i) M FU 0 = _ from z2]; rfl
  | .inr (), z1, z2, z3 =>
    have hx : sX9_has (nI i) S L = some 0 := by unfold sX9_has; rw [show lX9_has_2 (nI i) S L FU 0 = _ from z1]; rfl
    have hm : ∀ {β : Type} (f g : Unit → Option β), os2 (lX11_trial_14 (nI i) M FU 0) f g = g () := fun f g => by rw [show lX11_trial_14 (nI i) M FU 0 = _ from z2]; rfl
    by_cases hf : nq = 12
    · refine ⟨-4, S, L, M, ?_, ?_, R⟩
      · unfold sX10_trial; rw [xRule_ok hRR.1 b3 hi, g1, hx, g0, hRT.1, if_neg (show ¬ nI nq < 12 from nI_nlt (b := 12) (by omega) (by omega))]
      · unfold sX11_trial; rw [hisM, g1, hm, k4, cl4, h4, if_pos (show nI nq = 12 by rw [hf]; rfl)]
    have hlt : nq < 12 := by omega
    have e0 : 982 + nI nq = nI (982 + nq) := by show nI 982 + nI nq = _; rw [nI_add]
    refine ⟨nI (nq + 1), qu2 (qu2 S 34 nq (nI i)) 5 0 (nI (nq + 1)), L, qu2 (qu2 M 1 (982 + nq) (nI i)) 1 4 (nI (nq + 1)), ?_, ?_, ?_⟩
    · unfold sX10_trial sX9_add
      rw [xRule_ok hRR.1 b3 hi, g1, hx, g0, hRT.1, if_pos (show nI nq < 12 from nI_lt (b := 12) hlt (by decide)), ck_n hlt (by decide), nI_clamp (by omega), bnd_e, bnd_e, qu2_ne (show 5 ≠ 34 by decide), hRT.1, ob3_some, qu2_same, pk_us, nI_succ]
    · unfold sX11_trial
      rw [hisM, g1, hm, k4, cl4, h4, if_neg (show ¬ nI nq = 12 from fun e => hf ((nI_eq (b := 12) (by omega) (by decide)).mp e)), k4, e0, ck_n (by omega) (by decide), nI_clamp (by omega), bnd_e, one4, ob2_some, qu2_same, pk_un (show 4 ≠ 982 + nq by omega), h4, nI_1]
    · refine ⟨nc, nt, nr, ny, nq + 1, ?_⟩
      simp only [RelN, qu2_same, qu2_ne, ne_eq, Nat.reduceEqDiff, not_false_eq_true, reduceCtorEq]
      generalize hst : upd (upd (M 1) (982 + nq) (nI i)) 4 (nI (nq + 1)) = st
      have hu : ∀ x, x ≠ 4 → x ≠ 982 + nq → st x = M 1 x := fun x p1 p2 => by rw [← hst, pk_un p1, pk_un p2]
      have u0 : st 4 = nI (nq + 1) := by rw [← hst, pk_us]
      have u1 : st (982 + nq) = nI i := by rw [← hst, pk_un (by omega), pk_us]
      refine ⟨⟨?_, ?_, ?_, ?_, ⟨u0, by omega⟩⟩, hRC.congr b1 b2 (fun x h1 h2 => hu x (by omega) (by omega)), hRR.congr b3 (fun x h1 h2 => hu x (by omega) (by omega)), hRB.congr b3 (fun x h1 h2 => hu x (by omega) (by omega)), hRW.congr (fun x h1 h2 => hu x (by omega) (by omega)), hRY.congr b4 (fun x h1 h2 => hu x (by omega) (by omega)), ⟨pk_us, fun q hq => ?_, fun q1 q2 h1 h2 => ?_⟩, hO⟩
      · rw [hu _ (by omega) (by omega)]; exact hC.1
      · rw [hu _ (by omega) (by omega)]; exact hC.2.1
      · rw [hu _ (by omega) (by omega)]; exact hC.2.2.1
      · rw [hu _ (by omega) (by omega)]; exact hC.2.2.2.1
      · by_cases e : q = nq
        · subst e
          rw [u1, pk_us]
          exact ⟨rfl, i, hi, rfl⟩
        · rw [hu (982 + q) (by omega) (by omega), pk_un e]
          exact hRT.2.1 q (by omega)
      · rw [hu (982 + q1) (by omega) (by omega)]
        by_cases e : q2 = nq
        · subst e
          rw [u1]
          exact z3 rfl q1 (by omega) (by omega)
        · rw [hu (982 + q2) (by omega) (by omega)]
          exact hRT.2.2 q1 q2 h1 (by omega)
