-- ===== the digest =====
def mx (h : Int64) (v : Int32) : Int64 := 31 * h + v.toInt64
def mxf (g : Nat → Int32) : Nat → Nat → Int64 → Int64
  | 0, _, h => h
  | d + 1, a, h => mxf g d (a + 1) (mx h (g a))
theorem mxf_add (g : Nat → Int32) : ∀ d e a h, mxf g (d + e) a h = mxf g e (a + d) (mxf g d a h) := by
  intro d
  induction d with
  | zero => intro e a h; rw [Nat.zero_add]; rfl
  | succ d ih => intro e a h; rw [show d + 1 + e = (d + e) + 1 by omega]; show mxf g (d + e) (a + 1) _ = mxf g e (a + (d + 1)) (mxf g d (a + 1) _); rw [ih, show a + 1 + d = a + (d + 1) by omega]
theorem mxf_congr {g g' : Nat → Int32} : ∀ d a h, (∀ x, a ≤ x → x < a + d → g x = g' x) → mxf g d a h = mxf g' d a h := by
  intro d
  induction d with
  | zero => intro a h _; rfl
  | succ d ih => intro a h hg; show mxf g d (a + 1) _ = mxf g' d (a + 1) _; rw [hg a (by omega) (by omega), ih (a + 1) _ (fun x x1 x2 => hg x (by omega) (by omega))]
theorem mix_e (h : Int64) (v : Int32) : sX10_mix h v = some (mx h v) := rfl
theorem m_mixedL {M : Nat → Nat → Int32} {p n : Nat} (hp : p + n ≤ 994) : ∀ d t, t + d = n → ∀ f, d < f → ∀ h, lX11_mixed_6 (nI p) (nI n) M f h (nI t) = some (mxf (fun x => M 1 (p + x)) d t h) := by
  intro d
  induction d with
  | zero =>
    intro t ht f hf h
    obtain ⟨f, rfl⟩ : ∃ g, f = g + 1 := ⟨f - 1, by omega⟩
    rw [lX11_mixed_6, if_pos (nI_le (by omega) (by omega))]; rfl
  | succ d ih =>
    intro t ht f hf h
    obtain ⟨f, rfl⟩ : ∃ g, f = g + 1 := ⟨f - 1, by omega⟩
    rw [lX11_mixed_6, if_neg (nI_ge (by omega) (by omega)), nI_add, ck_n (by omega) (by decide), nI_clamp (by omega), bnd_e, bnd_e, nI_1, ih (t + 1) (by omega) f (by omega)]
    rfl
theorem m_mixed {M : Nat → Nat → Int32} {p n : Nat} (hp : p + n ≤ 994) (h : Int64) : sX11_mixed h (nI p) (nI n) M = some (mxf (fun x => M 1 (p + x)) n 0 h) := by
  unfold sX11_mixed
  rw [show lX11_mixed_6 (nI p) (nI n) M FU h 0 = _ from m_mixedL hp n 0 (by omega) FU (by unfold FU; omega) h, ob_some]
theorem x_all35 {S : Nat → Nat → Int32} {L : Nat → Nat → Int64} {n : Nat} (hn : n ≤ 6) (h : Int64) : sX10_mixAll_35 h (nI n) S L = some (mxf (S 35) n 0 h) := by
  have key : ∀ d t, t + d = n → ∀ f, d < f → ∀ h, lX10_mixAll_35_6 (nI n) S L f h (nI t) = some (mxf (S 35) d t h) := by
    intro d
    induction d with
    | zero =>
      intro t ht f hf h
      obtain ⟨f, rfl⟩ : ∃ g, f = g + 1 := ⟨f - 1, by omega⟩
      rw [lX10_mixAll_35_6, if_pos (nI_le (by omega) (by omega))]; rfl
    | succ d ih =>
      intro t ht f hf h
      obtain ⟨f, rfl⟩ : ∃ g, f = g + 1 := ⟨f - 1, by omega⟩
      rw [lX10_mixAll_35_6, if_neg (nI_ge (by omega) (by omega)), ck_n (by omega) (by decide), nI_clamp (by omega), mix_e, ob_some, bnd_e, nI_1, ih (t + 1) (by omega) f (by omega)]
      rfl
  unfold sX10_mixAll_35
  rw [show lX10_mixAll_35_6 (nI n) S L FU h 0 = _ from key n 0 (by omega) FU (by unfold FU; omega) h, ob_some]
theorem x_all29 {S : Nat → Nat → Int32} {L : Nat → Nat → Int64} {n : Nat} (hn : n ≤ 12) (h : Int64) : sX10_mixAll_29 h (nI n) S L = some (mxf (S 29) n 0 h) := by
  have key : ∀ d t, t + d = n → ∀ f, d < f → ∀ h, lX10_mixAll_29_6 (nI n) S L f h (nI t) = some (mxf (S 29) d t h) := by
    intro d
    induction d with
    | zero =>
      intro t ht f hf h
      obtain ⟨f, rfl⟩ : ∃ g, f = g + 1 := ⟨f - 1, by omega⟩
      rw [lX10_mixAll_29_6, if_pos (nI_le (by omega) (by omega))]; rfl
    | succ d ih =>
      intro t ht f hf h
      obtain ⟨f, rfl⟩ : ∃ g, f = g + 1 := ⟨f - 1, by omega⟩
      rw [lX10_mixAll_29_6, if_neg (nI_ge (by omega) (by omega)), ck_n (by omega) (by decide), nI_clamp (by omega), mix_e, ob_some, bnd_e, nI_1, ih (t + 1) (by omega) f (by omega)]
      rfl
  unfold sX10_mixAll_29
  rw [show lX10_mixAll_29_6 (nI n) S L FU h 0 = _ from key n 0 (by omega) FU (by unfold FU; omega) h, ob_some]
theorem x_all30 {S : Nat → Nat → Int32} {L : Nat → Nat → Int64} {n : Nat} (hn : n ≤ 4) (h : Int64) : sX10_mixAll_30 h (nI n) S L = some (mxf (S 30) n 0 h) := by
  have key : ∀ d t, t + d = n → ∀ f, d < f → ∀ h, lX10_mixAll_30_6 (nI n) S L f h (nI t) = some (mxf (S 30) d t h) := by
    intro d
    induction d with
    | zero =>
      intro t ht f hf h
      obtain ⟨f, rfl⟩ : ∃ g, f = g + 1 := ⟨f - 1, by omega⟩
      rw [lX10_mixAll_30_6, if_pos (nI_le (by omega) (by omega))]; rfl
    | succ d ih =>
      intro t ht f hf h
      obtain ⟨f, rfl⟩ : ∃ g, f = g + 1 := ⟨f - 1, by omega⟩
      rw [lX10_mixAll_30_6, if_neg (nI_ge (by omega) (by omega)), ck_n (by omega) (by decide), nI_clamp (by omega), mix_e, ob_some, bnd_e, nI_1, ih (t + 1) (by omega) f (by omega)]
      rfl
  unfold sX10_mixAll_30
  rw [show lX10_mixAll_30_6 (nI n) S L FU h 0 = _ from key n 0 (by omega) FU (by unfold FU; omega) h, ob_some]
theorem x_all34 {S : Nat → Nat → Int32} {L : Nat → Nat → Int64} {n : Nat} (hn : n ≤ 12) (h : Int64) : sX10_mixAll_34 h (nI n) S L = some (mxf (S 34) n 0 h) := by
  have key : ∀ d t, t + d = n → ∀ f, d < f → ∀ h, lX10_mixAll_34_6 (nI n) S L f h (nI t) = some (mxf (S 34) d t h) := by
    intro d
    induction d with
    | zero =>
      intro t ht f hf h
      obtain ⟨f, rfl⟩ : ∃ g, f = g + 1 := ⟨f - 1, by omega⟩
      rw [lX10_mixAll_34_6, if_pos (nI_le (by omega) (by omega))]; rfl
    | succ d ih =>
      intro t ht f hf h
      obtain ⟨f, rfl⟩ : ∃ g, f = g + 1 := ⟨f - 1, by omega⟩
      rw [lX10_mixAll_34_6, if_neg (nI_ge (by omega) (by omega)), ck_n (by omega) (by decide), nI_clamp (by omega), mix_e, ob_some, bnd_e, nI_1, ih (t + 1) (by omega) f (by omega)]
      rfl
  unfold sX10_mixAll_34
  rw [show lX10_mixAll_34_6 (nI n) S L FU h 0 = _ from key n 0 (by omega) FU (by unfold FU; omega) h, ob_some]
-- the counts
theorem x_counts {S : Nat → Nat → Int32} {L : Nat → Nat → Int64} {M : Nat → Nat → Int32} (R : Rel S L M) (h : Int64) : lX10_digest_6 S L FU h 0 = some (mxf (M 1) 5 0 h) := by
  have key : ∀ d t, t + d = 5 → ∀ f, d < f → ∀ h, lX10_digest_6 S L f h (nI t) = some (mxf (M 1) d t h) := by
    intro d
    induction d with
    | zero =>
      intro t ht f hf h
      obtain ⟨f, rfl⟩ : ∃ g, f = g + 1 := ⟨f - 1, by omega⟩
      rw [lX10_digest_6, if_pos (show (5 : Int32) ≤ nI t from nI_le (a := 5) (by omega) (by omega))]; rfl
    | succ d ih =>
      intro t ht f hf h
      obtain ⟨f, rfl⟩ : ∃ g, f = g + 1 := ⟨f - 1, by omega⟩
      obtain ⟨r, r1, r2⟩ := op_count R (nI t)
      have e : sX11_count (nI t) M = some (M 1 t) := by
        unfold sX11_count
        rw [show sX11_in (nI t) 0 4 = some 1 from in_ok (n := 5) (by omega) (by decide), g1, ck_n (by omega) (by decide), nI_clamp (by omega)]
      rw [e] at r2
      cases r2
      rw [lX10_digest_6, if_neg (show ¬ (5 : Int32) ≤ nI t from nI_ge (b := 5) (by omega) (by decide)), r1, ob_some, mix_e, ob_some, bnd_e, nI_1, ih (t + 1) (by omega) f (by omega)]
      rfl
  exact key 5 0 (by omega) FU (by unfold FU; omega) h
-- a CASE
theorem m_ties {M : Nat → Nat → Int32} {v4 : Int32} (h : Int64) : lX11_digest_43 v4 M FU h 0 = some (mxf (M 2) 6 0 h) := by
  have key : ∀ d t, t + d = 6 → ∀ f, d < f → ∀ h, lX11_digest_43 v4 M f h (nI t) = some (mxf (M 2) d t h) := by
    intro d
    induction d with
    | zero =>
      intro t ht f hf h
      obtain ⟨f, rfl⟩ : ∃ g, f = g + 1 := ⟨f - 1, by omega⟩
      rw [lX11_digest_43, if_pos (show (6 : Int32) ≤ nI t from nI_le (a := 6) (by omega) (by omega))]; rfl
    | succ d ih =>
      intro t ht f hf h
      obtain ⟨f, rfl⟩ : ∃ g, f = g + 1 := ⟨f - 1, by omega⟩
      rw [lX11_digest_43, if_neg (show ¬ (6 : Int32) ≤ nI t from nI_ge (b := 6) (by omega) (by decide)), ck_n (by omega) (by decide), nI_clamp (by omega), bnd_e, bnd_e, nI_1, ih (t + 1) (by omega) f (by omega)]
      rfl
  exact key 6 0 (by omega) FU (by unfold FU; omega) h
theorem m_ends12 {M : Nat → Nat → Int32} {st ties : Nat → Int32} {day : Int32} {out : Nat → Bool} {nr ny : Nat} {v4 : Int32} (hms : MS M st ties day out nr ny) (h : Int64) : lX11_digest_74 v4 M FU h 0 = some (mxf (fun j => VJ st ties day out nr ny (j / 4) (j % 4)) 12 0 h) := by
  have key : ∀ d t, t + d = 12 → ∀ f, d < f → ∀ h, lX11_digest_74 v4 M f h (nI t) = some (mxf (fun j => VJ st ties day out nr ny (j / 4) (j % 4)) d t h) := by
    intro d
    induction d with
    | zero =>
      intro t ht f hf h
      obtain ⟨f, rfl⟩ : ∃ g, f = g + 1 := ⟨f - 1, by omega⟩
      rw [lX11_digest_74, if_pos (show (12 : Int32) ≤ nI t from nI_le (a := 12) (by omega) (by omega))]; rfl
    | succ d ih =>
      intro t ht f hf h
      obtain ⟨f, rfl⟩ : ∃ g, f = g + 1 := ⟨f - 1, by omega⟩
      rw [lX11_digest_74, if_neg (show ¬ (12 : Int32) ≤ nI t from nI_ge (b := 12) (by omega) (by decide)), show irm (nI t) 4 = nI (t % 4) from pk_rem (d := 4) (by omega) (by decide) (by decide), show nI t / 4 = nI (t / 4) from pk_div (d := 4) (by omega) (by decide) (by decide), judgeM hms (by omega) (by omega), ob_some, bnd_e, bnd_e, nI_1, ih (t + 1) (by omega) f (by omega)]
      rfl
  exact key 12 0 (by omega) FU (by unfold FU; omega) h
theorem x_ends4 {st ties : Nat → Int32} {day : Int32} {out : Nat → Bool} {nr ny k : Nat} {L : Nat → Nat → Int64} {v13 : Int32} : ∀ d a, a + d = 4 → ∀ f, d < f → ∀ (h : Int64) (S : Nat → Nat → Int32), XS S L st ties day out nr ny → HS S (sE st ties day out nr k) (sT st ties day out nr k) → S 6 5 = nI k →
    ∃ S', lX10_mixCase_76 v13 f h (nI a) S L = some (mxf (fun b => VJ st ties day out nr ny k b) d a h, S', L) ∧ ∀ q, q ≠ 7 → q ≠ 38 → S' q = S q := by
  intro d
  induction d with
  | zero =>
    intro a ha f hf h S hxs hHS h65
    obtain ⟨f, rfl⟩ : ∃ g, f = g + 1 := ⟨f - 1, by omega⟩
    refine ⟨S, ?_, fun _ _ _ => rfl⟩
    rw [lX10_mixCase_76, if_pos (show (4 : Int32) ≤ nI a from nI_le (a := 4) (by omega) (by omega))]; rfl
  | succ d ih =>
    intro a ha f hf h S hxs hHS h65
    obtain ⟨f, rfl⟩ : ∃ g, f = g + 1 := ⟨f - 1, by omega⟩
    obtain ⟨S1, o1, o2⟩ := judgeX hxs hHS h65 (show a < 4 by omega)
    obtain ⟨S2, z1, z2⟩ := ih (a + 1) (by omega) f (by omega) (mx h (VJ st ties day out nr ny k a)) S1 (hxs.frame (fun q hq => o2 q (fun e => by subst e; rcases hq with h | h <;> cases h) (fun e => by subst e; rcases hq with h | h <;> cases h))) ⟨hHS.1, fun b hb => by rw [o2 36 (by decide) (by decide), o2 37 (by decide) (by decide)]; exact hHS.2 b hb⟩ (by rw [o2 6 (by decide) (by decide)]; exact h65)
    refine ⟨S2, ?_, fun q q1 q2 => (z2 q q1 q2).trans (o2 q q1 q2)⟩
    rw [lX10_mixCase_76, if_neg (show ¬ (4 : Int32) ≤ nI a from nI_ge (b := 4) (by omega) (by decide)), o1, ob3_some, mix_e, ob_some, bnd_e, nI_1, z1]
    rfl
theorem x_ends12 {st ties : Nat → Int32} {day : Int32} {out : Nat → Bool} {nr ny : Nat} {L : Nat → Nat → Int64} (hok : ∀ r, r < nr → OKr st r) : ∀ d k, k + d = 3 → ∀ f, d < f → ∀ (h : Int64) (S : Nat → Nat → Int32), XS S L st ties day out nr ny →
    ∃ S', lX10_mixCase_58 f h (nI k) S L = some (mxf (fun j => VJ st ties day out nr ny (j / 4) (j % 4)) (4 * d) (4 * k) h, S', L) ∧ ∀ q, scS q = false → S' q = S q := by
  intro d
  induction d with
  | zero =>
    intro k hk f hf h S hxs
    obtain ⟨f, rfl⟩ : ∃ g, f = g + 1 := ⟨f - 1, by omega⟩
    refine ⟨S, ?_, fun _ _ => rfl⟩
    rw [lX10_mixCase_58, if_pos (show (3 : Int32) ≤ nI k from nI_le (a := 3) (by omega) (by omega))]; rfl
  | succ d ih =>
    intro k hk f hf h S hxs
    obtain ⟨f, rfl⟩ : ∃ g, f = g + 1 := ⟨f - 1, by omega⟩
    have hk3 : k < 3 := by omega
    obtain ⟨S2, r1, r2, r3, r4⟩ := x_readBooks hxs hk3
    have hxs2 : XS S2 L st ties day out nr ny := hxs.frame (fun q hq => r2 q (fun e => by subst e; rcases hq with h | h <;> cases h) (fun e => by subst e; rcases hq with h | h <;> cases h) (fun e => by subst e; rcases hq with h | h <;> cases h))
    have hHS2 : HS S2 (sE st ties day out nr k) (sT st ties day out nr k) := ⟨fun a ha => by
      rcases FR_spec (day := day) (out := out) (k := k) (a := a) hxs.2.1 hok with ⟨-, q2, q3⟩ | ⟨r, -, -, -, -, q4, q5⟩
      · rw [q2, q3]; exact ⟨by omega, ha⟩
      · exact ⟨q4, q5⟩, r4⟩
    obtain ⟨S3, j1, j2⟩ := x_ends4 (v13 := nI k) 4 0 (by omega) FU (by unfold FU; omega) h S2 hxs2 hHS2 r3
    have j1' : lX10_mixCase_76 (nI k) FU h 0 S2 L = _ := j1
    obtain ⟨S4, z1, z2⟩ := ih (k + 1) (by omega) f (by omega) (mxf (fun b => VJ st ties day out nr ny k b) 4 0 h) S3 (hxs2.frame (fun q hq => j2 q (fun e => by subst e; rcases hq with h | h <;> cases h) (fun e => by subst e; rcases hq with h | h <;> cases h)))
    refine ⟨S4, ?_, fun q hq => (z2 q hq).trans ((j2 q (fun e => by subst e; cases hq) (fun e => by subst e; cases hq)).trans (r2 q (fun e => by subst e; cases hq) (fun e => by subst e; cases hq) (fun e => by subst e; cases hq)))⟩
    have e4 : mxf (fun b => VJ st ties day out nr ny k b) 4 0 h = mxf (fun j => VJ st ties day out nr ny (j / 4) (j % 4)) 4 (4 * k) h := by
      simp only [mxf]
      rw [show 4 * k / 4 = k by omega, show 4 * k % 4 = 0 by omega, show (4 * k + 1) / 4 = k by omega, show (4 * k + 1) % 4 = 0 + 1 by omega, show (4 * k + 1 + 1) / 4 = k by omega, show (4 * k + 1 + 1) % 4 = 0 + 1 + 1 by omega, show (4 * k + 1 + 1 + 1) / 4 = k by omega, show (4 * k + 1 + 1 + 1) % 4 = 0 + 1 + 1 + 1 by omega]
    rw [lX10_mixCase_58, if_neg (show ¬ (3 : Int32) ≤ nI k from nI_ge (b := 3) (by omega) (by decide)), r1, ob2_some, j1', ob3_some, bnd_e, nI_1, z1, e4, show 4 * (d + 1) = 4 + 4 * d by omega, mxf_add, show 4 * k + 4 = 4 * (k + 1) by omega]
theorem cases_sync {nc nt nr ny nq : Nat} : ∀ d c, c + d = nc → ∀ f1 f2, d < f1 → d < f2 → ∀ (h : Int64) (S : Nat → Nat → Int32) (L : Nat → Nat → Int64) (M : Nat → Nat → Int32), RelN S L M nc nt nr ny nq →
    ∃ h' S' L' M', lX10_digest_29 f1 h (nI c) S L = some (h', S', L') ∧ lX11_digest_12 f2 h (nI c) M = some (h', M') ∧ EqX S L S' L' ∧ EqM M M' := by
  intro d
  induction d with
  | zero =>
    intro c hc f1 f2 h1 h2 h S L M R
    have b1 := R.1.1.2
    have e1 : S 1 0 = nI nc := R.2.1.1
    have e2 : M 1 0 = nI nc := R.1.1.1
    obtain ⟨f1, rfl⟩ : ∃ g, f1 = g + 1 := ⟨f1 - 1, by omega⟩
    obtain ⟨f2, rfl⟩ : ∃ g, f2 = g + 1 := ⟨f2 - 1, by omega⟩
    refine ⟨h, S, L, M, ?_, ?_, EqX.rf, ⟨rfl, rfl⟩⟩
    · rw [lX10_digest_29, e1, if_pos (nI_le (by omega) (by omega))]
    · rw [lX11_digest_12, show ∀ (α : Type) (o : Option α), ck 0 994 o = o from fun α o => ck_n (j := 0) (by decide) (by decide), show (0 : Int32).toNatClampNeg = 0 from rfl, e2, if_pos (nI_le (by omega) (by omega))]
  | succ d ih =>
    intro c hc f1 f2 h1 h2 h S L M R
    have b1 := R.1.1.2
    have e1 : S 1 0 = nI nc := R.2.1.1
    have e2 : M 1 0 = nI nc := R.1.1.1
    have hcn : c < nc := by omega
    obtain ⟨f1, rfl⟩ : ∃ g, f1 = g + 1 := ⟨f1 - 1, by omega⟩
    obtain ⟨f2, rfl⟩ : ∃ g, f2 = g + 1 := ⟨f2 - 1, by omega⟩
    obtain ⟨S1, L1, M1, x1, m1, hX, hM, hT, t2, hd, hH, h35⟩ := look R hcn
    have R' := R.frame hX hM
    have hst : M1 1 = M 1 := hM.1
    have hms : MS M1 (M 1) (S1 35) (M 1 (10 + 2 * c)) (fun _ => false) nr ny := by rw [← hst]; exact ms_of R' hT t2 (by rw [hst]; exact hd)
    have hxs : XS S1 L1 (M 1) (S1 35) (M 1 (10 + 2 * c)) (fun _ => false) nr ny := by rw [← hst]; exact xs_of R' hT (fun _ _ => rfl) (by rw [hst]; exact hH)
    obtain ⟨q1, -, q3, -⟩ := R.2.1.2.2.1 c hcn
    generalize hg : mx (mx h (M 1 (10 + 2 * c))) (M 1 (11 + 2 * c)) = g
    obtain ⟨S2, y1, y2⟩ := x_ends12 hms.2.2.1 3 0 (by omega) FU (by unfold FU; omega) (mxf (S1 35) 6 0 g) S1 hxs
    have y1' : lX10_mixCase_58 FU (mxf (S1 35) 6 0 g) 0 S1 L1 = some (mxf (fun j => VJ (M 1) (S1 35) (M 1 (10 + 2 * c)) (fun _ => false) nr ny (j / 4) (j % 4)) 12 0 (mxf (S1 35) 6 0 g), S2, L1) := y1
    have hX2 : EqX S L S2 L1 := hX.tr ⟨y2, fun _ _ => rfl⟩
    obtain ⟨h', S3, L3, M3, z1, z2, z3, z4⟩ := ih (c + 1) (by omega) f1 f2 (by omega) (by omega) (mxf (fun j => VJ (M 1) (S1 35) (M 1 (10 + 2 * c)) (fun _ => false) nr ny (j / 4) (j % 4)) 12 0 (mxf (S1 35) 6 0 g)) S2 L1 M1 (R.frame hX2 hM)
    refine ⟨h', S3, L3, M3, ?_, ?_, hX2.tr z3, ⟨z4.1.trans hM.1, z4.2.trans hM.2⟩⟩
    · have hmc : sX10_mixCase h (nI c) S L = some (mxf (fun j => VJ (M 1) (S1 35) (M 1 (10 + 2 * c)) (fun _ => false) nr ny (j / 4) (j % 4)) 12 0 (mxf (S1 35) 6 0 g), S2, L1) := by
        unfold sX10_mixCase
        rw [ck_n (by omega) (by decide), nI_clamp (by omega), mix_e, ob_some, ck_n (by omega) (by decide), mix_e, ob_some, q1, q3, hg, x1, ob2_some, show sX10_mixAll_35 g 6 S1 L1 = some (mxf (S1 35) 6 0 g) from x_all35 (n := 6) (by omega) g, ob_some, y1', ob3_some]
      rw [lX10_digest_29, e1, if_neg (nI_ge (by omega) (by omega)), hmc, ob3_some, bnd_e, nI_1]
      exact z1
    · have e10 : 10 + 2 * nI c = nI (10 + 2 * c) := by show nI 10 + nI 2 * nI c = _; rw [pk_mul, nI_add]
      have e2x : sX11_mixed h (nI (10 + 2 * c)) 2 M = some g := by
        rw [show sX11_mixed h (nI (10 + 2 * c)) 2 M = _ from m_mixed (n := 2) (by omega) h, ← hg]
        show some (mx (mx h (M 1 (10 + 2 * c + 0))) (M 1 (10 + 2 * c + 1))) = _
        rw [Nat.add_zero, show 10 + 2 * c + 1 = 11 + 2 * c by omega]
      rw [lX11_digest_12, show ∀ (α : Type) (o : Option α), ck 0 994 o = o from fun α o => ck_n (j := 0) (by decide) (by decide), show (0 : Int32).toNatClampNeg = 0 from rfl, e2, if_neg (nI_ge (by omega) (by omega)), e10, e2x, ob_some, m1, ob_some, m_ties, ob_some, mxf_congr (g := M1 2) (g' := S1 35) 6 0 g (fun x _ hx => t2 x (by omega)), m_ends12 hms, ob_some, bnd_e, nI_1]
      exact z2
