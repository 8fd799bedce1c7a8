-- ===== tables over ALL CASES =====
theorem add0 (v : Int32) : v + 0 = v := by rw [← Int32.toBitVec_inj]; simp
theorem sw15625 : (15625 : Int32) = nI 15625 := rfl
theorem partStep {S : Nat → Nat → Int32} {L : Nat → Nat → Int64} {M : Nat → Nat → Int32} {nc nt nr ny nq i k a b : Nat} {day : Int32} (R : RelN S L M nc nt nr ny nq) (hA : AI S L (M 1) nr day) (hi : i < 15625) (hk : k < 3) (ha : a < 4) (hb : b < 4) :
    ∃ S' L' M', sX0_partIn (nI i) (nI a) (nI b) (nI k) S L = some ((if VJ (M 1) (tiesN i) day (fun _ => false) nr ny k a = VJ (M 1) (tiesN i) day (fun _ => false) nr ny k b then 0 else 1), S', L') ∧ sX11_looksAtNumber (nI i) day M = some M' ∧ EqX S L S' L' ∧ EqM M M' ∧ AI S' L' (M 1) nr day ∧ MS M' (M 1) (tiesN i) day (fun _ => false) nr ny ∧ ∀ t, t < 6 → S' 35 t = tiesN i t := by
  obtain ⟨S1, L1, M', x1, m1, hX, hM, hA1, hxs, hms, hHS, h65⟩ := turn R hA hi hk
  obtain ⟨S2, o1, e1, hxs2, hHS2, h652, hA2, p2⟩ := judgeX' (d2 := day) hxs hHS h65 ha
  obtain ⟨S3, o2, e2, hxs3, hHS3, h653, hA3, p3⟩ := judgeX' (d2 := day) hxs2 hHS2 h652 hb
  refine ⟨S3, L1, M', ?_, m1, (hX.tr e1).tr e2, hM, hA3 (hA2 hA1), hms, fun t ht => hxs3.1 t ht⟩
  unfold sX0_partIn
  rw [x1, ob2_some, o1, ob3_some, o2, ob3_some]
  by_cases c : VJ (M 1) (tiesN i) day (fun _ => false) nr ny k a = VJ (M 1) (tiesN i) day (fun _ => false) nr ny k b
  · rw [if_pos c, if_pos c]
  · rw [if_neg c, if_neg c]
theorem tab2 (a b k d : Int32) : ((sX10_isTable a k d = some 0 ∨ (sX10_isTable a k d = some 1 ∧ sX10_isOther a b = some 0)) ∧ (sX11_arePair a b = some 0 ∨ (sX11_arePair a b = some 1 ∧ (sX11_isKind k = some 0 ∨ (sX11_isKind k = some 1 ∧ sX11_isDay d = some 0))))) ∨
    ∃ i i2 l f, (i < 4 ∧ a = nI i) ∧ (i2 < 4 ∧ b = nI i2) ∧ (l < 3 ∧ k = nI l) ∧ (f < 1000 ∧ d = nI f) ∧ sX10_isTable a k d = some 1 ∧ sX10_isOther a b = some 1 ∧ sX11_arePair a b = some 1 ∧ sX11_isKind k = some 1 ∧ sX11_isDay d = some 1 := by
  have hpair : sX11_arePair a b = some 0 ∨ sX11_arePair a b = some 1 := by
    unfold sX11_arePair
    rcases rg a (n := 4) (by decide) with ha | ⟨i, hi, rfl⟩
    · exact Or.inl (by rw [mLand_bad ha, g0])
    · rcases rg b (n := 4) (by decide) with hb | ⟨i2, hi2, rfl⟩
      · exact Or.inl (by rw [mLand_ok hi, g1, mLand_bad hb, g0])
      · rw [mLand_ok hi, g1, mLand_ok hi2, g1]
        by_cases c : nI i = nI i2
        · exact Or.inl (by rw [if_pos c])
        · exact Or.inr (by rw [if_neg c])
  rcases rg a (n := 4) (by decide) with ha | ⟨i, hi, rfl⟩
  · exact Or.inl ⟨Or.inl (by unfold sX10_isTable; rw [xLand_bad ha, g0]), Or.inl (by unfold sX11_arePair; rw [mLand_bad ha, g0])⟩
  rcases rg k (n := 3) (by decide) with hk | ⟨l, hl, rfl⟩
  · refine Or.inl ⟨Or.inl (by unfold sX10_isTable; rw [xLand_ok hi, g1, xKind_bad hk, g0]), ?_⟩
    rcases hpair with h | h
    · exact Or.inl h
    · exact Or.inr ⟨h, Or.inl (mKind_bad hk)⟩
  rcases rg d (n := 1000) (by decide) with hd | ⟨f, hf, rfl⟩
  · refine Or.inl ⟨Or.inl (by unfold sX10_isTable; rw [xLand_ok hi, g1, xKind_ok hl, g1, xDay_bad hd, g0]), ?_⟩
    rcases hpair with h | h
    · exact Or.inl h
    · exact Or.inr ⟨h, Or.inr ⟨mKind_ok hl, mDay_bad hd⟩⟩
  have ht : sX10_isTable (nI i) (nI l) (nI f) = some 1 := by unfold sX10_isTable; rw [xLand_ok hi, g1, xKind_ok hl, g1, xDay_ok hf, g1]
  rcases rg b (n := 4) (by decide) with hb | ⟨i2, hi2, rfl⟩
  · exact Or.inl ⟨Or.inr ⟨ht, by unfold sX10_isOther; rw [xLand_bad hb, g0]⟩, Or.inl (by unfold sX11_arePair; rw [mLand_ok hi, g1, mLand_bad hb, g0])⟩
  by_cases c : nI i = nI i2
  · exact Or.inl ⟨Or.inr ⟨ht, by unfold sX10_isOther; rw [xLand_ok hi2, g1, if_pos c]⟩, Or.inl (by unfold sX11_arePair; rw [mLand_ok hi, g1, mLand_ok hi2, g1, if_pos c])⟩
  · exact Or.inr ⟨i, i2, l, f, ⟨hi, rfl⟩, ⟨hi2, rfl⟩, ⟨hl, rfl⟩, ⟨hf, rfl⟩, ht, by unfold sX10_isOther; rw [xLand_ok hi2, g1, if_neg c], by unfold sX11_arePair; rw [mLand_ok hi, g1, mLand_ok hi2, g1, if_neg c], mKind_ok hl, mDay_ok hf⟩
theorem unlike_sync {nc nt nr ny nq k a b : Nat} {d : Int32} (hk : k < 3) (ha : a < 4) (hb : b < 4) : ∀ dd i, i + dd = 15625 → ∀ f1 f2, dd < f1 → dd < f2 → ∀ (v : Int32) (S : Nat → Nat → Int32) (L : Nat → Nat → Int64) (M : Nat → Nat → Int32), RelN S L M nc nt nr ny nq → AI S L (M 1) nr d →
    ∃ r S' L' M', lX0_countUnlike_12 (nI a) (nI b) (nI k) f1 v (nI i) S L = some (r, S', L') ∧ lX11_unlike_32 (nI a) (nI b) (nI k) d f2 v (nI i) M = some (r, M') ∧ EqX S L S' L' ∧ EqM M M' := by
  intro dd
  induction dd with
  | zero =>
    intro i hi f1 f2 h1 h2 v S L M R hA
    obtain ⟨f1, rfl⟩ : ∃ g, f1 = g + 1 := ⟨f1 - 1, by omega⟩
    obtain ⟨f2, rfl⟩ : ∃ g, f2 = g + 1 := ⟨f2 - 1, by omega⟩
    refine ⟨v, S, L, M, ?_, ?_, EqX.rf, ⟨rfl, rfl⟩⟩
    · rw [lX0_countUnlike_12, sw15625, if_pos (nI_le (by omega) (by omega))]
    · rw [lX11_unlike_32, sw15625, if_pos (nI_le (by omega) (by omega))]
  | succ dd ih =>
    intro i hi f1 f2 h1 h2 v S L M R hA
    obtain ⟨f1, rfl⟩ : ∃ g, f1 = g + 1 := ⟨f1 - 1, by omega⟩
    obtain ⟨f2, rfl⟩ : ∃ g, f2 = g + 1 := ⟨f2 - 1, by omega⟩
    obtain ⟨S1, L1, M1, x1, m1, hX, hM, hA1, hms, -⟩ := partStep R hA (show i < 15625 by omega) hk ha hb
    have R1 := R.frame hX hM
    have hA1' : AI S1 L1 (M1 1) nr d := by rw [hM.1]; exact hA1
    rw [lX0_countUnlike_12, sw15625, if_neg (nI_ge (by omega) (by omega)), x1, ob3_some, lX11_unlike_32, sw15625, if_neg (nI_ge (by omega) (by omega)), m1, ob_some, judgeM hms hk ha, ob_some, judgeM hms hk hb, ob_some]
    by_cases c : VJ (M 1) (tiesN i) d (fun _ => false) nr ny k a = VJ (M 1) (tiesN i) d (fun _ => false) nr ny k b
    · obtain ⟨r, S2, L2, M2, y1, y2, y3, y4⟩ := ih (i + 1) (by omega) f1 f2 (by omega) (by omega) v S1 L1 M1 R1 hA1'
      refine ⟨r, S2, L2, M2, ?_, ?_, hX.tr y3, ⟨y4.1.trans hM.1, y4.2.trans hM.2⟩⟩
      · rw [if_pos c, if_pos rfl, bnd_e, nI_1]; exact y1
      · rw [if_pos c, bnd_e, bnd_e, nI_1, add0]; exact y2
    · obtain ⟨r, S2, L2, M2, y1, y2, y3, y4⟩ := ih (i + 1) (by omega) f1 f2 (by omega) (by omega) (v + 1) S1 L1 M1 R1 hA1'
      refine ⟨r, S2, L2, M2, ?_, ?_, hX.tr y3, ⟨y4.1.trans hM.1, y4.2.trans hM.2⟩⟩
      · rw [if_neg c, if_neg (by decide), bnd_e, bnd_e, nI_1]; exact y1
      · rw [if_neg c, bnd_e, bnd_e, nI_1]; exact y2
theorem bad_u {S : Nat → Nat → Int32} {L : Nat → Nat → Int64} {M : Nat → Nat → Int32} {a b k d : Int32} (h : ((sX10_isTable a k d = some 0 ∨ (sX10_isTable a k d = some 1 ∧ sX10_isOther a b = some 0)) ∧ (sX11_arePair a b = some 0 ∨ (sX11_arePair a b = some 1 ∧ (sX11_isKind k = some 0 ∨ (sX11_isKind k = some 1 ∧ sX11_isDay d = some 0)))))) :
    sX10_unlike a b k d S L = some (-2, S, L) ∧ sX11_unlike a b k d M = some (-2, M) ∧ sX10_least a b k d S L = some (-2, S, L) ∧ sX11_least a b k d M = some (-2, M) := by
  obtain ⟨h1, h2⟩ := h
  refine ⟨?_, ?_, ?_, ?_⟩
  · unfold sX10_unlike
    rcases h1 with h | ⟨h, h'⟩
    · rw [h, g0]
    · rw [h, g1, h', g0]
  · unfold sX11_unlike
    rcases h2 with h | ⟨h, h | ⟨h', h''⟩⟩
    · rw [h, g0]
    · rename_i hp; rw [hp, g1, h, g0]
    · rw [h, g1, h', g1, h'', g0]
  · unfold sX10_least
    rcases h1 with h | ⟨h, h'⟩
    · rw [h, g0]
    · rw [h, g1, h', g0]
  · unfold sX11_least
    rcases h2 with h | ⟨h, h | ⟨h', h''⟩⟩
    · rw [h, g0]
    · rename_i hp; rw [hp, g1, h, g0]
    · rw [h, g1, h', g1, h'', g0]
theorem op_unlike {S : Nat → Nat → Int32} {L : Nat → Nat → Int64} {M : Nat → Nat → Int32} (R : Rel S L M) (a b k d : Int32) : ∃ r S' L' M', sX10_unlike a b k d S L = some (r, S', L') ∧ sX11_unlike a b k d M = some (r, M') ∧ Rel S' L' M' := by
  rcases tab2 a b k d with h | ⟨i, i2, l, f, ⟨hi, rfl⟩, ⟨hi2, rfl⟩, ⟨hl, rfl⟩, ⟨hf, rfl⟩, t1, t2, t3, t4, t5⟩
  · have := bad_u (S := S) (L := L) (M := M) h
    exact ⟨-2, S, L, M, this.1, this.2.1, R⟩
  obtain ⟨nc, nt, nr, ny, nq, hN⟩ := id R
  obtain ⟨S1, L1, x1, x2, x3⟩ := x_start hN (nI f)
  obtain ⟨r, S2, L2, M2, y1, y2, y3, y4⟩ := unlike_sync (d := nI f) hl hi hi2 15625 0 (by omega) FU FU (by unfold FU; omega) (by unfold FU; omega) 0 S1 L1 M (hN.frame x2 ⟨rfl, rfl⟩) x3
  refine ⟨r, S2, L2, M2, ?_, ?_, nc, nt, nr, ny, nq, hN.frame (x2.tr y3) y4⟩
  · unfold sX10_unlike sX0_countUnlike
    rw [t1, g1, t2, g1, x1, ob2_some, show lX0_countUnlike_12 (nI i) (nI i2) (nI l) FU 0 0 S1 L1 = _ from y1, ob3_some, ob3_some]
  · unfold sX11_unlike
    rw [t3, g1, t4, g1, t5, g1, show lX11_unlike_32 (nI i) (nI i2) (nI l) (nI f) FU 0 0 M = _ from y2, ob2_some]
theorem told_sync {S : Nat → Nat → Int32} {L : Nat → Nat → Int64} {M : Nat → Nat → Int32} (h : ∀ t, t < 6 → M 2 t = S 35 t) : ∃ n, n ≤ 6 ∧ sX0_tiesTold S L = some (nI n) ∧ sX11_tiesTold M = some (nI n) := by
  have key : ∀ d t, t + d = 6 → ∀ f1 f2, d < f1 → d < f2 → ∀ n, n ≤ t → ∃ n', n' ≤ 6 ∧ lX0_tiesTold_4 S L f1 (nI n) (nI t) = some (nI n') ∧ lX11_tiesTold_4 M f2 (nI n) (nI t) = some (nI n') := by
    intro d
    induction d with
    | zero =>
      intro t ht f1 f2 h1 h2 n hn
      obtain ⟨f1, rfl⟩ : ∃ g, f1 = g + 1 := ⟨f1 - 1, by omega⟩
      obtain ⟨f2, rfl⟩ : ∃ g, f2 = g + 1 := ⟨f2 - 1, by omega⟩
      refine ⟨n, by omega, ?_, ?_⟩
      · rw [lX0_tiesTold_4, if_pos (show (6 : Int32) ≤ nI t from nI_le (a := 6) (by omega) (by omega))]
      · rw [lX11_tiesTold_4, if_pos (show (6 : Int32) ≤ nI t from nI_le (a := 6) (by omega) (by omega))]
    | succ d ih =>
      intro t ht f1 f2 h1 h2 n hn
      obtain ⟨f1, rfl⟩ : ∃ g, f1 = g + 1 := ⟨f1 - 1, by omega⟩
      obtain ⟨f2, rfl⟩ : ∃ g, f2 = g + 1 := ⟨f2 - 1, by omega⟩
      rw [lX0_tiesTold_4, if_neg (show ¬ (6 : Int32) ≤ nI t from nI_ge (b := 6) (by omega) (by decide)), ck_n (by omega) (by decide), nI_clamp (by omega), lX11_tiesTold_4, if_neg (show ¬ (6 : Int32) ≤ nI t from nI_ge (b := 6) (by omega) (by decide)), ck_n (by omega) (by decide), nI_clamp (by omega), h t (by omega)]
      by_cases c : S 35 t = -1
      · rw [if_pos c, if_pos c, bnd_e, bnd_e, bnd_e, add0, nI_1]
        exact ih (t + 1) (by omega) f1 f2 (by omega) (by omega) n (by omega)
      · rw [if_neg c, if_neg c, bnd_e, bnd_e, bnd_e, bnd_e, nI_1, nI_1]
        exact ih (t + 1) (by omega) f1 f2 (by omega) (by omega) (n + 1) (by omega)
  obtain ⟨n, h1, h2, h3⟩ := key 6 0 (by omega) FU FU (by unfold FU; omega) (by unfold FU; omega) 0 (by omega)
  refine ⟨n, h1, ?_, ?_⟩
  · unfold sX0_tiesTold; rw [show lX0_tiesTold_4 S L FU 0 0 = _ from h2, ob_some]
  · unfold sX11_tiesTold; rw [show lX11_tiesTold_4 M FU 0 0 = _ from h3, ob_some]
theorem least_sync {nc nt nr ny nq k a b : Nat} {d : Int32} (hk : k < 3) (ha : a < 4) (hb : b < 4) : ∀ dd i, i + dd = 15625 → ∀ f1 f2, dd < f1 → dd < f2 → ∀ (v w u : Int32) (S : Nat → Nat → Int32) (L : Nat → Nat → Int64) (M : Nat → Nat → Int32), ((v = -1 ∧ w = 7) ∨ (v ≠ -1 ∧ w = u)) → RelN S L M nc nt nr ny nq → AI S L (M 1) nr d →
    ∃ r S' L' M', lX0_leastUnlike_16 (nI a) (nI b) (nI k) f1 v w (nI i) S L = some (r, S', L') ∧ lX11_least_35 (nI a) (nI b) (nI k) d f2 v u (nI i) M = some (r, M') ∧ EqX S L S' L' ∧ EqM M M' := by
  intro dd
  induction dd with
  | zero =>
    intro i hi f1 f2 h1 h2 v w u S L M hv R hA
    obtain ⟨f1, rfl⟩ : ∃ g, f1 = g + 1 := ⟨f1 - 1, by omega⟩
    obtain ⟨f2, rfl⟩ : ∃ g, f2 = g + 1 := ⟨f2 - 1, by omega⟩
    refine ⟨v, S, L, M, ?_, ?_, EqX.rf, ⟨rfl, rfl⟩⟩
    · rw [lX0_leastUnlike_16, sw15625, if_pos (nI_le (by omega) (by omega))]
    · rw [lX11_least_35, sw15625, if_pos (nI_le (by omega) (by omega))]
  | succ dd ih =>
    intro i hi f1 f2 h1 h2 v w u S L M hv R hA
    obtain ⟨f1, rfl⟩ : ∃ g, f1 = g + 1 := ⟨f1 - 1, by omega⟩
    obtain ⟨f2, rfl⟩ : ∃ g, f2 = g + 1 := ⟨f2 - 1, by omega⟩
    obtain ⟨S1, L1, M1, x1, m1, hX, hM, hA1, hms, h35⟩ := partStep R hA (show i < 15625 by omega) hk ha hb
    have R1 := R.frame hX hM
    have hA1' : AI S1 L1 (M1 1) nr d := by rw [hM.1]; exact hA1
    obtain ⟨n, hn, n1, n2⟩ := told_sync (S := S1) (L := L1) (M := M1) (fun t ht => by rw [h35 t ht]; exact hms.2.2.2.1 t ht)
    have j1 := judgeM hms hk ha
    have j2 := judgeM hms hk hb
    have hne : nI i ≠ -1 := nI_ne_m1 (by omega)
    have go : ∀ v' w' u' : Int32, ((v' = -1 ∧ w' = 7) ∨ (v' ≠ -1 ∧ w' = u')) → ∃ r S' L' M', lX0_leastUnlike_16 (nI a) (nI b) (nI k) f1 v' w' (nI (i + 1)) S1 L1 = some (r, S', L') ∧ lX11_least_35 (nI a) (nI b) (nI k) d f2 v' u' (nI (i + 1)) M1 = some (r, M') ∧ EqX S L S' L' ∧ EqM M M' := by
      intro v' w' u' h
      obtain ⟨r, S2, L2, M2, y1, y2, y3, y4⟩ := ih (i + 1) (by omega) f1 f2 (by omega) (by omega) v' w' u' S1 L1 M1 h R1 hA1'
      exact ⟨r, S2, L2, M2, y1, y2, hX.tr y3, ⟨y4.1.trans hM.1, y4.2.trans hM.2⟩⟩
    rw [lX0_leastUnlike_16, sw15625, if_neg (nI_ge (by omega) (by omega)), x1, ob3_some, lX11_least_35, sw15625, if_neg (nI_ge (by omega) (by omega)), m1, ob_some, j1, j2, n1, n2]
    by_cases c : VJ (M 1) (tiesN i) d (fun _ => false) nr ny k a = VJ (M 1) (tiesN i) d (fun _ => false) nr ny k b
    · rw [if_pos c, if_pos rfl, bnd_e, nI_1]
      by_cases c1 : v = -1
      · rw [if_pos c1, ob_some, ob_some, if_pos c, bnd_e]
        exact go v w u hv
      · rw [if_neg c1, ob_some]
        by_cases c2 : u ≤ nI n
        · rw [if_pos c2, bnd_e]; exact go v w u hv
        · rw [if_neg c2, ob_some, ob_some, if_pos c, bnd_e]; exact go v w u hv
    · rw [if_neg c, if_neg (by decide), ob_some]
      rcases hv with ⟨e1, e2⟩ | ⟨e1, e2⟩
      · rw [e2, if_neg (show ¬ (7 : Int32) ≤ nI n from nI_ge (b := 7) (by omega) (by decide)), if_pos e1, ob_some, ob_some, if_neg c, ob_some, bnd_e, bnd_e, nI_1]
        exact go (nI i) (nI n) (nI n) (Or.inr ⟨hne, rfl⟩)
      · rw [if_neg e1, ob_some, e2]
        by_cases c2 : u ≤ nI n
        · rw [if_pos c2, if_pos c2, bnd_e, bnd_e, nI_1]; exact go v u u (Or.inr ⟨e1, rfl⟩)
        · rw [if_neg c2, if_neg c2, ob_some, ob_some, if_neg c, ob_some, bnd_e, bnd_e, nI_1]
          exact go (nI i) (nI n) (nI n) (Or.inr ⟨hne, rfl⟩)
theorem op_least {S : Nat → Nat → Int32} {L : Nat → Nat → Int64} {M : Nat → Nat → Int32} (R : Rel S L M) (a b k d : Int32) : ∃ r S' L' M', sX10_least a b k d S L = some (r, S', L') ∧ sX11_least a b k d M = some (r, M') ∧ Rel S' L' M' := by
  rcases tab2 a b k d with h | ⟨i, i2, l, f, ⟨hi, rfl⟩, ⟨hi2, rfl⟩, ⟨hl, rfl⟩, ⟨hf, rfl⟩, t1, t2, t3, t4, t5⟩
  · have := bad_u (S := S) (L := L) (M := M) h
    exact ⟨-2, S, L, M, this.2.2.1, this.2.2.2, R⟩
  obtain ⟨nc, nt, nr, ny, nq, hN⟩ := id R
  obtain ⟨S1, L1, x1, x2, x3⟩ := x_start hN (nI f)
  obtain ⟨r, S2, L2, M2, y1, y2, y3, y4⟩ := least_sync (d := nI f) hl hi hi2 15625 0 (by omega) FU FU (by unfold FU; omega) (by unfold FU; omega) (-1) 7 0 S1 L1 M (Or.inl ⟨rfl, rfl⟩) (hN.frame x2 ⟨rfl, rfl⟩) x3
  refine ⟨r, S2, L2, M2, ?_, ?_, nc, nt, nr, ny, nq, hN.frame (x2.tr y3) y4⟩
  · unfold sX10_least sX0_leastUnlike
    rw [t1, g1, t2, g1, x1, ob2_some, show lX0_leastUnlike_16 (nI i) (nI i2) (nI l) FU (-1) 7 0 S1 L1 = _ from y1, ob3_some, ob3_some]
  · unfold sX11_least
    rw [t3, g1, t4, g1, t5, g1, show lX11_least_35 (nI i) (nI i2) (nI l) (nI f) FU (-1) 0 0 M = _ from y2, ob2_some]
theorem tab1 (a k d : Int32) : (sX10_isTable a k d = some 0 ∧ (sX11_isLand a = some 0 ∨ (sX11_isLand a = some 1 ∧ (sX11_isKind k = some 0 ∨ (sX11_isKind k = some 1 ∧ sX11_isDay d = some 0))))) ∨ ∃ i l f, (i < 4 ∧ a = nI i) ∧ (l < 3 ∧ k = nI l) ∧ (f < 1000 ∧ d = nI f) ∧ sX10_isTable a k d = some 1 ∧ sX11_isLand a = some 1 ∧ sX11_isKind k = some 1 ∧ sX11_isDay d = some 1 := by
  unfold sX10_isTable
  rcases rg a (n := 4) (by decide) with ha | ⟨i, hi, rfl⟩
  · exact Or.inl ⟨by rw [xLand_bad ha, g0], Or.inl (mLand_bad ha)⟩
  rcases rg k (n := 3) (by decide) with hk | ⟨l, hl, rfl⟩
  · exact Or.inl ⟨by rw [xLand_ok hi, g1, xKind_bad hk, g0], Or.inr ⟨mLand_ok hi, Or.inl (mKind_bad hk)⟩⟩
  rcases rg d (n := 1000) (by decide) with hd | ⟨f, hf, rfl⟩
  · exact Or.inl ⟨by rw [xLand_ok hi, g1, xKind_ok hl, g1, xDay_bad hd, g0], Or.inr ⟨mLand_ok hi, Or.inr ⟨mKind_ok hl, mDay_bad hd⟩⟩⟩
  · exact Or.inr ⟨i, l, f, ⟨hi, rfl⟩, ⟨hl, rfl⟩, ⟨hf, rfl⟩, by rw [xLand_ok hi, g1, xKind_ok hl, g1, xDay_ok hf, g1], mLand_ok hi, mKind_ok hl, mDay_ok hf⟩
theorem op_endsIn {S : Nat → Nat → Int32} {L : Nat → Nat → Int64} {M : Nat → Nat → Int32} (R : Rel S L M) (a k d j : Int32) : ∃ r S' L' M', sX10_endsIn a k d j S L = some (r, S', L') ∧ sX11_endsIn a k d j M = some (r, M') ∧ Rel S' L' M' := by
  rcases tab1 a k d with ⟨h1, h2⟩ | ⟨i, l, f, ⟨hi, rfl⟩, ⟨hl, rfl⟩, ⟨hf, rfl⟩, t1, t2, t3, t4⟩
  · refine ⟨-2, S, L, M, ?_, ?_, R⟩
    · unfold sX10_endsIn; rw [h1, g0]
    · unfold sX11_endsIn
      rcases h2 with h | ⟨h, h' | ⟨h', h''⟩⟩
      · rw [h, g0]
      · rw [h, g1, h', g0]
      · rw [h, g1, h', g1, h'', g0]
  rcases rg j (n := 15625) (by decide) with hj | ⟨m, hm, rfl⟩
  · refine ⟨-2, S, L, M, ?_, ?_, R⟩
    · unfold sX10_endsIn; rw [t1, g1, sw15625, ib_bad hj, g0]
    · unfold sX11_endsIn; rw [t2, g1, t3, g1, t4, g1, show (15624 : Int32) = nI 15625 - 1 from rfl, in_bad (by decide) hj, g0]
  obtain ⟨nc, nt, nr, ny, nq, hN⟩ := id R
  obtain ⟨S1, L1, x1, x2, x3⟩ := x_start hN (nI f)
  obtain ⟨S2, L2, M2, y1, y2, y3, y4, y5, hxs, hms, hHS, h65⟩ := turn (M := M) (hN.frame x2 ⟨rfl, rfl⟩) x3 hm hl
  obtain ⟨S3, o1, o2, -⟩ := judgeX' (d2 := nI f) hxs hHS h65 hi
  refine ⟨VJ (M 1) (tiesN m) (nI f) (fun _ => false) nr ny l i, S3, L2, M2, ?_, ?_, nc, nt, nr, ny, nq, hN.frame ((x2.tr y3).tr o2) y4⟩
  · unfold sX10_endsIn; rw [t1, g1, sw15625, ib_ok hm (by decide), g1, x1, ob2_some, y1, ob2_some, o1, ob3_some]
  · unfold sX11_endsIn; rw [t2, g1, t3, g1, t4, g1, show (15624 : Int32) = nI 15625 - 1 from rfl, in_ok hm (by decide), g1, y2, ob_some, judgeM hms hl hi, ob_some]
theorem reached_sync {nc nt nr ny nq k a : Nat} {d : Int32} (hk : k < 3) (ha : a < 4) : ∀ dd i, i + dd = 15625 → ∀ f1 f2, dd < f1 → dd < f2 → ∀ (v : Int32) (S : Nat → Nat → Int32) (L : Nat → Nat → Int64) (M : Nat → Nat → Int32), RelN S L M nc nt nr ny nq → AI S L (M 1) nr d →
    ∃ r S' L' M', lX0_landsReached_11 (nI a) (nI k) f1 v (nI i) S L = some (r, S', L') ∧ lX11_reached_30 (nI a) (nI k) d f2 v (nI i) M = some (r, M') ∧ EqX S L S' L' ∧ EqM M M' := by
  intro dd
  induction dd with
  | zero =>
    intro i hi f1 f2 h1 h2 v S L M R hA
    obtain ⟨f1, rfl⟩ : ∃ g, f1 = g + 1 := ⟨f1 - 1, by omega⟩
    obtain ⟨f2, rfl⟩ : ∃ g, f2 = g + 1 := ⟨f2 - 1, by omega⟩
    refine ⟨v, S, L, M, ?_, ?_, EqX.rf, ⟨rfl, rfl⟩⟩
    · rw [lX0_landsReached_11, sw15625, if_pos (nI_le (by omega) (by omega))]
    · rw [lX11_reached_30, sw15625, if_pos (nI_le (by omega) (by omega))]
  | succ dd ih =>
    intro i hi f1 f2 h1 h2 v S L M R hA
    obtain ⟨f1, rfl⟩ : ∃ g, f1 = g + 1 := ⟨f1 - 1, by omega⟩
    obtain ⟨f2, rfl⟩ : ∃ g, f2 = g + 1 := ⟨f2 - 1, by omega⟩
    obtain ⟨S1, L1, M1, x1, m1, hX, hM, hA1, hxs, hms, hHS, h65⟩ := turn R hA (show i < 15625 by omega) hk
    obtain ⟨S2, o1, o2, -, -, -, hA2, -⟩ := judgeX' (d2 := d) hxs hHS h65 ha
    have R1 := R.frame (hX.tr o2) hM
    have hA1' : AI S2 L1 (M1 1) nr d := by rw [hM.1]; exact hA2 hA1
    have go : ∀ v', ∃ r S' L' M', lX0_landsReached_11 (nI a) (nI k) f1 v' (nI (i + 1)) S2 L1 = some (r, S', L') ∧ lX11_reached_30 (nI a) (nI k) d f2 v' (nI (i + 1)) M1 = some (r, M') ∧ EqX S L S' L' ∧ EqM M M' := by
      intro v'
      obtain ⟨r, S3, L3, M3, y1, y2, y3, y4⟩ := ih (i + 1) (by omega) f1 f2 (by omega) (by omega) v' S2 L1 M1 R1 hA1'
      exact ⟨r, S3, L3, M3, y1, y2, (hX.tr o2).tr y3, ⟨y4.1.trans hM.1, y4.2.trans hM.2⟩⟩
    rw [lX0_landsReached_11, sw15625, if_neg (nI_ge (by omega) (by omega)), x1, ob2_some, o1, ob3_some, lX11_reached_30, sw15625, if_neg (nI_ge (by omega) (by omega)), m1, ob_some, judgeM hms hk ha, ob_some]
    by_cases c : VJ (M 1) (tiesN i) d (fun _ => false) nr ny k a = -5
    · rw [if_pos c, if_pos c, bnd_e, bnd_e, bnd_e, bnd_e, nI_1, show ((1 : Int32) <<< ((4 : Int32) &&& 31)) = 16 from rfl]
      exact go _
    · rw [if_neg c, if_neg c, bnd_e, bnd_e, bnd_e, bnd_e, nI_1]
      exact go _
theorem op_reached {S : Nat → Nat → Int32} {L : Nat → Nat → Int64} {M : Nat → Nat → Int32} (R : Rel S L M) (a k d : Int32) : ∃ r S' L' M', sX10_reached a k d S L = some (r, S', L') ∧ sX11_reached a k d M = some (r, M') ∧ Rel S' L' M' := by
  rcases tab1 a k d with ⟨h1, h2⟩ | ⟨i, l, f, ⟨hi, rfl⟩, ⟨hl, rfl⟩, ⟨hf, rfl⟩, t1, t2, t3, t4⟩
  · refine ⟨-2, S, L, M, ?_, ?_, R⟩
    · unfold sX10_reached; rw [h1, g0]
    · unfold sX11_reached
      rcases h2 with h | ⟨h, h' | ⟨h', h''⟩⟩
      · rw [h, g0]
      · rw [h, g1, h', g0]
      · rw [h, g1, h', g1, h'', g0]
  obtain ⟨nc, nt, nr, ny, nq, hN⟩ := id R
  obtain ⟨S1, L1, x1, x2, x3⟩ := x_start hN (nI f)
  obtain ⟨r, S2, L2, M2, y1, y2, y3, y4⟩ := reached_sync (d := nI f) hl hi 15625 0 (by omega) FU FU (by unfold FU; omega) (by unfold FU; omega) 0 S1 L1 M (hN.frame x2 ⟨rfl, rfl⟩) x3
  refine ⟨r, S2, L2, M2, ?_, ?_, nc, nt, nr, ny, nq, hN.frame (x2.tr y3) y4⟩
  · unfold sX10_reached sX0_landsReached
    rw [t1, g1, x1, ob2_some, show lX0_landsReached_11 (nI i) (nI l) FU 0 0 S1 L1 = _ from y1, ob3_some, ob3_some]
  · unfold sX11_reached
    rw [t2, g1, t3, g1, t4, g1, show lX11_reached_30 (nI i) (nI l) (nI f) FU 0 0 M = _ from y2, ob2_some]
/-- all LANDS end alike -/
def AA (st ties : Nat → Int32) (day : Int32) (out : Nat → Bool) (nr ny k : Nat) : Bool := decide (VJ st ties day out nr ny k 1 = VJ st ties day out nr ny k 0) && decide (VJ st ties day out nr ny k 2 = VJ st ties day out nr ny k 0) && decide (VJ st ties day out nr ny k 3 = VJ st ties day out nr ny k 0)
theorem m_areAlike {M : Nat → Nat → Int32} {st ties : Nat → Int32} {day : Int32} {out : Nat → Bool} {nr ny k : Nat} (hms : MS M st ties day out nr ny) (hk : k < 3) : sX11_areAlike (nI k) M = some (bI (AA st ties day out nr ny k)) := by
  have j : ∀ a, a < 4 → sX11_endsOf (nI a) (nI k) M = some (VJ st ties day out nr ny k a) := fun a ha => judgeM hms hk ha
  unfold sX11_areAlike AA
  rw [show sX11_endsOf 0 (nI k) M = _ from j 0 (by omega), ob_some, show sX11_endsOf 1 (nI k) M = _ from j 1 (by omega), ob_some, show sX11_endsOf 2 (nI k) M = _ from j 2 (by omega), show sX11_endsOf 3 (nI k) M = _ from j 3 (by omega)]
  by_cases c1 : VJ st ties day out nr ny k 1 = VJ st ties day out nr ny k 0
  · rw [if_pos c1, ob_some, decide_eq_true c1]
    by_cases c2 : VJ st ties day out nr ny k 2 = VJ st ties day out nr ny k 0
    · rw [if_pos c2, ob_some, decide_eq_true c2]
      by_cases c3 : VJ st ties day out nr ny k 3 = VJ st ties day out nr ny k 0
      · rw [if_pos c3, decide_eq_true c3]; rfl
      · rw [if_neg c3, decide_eq_false c3]; rfl
    · rw [if_neg c2, decide_eq_false c2]; rfl
  · rw [if_neg c1, decide_eq_false c1]; rfl
theorem x_allAlike {S : Nat → Nat → Int32} {L : Nat → Nat → Int64} {st ties : Nat → Int32} {day d2 : Int32} {out : Nat → Bool} {nr ny k : Nat} (hxs : XS S L st ties day out nr ny) (hHS : HS S (sE st ties day out nr k) (sT st ties day out nr k)) (h65 : S 6 5 = nI k) :
    ∃ S', sX4_allAlike S L = some (bI (AA st ties day out nr ny k), S', L) ∧ EqX S L S' L ∧ (AI S L st nr d2 → AI S' L st nr d2) := by
  obtain ⟨S0, o0, e0, x0, H0, k0, A0, -⟩ := judgeX' (d2 := d2) hxs hHS h65 (a := 0) (by omega)
  obtain ⟨S1, o1, e1, x1, H1, kk1, A1, -⟩ := judgeX' (d2 := d2) x0 H0 k0 (a := 1) (by omega)
  obtain ⟨S2, o2, e2, x2, H2, kk2, A2, -⟩ := judgeX' (d2 := d2) x1 H1 kk1 (a := 2) (by omega)
  obtain ⟨S3, o3, e3, x3, H3, kk3, A3, -⟩ := judgeX' (d2 := d2) x2 H2 kk2 (a := 3) (by omega)
  have u : ∀ n v (S' : Nat → Nat → Int32), v < 4 → lX4_allAlike_8 (VJ st ties day out nr ny k 0) (n + 1) (nI v) S' L = ob3 (sX4_outcome (nI v) S' L) (fun r12 S10 L11 => if r12 = VJ st ties day out nr ny k 0 then bnd (nI v + 1) (fun x14 => lX4_allAlike_8 (VJ st ties day out nr ny k 0) n x14 S10 L11) else some (.inl (S10, L11))) := fun n v S' hv => by
    rw [lX4_allAlike_8, if_neg (show ¬ (4 : Int32) ≤ nI v from nI_ge (b := 4) (by omega) (by decide))]
  unfold sX4_allAlike
  rw [show sX4_outcome 0 S L = _ from o0, ob3_some, show lX4_allAlike_8 (VJ st ties day out nr ny k 0) FU 1 S0 L = lX4_allAlike_8 (VJ st ties day out nr ny k 0) (19999 + 1) (nI 1) S0 L from rfl, u 19999 1 S0 (by omega), o1, ob3_some]
  unfold AA
  by_cases c1 : VJ st ties day out nr ny k 1 = VJ st ties day out nr ny k 0
  · rw [if_pos c1, bnd_e, nI_1, show lX4_allAlike_8 (VJ st ties day out nr ny k 0) 19999 (nI (1 + 1)) S1 L = lX4_allAlike_8 (VJ st ties day out nr ny k 0) (19998 + 1) (nI 2) S1 L from rfl, u 19998 2 S1 (by omega), o2, ob3_some, decide_eq_true c1]
    by_cases c2 : VJ st ties day out nr ny k 2 = VJ st ties day out nr ny k 0
    · rw [if_pos c2, bnd_e, nI_1, show lX4_allAlike_8 (VJ st ties day out nr ny k 0) 19998 (nI (2 + 1)) S2 L = lX4_allAlike_8 (VJ st ties day out nr ny k 0) (19997 + 1) (nI 3) S2 L from rfl, u 19997 3 S2 (by omega), o3, ob3_some, decide_eq_true c2]
      by_cases c3 : VJ st ties day out nr ny k 3 = VJ st ties day out nr ny k 0
      · rw [if_pos c3, bnd_e, nI_1, show lX4_allAlike_8 (VJ st ties day out nr ny k 0) 19997 (nI (3 + 1)) S3 L = lX4_allAlike_8 (VJ st ties day out nr ny k 0) (19996 + 1) (nI 4) S3 L from rfl, lX4_allAlike_8, if_pos (show (4 : Int32) ≤ nI 4 by decide), decide_eq_true c3]
        exact ⟨S3, rfl, ((e0.tr e1).tr e2).tr e3, fun h => A3 (A2 (A1 (A0 h)))⟩
      · rw [if_neg c3, decide_eq_false c3]
        exact ⟨S3, rfl, ((e0.tr e1).tr e2).tr e3, fun h => A3 (A2 (A1 (A0 h)))⟩
    · rw [if_neg c2, decide_eq_false c2]
      exact ⟨S2, rfl, (e0.tr e1).tr e2, fun h => A2 (A1 (A0 h))⟩
  · rw [if_neg c1, decide_eq_false c1]
    exact ⟨S1, rfl, e0.tr e1, fun h => A1 (A0 h)⟩
theorem same_sync {nc nt nr ny nq k : Nat} {d : Int32} (hk : k < 3) : ∀ dd i, i + dd = 15625 → ∀ f1 f2, dd < f1 → dd < f2 → ∀ (v : Int32) (S : Nat → Nat → Int32) (L : Nat → Nat → Int64) (M : Nat → Nat → Int32), RelN S L M nc nt nr ny nq → AI S L (M 1) nr d →
    ∃ r S' L' M', lX0_countAlike_10 (nI k) f1 v (nI i) S L = some (r, S', L') ∧ lX11_same_22 (nI k) d f2 v (nI i) M = some (r, M') ∧ EqX S L S' L' ∧ EqM M M' := by
  intro dd
  induction dd with
  | zero =>
    intro i hi f1 f2 h1 h2 v S L M R hA
    obtain ⟨f1, rfl⟩ : ∃ g, f1 = g + 1 := ⟨f1 - 1, by omega⟩
    obtain ⟨f2, rfl⟩ : ∃ g, f2 = g + 1 := ⟨f2 - 1, by omega⟩
    refine ⟨v, S, L, M, ?_, ?_, EqX.rf, ⟨rfl, rfl⟩⟩
    · rw [lX0_countAlike_10, sw15625, if_pos (nI_le (by omega) (by omega))]
    · rw [lX11_same_22, sw15625, if_pos (nI_le (by omega) (by omega))]
  | succ dd ih =>
    intro i hi f1 f2 h1 h2 v S L M R hA
    obtain ⟨f1, rfl⟩ : ∃ g, f1 = g + 1 := ⟨f1 - 1, by omega⟩
    obtain ⟨f2, rfl⟩ : ∃ g, f2 = g + 1 := ⟨f2 - 1, by omega⟩
    obtain ⟨S1, L1, M1, x1, m1, hX, hM, hA1, hxs, hms, hHS, h65⟩ := turn R hA (show i < 15625 by omega) hk
    obtain ⟨S2, o1, o2, hA2⟩ := x_allAlike (d2 := d) hxs hHS h65
    have R1 := R.frame (hX.tr o2) hM
    have hA1' : AI S2 L1 (M1 1) nr d := by rw [hM.1]; exact hA2 hA1
    have go : ∀ v', ∃ r S' L' M', lX0_countAlike_10 (nI k) f1 v' (nI (i + 1)) S2 L1 = some (r, S', L') ∧ lX11_same_22 (nI k) d f2 v' (nI (i + 1)) M1 = some (r, M') ∧ EqX S L S' L' ∧ EqM M M' := by
      intro v'
      obtain ⟨r, S3, L3, M3, y1, y2, y3, y4⟩ := ih (i + 1) (by omega) f1 f2 (by omega) (by omega) v' S2 L1 M1 R1 hA1'
      exact ⟨r, S3, L3, M3, y1, y2, (hX.tr o2).tr y3, ⟨y4.1.trans hM.1, y4.2.trans hM.2⟩⟩
    rw [lX0_countAlike_10, sw15625, if_neg (nI_ge (by omega) (by omega)), x1, ob2_some, o1, ob3_some, lX11_same_22, sw15625, if_neg (nI_ge (by omega) (by omega)), m1, ob_some, m_areAlike hms hk, ob_some]
    cases AA (M 1) (tiesN i) d (fun _ => false) nr ny k with
    | false => rw [if_pos bI_f, if_pos bI_f, bnd_e, bnd_e, bnd_e, add0, nI_1]; exact go v
    | true => rw [if_neg (by rw [bI_t]; decide), if_neg (by rw [bI_t]; decide), bnd_e, bnd_e, bnd_e, bnd_e, nI_1]; exact go (v + 1)
theorem op_same {S : Nat → Nat → Int32} {L : Nat → Nat → Int64} {M : Nat → Nat → Int32} (R : Rel S L M) (k d : Int32) : ∃ r S' L' M', sX10_same k d S L = some (r, S', L') ∧ sX11_same k d M = some (r, M') ∧ Rel S' L' M' := by
  rcases rg k (n := 3) (by decide) with hk | ⟨l, hl, rfl⟩
  · refine ⟨-2, S, L, M, ?_, ?_, R⟩
    · unfold sX10_same; rw [xKind_bad hk, g0]
    · unfold sX11_same; rw [mKind_bad hk, g0]
  rcases rg d (n := 1000) (by decide) with hd | ⟨f, hf, rfl⟩
  · refine ⟨-2, S, L, M, ?_, ?_, R⟩
    · unfold sX10_same; rw [xKind_ok hl, g1, xDay_bad hd, g0]
    · unfold sX11_same; rw [mKind_ok hl, g1, mDay_bad hd, g0]
  obtain ⟨nc, nt, nr, ny, nq, hN⟩ := id R
  obtain ⟨S1, L1, x1, x2, x3⟩ := x_start hN (nI f)
  obtain ⟨r, S2, L2, M2, y1, y2, y3, y4⟩ := same_sync (d := nI f) hl 15625 0 (by omega) FU FU (by unfold FU; omega) (by unfold FU; omega) 0 S1 L1 M (hN.frame x2 ⟨rfl, rfl⟩) x3
  refine ⟨r, S2, L2, M2, ?_, ?_, nc, nt, nr, ny, nq, hN.frame (x2.tr y3) y4⟩
  · unfold sX10_same sX0_countAlike
    rw [xKind_ok hl, g1, xDay_ok hf, g1, x1, ob2_some, show lX0_countAlike_10 (nI l) FU 0 0 S1 L1 = _ from y1, ob3_some, ob3_some]
  · unfold sX11_same
    rw [mKind_ok hl, g1, mDay_ok hf, g1, show lX11_same_22 (nI l) (nI f) FU 0 0 M = _ from y2, ob2_some]
