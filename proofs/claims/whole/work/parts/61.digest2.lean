-- a RULE
theorem x_testsL {S : Nat → Nat → Int32} {L : Nat → Nat → Int64} {st : Nat → Int32} {r n6 : Nat} (hr : r < 60) (hn6 : n6 ≤ 2) (R : RRr (S 17) (S 18) (S 19) (S 20) (S 21) (S 22) (S 23) (S 24) (S 25) st r) (e6 : rl st r 6 = nI n6) : ∀ d n, n + d = n6 → ∀ f, d < f → ∀ h, lX10_mixRule_102 (nI r) S L f h (nI n) = some (mxf (fun x => st (282 + 11 * r + x)) (2 * d) (7 + 2 * n) h) := by
  have e23 : S 23 r = nI n6 := R.2.2.2.2.2.2.1.1.trans e6
  intro d
  induction d with
  | zero =>
    intro n hn f hf h
    obtain ⟨f, rfl⟩ : ∃ g, f = g + 1 := ⟨f - 1, by omega⟩
    rw [lX10_mixRule_102, ck_n hr (by decide), nI_clamp (by omega), e23, if_pos (nI_le (by omega) (by omega))]; rfl
  | succ d ih =>
    intro n hn f hf h
    obtain ⟨f, rfl⟩ : ∃ g, f = g + 1 := ⟨f - 1, by omega⟩
    obtain ⟨⟨t1, -⟩, t2, -⟩ := R.2.2.2.2.2.2.2 n (by omega) (by rw [e6, nI_ltI (by omega) (by omega)]; omega)
    have ep : nI r * 2 + nI n = nI (2 * r + n) := by show nI r * nI 2 + nI n = _; rw [pk_mul, nI_add, Nat.mul_comm]
    rw [lX10_mixRule_102, ck_n hr (by decide), nI_clamp (by omega), e23, if_neg (nI_ge (by omega) (by omega)), ep, bnd_e, ck_n (by omega) (by decide), nI_clamp (by omega), mix_e, ob_some, ck_n (by omega) (by decide), mix_e, ob_some, bnd_e, nI_1, ih (n + 1) (by omega) f (by omega), t1, t2, show 2 * (d + 1) = 2 + 2 * d by omega, mxf_add]
    show some (mxf _ (2 * d) (7 + 2 * (n + 1)) (mx (mx h (st (282 + 11 * r + (7 + 2 * n)))) (st (282 + 11 * r + (8 + 2 * n))))) = some (mxf _ (2 * d) (7 + 2 * n + 2) (mx (mx h (st (282 + 11 * r + (7 + 2 * n)))) (st (282 + 11 * r + (7 + 2 * n + 1)))))
    rw [show 7 + 2 * (n + 1) = 7 + 2 * n + 2 by omega, show 8 + 2 * n = 7 + 2 * n + 1 by omega]
theorem x_mixRule {S : Nat → Nat → Int32} {L : Nat → Nat → Int64} {st : Nat → Int32} {r n6 : Nat} (hr : r < 60) (hn6 : n6 ≤ 2) (R : RRr (S 17) (S 18) (S 19) (S 20) (S 21) (S 22) (S 23) (S 24) (S 25) st r) (e6 : rl st r 6 = nI n6) (h : Int64) : sX10_mixRule h (nI r) S L = some (mxf (fun x => st (282 + 11 * r + x)) (7 + 2 * n6) 0 h) := by
  have key := x_testsL (L := L) hr hn6 R e6 n6 0 (by omega) FU (by unfold FU; omega)
  obtain ⟨⟨a0, -⟩, ⟨a1, -⟩, ⟨a2, -⟩, ⟨a3, -⟩, ⟨a4, -⟩, ⟨a5, -⟩, ⟨a6, -⟩, -⟩ := R
  have key' : ∀ h, lX10_mixRule_102 (nI r) S L FU h 0 = some (mxf (fun x => st (282 + 11 * r + x)) (2 * n6) 7 h) := key
  unfold sX10_mixRule
  rw [ck_n hr (by decide), nI_clamp (by omega), mix_e, ob_some, ck_n hr (by decide), mix_e, ob_some, ck_n hr (by decide), mix_e, ob_some, ck_n hr (by decide), mix_e, ob_some, ck_n hr (by decide), mix_e, ob_some, ck_n hr (by decide), mix_e, ob_some, ck_n hr (by decide), mix_e, ob_some, key', ob_some, mxf_add, a0, a1, a2, a3, a4, a5, a6]
  rfl
theorem rules_sync {S : Nat → Nat → Int32} {L : Nat → Nat → Int64} {M : Nat → Nat → Int32} {nc nt nr ny nq : Nat} (R : RelN S L M nc nt nr ny nq) : ∀ d r, r + d = nr → ∀ f1 f2, d < f1 → d < f2 → ∀ (h : Int64),
    ∃ h', lX10_digest_55 S L f1 h (nI r) = some h' ∧ lX11_digest_115 M f2 h (nI r) = some h' := by
  have b3 := R.1.2.2.1.2
  have e1 : S 2 0 = nI nr := R.2.2.1.1
  have e2 : M 1 2 = nI nr := R.1.2.2.1.1
  have k2 : ∀ (α : Type) (o : Option α), ck 2 994 o = o := fun α o => ck_n (j := 2) (by decide) (by decide)
  intro d
  induction d with
  | zero =>
    intro r hr f1 f2 h1 h2 h
    obtain ⟨f1, rfl⟩ : ∃ g, f1 = g + 1 := ⟨f1 - 1, by omega⟩
    obtain ⟨f2, rfl⟩ : ∃ g, f2 = g + 1 := ⟨f2 - 1, by omega⟩
    refine ⟨h, ?_, ?_⟩
    · rw [lX10_digest_55, e1, if_pos (nI_le (by omega) (by omega))]
    · rw [lX11_digest_115, k2, show (2 : Int32).toNatClampNeg = 2 from rfl, e2, if_pos (nI_le (by omega) (by omega))]
  | succ d ih =>
    intro r hr f1 f2 h1 h2 h
    obtain ⟨f1, rfl⟩ : ∃ g, f1 = g + 1 := ⟨f1 - 1, by omega⟩
    obtain ⟨f2, rfl⟩ : ∃ g, f2 = g + 1 := ⟨f2 - 1, by omega⟩
    have Rr := R.2.2.1.2.1 r (by omega)
    obtain ⟨n6, hn6, e6⟩ := Rr.2.2.2.2.2.2.1.2
    obtain ⟨h', z1, z2⟩ := ih (r + 1) (by omega) f1 f2 (by omega) (by omega) (mxf (fun x => M 1 (282 + 11 * r + x)) (7 + 2 * n6) 0 h)
    refine ⟨h', ?_, ?_⟩
    · rw [lX10_digest_55, e1, if_neg (nI_ge (by omega) (by omega)), x_mixRule (by omega) (by omega) Rr e6, ob_some, bnd_e, nI_1]
      exact z1
    · have ea : 282 + 11 * nI r = nI (282 + 11 * r) := by show nI 282 + nI 11 * nI r = _; rw [pk_mul, nI_add]
      have eb : 7 + 2 * nI n6 = nI (7 + 2 * n6) := by show nI 7 + nI 2 * nI n6 = _; rw [pk_mul, nI_add]
      rw [lX11_digest_115, k2, show (2 : Int32).toNatClampNeg = 2 from rfl, e2, if_neg (nI_ge (by omega) (by omega)), mr6 (by omega), ob_some, e6, ea, eb, m_mixed (by omega), ob_some, bnd_e, nI_1]
      exact z2
theorem x_treaties {S : Nat → Nat → Int32} {L : Nat → Nat → Int64} {M : Nat → Nat → Int32} {nc nt nr ny nq : Nat} (R : RelN S L M nc nt nr ny nq) : ∀ d j, j + d = ny → ∀ f, d < f → ∀ (h : Int64), lX10_digest_121 S L f h (nI j) = some (mxf (fun x => M 1 (958 + x)) (3 * d) (3 * j) h) := by
  have b4 := R.1.2.2.2.1.2
  have hY := R.2.2.2.2.2.1
  have e1 : S 4 0 = nI ny := hY.1
  intro d
  induction d with
  | zero =>
    intro j hj f h1 h
    obtain ⟨f, rfl⟩ : ∃ g, f = g + 1 := ⟨f - 1, by omega⟩
    rw [lX10_digest_121, e1, if_pos (nI_le (by omega) (by omega))]; rfl
  | succ d ih =>
    intro j hj f h1 h
    obtain ⟨f, rfl⟩ : ∃ g, f = g + 1 := ⟨f - 1, by omega⟩
    obtain ⟨⟨a0, -⟩, ⟨a1, -⟩, ⟨a2, -⟩⟩ := hY.2 j (by omega)
    have em : sX10_mixTreaty h (nI j) S L = some (mx (mx (mx h (M 1 (958 + 3 * j))) (M 1 (959 + 3 * j))) (M 1 (960 + 3 * j))) := by
      unfold sX10_mixTreaty
      rw [ck_n (by omega) (by decide), nI_clamp (by omega), mix_e, ob_some, ck_n (by omega) (by decide), mix_e, ob_some, ck_n (by omega) (by decide), mix_e, ob_some, a0, a1, a2]
    rw [lX10_digest_121, e1, if_neg (nI_ge (by omega) (by omega)), em, ob_some, bnd_e, nI_1, ih (j + 1) (by omega) f (by omega), show 3 * (d + 1) = 3 + 3 * d by omega, mxf_add]
    show some (mxf _ (3 * d) (3 * (j + 1)) _) = some (mxf _ (3 * d) (3 * j + 3) (mx (mx (mx h (M 1 (958 + 3 * j))) (M 1 (958 + (3 * j + 1)))) (M 1 (958 + (3 * j + 1 + 1)))))
    rw [show 3 * (j + 1) = 3 * j + 3 by omega, show 958 + (3 * j + 1) = 959 + 3 * j by omega, show 958 + (3 * j + 1 + 1) = 960 + 3 * j by omega]
theorem op_digest {S : Nat → Nat → Int32} {L : Nat → Nat → Int64} {M : Nat → Nat → Int32} (R : Rel S L M) : ∃ r S' L' M', sX10_digest S L = some (r, S', L') ∧ sX11_digest M = some (r, M') ∧ Rel S' L' M' := by
  obtain ⟨nc, nt, nr, ny, nq, hN⟩ := id R
  have b1 := hN.1.1.2
  have b3 := hN.1.2.2.1.2
  have b4 := hN.1.2.2.2.1.2
  have b5 := hN.1.2.2.2.2.2
  have c1 := x_counts R 397
  have c2 : sX11_mixed 397 0 5 M = some (mxf (M 1) 5 0 397) := by
    rw [show sX11_mixed 397 0 5 M = _ from m_mixed (p := 0) (n := 5) (by omega) 397, mxf_congr (g' := M 1) 5 0 397 (fun x _ _ => by rw [Nat.zero_add])]
  generalize mxf (M 1) 5 0 397 = h1 at c1 c2
  obtain ⟨h2, S2, L2, M2, s1, s2, s3, s4⟩ := cases_sync nc 0 (by omega) FU FU (by unfold FU; omega) (by unfold FU; omega) h1 S L M hN
  have s1' : lX10_digest_29 FU h1 0 S L = some (h2, S2, L2) := s1
  have s2' : lX11_digest_12 FU h1 0 M = some (h2, M2) := s2
  have R2 := hN.frame s3 s4
  obtain ⟨h3, r1, r2⟩ := rules_sync R2 nr 0 (by omega) FU FU (by unfold FU; omega) (by unfold FU; omega) h2
  have r1' : lX10_digest_55 S2 L2 FU h2 0 = some h3 := r1
  have r2' : lX11_digest_115 M2 FU h2 0 = some h3 := r2
  have hW := R2.2.2.2.2.1
  have hT := R2.2.2.2.2.2.2.1
  have t1 : ∀ h, lX10_digest_121 S2 L2 FU h 0 = some (mxf (fun x => M2 1 (958 + x)) (3 * ny) 0 h) := fun h => x_treaties R2 ny 0 (by omega) FU (by unfold FU; omega) h
  have e3 : M2 1 3 = nI ny := R2.1.2.2.2.1.1
  have e4 : M2 1 4 = nI nq := R2.1.2.2.2.2.1
  have e5 : S2 5 0 = nI nq := hT.1
  have k3 : ∀ (α : Type) (o : Option α), ck 3 994 o = o := fun α o => ck_n (j := 3) (by decide) (by decide)
  have k4 : ∀ (α : Type) (o : Option α), ck 4 994 o = o := fun α o => ck_n (j := 4) (by decide) (by decide)
  have e3' : 3 * nI ny = nI (3 * ny) := by show nI 3 * nI ny = _; rw [pk_mul]
  refine ⟨mxf (S2 34) nq 0 (mxf (fun x => M2 1 (958 + x)) (3 * ny) 0 (mxf (S2 30) 4 0 (mxf (S2 29) 12 0 h3))), S2, L2, M2, ?_, ?_, nc, nt, nr, ny, nq, R2⟩
  · unfold sX10_digest
    rw [c1, ob_some, s1', ob3_some, r1', ob_some, show sX10_mixAll_29 h3 12 S2 L2 = _ from x_all29 (n := 12) (by omega) h3, ob_some, show ∀ h, sX10_mixAll_30 h 4 S2 L2 = _ from fun h => x_all30 (n := 4) (by omega) h, ob_some, t1, ob_some, e5, x_all34 (by omega), ob_some]
  · unfold sX11_digest
    rw [c2, ob_some, s2', ob2_some, r2', ob_some, show sX11_mixed h3 942 12 M2 = _ from m_mixed (p := 942) (n := 12) (by omega) h3, ob_some, show ∀ h, sX11_mixed h 954 4 M2 = _ from fun h => m_mixed (p := 954) (n := 4) (by omega) h, ob_some, k3, show (3 : Int32).toNatClampNeg = 3 from rfl, e3, e3', show ∀ h, sX11_mixed h 958 (nI (3 * ny)) M2 = _ from fun h => m_mixed (p := 958) (by omega) h, ob_some, k4, show (4 : Int32).toNatClampNeg = 4 from rfl, e4, show ∀ h, sX11_mixed h 982 (nI nq) M2 = _ from fun h => m_mixed (p := 982) (by omega) h, ob_some,
      mxf_congr (g := fun x => M2 1 (942 + x)) (g' := S2 29) 12 0 h3 (fun x _ hx => (hW.1 x (by omega)).1.symm), mxf_congr (g := fun x => M2 1 (954 + x)) (g' := S2 30) 4 0 _ (fun x _ hx => (hW.2 x (by omega)).1.symm), mxf_congr (g := fun x => M2 1 (982 + x)) (g' := S2 34) nq 0 _ (fun x _ hx => (hT.2.1 x (by omega)).1.symm)]
