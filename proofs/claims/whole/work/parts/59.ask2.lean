-- ===== where to ask: the call =====
theorem ob4_some {A B C D R : Type} (a : A) (b : B) (c : C) (d : D) (f : A → B → C → D → Option R) : ob4 (some (a, b, c, d)) f = f a b c d := rfl
theorem m_ask_bad {M : Nat → Nat → Int32} {nc : Nat} (h0 : M 1 0 = nI nc) (hn : nc ≤ 16) (p1 p2 p3 p4 p5 : Int32) (h : Bad p1 nc ∨ Bad p2 3 ∨ Bad p3 4 ∨ Bad p4 64 ∨ Bad p5 3) : sX11_ask p1 p2 p3 p4 p5 M = some (-2, M) := by
  have nb : ∀ j n, j < n → n < 2 ^ 31 → ¬ Bad (nI j) n := fun j n hj hn q => q.elim (nI_pos (by omega)) (nI_ge hj hn)
  unfold sX11_ask
  rcases rg p1 (n := nc) (by omega) with ha | ⟨j, hj, rfl⟩
  · rw [show sX11_is 0 p1 M = some 0 from mIs_bad (c := 0) (by decide) h0 (by omega) ha, g0]
  rw [show sX11_is 0 (nI j) M = some 1 from mIs_ok (c := 0) (by decide) h0 (by omega) hj, g1]
  have h := h.resolve_left (nb j nc hj (by omega))
  rcases rg p2 (n := 3) (by decide) with ha | ⟨k, hk, rfl⟩
  · rw [mKind_bad ha, g0]
  rw [mKind_ok hk, g1]
  have h := h.resolve_left (nb k 3 hk (by decide))
  rcases rg p3 (n := 4) (by decide) with ha | ⟨w, hw, rfl⟩
  · rw [mLand_bad ha, g0]
  rw [mLand_ok hw, g1]
  have h := h.resolve_left (nb w 4 hw (by decide))
  rcases rg p4 (n := 64) (by decide) with ha | ⟨x, hx, rfl⟩
  · rw [show (63 : Int32) = nI 64 - 1 from rfl, in_bad (by decide) ha, g0]
  rw [show (63 : Int32) = nI 64 - 1 from rfl, in_ok hx (by decide), g1]
  have h := h.resolve_left (nb x 64 hx (by decide))
  rw [show (2 : Int32) = nI 3 - 1 from rfl, in_bad (by decide) h, g0]
theorem m_copy {p1 p2 p3 p4 p5 : Int32} : ∀ d t, t + d = 6 → ∀ f, d < f → ∀ M : Nat → Nat → Int32, ∃ M', lX11_ask_55 p1 p2 p3 p4 p5 f (nI t) M = some M' ∧ (∀ k, k ≠ 6 → M' k = M k) ∧ ∀ x, x < 6 → M' 6 x = if t ≤ x then M 2 x else M 6 x := by
  intro d
  induction d with
  | zero =>
    intro t ht f hf M
    obtain ⟨f, rfl⟩ : ∃ g, f = g + 1 := ⟨f - 1, by omega⟩
    refine ⟨M, ?_, fun _ _ => rfl, fun x hx => by rw [if_neg (by omega)]⟩
    rw [lX11_ask_55, if_pos (show (6 : Int32) ≤ nI t from nI_le (a := 6) (by omega) (by omega))]
  | succ d ih =>
    intro t ht f hf M
    obtain ⟨f, rfl⟩ : ∃ g, f = g + 1 := ⟨f - 1, by omega⟩
    obtain ⟨M', h1, h2, h3⟩ := ih (t + 1) (by omega) f (by omega) (qu2 M 6 t (M 2 t))
    refine ⟨M', ?_, fun k hk => (h2 k hk).trans (qu2_ne hk), fun x hx => ?_⟩
    · rw [lX11_ask_55, if_neg (show ¬ (6 : Int32) ≤ nI t from nI_ge (b := 6) (by omega) (by decide)), ck_n (by omega) (by decide), ck_n (by omega) (by decide), nI_clamp (by omega), bnd_e, bnd_e, nI_1]
      exact h1
    · rw [h3 x hx, qu2_ne (by decide), qu2_same]
      by_cases c : t + 1 ≤ x
      · rw [if_pos c, if_pos (by omega)]
      · rw [if_neg c]
        by_cases c2 : t ≤ x
        · rw [if_pos c2, show x = t by omega, pk_us]
        · rw [if_neg c2, pk_un (by omega)]
theorem op_ask {S : Nat → Nat → Int32} {L : Nat → Nat → Int64} {M : Nat → Nat → Int32} (R : Rel S L M) (p1 p2 p3 p4 p5 : Int32) : ∃ r S' L' M', sX10_ask p1 p2 p3 p4 p5 S L = some (r, S', L') ∧ sX11_ask p1 p2 p3 p4 p5 M = some (r, M') ∧ Rel S' L' M' := by
  obtain ⟨nc, nt, nr, ny, nq, hN⟩ := id R
  have hC := hN.1
  have b1 := hC.1.2
  have h1 : S 1 0 = nI nc := hN.2.1.1
  have bad := fun h => m_ask_bad hC.1.1 b1 p1 p2 p3 p4 p5 h
  rcases rg p3 (n := 4) (by decide) with ha | ⟨w, hw, rfl⟩
  · refine ⟨-2, S, L, M, ?_, bad (Or.inr (Or.inr (Or.inl ha))), R⟩
    unfold sX10_ask sX10_isQuestion; rw [xLand_bad ha, g0, g0]
  rcases rg p1 (n := nc) (by omega) with ha | ⟨c, hc, rfl⟩
  · refine ⟨-2, S, L, M, ?_, bad (Or.inl ha), R⟩
    unfold sX10_ask sX10_isQuestion; rw [xLand_ok hw, g1, xCase_bad h1 ha, g0, g0]
  rcases rg p2 (n := 3) (by decide) with ha | ⟨k, hk, rfl⟩
  · refine ⟨-2, S, L, M, ?_, bad (Or.inr (Or.inl ha)), R⟩
    unfold sX10_ask sX10_isQuestion; rw [xLand_ok hw, g1, xCase_ok h1 b1 hc, g1, xKind_bad ha, g0, g0]
  have q1 : sX10_isQuestion (nI w) (nI c) (nI k) S L = some 1 := by unfold sX10_isQuestion; rw [xLand_ok hw, g1, xCase_ok h1 b1 hc, g1, xKind_ok hk, g1]
  rcases rg p4 (n := 64) (by decide) with ha | ⟨fr, hfr, rfl⟩
  · refine ⟨-2, S, L, M, ?_, bad (Or.inr (Or.inr (Or.inr (Or.inl ha)))), R⟩
    unfold sX10_ask; rw [q1, g1, show (64 : Int32) = nI 64 from rfl, ib_bad ha, g0]
  rcases rg p5 (n := 3) (by decide) with ha | ⟨wh, hwh, rfl⟩
  · refine ⟨-2, S, L, M, ?_, bad (Or.inr (Or.inr (Or.inr (Or.inr ha)))), R⟩
    unfold sX10_ask; rw [q1, g1, show (64 : Int32) = nI 64 from rfl, ib_ok hfr (by decide), g1, show (3 : Int32) = nI 3 from rfl, ib_bad ha, g0]
  clear bad
  have m0 : sX11_is 0 (nI c) M = some 1 := mIs_ok (c := 0) (by decide) hC.1.1 (by omega) hc
  obtain ⟨Sx, Lx, M1, _, y1, _, hM1, _, y2, _, _, y4⟩ := look hN hc
  obtain ⟨M2, c1, c2, c3⟩ := m_copy (p1 := nI c) (p2 := nI k) (p3 := nI w) (p4 := nI fr) (p5 := nI wh) 6 0 (by omega) FU (by unfold FU; omega) M1
  have c1' : lX11_ask_55 (nI c) (nI k) (nI w) (nI fr) (nI wh) FU 0 M1 = some M2 := c1
  have hM2 : EqM M M2 := ⟨(c2 1 (by decide)).trans hM1.1, (c2 3 (by decide)).trans hM1.2⟩
  generalize hS3 : qu2 (qu2 (qu2 S 10 2 (-1)) 10 3 (-1)) 10 4 (-1) = S3
  have f3 : ∀ q, q ≠ 10 → S3 q = S q := fun q hq => by rw [← hS3, qu2_ne hq, qu2_ne hq, qu2_ne hq]
  have e3 : EqX S L S3 L := ⟨fun q hq => f3 q (fun e => by subst e; cases hq), fun _ _ => rfl⟩
  have q3 : S3 10 2 = -1 ∧ S3 10 3 = -1 ∧ S3 10 4 = -1 := ⟨by rw [← hS3, qu2_same, pk_un (by decide), qu2_same, pk_un (by decide), qu2_same, pk_us], by rw [← hS3, qu2_same, pk_un (by decide), qu2_same, pk_us], by rw [← hS3, qu2_same, pk_us]⟩
  have R3 := hN.frame e3 hM2
  have hd : M 1 (10 + 2 * c) = S 13 c := ((hN.2.1.2.2.1 c hc).1).symm
  obtain ⟨S4, L4, s1, s2, s3, s4⟩ := x_startF R3 (S3 13 c)
  have hq4 : AQ S4 (-1) 0 0 := by
    refine Or.inl ⟨rfl, ?_⟩
    rw [s4 10 (by decide)]; exact q3
  obtain ⟨fw, jd, nm, S5, L5, M5, z1, z2, z3, z4, z5⟩ := ask_sync (p5 := nI wh) hk hc hw hfr 15625 0 (by omega) FU FU (by unfold FU; omega) (by unfold FU; omega) (-1) 0 0 S4 L4 M2 hq4 (R3.frame s2 ⟨rfl, rfl⟩) s3 (by rw [c2 1 (by decide), hM1.1, hd, f3 13 (by decide)]) (fun t ht => by
    rw [c3 t ht, if_pos (Nat.zero_le _), y2 t ht, y4 t ht, s4 15 (by decide), f3 15 (by decide)])
  have z1' : lX1_search_34 (nI c) (nI k) (nI w) (nI fr) FU 0 S4 L4 = some (S5, L5) := z1
  have z2' : lX11_ask_94 (nI c) (nI k) (nI w) (nI fr) (nI wh) FU (-1) 0 0 0 M2 = some (fw, jd, nm, M5) := z2
  have R5 : Rel S5 L5 M5 := ⟨nc, nt, nr, ny, nq, hN.frame ((e3.tr s2).tr z3) ⟨z4.1.trans hM2.1, z4.2.trans hM2.2⟩⟩
  have hs : sX1_search (nI c) (nI k) (nI w) (nI fr) S L = some (S5, L5) := by
    unfold sX1_search
    rw [bnd_e, bnd_e, bnd_e, hS3, ck_n (by omega) (by decide), nI_clamp (by omega), s1, ob2_some, z1', ob2_some]
  have hx : sX10_ask (nI c) (nI k) (nI w) (nI fr) (nI wh) S L = (if nI wh = 0 then some (S5 10 2, S5, L5) else if nI wh = 1 then some (S5 10 3, S5, L5) else some (S5 10 4, S5, L5)) := by
    unfold sX10_ask
    rw [q1, g1, show sX10_isBelow (nI fr) 64 = some 1 from ib_ok hfr (by decide), g1, show sX10_isBelow (nI wh) 3 = some 1 from ib_ok hwh (by decide), g1, hs, ob2_some]
  have hm : sX11_ask (nI c) (nI k) (nI w) (nI fr) (nI wh) M = (if fw = -1 then some (-1, M5) else if nI wh = 0 then some (fw, M5) else if nI wh = 1 then some (jd, M5) else some (nm, M5)) := by
    unfold sX11_ask
    rw [m0, g1, mKind_ok hk, g1, mLand_ok hw, g1, show sX11_in (nI fr) 0 63 = some 1 from in_ok (n := 64) hfr (by decide), g1, show sX11_in (nI wh) 0 2 = some 1 from in_ok (n := 3) hwh (by decide), g1, y1, ob_some, c1', ob_some, z2', ob4_some]
  rw [hx, hm]
  rcases z5 with ⟨h, k2, k3, k4⟩ | ⟨h, k2, k3, k4⟩
  · rw [if_pos h, k2, k3, k4]
    refine ⟨-1, S5, L5, M5, ?_, rfl, R5⟩
    by_cases a1 : nI wh = 0
    · rw [if_pos a1]
    · rw [if_neg a1]
      by_cases a2 : nI wh = 1
      · rw [if_pos a2]
      · rw [if_neg a2]
  · rw [if_neg h, k2, k3, k4]
    by_cases a1 : nI wh = 0
    · rw [if_pos a1, if_pos a1]; exact ⟨fw, S5, L5, M5, rfl, rfl, R5⟩
    · rw [if_neg a1, if_neg a1]
      by_cases a2 : nI wh = 1
      · rw [if_pos a2, if_pos a2]; exact ⟨jd, S5, L5, M5, rfl, rfl, R5⟩
      · rw [if_neg a2, if_neg a2]; exact ⟨nm, S5, L5, M5, rfl, rfl, R5⟩
