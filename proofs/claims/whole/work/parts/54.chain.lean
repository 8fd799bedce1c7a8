theorem bit0 : ∀ m, m < 16 → ∀ a, a < 4 → ((nI m >>> (nI a &&& 31)) &&& 1 = 0 ↔ m.testBit a = false) := by decide +kernel
theorem cw_bd {e t : Nat → Nat} (hb : ∀ a, a < 4 → e a < 2 ∧ t a < 4) : ∀ n met a, a < 4 → (∀ x ∈ (cw e t n met a).1, x < 4) ∧ (cw e t n met a).2.1 < 2 ∧ (cw e t n met a).2.2 < 4
  | 0, _, a, ha => ⟨fun x hx => (by cases hx), (hb a ha).1, (hb a ha).2⟩
  | n + 1, met, a, ha => by
    by_cases h : e a = 0 ∨ met.testBit (t a) = true
    · rw [cw_stop h]; exact ⟨fun x hx => (by cases hx), (hb a ha).1, (hb a ha).2⟩
    · rw [cw_go h]
      have := cw_bd hb n (met ||| 2 ^ (t a)) (t a) (hb a ha).2
      exact ⟨fun x hx => (List.mem_cons.mp hx).elim (fun q => by rw [q]; exact (hb a ha).2) (fun q => this.1 x q), this.2⟩
theorem m_fcl {st ties : Nat → Int32} {day : Int32} {out : Nat → Bool} {nr ny k fr : Nat} (hk : k < 3) (hfr : fr + 5 ≤ 10) : ∀ n sz, sz + n = 4 → 1 ≤ sz → ∀ f, n + 1 < f → ∀ (M0 : Nat → Nat → Int32) (met a : Nat), MS M0 st ties day out nr ny → met < 16 → a < 4 → pc4 met = sz → M0 0 5 = nI sz →
    ∃ M', lX11_findChain_23 (nI k) (nI fr) f (nI met) (nI a) 1 M0 = some M' ∧ (∀ q, q ≠ 0 → q ≠ 4 → M' q = M0 q) ∧ M' 0 2 = M0 0 2 ∧ M' 0 5 = nI (sz + (cw (sE st ties day out nr k) (sT st ties day out nr k) n met a).1.length) ∧ (∀ i, (i < fr + sz ∨ fr + 5 ≤ i) → M' 4 i = M0 4 i) ∧
      (∀ i x, (cw (sE st ties day out nr k) (sT st ties day out nr k) n met a).1[i]? = some x → M' 4 (fr + sz + i) = nI x) ∧ M' 4 (fr + sz + (cw (sE st ties day out nr k) (sT st ties day out nr k) n met a).1.length) = nI (100 + (10 * (cw (sE st ties day out nr k) (sT st ties day out nr k) n met a).2.1 + (cw (sE st ties day out nr k) (sT st ties day out nr k) n met a).2.2)) := by
  intro n
  induction n with
  | zero =>
    intro sz hsz h1 f hf M0 met a hms hm ha hp e5
    obtain ⟨f, rfl⟩ : ∃ g, f = g + 1 := ⟨f - 1, by omega⟩
    obtain ⟨f, rfl⟩ : ∃ g, f = g + 1 := ⟨f - 1, by omega⟩
    have hse : sE st ties day out nr k a < 2 ∧ sT st ties day out nr k a < 4 := by
      rcases FR_spec (day := day) (out := out) (k := k) (a := a) hms.2.2.2.2.2.2.1 hms.2.2.1 with ⟨-, q2, q3⟩ | ⟨r, -, -, -, -, q4, q5⟩
      · rw [q2, q3]; exact ⟨by omega, ha⟩
      · exact ⟨q4, q5⟩
    obtain ⟨he, ht⟩ := hse
    have hbit := (bF met hm (sT st ties day out nr k a) ht).2.2.2.1 (by omega)
    have ix : nI fr + nI sz = nI (fr + sz) := nI_add fr sz
    have i100 : 100 + nI (10 * sE st ties day out nr k a + sT st ties day out nr k a) = nI (100 + (10 * sE st ties day out nr k a + sT st ties day out nr k a)) := nI_add 100 _
    refine ⟨qu2 M0 4 (fr + sz) (nI (100 + (10 * sE st ties day out nr k a + sT st ties day out nr k a))), ?_, fun q q0 q4 => qu2_ne q4, by rw [qu2_ne (by decide)], by rw [qu2_ne (by decide)]; exact e5, fun i hi => by rw [qu2_same, pk_un (by omega)], fun i x hx => (by cases hx), by rw [qu2_same]; exact pk_us⟩
    rw [lX11_findChain_23, if_neg (by decide), m_saying hms ha hk, ob_some, irm10 he ht, bnd_e]
    by_cases c : sE st ties day out nr k a = 0
    · rw [if_pos ((lt10 he ht).mpr c), e5, ix, ck_n (by omega) (by decide), nI_clamp (by omega), i100, bnd_e, lX11_findChain_23, if_pos rfl]
    · rw [if_neg (fun q => c ((lt10 he ht).mp q)), if_neg (fun q => by rw [bit0 met hm _ ht, hbit] at q; cases q), e5, ix, ck_n (by omega) (by decide), nI_clamp (by omega), i100, bnd_e, lX11_findChain_23, if_pos rfl]
  | succ n ih =>
    intro sz hsz h1 f hf M0 met a hms hm ha hp e5
    obtain ⟨f, rfl⟩ : ∃ g, f = g + 1 := ⟨f - 1, by omega⟩
    have hse : sE st ties day out nr k a < 2 ∧ sT st ties day out nr k a < 4 := by
      rcases FR_spec (day := day) (out := out) (k := k) (a := a) hms.2.2.2.2.2.2.1 hms.2.2.1 with ⟨-, q2, q3⟩ | ⟨r, -, -, -, -, q4, q5⟩
      · rw [q2, q3]; exact ⟨by omega, ha⟩
      · exact ⟨q4, q5⟩
    obtain ⟨he, ht⟩ := hse
    have ix : nI fr + nI sz = nI (fr + sz) := nI_add fr sz
    by_cases hstop : sE st ties day out nr k a = 0 ∨ met.testBit (sT st ties day out nr k a) = true
    · obtain ⟨f, rfl⟩ : ∃ g, f = g + 1 := ⟨f - 1, by omega⟩
      have i100 : 100 + nI (10 * sE st ties day out nr k a + sT st ties day out nr k a) = nI (100 + (10 * sE st ties day out nr k a + sT st ties day out nr k a)) := nI_add 100 _
      rw [cw_stop hstop]
      refine ⟨qu2 M0 4 (fr + sz) (nI (100 + (10 * sE st ties day out nr k a + sT st ties day out nr k a))), ?_, fun q q0 q4 => qu2_ne q4, by rw [qu2_ne (by decide)], by rw [qu2_ne (by decide)]; exact e5, fun i hi => by rw [qu2_same, pk_un (by omega)], fun i x hx => (by simp at hx), by rw [qu2_same]; exact pk_us⟩
      rw [lX11_findChain_23, if_neg (by decide), m_saying hms ha hk, ob_some, irm10 he ht, bnd_e]
      by_cases c : sE st ties day out nr k a = 0
      · rw [if_pos ((lt10 he ht).mpr c), e5, ix, ck_n (by omega) (by decide), nI_clamp (by omega), i100, bnd_e, lX11_findChain_23, if_pos rfl]
      · rw [if_neg (fun q => c ((lt10 he ht).mp q)), if_neg (fun q => by rw [bit0 met hm _ ht, hstop.resolve_left c] at q; cases q), e5, ix, ck_n (by omega) (by decide), nI_clamp (by omega), i100, bnd_e, lX11_findChain_23, if_pos rfl]
    · have c : ¬ sE st ties day out nr k a = 0 := fun q => hstop (Or.inl q)
      have hb : met.testBit (sT st ties day out nr k a) = false := ts_nt' (fun q => hstop (Or.inr q))
      obtain ⟨f1, f2, f3, -⟩ := bF met hm (sT st ties day out nr k a) ht
      rw [cw_go hstop]
      obtain ⟨M', z1, z2, z3, z4, z5, z6, z7⟩ := ih (sz + 1) (by omega) (by omega) f (by omega) (qu2 (qu2 M0 4 (fr + sz) (nI (sT st ties day out nr k a))) 0 5 (nI (sz + 1))) (met ||| 2 ^ (sT st ties day out nr k a)) (sT st ties day out nr k a)
        (hms.frame (by rw [qu2_ne (by decide), qu2_ne (by decide)]) (by rw [qu2_ne (by decide), qu2_ne (by decide)]) (by rw [qu2_ne (by decide), qu2_ne (by decide)]) (by rw [qu2_same, pk_un (by decide), qu2_ne (by decide)])) f2 ht (by rw [f3 hb]; omega) (by rw [qu2_same, pk_us])
      refine ⟨M', ?_, fun q q0 q4 => by rw [z2 q q0 q4, qu2_ne q0, qu2_ne q4], by rw [z3, qu2_same, pk_un (by decide), qu2_ne (by decide)], ?_, fun i hi => by rw [z5 i (by omega), qu2_ne (by decide), qu2_same, pk_un (by omega)], fun i x hx => ?_, ?_⟩
      · rw [lX11_findChain_23, if_neg (by decide), m_saying hms ha hk, ob_some, irm10 he ht, bnd_e, if_neg (fun q => c ((lt10 he ht).mp q)), if_pos ((bit0 met hm _ ht).mpr hb), e5, ix, ck_n (by omega) (by decide), nI_clamp (by omega), bnd_e, qu2_ne (show 0 ≠ 4 by decide), e5, nI_1, bnd_e, f1, bnd_e]
        exact z1
      · rw [z4]; congr 1; show sz + 1 + _ = sz + (_ + 1); omega
      · cases i with
        | zero =>
          have : sT st ties day out nr k a = x := by simpa using hx
          rw [Nat.add_zero, z5 (fr + sz) (by omega), qu2_ne (by decide), qu2_same, pk_us, this]
        | succ i =>
          have := z6 i x (by simpa using hx)
          rw [show fr + sz + (i + 1) = fr + (sz + 1) + i by omega]
          exact this
      · show M' 4 (fr + sz + (_ + 1)) = _
        rw [← z7]; congr 1; omega
theorem m_findChain {M : Nat → Nat → Int32} {st ties : Nat → Int32} {day : Int32} {out : Nat → Bool} {nr ny k a fr : Nat} (hms : MS M st ties day out nr ny) (hk : k < 3) (ha : a < 4) (hfr : fr + 5 ≤ 10) :
    ∃ M', sX11_findChain (nI a) (nI k) (nI fr) M = some M' ∧ (∀ q, q ≠ 0 → q ≠ 4 → M' q = M q) ∧ M' 0 2 = M 0 2 ∧ M' 0 5 = nI (1 + (cw (sE st ties day out nr k) (sT st ties day out nr k) 3 (2 ^ a) a).1.length) ∧ (∀ i, (i < fr ∨ fr + 5 ≤ i) → M' 4 i = M 4 i) ∧
      (∀ i x, (a :: (cw (sE st ties day out nr k) (sT st ties day out nr k) 3 (2 ^ a) a).1)[i]? = some x → M' 4 (fr + i) = nI x) ∧ M' 4 (fr + (1 + (cw (sE st ties day out nr k) (sT st ties day out nr k) 3 (2 ^ a) a).1.length)) = nI (100 + (10 * (cw (sE st ties day out nr k) (sT st ties day out nr k) 3 (2 ^ a) a).2.1 + (cw (sE st ties day out nr k) (sT st ties day out nr k) 3 (2 ^ a) a).2.2)) := by
  obtain ⟨-, -, -, -, f5, f6, f7⟩ := bF 0 (by decide) a ha
  obtain ⟨M', z1, z2, z3, z4, z5, z6, z7⟩ := m_fcl (st := st) (ties := ties) (day := day) (out := out) (nr := nr) (ny := ny) (k := k) (fr := fr) hk hfr 3 1 (by omega) (by omega) FU (by unfold FU; omega) (qu2 (qu2 M 0 5 1) 4 fr (nI a)) (2 ^ a) a
    (hms.frame (by rw [qu2_ne (by decide), qu2_ne (by decide)]) (by rw [qu2_ne (by decide), qu2_ne (by decide)]) (by rw [qu2_ne (by decide), qu2_ne (by decide)]) (by rw [qu2_ne (by decide), qu2_same, pk_un (by decide)])) f6 ha f7 (by rw [qu2_ne (by decide), qu2_same, pk_us]; rfl)
  refine ⟨M', ?_, fun q q0 q4 => by rw [z2 q q0 q4, qu2_ne q4, qu2_ne q0], by rw [z3, qu2_ne (by decide), qu2_same, pk_un (by decide)], z4, fun i hi => by rw [z5 i (by omega), qu2_same, pk_un (by omega), qu2_ne (by decide)], fun i x hx => ?_, by rw [← z7]; congr 1; omega⟩
  · unfold sX11_findChain
    rw [f5, bnd_e, bnd_e, ck_n (by omega) (by decide), nI_clamp (by omega), bnd_e, z1, ob_some]
  · cases i with
    | zero =>
      have : a = x := by simpa using hx
      rw [Nat.add_zero, z5 fr (by omega), qu2_same, pk_us, this]
    | succ i =>
      have := z6 i x (by simpa using hx)
      rw [show fr + (i + 1) = fr + 1 + i by omega]
      exact this
/-- what stands at a place of a chain -/
def sv (a : Nat) (q : List Nat × Nat × Nat) (m : Nat) : Int32 := match (a :: q.1)[m]? with
  | some x => nI x
  | none => if m = 1 + q.1.length then nI (100 + (10 * q.2.1 + q.2.2)) else -1
theorem ge_m1 {m : Nat} (hm : m < 2 ^ 31) : nI m ≠ -1 := by
  intro e
  have e2 : (nI m).toInt = (-1 : Int32).toInt := by rw [e]
  rw [nI_toInt hm] at e2
  have e3 : (-1 : Int32).toInt = -1 := rfl
  omega
theorem op_chain {S : Nat → Nat → Int32} {L : Nat → Nat → Int64} {M : Nat → Nat → Int32} (R : Rel S L M) (a b c d : Int32) : ∃ r S' L' M', sX10_chain a b c d S L = some (r, S', L') ∧ sX11_chain a b c d M = some (r, M') ∧ Rel S' L' M' := by
  obtain ⟨nc, nt, nr, ny, nq, hN⟩ := id R
  rcases quest hN a b c with ⟨q1, q2⟩ | ⟨i, j, l, ⟨hi, rfl⟩, ⟨hj, rfl⟩, ⟨hl, rfl⟩, q1, q2⟩
  · refine ⟨-10, S, L, M, ?_, ?_, R⟩
    · unfold sX10_chain; rw [q1, g0]
    · unfold sX11_chain; rw [q2, g0]
  obtain ⟨S', L', M', ties, day, x1, m1, hX, hM, hms, hxs, hHS, h65⟩ := hearAt hN hj hl
  obtain ⟨S2, y1, y2, y3, y4, y5, y6, y7⟩ := follow_11 (L := L') hHS hi
  obtain ⟨M2, z1, z2, z3, z4, z5, z6, z7⟩ := m_findChain (fr := 0) hms hl hi (by omega)
  have hlen := cw_len (e := sE (M 1) ties day (fun _ => false) nr l) (t := sT (M 1) ties day (fun _ => false) nr l) 3 (2 ^ i) i
  have hbd := cw_bd hHS.1 3 (2 ^ i) i hi
  generalize cw (sE (M 1) ties day (fun _ => false) nr l) (sT (M 1) ties day (fun _ => false) nr l) 3 (2 ^ i) i = q at *
  have hX2 : EqX S' L' S2 L' := ⟨fun p hp => y2 p (fun e => by subst e; cases hp) (fun e => by subst e; cases hp), fun _ _ => rfl⟩
  have hM2 : EqM M M2 := ⟨(z2 1 (by decide) (by decide)).trans hM.1, (z2 3 (by decide) (by decide)).trans hM.2⟩
  have hRel : Rel S2 L' M2 := ⟨nc, nt, nr, ny, nq, hN.frame (hX.tr hX2) hM2⟩
  have z1' : sX11_findChain (nI i) (nI l) 0 M' = some M2 := z1
  rcases Classical.em (d < 0) with hneg | hneg
  · have n0 : ¬ (0 : Int32) ≤ d := lt_nle32 hneg
    by_cases d1 : d = -1
    · subst d1
      refine ⟨nI (1 + q.1.length), S2, L', M2, ?_, ?_, hRel⟩
      · unfold sX10_chain; rw [q1, g1, if_neg n0, if_pos rfl, x1, ob2_some, y1, ob2_some, if_pos rfl, y3]
      · unfold sX11_chain; rw [q2, g1, if_pos (by decide), m1, ob_some, z1', ob_some, if_neg n0, if_pos rfl, z4]
    · by_cases d3 : d = -3
      · subst d3
        refine ⟨nI (10 * q.2.1 + q.2.2), S2, L', M2, ?_, ?_, hRel⟩
        · unfold sX10_chain
          rw [q1, g1, if_neg n0, if_neg d1, if_pos rfl, x1, ob2_some, y1, ob2_some, if_neg (by decide), if_pos rfl, y4, y5]
          show some (nI 10 * nI _ + nI _, _, _) = _
          rw [pk_mul, nI_add]
        · unfold sX11_chain
          rw [q2, g1, if_neg (by decide), if_pos rfl, m1, ob_some, z1', ob_some, if_neg n0, if_neg (by decide), z4, ck_n (by omega) (by decide), nI_clamp (by omega)]
          rw [Nat.zero_add] at z7
          rw [z7]
          show some (nI (100 + _) - nI 100, _) = _
          rw [pk_sub (by omega), Nat.add_sub_cancel_left]
      · refine ⟨-10, S, L, M, ?_, ?_, R⟩
        · unfold sX10_chain; rw [q1, g1, if_neg n0, if_neg d1, if_neg d3]
        · have nm : ¬ (-1 : Int32) ≤ d := by
            intro h
            rw [Int32.le_iff_toInt_le] at h
            rw [Int32.lt_iff_toInt_lt] at hneg
            have e1 : (-1 : Int32).toInt = -1 := rfl
            have e2 : (0 : Int32).toInt = 0 := rfl
            apply d1
            rw [← Int32.toInt_inj]
            omega
          unfold sX11_chain; rw [q2, g1, if_neg nm, if_neg d3]
  · obtain ⟨m, hm, rfl⟩ := nI_of hneg
    have p0 : (0 : Int32) ≤ nI m := nI_pos' hm
    have pm : (-1 : Int32) ≤ nI m := by
      rw [Int32.le_iff_toInt_le, nI_toInt hm]
      show (-1 : Int) ≤ _
      omega
    have n3 : ¬ nI m = -3 := by
      intro e
      have e2 : (nI m).toInt = (-3 : Int32).toInt := by rw [e]
      rw [nI_toInt hm] at e2
      have e3 : (-3 : Int32).toInt = -3 := rfl
      omega
    by_cases hlt : 1 + q.1.length ≤ m
    · refine ⟨-5, S2, L', M2, ?_, ?_, hRel⟩
      · unfold sX10_chain; rw [q1, g1, if_pos p0, x1, ob2_some, y1, ob2_some, if_neg (ge_m1 hm), if_neg n3, y3, if_pos (nI_le hlt hm)]
      · unfold sX11_chain; rw [q2, g1, if_pos pm, m1, ob_some, z1', ob_some, if_pos p0, z4, if_pos (nI_le hlt hm)]
    · obtain ⟨x, hx⟩ : ∃ x, (i :: q.1)[m]? = some x := by
        have : m < (i :: q.1).length := by show m < q.1.length + 1; omega
        exact ⟨_, List.getElem?_eq_getElem this⟩
      have hX41 : S2 41 m = nI x := by
        cases m with
        | zero =>
          have : i = x := by simpa using hx
          rw [y6, this]
        | succ m =>
          have := y7 m x (by simpa using hx)
          rw [← this]; congr 1; omega
      have hM4 : M2 4 m = nI x := by have := z6 m x hx; rwa [Nat.zero_add] at this
      refine ⟨nI x, S2, L', M2, ?_, ?_, hRel⟩
      · unfold sX10_chain; rw [q1, g1, if_pos p0, x1, ob2_some, y1, ob2_some, if_neg (ge_m1 hm), if_neg n3, y3, if_neg (nI_ge (by omega) (by omega)), ck_n (by omega) (by decide), nI_clamp hm, hX41]
      · unfold sX11_chain; rw [q2, g1, if_pos pm, m1, ob_some, z1', ob_some, if_pos p0, z4, if_neg (nI_ge (by omega) (by omega)), ck_n (by omega) (by decide), nI_clamp hm, hM4]
theorem sv_in {a m x : Nat} {q : List Nat × Nat × Nat} (h : (a :: q.1)[m]? = some x) : sv a q m = nI x := by unfold sv; rw [h]
theorem sv_end {a : Nat} {q : List Nat × Nat × Nat} : sv a q (1 + q.1.length) = nI (100 + (10 * q.2.1 + q.2.2)) := by
  unfold sv
  rw [List.getElem?_eq_none (by show q.1.length + 1 ≤ _; omega), if_pos rfl]
theorem sv_out {a m : Nat} {q : List Nat × Nat × Nat} (h : 1 + q.1.length < m) : sv a q m = -1 := by
  unfold sv
  rw [List.getElem?_eq_none (by show q.1.length + 1 ≤ _; omega), if_neg (by omega)]
theorem sv_get {a m : Nat} {q : List Nat × Nat × Nat} (h : m < 1 + q.1.length) : ∃ x, (a :: q.1)[m]? = some x := by
  have : m < (a :: q.1).length := by show m < q.1.length + 1; omega
  exact ⟨_, List.getElem?_eq_getElem this⟩
theorem x_step {C K : Nat} {S : Nat → Nat → Int32} {a m : Nat} {q : List Nat × Nat × Nat} (hq : q.1.length ≤ 3) (hm : m ≤ 4) (y3 : S C 1 = nI (1 + q.1.length)) (y4 : S C 2 = nI q.2.1) (y5 : S C 3 = nI q.2.2) (y6 : S K 0 = nI a) (y7 : ∀ i x, q.1[i]? = some x → S K (1 + i) = nI x) :
    (if S C 1 ≤ nI m then if nI m = S C 1 then some ((100 + 10 * S C 2) + S C 3) else some (-1) else ck (nI m) 4 (some (S K (nI m).toNatClampNeg))) = some (sv a q m) := by
  rw [y3, y4, y5, nI_clamp (by omega)]
  by_cases h1 : 1 + q.1.length ≤ m
  · rw [if_pos (nI_le h1 (by omega))]
    by_cases h2 : m = 1 + q.1.length
    · subst h2
      rw [if_pos rfl, sv_end]
      show some (nI 100 + nI 10 * nI _ + nI _) = _
      rw [pk_mul, nI_add, nI_add, Nat.add_assoc]
    · rw [if_neg (fun e => h2 ((nI_eq (by omega) (by omega)).mp e)), sv_out (by omega)]
  · rw [if_neg (nI_ge (by omega) (by omega)), ck_n (by omega) (by decide)]
    obtain ⟨x, hx⟩ := sv_get (a := a) (q := q) (m := m) (by omega)
    rw [sv_in hx]
    cases m with
    | zero =>
      have : a = x := by simpa using hx
      rw [y6, this]
    | succ m =>
      have := y7 m x (by simpa using hx)
      rw [show m + 1 = 1 + m by omega, this]
theorem op_parts {S : Nat → Nat → Int32} {L : Nat → Nat → Int64} {M : Nat → Nat → Int32} (R : Rel S L M) (a b c d : Int32) : ∃ r S' L' M', sX10_parts a b c d S L = some (r, S', L') ∧ sX11_parts a b c d M = some (r, M') ∧ Rel S' L' M' := by
  obtain ⟨nc, nt, nr, ny, nq, hN⟩ := id R
  rcases quest hN a c d with ⟨q1, q2⟩ | ⟨i, j, l, ⟨hi, rfl⟩, ⟨hj, rfl⟩, ⟨hl, rfl⟩, q1, q2⟩
  · refine ⟨-2, S, L, M, ?_, ?_, R⟩
    · unfold sX10_parts; rw [q1, g0]
    · unfold sX11_parts; rw [q2, g0]
  rcases rg b (n := 4) (by decide) with hb | ⟨i2, hi2, rfl⟩
  · refine ⟨-2, S, L, M, ?_, ?_, R⟩
    · unfold sX10_parts sX10_isOther; rw [q1, g1, xLand_bad hb, g0, g0]
    · unfold sX11_parts; rw [q2, g1, mLand_bad hb, g0]
  by_cases hne : nI i = nI i2
  · refine ⟨-2, S, L, M, ?_, ?_, R⟩
    · unfold sX10_parts sX10_isOther; rw [q1, g1, xLand_ok hi2, g1, if_pos hne, g0]
    · unfold sX11_parts; rw [q2, g1, mLand_ok hi2, g1, if_pos hne]
  obtain ⟨S', L', M', ties, day, x1, m1, hX, hM, hms, hxs, hHS, h65⟩ := hearAt hN hj hl
  obtain ⟨S2, y1, y2, y3, y4, y5, y6, y7⟩ := follow_11 (L := L') hHS hi
  have hHS2 : HS S2 (sE (M 1) ties day (fun _ => false) nr l) (sT (M 1) ties day (fun _ => false) nr l) := ⟨hHS.1, fun b hb => by rw [y2 36 (by decide) (by decide), y2 37 (by decide) (by decide)]; exact hHS.2 b hb⟩
  obtain ⟨S3, w1, w2, w3, w4, w5, w6, w7⟩ := follow_12 (L := L') hHS2 hi2
  obtain ⟨M2, z1, z2, z3, z4, z5, z6, z7⟩ := m_findChain (fr := 0) hms hl hi (by omega)
  have hms2 : MS M2 (M 1) ties day (fun _ => false) nr ny := hms.frame (z2 1 (by decide) (by decide)) (z2 2 (by decide) (by decide)) (z2 3 (by decide) (by decide)) z3
  obtain ⟨M3, v1, v2, v3, v4, v5, v6, v7⟩ := m_findChain (fr := 5) hms2 hl hi2 (by omega)
  have len1 := cw_len (e := sE (M 1) ties day (fun _ => false) nr l) (t := sT (M 1) ties day (fun _ => false) nr l) 3 (2 ^ i) i
  have len2 := cw_len (e := sE (M 1) ties day (fun _ => false) nr l) (t := sT (M 1) ties day (fun _ => false) nr l) 3 (2 ^ i2) i2
  have bd1 := cw_bd hHS.1 3 (2 ^ i) i hi
  have bd2 := cw_bd hHS.1 3 (2 ^ i2) i2 hi2
  generalize cw (sE (M 1) ties day (fun _ => false) nr l) (sT (M 1) ties day (fun _ => false) nr l) 3 (2 ^ i) i = qa at *
  generalize cw (sE (M 1) ties day (fun _ => false) nr l) (sT (M 1) ties day (fun _ => false) nr l) 3 (2 ^ i2) i2 = qb at *
  have s11 : ∀ m, m ≤ 4 → sX3_step_11 (nI m) S3 L' = some (sv i qa m) := fun m hm => by
    unfold sX3_step_11
    exact x_step (C := 11) (K := 41) len1 hm (by rw [w2 11 (by decide) (by decide)]; exact y3) (by rw [w2 11 (by decide) (by decide)]; exact y4) (by rw [w2 11 (by decide) (by decide)]; exact y5) (by rw [w2 41 (by decide) (by decide)]; exact y6) (fun p x hx => by rw [w2 41 (by decide) (by decide)]; exact y7 p x hx)
  have s12 : ∀ m, m ≤ 4 → sX3_step_12 (nI m) S3 L' = some (sv i2 qb m) := fun m hm => by
    unfold sX3_step_12
    exact x_step (C := 12) (K := 42) len2 hm w3 w4 w5 w6 w7
  have ma : ∀ m, m ≤ 1 + qa.1.length → M3 4 m = sv i qa m := fun m hm => by
    rw [v5 m (by omega)]
    by_cases e : m = 1 + qa.1.length
    · subst e; rw [sv_end]; rw [Nat.zero_add] at z7; exact z7
    · obtain ⟨x, hx⟩ := sv_get (a := i) (q := qa) (m := m) (by omega)
      rw [sv_in hx]; have := z6 m x hx; rwa [Nat.zero_add] at this
  have mb : ∀ m, m ≤ 1 + qb.1.length → M3 4 (5 + m) = sv i2 qb m := fun m hm => by
    by_cases e : m = 1 + qb.1.length
    · subst e; rw [sv_end]; exact v7
    · obtain ⟨x, hx⟩ := sv_get (a := i2) (q := qb) (m := m) (by omega)
      rw [sv_in hx]; exact v6 m x hx
  have X : ∀ dd m, m + dd = 5 → ∀ f, dd < f → lX10_parts_56 S3 L' f (nI m) = some (match fsI (fun p => !decide (sv i qa p = sv i2 qb p)) dd m with | none => .inr () | some p => .inl (nI p)) := by
    intro dd
    induction dd with
    | zero =>
      intro m hm f hf
      obtain ⟨f, rfl⟩ : ∃ g, f = g + 1 := ⟨f - 1, by omega⟩
      rw [lX10_parts_56, if_pos (show (4 : Int32) < nI m from nI_lt (a := 4) (by omega) (by omega))]; rfl
    | succ dd ih =>
      intro m hm f hf
      obtain ⟨f, rfl⟩ : ∃ g, f = g + 1 := ⟨f - 1, by omega⟩
      have eU : fsI (fun p => !decide (sv i qa p = sv i2 qb p)) (dd + 1) m = if (!decide (sv i qa m = sv i2 qb m)) = true then some m else fsI (fun p => !decide (sv i qa p = sv i2 qb p)) dd (m + 1) := rfl
      rw [lX10_parts_56, if_neg (show ¬ (4 : Int32) < nI m from nI_nlt (a := 4) (by omega) (by omega)), s11 m (by omega), ob_some, s12 m (by omega), ob_some, eU]
      by_cases e : sv i qa m = sv i2 qb m
      · rw [if_pos e, bnd_e, nI_1, ih (m + 1) (by omega) f (by omega), if_neg (by simp [e])]
      · rw [if_neg e, if_pos (by simp [e])]
  have Y : ∀ dd m, m + dd = 5 → 1 ≤ m → m ≤ 1 + qa.1.length → m ≤ 1 + qb.1.length → ∀ f, dd < f → ∀ {β : Type} (g : Int32 → Option β) (h : Option β), os3 (lX11_parts_50 M3 f (nI m)) g (fun _ => h) (fun _ => h) = (match fsI (fun p => !decide (sv i qa p = sv i2 qb p)) dd m with | none => h | some p => g (nI p)) := by
    intro dd
    induction dd with
    | zero => intro m hm h0 h1 h2; omega
    | succ dd ih =>
      intro m hm h0 h1 h2 f hf β g h
      obtain ⟨f, rfl⟩ : ∃ g, f = g + 1 := ⟨f - 1, by omega⟩
      have eU : fsI (fun p => !decide (sv i qa p = sv i2 qb p)) (dd + 1) m = if (!decide (sv i qa m = sv i2 qb m)) = true then some m else fsI (fun p => !decide (sv i qa p = sv i2 qb p)) dd (m + 1) := rfl
      rw [lX11_parts_50, if_neg (show ¬ (5 : Int32) ≤ nI m from nI_ge (b := 5) (by omega) (by decide)), ck_n (by omega) (by decide), show (5 : Int32) + nI m = nI (5 + m) from nI_add 5 m, ck_n (by omega) (by decide), nI_clamp (by omega), nI_clamp (by omega), ma m h1, mb m h2, eU]
      by_cases e : sv i qa m = sv i2 qb m
      · have ne : ¬ (!decide (sv i qa m = sv i2 qb m)) = true := by simp [e]
        rw [if_pos e, ck_n (by omega) (by decide), if_neg ne]
        by_cases ha : m = 1 + qa.1.length
        · have ea : sv i qa m = nI (100 + (10 * qa.2.1 + qa.2.2)) := by rw [ha]; exact sv_end
          have hbm : m = 1 + qb.1.length := by
            apply Classical.byContradiction
            intro hn
            obtain ⟨x, hx⟩ := sv_get (a := i2) (q := qb) (m := m) (by omega)
            have hx4 : x < 4 := by
              rcases List.mem_cons.mp (List.mem_of_getElem? hx) with r | r
              · omega
              · exact bd2.1 x r
            rw [ea, sv_in hx] at e
            have := (nI_eq (by omega) (by omega)).mp e
            omega
          rw [ea, if_neg (show ¬ nI (100 + (10 * qa.2.1 + qa.2.2)) < 100 from nI_nlt (b := 100) (by omega) (by omega)), fsI_none (fun p p1 p2 => by rw [sv_out (show 1 + qa.1.length < p by omega), sv_out (show 1 + qb.1.length < p by omega)]; rfl)]
          rfl
        · obtain ⟨x, hx⟩ := sv_get (a := i) (q := qa) (m := m) (by omega)
          have hx4 : x < 4 := by
            rcases List.mem_cons.mp (List.mem_of_getElem? hx) with r | r
            · omega
            · exact bd1.1 x r
          have hbm : m ≠ 1 + qb.1.length := by
            intro hn
            rw [sv_in hx, show sv i2 qb m = nI (100 + (10 * qb.2.1 + qb.2.2)) by rw [hn]; exact sv_end] at e
            have := (nI_eq (by omega) (by omega)).mp e
            omega
          rw [sv_in hx, if_pos (show nI x < 100 from nI_lt (b := 100) (by omega) (by decide)), bnd_e, nI_1]
          by_cases hd : dd = 0
          · subst hd
            exfalso
            omega
          · exact ih (m + 1) (by omega) (by omega) (by omega) (by omega) f (by omega) g h
      · rw [if_neg e, if_pos (by simp [e])]; rfl
  have hX2 : EqX S' L' S3 L' := ⟨fun p hp => (w2 p (fun e => by subst e; cases hp) (fun e => by subst e; cases hp)).trans (y2 p (fun e => by subst e; cases hp) (fun e => by subst e; cases hp)), fun _ _ => rfl⟩
  have hM2 : EqM M M3 := ⟨(v2 1 (by decide) (by decide)).trans ((z2 1 (by decide) (by decide)).trans hM.1), (v2 3 (by decide) (by decide)).trans ((z2 3 (by decide) (by decide)).trans hM.2)⟩
  refine ⟨(match fsI (fun p => !decide (sv i qa p = sv i2 qb p)) 4 1 with | none => 0 | some p => nI p), S3, L', M3, ?_, ?_, nc, nt, nr, ny, nq, hN.frame (hX.tr hX2) hM2⟩
  · unfold sX10_parts sX10_isOther
    rw [q1, g1, xLand_ok hi2, g1, if_neg hne, g1, x1, ob2_some, y1, ob2_some, w1, ob2_some, show lX10_parts_56 S3 L' FU 1 = _ from X 4 1 (by omega) FU (by unfold FU; omega)]
    cases fsI (fun p => !decide (sv i qa p = sv i2 qb p)) 4 1 <;> rfl
  · unfold sX11_parts
    rw [q2, g1, mLand_ok hi2, g1, if_neg hne, m1, ob_some, show sX11_findChain (nI i) (nI l) 0 M' = some M2 from z1, ob_some, show sX11_findChain (nI i2) (nI l) 5 M2 = some M3 from v1, ob_some]
    have := Y 4 1 (by omega) (by omega) (by omega) (by omega) FU (by unfold FU; omega) (fun w23 => some (w23, M3)) (some (0, M3))
    rw [show lX11_parts_50 M3 FU 1 = lX11_parts_50 M3 FU (nI 1) from rfl, this]
    cases fsI (fun p => !decide (sv i qa p = sv i2 qb p)) 4 1 <;> rfl
