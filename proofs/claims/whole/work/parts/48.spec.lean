-- ===== what is asked of a CASE, over the reference's row st =====
def p_stands (st : Nat → Int32) (day : Int32) (r : Nat) : Bool := decide (rl st r 4 ≤ day) && (decide (rl st r 5 = -1) || decide (day < rl st r 5))
def p_endOf (st ties : Nat → Int32) (r : Nat) : Int32 := if rl st r 3 = 0 then rl st r 0 else if 5 ≤ rl st r 3 then ties (rl st r 3 - 5).toNatClampNeg else rl st r 3 - 1
def p_isSo (ties : Nat → Int32) (land tie what : Int32) : Bool :=
  if 4 ≤ what then (if 8 ≤ what then (!decide (ties tie.toNatClampNeg = -1) && decide (ties tie.toNatClampNeg = ties (what - 8).toNatClampNeg)) else decide (ties tie.toNatClampNeg = what - 4))
  else if what = 0 then !decide (ties tie.toNatClampNeg = -1) else if what = 1 then decide (ties tie.toNatClampNeg = -1) else if what = 2 then decide (ties tie.toNatClampNeg = land) else (!decide (ties tie.toNatClampNeg = -1) && !decide (ties tie.toNatClampNeg = land))
def p_test (st ties : Nat → Int32) (r n : Nat) : Bool := !decide (nI n < rl st r 6) || p_isSo ties (rl st r 0) (rl st r (7 + 2 * n)) (rl st r (8 + 2 * n))
def p_holds (st ties : Nat → Int32) (day : Int32) (r : Nat) : Bool := p_stands st day r && !decide (p_endOf st ties r = -1) && p_test st ties r 0 && p_test st ties r 1
def bI (b : Bool) : Int32 := if b = true then 1 else 0
theorem bI_t : bI true = 1 := rfl
theorem bI_f : bI false = 0 := rfl
theorem bI_01 (b : Bool) : bI b = 0 ∨ bI b = 1 := by cases b; exact Or.inl rfl; exact Or.inr rfl
/-- the numbers of a RULE are as they must be -/
def OKr (st : Nat → Int32) (r : Nat) : Prop := In (rl st r 0) 4 ∧ In (rl st r 1) 3 ∧ In (rl st r 2) 2 ∧ In (rl st r 3) 11 ∧ In (rl st r 4) 1000 ∧ In1 (rl st r 5) 1000 ∧ In (rl st r 6) 3 ∧ ∀ n, n < 2 → nI n < rl st r 6 → In (rl st r (7 + 2 * n)) 6 ∧ In (rl st r (8 + 2 * n)) 14
theorem RRr.ok {s17 s18 s19 s20 s21 s22 s23 s24 s25 st : Nat → Int32} {r : Nat} (R : RRr s17 s18 s19 s20 s21 s22 s23 s24 s25 st r) : OKr st r :=
  ⟨R.1.2, R.2.1.2, R.2.2.1.2, R.2.2.2.1.2, R.2.2.2.2.1.2, R.2.2.2.2.2.1.2, R.2.2.2.2.2.2.1.2, fun n h1 h2 => ⟨(R.2.2.2.2.2.2.2 n h1 h2).1.2, (R.2.2.2.2.2.2.2 n h1 h2).2.2⟩⟩
def T6 (ties : Nat → Int32) : Prop := ∀ t, t < 6 → In1 (ties t) 4
theorem m_ruleOf {M : Nat → Nat → Int32} {r k : Nat} {k' : Int32} (hr : r < 60) (hk : k < 11) (e : k' = nI k) : sX11_ruleOf (nI r) k' M = some (rl (M 1) r k) := by
  subst e
  have e6 : 282 + 11 * nI r + nI k = nI (282 + 11 * r + k) := by
    show nI 282 + nI 11 * nI r + nI k = _
    rw [pk_mul, nI_add, nI_add]
  unfold sX11_ruleOf
  rw [e6, ck_n (by omega) (by decide), nI_clamp (by omega)]
  rfl
theorem mr0 {M : Nat → Nat → Int32} {r : Nat} (hr : r < 60) : sX11_ruleOf (nI r) 0 M = some (rl (M 1) r 0) := m_ruleOf hr (by decide) rfl
theorem mr1 {M : Nat → Nat → Int32} {r : Nat} (hr : r < 60) : sX11_ruleOf (nI r) 1 M = some (rl (M 1) r 1) := m_ruleOf hr (by decide) rfl
theorem mr2 {M : Nat → Nat → Int32} {r : Nat} (hr : r < 60) : sX11_ruleOf (nI r) 2 M = some (rl (M 1) r 2) := m_ruleOf hr (by decide) rfl
theorem mr3 {M : Nat → Nat → Int32} {r : Nat} (hr : r < 60) : sX11_ruleOf (nI r) 3 M = some (rl (M 1) r 3) := m_ruleOf hr (by decide) rfl
theorem mr4 {M : Nat → Nat → Int32} {r : Nat} (hr : r < 60) : sX11_ruleOf (nI r) 4 M = some (rl (M 1) r 4) := m_ruleOf hr (by decide) rfl
theorem mr5 {M : Nat → Nat → Int32} {r : Nat} (hr : r < 60) : sX11_ruleOf (nI r) 5 M = some (rl (M 1) r 5) := m_ruleOf hr (by decide) rfl
theorem mr6 {M : Nat → Nat → Int32} {r : Nat} (hr : r < 60) : sX11_ruleOf (nI r) 6 M = some (rl (M 1) r 6) := m_ruleOf hr (by decide) rfl
theorem m_stands {M : Nat → Nat → Int32} {r : Nat} (hr : r < 60) : sX11_stands (nI r) M = some (bI (p_stands (M 1) (M 0 2) r)) := by
  unfold sX11_stands p_stands
  rw [mr4 hr, ob_some, mr5 hr]
  by_cases h1 : M 0 2 < rl (M 1) r 4
  · rw [if_pos h1, decide_eq_false (lt_nle32 h1)]; rfl
  · rw [if_neg h1, ob_some, decide_eq_true (nlt32 h1)]
    by_cases h2 : rl (M 1) r 5 = -1
    · rw [if_pos h2, decide_eq_true h2]; rfl
    · rw [if_neg h2, ob_some, decide_eq_false h2]
      by_cases h3 : rl (M 1) r 5 ≤ M 0 2
      · rw [if_pos h3, decide_eq_false (le_nlt32 h3)]; rfl
      · rw [if_neg h3, decide_eq_true (nle32 h3)]; rfl
theorem m_endOf {M : Nat → Nat → Int32} {r : Nat} (hr : r < 60) (h3 : In (rl (M 1) r 3) 11) : sX11_endOf (nI r) M = some (p_endOf (M 1) (M 2) r) := by
  unfold sX11_endOf p_endOf
  rw [mr3 hr, ob_some, mr0 hr]
  obtain ⟨w, hw, e⟩ := h3
  by_cases h0 : rl (M 1) r 3 = 0
  · rw [if_pos h0, if_pos h0, ob_some]
  · rw [if_neg h0, if_neg h0]
    by_cases h5 : 5 ≤ rl (M 1) r 3
    · rw [if_pos h5, if_pos h5, e]
      rw [e] at h5
      have h5 : 5 ≤ w := (nI_leI (a := 5) (by decide) (by omega)).mp h5
      have e5 : nI w - 5 = nI (w - 5) := pk_sub (b := 5) h5
      rw [e5, ck_n (by omega) (by decide)]
    · rw [if_neg h5, if_neg h5]
theorem m_isSo {M : Nat → Nat → Int32} {land tie what : Int32} (ht : In tie 6) (hw : In what 14) : sX11_isSo land tie what M = some (bI (p_isSo (M 2) land tie what)) := by
  obtain ⟨t, ht, rfl⟩ := ht
  obtain ⟨w, hw, rfl⟩ := hw
  unfold sX11_isSo p_isSo
  rw [ck_n ht (by decide), bnd_e]
  by_cases h4 : (4 : Int32) ≤ nI w
  · rw [if_pos h4, if_pos h4]
    by_cases h8 : (8 : Int32) ≤ nI w
    · rw [if_pos h8, if_pos h8]
      have h8' : 8 ≤ w := (nI_leI (a := 8) (by decide) (by omega)).mp h8
      have e8 : nI w - 8 = nI (w - 8) := pk_sub (b := 8) h8'
      by_cases h1 : M 2 (nI t).toNatClampNeg = -1
      · rw [if_pos h1, decide_eq_true h1]; rfl
      · rw [if_neg h1, decide_eq_false h1, e8, ck_n (by omega) (by decide)]
        by_cases h2 : M 2 (nI t).toNatClampNeg = M 2 (nI (w - 8)).toNatClampNeg
        · rw [if_pos h2, decide_eq_true h2]; rfl
        · rw [if_neg h2, decide_eq_false h2]; rfl
    · rw [if_neg h8, if_neg h8]
      by_cases h1 : M 2 (nI t).toNatClampNeg = nI w - 4
      · rw [if_pos h1, decide_eq_true h1]; rfl
      · rw [if_neg h1, decide_eq_false h1]; rfl
  · rw [if_neg h4, if_neg h4]
    by_cases h0 : nI w = 0
    · rw [if_pos h0, if_pos h0]
      by_cases h1 : M 2 (nI t).toNatClampNeg = -1
      · rw [if_pos h1, decide_eq_true h1]; rfl
      · rw [if_neg h1, decide_eq_false h1]; rfl
    · rw [if_neg h0, if_neg h0]
      by_cases hh1 : nI w = 1
      · rw [if_pos hh1, if_pos hh1]
        by_cases h1 : M 2 (nI t).toNatClampNeg = -1
        · rw [if_pos h1, decide_eq_true h1]; rfl
        · rw [if_neg h1, decide_eq_false h1]; rfl
      · rw [if_neg hh1, if_neg hh1]
        by_cases hh2 : nI w = 2
        · rw [if_pos hh2, if_pos hh2]
          by_cases h1 : M 2 (nI t).toNatClampNeg = land
          · rw [if_pos h1, decide_eq_true h1]; rfl
          · rw [if_neg h1, decide_eq_false h1]; rfl
        · rw [if_neg hh2, if_neg hh2]
          by_cases h1 : M 2 (nI t).toNatClampNeg = -1
          · rw [if_pos h1, decide_eq_true h1]; rfl
          · rw [if_neg h1, decide_eq_false h1]
            by_cases h2 : M 2 (nI t).toNatClampNeg = land
            · rw [if_pos h2, decide_eq_true h2]; rfl
            · rw [if_neg h2, decide_eq_false h2]; rfl
theorem m_holdsL {M : Nat → Nat → Int32} {r : Nat} (hr : r < 60) (ok : OKr (M 1) r) : ∀ d j, j + d = 2 → ∀ f, d < f → ∀ v, lX11_holdsNow_25 (nI r) M f (bI v) (nI j) = some (bI (v && (decide (1 ≤ j) || p_test (M 1) (M 2) r 0) && (decide (2 ≤ j) || p_test (M 1) (M 2) r 1))) := by
  obtain ⟨-, -, -, -, -, -, ⟨n6, hn6, e6⟩, ot⟩ := ok
  have stop : ∀ j f v, n6 ≤ j → j ≤ 2 → lX11_holdsNow_25 (nI r) M (f + 1) (bI v) (nI j) = some (bI (v && (decide (1 ≤ j) || p_test (M 1) (M 2) r 0) && (decide (2 ≤ j) || p_test (M 1) (M 2) r 1))) := by
    intro j f v h1 h2
    rw [lX11_holdsNow_25, mr6 hr, ob_some, e6, if_pos (nI_le h1 (by omega))]
    have t : ∀ n, n < 2 → j ≤ n → p_test (M 1) (M 2) r n = true := fun n h3 h4 => by
      unfold p_test
      rw [e6, decide_eq_false (nI_nlt (by omega) (by omega))]; rfl
    rcases (show j = 0 ∨ j = 1 ∨ j = 2 by omega) with rfl | rfl | rfl
    · rw [t 0 (by omega) (by omega), t 1 (by omega) (by omega)]; simp
    · rw [t 1 (by omega) (by omega)]; simp
    · simp
  intro d
  induction d with
  | zero =>
    intro j hj f hf v
    obtain ⟨f, rfl⟩ : ∃ g, f = g + 1 := ⟨f - 1, by omega⟩
    exact stop j f v (by omega) (by omega)
  | succ d ih =>
    intro j hj f hf v
    obtain ⟨f, rfl⟩ : ∃ g, f = g + 1 := ⟨f - 1, by omega⟩
    by_cases hn : n6 ≤ j
    · exact stop j f v hn (by omega)
    · have hlt : nI j < rl (M 1) r 6 := by rw [e6]; exact nI_lt (by omega) (by omega)
      obtain ⟨o1, o2⟩ := ot j (by omega) hlt
      have tj : p_test (M 1) (M 2) r j = p_isSo (M 2) (rl (M 1) r 0) (rl (M 1) r (7 + 2 * j)) (rl (M 1) r (8 + 2 * j)) := by unfold p_test; rw [decide_eq_true hlt]; rfl
      have key : (v && p_test (M 1) (M 2) r j && (decide (1 ≤ j + 1) || p_test (M 1) (M 2) r 0) && (decide (2 ≤ j + 1) || p_test (M 1) (M 2) r 1)) = (v && (decide (1 ≤ j) || p_test (M 1) (M 2) r 0) && (decide (2 ≤ j) || p_test (M 1) (M 2) r 1)) := by
        rcases (show j = 0 ∨ j = 1 by omega) with rfl | rfl
        · simp
        · simp
      rw [← key]
      have h7 : (7 : Int32) + 2 * nI j = nI (7 + 2 * j) := by show nI 7 + nI 2 * nI j = _; rw [pk_mul, nI_add]
      have h8 : (8 : Int32) + 2 * nI j = nI (8 + 2 * j) := by show nI 8 + nI 2 * nI j = _; rw [pk_mul, nI_add]
      rw [lX11_holdsNow_25, mr6 hr, ob_some, e6, if_neg (nI_ge (by omega) (by omega))]
      cases v with
      | false =>
        rw [if_pos bI_f, bnd_e, nI_1]
        have := ih (j + 1) (by omega) f (by omega) false
        rw [bI_f] at this
        rw [this]; simp
      | true =>
        rw [if_neg (by rw [bI_t]; decide), mr0 hr, ob_some, m_ruleOf hr (k := 7 + 2 * j) (by omega) h7, ob_some, m_ruleOf hr (k := 8 + 2 * j) (by omega) h8, ob_some, m_isSo o1 o2, ob_some, ← tj]
        cases hp : p_test (M 1) (M 2) r j with
        | false =>
          rw [if_pos bI_f, bnd_e, nI_1]
          have := ih (j + 1) (by omega) f (by omega) false
          rw [bI_f] at this
          rw [this]; simp
        | true =>
          rw [if_neg (by rw [bI_t]; decide), bnd_e, nI_1]
          have := ih (j + 1) (by omega) f (by omega) true
          rw [bI_t] at this
          rw [this]; simp
theorem m_holdsNow {M : Nat → Nat → Int32} {r : Nat} (hr : r < 60) (ok : OKr (M 1) r) : sX11_holdsNow (nI r) M = some (bI (p_holds (M 1) (M 2) (M 0 2) r)) := by
  have hL := m_holdsL hr ok 2 0 (by omega) FU (by unfold FU; omega)
  have z : ∀ b : Bool, ob (some (bI b)) (fun w => zk w (some w)) = some (bI b) := fun b => zk_in (bI_01 b)
  have hf := hL false
  have ht := hL true
  unfold sX11_holdsNow p_holds
  rw [m_stands hr, ob_some, m_endOf hr ok.2.2.2.1]
  cases hs : p_stands (M 1) (M 0 2) r with
  | false =>
    rw [if_pos bI_f, show lX11_holdsNow_25 (nI r) M FU 0 0 = _ from hf, z]; simp
  | true =>
    rw [if_neg (by rw [bI_t]; decide), ob_some]
    by_cases he : p_endOf (M 1) (M 2) r = -1
    · rw [if_pos he, show lX11_holdsNow_25 (nI r) M FU 0 0 = _ from hf, z, decide_eq_true he]; simp
    · rw [if_neg he, show lX11_holdsNow_25 (nI r) M FU 1 0 = _ from ht, z, decide_eq_false he]; simp
-- ===== the first that does =====
def fsI (P : Nat → Bool) : Nat → Nat → Option Nat
  | 0, _ => none
  | d + 1, j => if P j = true then some j else fsI P d (j + 1)
def oI (o : Option Nat) : Int32 := match o with
  | none => -1
  | some k => nI k
theorem fsI_none {P : Nat → Bool} : ∀ {d j : Nat}, (∀ i, j ≤ i → i < j + d → P i = false) → fsI P d j = none
  | 0, _, _ => rfl
  | d + 1, j, h => by
    unfold fsI
    rw [if_neg (by rw [h j (by omega) (by omega)]; decide)]
    exact fsI_none (fun i h1 h2 => h i (by omega) (by omega))
theorem fsI_some {P : Nat → Bool} : ∀ {d j k : Nat}, j ≤ k → k < j + d → P k = true → (∀ i, j ≤ i → i < k → P i = false) → fsI P d j = some k
  | 0, j, k, h1, h2, _, _ => by omega
  | d + 1, j, k, h1, h2, h3, h4 => by
    unfold fsI
    by_cases e : k = j
    · subst e; rw [if_pos h3]
    · rw [if_neg (by rw [h4 j (by omega) (by omega)]; decide)]
      exact fsI_some (by omega) (by omega) h3 (fun i q1 q2 => h4 i (by omega) q2)
theorem fsI_spec {P : Nat → Bool} : ∀ {d j : Nat}, (fsI P d j = none ∧ ∀ i, j ≤ i → i < j + d → P i = false) ∨ ∃ k, fsI P d j = some k ∧ j ≤ k ∧ k < j + d ∧ P k = true ∧ ∀ i, j ≤ i → i < k → P i = false
  | 0, j => Or.inl ⟨rfl, fun i h1 h2 => by omega⟩
  | d + 1, j => by
    cases hp : P j with
    | true => exact Or.inr ⟨j, by unfold fsI; rw [if_pos hp], by omega, by omega, hp, fun i h1 h2 => by omega⟩
    | false =>
      have e : fsI P (d + 1) j = fsI P d (j + 1) := by
        show (if P j = true then some j else fsI P d (j + 1)) = _
        rw [if_neg (by rw [hp]; decide)]
      rw [e]
      rcases fsI_spec (P := P) (d := d) (j := j + 1) with ⟨h1, h2⟩ | ⟨k, h1, h2, h3, h4, h5⟩
      · refine Or.inl ⟨h1, fun i q1 q2 => ?_⟩
        by_cases ei : i = j
        · subst ei; exact hp
        · exact h2 i (by omega) (by omega)
      · refine Or.inr ⟨k, h1, by omega, by omega, h4, fun i q1 q2 => ?_⟩
        by_cases ei : i = j
        · subst ei; exact hp
        · exact h5 i (by omega) q2
theorem fsI_congr {P Q : Nat → Bool} : ∀ {d j : Nat}, (∀ i, j ≤ i → i < j + d → P i = Q i) → fsI P d j = fsI Q d j
  | 0, _, _ => rfl
  | d + 1, j, h => by
    unfold fsI
    rw [h j (by omega) (by omega), fsI_congr (fun i h1 h2 => h i (by omega) (by omega))]
/-- the RULE that speaks in a BOOK under a KIND of its own -/
def bk (st ties : Nat → Int32) (day : Int32) (out : Nat → Bool) (a own : Int32) (r : Nat) : Bool := decide (rl st r 0 = a) && decide (rl st r 1 = own) && !out r && p_holds st ties day r
theorem m_firstOf {M : Nat → Nat → Int32} {nr : Nat} {out : Nat → Bool} (h2 : M 1 2 = nI nr) (hn : nr ≤ 60) (ok : ∀ r, r < nr → OKr (M 1) r) (ho : ∀ r, r < nr → M 3 r = bI (out r)) (a own : Int32) : sX11_firstOf a own M = some (oI (fsI (bk (M 1) (M 2) (M 0 2) out a own) nr 0)) := by
  have key : ∀ d j, j + d = nr → ∀ f, d < f → lX11_firstOf_2 a own M f (nI j) = some (match fsI (bk (M 1) (M 2) (M 0 2) out a own) d j with | none => .inr () | some k => .inl (nI k)) := by
    intro d
    induction d with
    | zero =>
      intro j hj f hf
      obtain ⟨f, rfl⟩ : ∃ g, f = g + 1 := ⟨f - 1, by omega⟩
      rw [lX11_firstOf_2, k2, cl2, h2, if_pos (nI_le (by omega) (by omega))]
      rfl
    | succ d ih =>
      intro j hj f hf
      obtain ⟨f, rfl⟩ : ∃ g, f = g + 1 := ⟨f - 1, by omega⟩
      have ih := ih (j + 1) (by omega) f (by omega)
      rw [lX11_firstOf_2, k2, cl2, h2, if_neg (nI_ge (by omega) (by omega)), mr0 (show j < 60 by omega), ob_some]
      have e : ∀ b, bk (M 1) (M 2) (M 0 2) out a own j = b → fsI (bk (M 1) (M 2) (M 0 2) out a own) (d + 1) j = if b = true then some j else fsI (bk (M 1) (M 2) (M 0 2) out a own) d (j + 1) := fun b hb => by
        show (if bk (M 1) (M 2) (M 0 2) out a own j = true then some j else _) = _
        rw [hb]
      by_cases c1 : rl (M 1) j 0 = a
      · rw [if_pos c1, mr1 (show j < 60 by omega), ob_some]
        by_cases c2 : rl (M 1) j 1 = own
        · rw [if_pos c2, ck_n (show j < 60 by omega) (by decide), nI_clamp (by omega), ho j (by omega)]
          cases c3 : out j with
          | true =>
            rw [if_neg (by rw [bI_t]; decide), bnd_e, nI_1, ih, e false (by unfold bk; rw [c3]; simp), if_neg (by decide)]
          | false =>
            rw [if_pos bI_f, m_holdsNow (by omega) (ok j (by omega)), ob_some]
            cases c4 : p_holds (M 1) (M 2) (M 0 2) j with
            | true => rw [if_neg (by rw [bI_t]; decide), e true (by unfold bk; rw [decide_eq_true c1, decide_eq_true c2, c3, c4]; rfl), if_pos rfl]
            | false => rw [if_pos bI_f, bnd_e, nI_1, ih, e false (by unfold bk; rw [c4]; simp), if_neg (by decide)]
        · rw [if_neg c2, bnd_e, nI_1, ih, e false (by unfold bk; rw [decide_eq_false c2]; simp), if_neg (by decide)]
      · rw [if_neg c1, bnd_e, nI_1, ih, e false (by unfold bk; rw [decide_eq_false c1]; simp), if_neg (by decide)]
  unfold sX11_firstOf
  rw [show lX11_firstOf_2 a own M FU 0 = _ from key nr 0 (by omega) FU (by unfold FU; omega)]
  cases fsI (bk (M 1) (M 2) (M 0 2) out a own) nr 0 with
  | none => rfl
  | some k => rfl
