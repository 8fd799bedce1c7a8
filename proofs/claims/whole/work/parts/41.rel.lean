-- ===== what the class's cells hold, told by the reference's own row st =====
def rl (st : Nat → Int32) (r k : Nat) : Int32 := st (282 + 11 * r + k)
def lb (x : Int64) (i : Nat) : Bool := x.toBitVec.getLsbD i
/-- of a TIE of a CASE, what the first n told rows leave: its LAND and since when -/
def lk (st : Nat → Int32) (c t : Nat) : Nat → Int32 × Int32
  | 0 => (-1, -1)
  | n + 1 => if st (42 + 4 * n) = nI c ∧ st (43 + 4 * n) = nI t ∧ st (45 + 4 * n) ≤ st (10 + 2 * c) ∧ (lk st c t n).2 ≤ st (45 + 4 * n) then (st (44 + 4 * n), st (45 + 4 * n)) else lk st c t n
/-- whether a TIE's LAND x alone lets a TEST be so -/
def fitB (w x land : Int32) : Bool :=
  if w = 1 then decide (x = -1) else if w = 0 then !decide (x = -1) else if w < 8 then (if w = 2 then decide (x = land) else if w = 3 then (!decide (x = -1) && !decide (x = land)) else decide (x = w - 4)) else !decide (x = -1)
def In1 (x : Int32) (n : Nat) : Prop := x = -1 ∨ In x n
def RC (s1 s13 s14 s15 s16 st : Nat → Int32) (nc nt : Nat) : Prop :=
  s1 0 = nI nc ∧ s1 1 = nI nt ∧
  (∀ c, c < nc → s13 c = st (10 + 2 * c) ∧ In (st (10 + 2 * c)) 1000 ∧ s14 c = st (11 + 2 * c) ∧ In (st (11 + 2 * c)) 3) ∧
  (∀ c, nc ≤ c → c < 16 → s14 c = 0) ∧
  (∀ c t, c < nc → t < 6 → s15 (6 * c + t) = (lk st c t nt).1 ∧ s16 (6 * c + t) = (lk st c t nt).2) ∧
  (∀ c t, nc ≤ c → c < 16 → t < 6 → s15 (6 * c + t) = -1 ∧ s16 (6 * c + t) = -1) ∧
  (∀ j, j < nt → In (st (42 + 4 * j)) nc ∧ In (st (43 + 4 * j)) 6 ∧ In1 (st (44 + 4 * j)) 4 ∧ In (st (45 + 4 * j)) 1000)
/-- a RULE's own numbers -/
def RRr (s17 s18 s19 s20 s21 s22 s23 s24 s25 st : Nat → Int32) (r : Nat) : Prop :=
  (s17 r = rl st r 0 ∧ In (rl st r 0) 4) ∧ (s18 r = rl st r 1 ∧ In (rl st r 1) 3) ∧ (s19 r = rl st r 2 ∧ In (rl st r 2) 2) ∧ (s20 r = rl st r 3 ∧ In (rl st r 3) 11) ∧
  (s21 r = rl st r 4 ∧ In (rl st r 4) 1000) ∧ (s22 r = rl st r 5 ∧ In1 (rl st r 5) 1000) ∧ (s23 r = rl st r 6 ∧ In (rl st r 6) 3) ∧
  (∀ n, n < 2 → nI n < rl st r 6 → (s24 (2 * r + n) = rl st r (7 + 2 * n) ∧ In (rl st r (7 + 2 * n)) 6) ∧ (s25 (2 * r + n) = rl st r (8 + 2 * n) ∧ In (rl st r (8 + 2 * n)) 14))
def RR (s2 s17 s18 s19 s20 s21 s22 s23 s24 s25 st : Nat → Int32) (nr : Nat) : Prop :=
  s2 0 = nI nr ∧ (∀ r, r < nr → RRr s17 s18 s19 s20 s21 s22 s23 s24 s25 st r) ∧ (∀ r, nr ≤ r → r < 60 → s23 r = 0)
/-- a TEST of a RULE that breaks it when its TIE t is the LAND x -/
def brk (st : Nat → Int32) (r t : Nat) (x : Int32) : Prop := (x = -1 ∧ rl st r 3 = nI (5 + t)) ∨ ∃ n, n < 2 ∧ nI n < rl st r 6 ∧ rl st r (7 + 2 * n) = nI t ∧ fitB (rl st r (8 + 2 * n)) x (rl st r 0) = false
def prd (st : Nat → Int32) (r a b : Nat) : Prop := ∃ n, n < 2 ∧ nI n < rl st r 6 ∧ ((rl st r (7 + 2 * n) = nI a ∧ rl st r (8 + 2 * n) = nI (8 + b)) ∨ (rl st r (7 + 2 * n) = nI b ∧ rl st r (8 + 2 * n) = nI (8 + a)))
def RB (l26 l27 l28 : Nat → Int64) (st : Nat → Int32) (nr : Nat) : Prop :=
  (∀ a k r, a < 4 → k < 3 → r < 64 → (lb (l26 (3 * a + k)) r = true ↔ (r < nr ∧ rl st r 0 = nI a ∧ rl st r 1 = nI k))) ∧
  (∀ t x r, t < 6 → x < 5 → r < 64 → (lb (l27 (5 * t + x)) r = true ↔ (r < nr ∧ brk st r t (nI x - 1)))) ∧
  (∀ a b r, a < b → b < 6 → r < 64 → (lb (l28 (6 * a + b)) r = true ↔ (r < nr ∧ prd st r a b)))
def RW (s29 s30 st : Nat → Int32) : Prop := (∀ k, k < 12 → s29 k = st (942 + k) ∧ In (st (942 + k)) 3) ∧ (∀ a, a < 4 → s30 a = st (954 + a) ∧ In (st (954 + a)) 4)
def RY (s4 s31 s32 s33 st : Nat → Int32) (ny : Nat) : Prop := s4 0 = nI ny ∧ ∀ j, j < ny → (s31 j = st (958 + 3 * j) ∧ In (st (958 + 3 * j)) 3) ∧ (s32 j = st (959 + 3 * j) ∧ In (st (959 + 3 * j)) 16) ∧ (s33 j = st (960 + 3 * j) ∧ In (st (960 + 3 * j)) 6)
def RT (s5 s34 st : Nat → Int32) (nq nr : Nat) : Prop := s5 0 = nI nq ∧ (∀ j, j < nq → s34 j = st (982 + j) ∧ In (st (982 + j)) nr) ∧ (∀ i j, i < j → j < nq → st (982 + i) ≠ st (982 + j))
def CN (st : Nat → Int32) (nc nt nr ny nq : Nat) : Prop := (st 0 = nI nc ∧ nc ≤ 16) ∧ (st 1 = nI nt ∧ nt ≤ 60) ∧ (st 2 = nI nr ∧ nr ≤ 60) ∧ (st 3 = nI ny ∧ ny ≤ 8) ∧ (st 4 = nI nq ∧ nq ≤ 12)
def RelN (S : Nat → Nat → Int32) (L : Nat → Nat → Int64) (M : Nat → Nat → Int32) (nc nt nr ny nq : Nat) : Prop :=
  CN (M 1) nc nt nr ny nq ∧ RC (S 1) (S 13) (S 14) (S 15) (S 16) (M 1) nc nt ∧ RR (S 2) (S 17) (S 18) (S 19) (S 20) (S 21) (S 22) (S 23) (S 24) (S 25) (M 1) nr ∧
  RB (L 26) (L 27) (L 28) (M 1) nr ∧ RW (S 29) (S 30) (M 1) ∧ RY (S 4) (S 31) (S 32) (S 33) (M 1) ny ∧ RT (S 5) (S 34) (M 1) nq nr ∧ ∀ i, i < 60 → M 3 i = 0
def Rel (S : Nat → Nat → Int32) (L : Nat → Nat → Int64) (M : Nat → Nat → Int32) : Prop := ∃ nc nt nr ny nq, RelN S L M nc nt nr ny nq
-- the parts of it that a change elsewhere leaves
theorem lk_congr {st st' : Nat → Int32} {c t n : Nat} (h0 : st' (10 + 2 * c) = st (10 + 2 * c)) (h : ∀ x, 42 ≤ x → x < 42 + 4 * n → st' x = st x) : lk st' c t n = lk st c t n := by
  induction n with
  | zero => rfl
  | succ n ih =>
    have ih := ih (fun x h1 h2 => h x h1 (by omega))
    unfold lk
    rw [ih, h0, h (42 + 4 * n) (by omega) (by omega), h (43 + 4 * n) (by omega) (by omega), h (44 + 4 * n) (by omega) (by omega), h (45 + 4 * n) (by omega) (by omega)]
theorem RC.congr {s1 s13 s14 s15 s16 st st' : Nat → Int32} {nc nt : Nat} (hc : nc ≤ 16) (ht : nt ≤ 60) (h : ∀ x, 10 ≤ x → x < 282 → st' x = st x) (R : RC s1 s13 s14 s15 s16 st nc nt) : RC s1 s13 s14 s15 s16 st' nc nt := by
  obtain ⟨r1, r2, r3, r4, r5, r6, r7⟩ := R
  refine ⟨r1, r2, fun c hcc => ?_, r4, fun c t hcc htt => ?_, r6, fun j hj => ?_⟩
  · rw [h (10 + 2 * c) (by omega) (by omega), h (11 + 2 * c) (by omega) (by omega)]
    exact r3 c hcc
  · rw [lk_congr (h (10 + 2 * c) (by omega) (by omega)) (fun x h1 h2 => h x (by omega) (by omega))]
    exact r5 c t hcc htt
  · rw [h (42 + 4 * j) (by omega) (by omega), h (43 + 4 * j) (by omega) (by omega), h (44 + 4 * j) (by omega) (by omega), h (45 + 4 * j) (by omega) (by omega)]
    exact r7 j hj
theorem rl_congr {st st' : Nat → Int32} {r k : Nat} (hr : r < 60) (hk : k < 11) (h : ∀ x, 282 ≤ x → x < 942 → st' x = st x) : rl st' r k = rl st r k := h _ (by omega) (by omega)
theorem RRr.congr {s17 s18 s19 s20 s21 s22 s23 s24 s25 st st' : Nat → Int32} {r : Nat} (h : ∀ k, k < 11 → rl st' r k = rl st r k) (R : RRr s17 s18 s19 s20 s21 s22 s23 s24 s25 st r) : RRr s17 s18 s19 s20 s21 s22 s23 s24 s25 st' r := by
  unfold RRr at R ⊢
  rw [h 0 (by omega), h 1 (by omega), h 2 (by omega), h 3 (by omega), h 4 (by omega), h 5 (by omega), h 6 (by omega)]
  obtain ⟨r1, r2, r3, r4, r5, r6, r7, r8⟩ := R
  refine ⟨r1, r2, r3, r4, r5, r6, r7, fun n hn hl => ?_⟩
  rw [h (7 + 2 * n) (by omega), h (8 + 2 * n) (by omega)]
  exact r8 n hn hl
theorem RR.congr {s2 s17 s18 s19 s20 s21 s22 s23 s24 s25 st st' : Nat → Int32} {nr : Nat} (hr : nr ≤ 60) (h : ∀ x, 282 ≤ x → x < 942 → st' x = st x) (R : RR s2 s17 s18 s19 s20 s21 s22 s23 s24 s25 st nr) : RR s2 s17 s18 s19 s20 s21 s22 s23 s24 s25 st' nr :=
  ⟨R.1, fun r hrr => (R.2.1 r hrr).congr (fun k hk => rl_congr (by omega) hk h), R.2.2⟩
theorem brk_congr {st st' : Nat → Int32} {r t : Nat} {x : Int32} (h : ∀ k, k < 11 → rl st' r k = rl st r k) : brk st' r t x ↔ brk st r t x := by
  unfold brk
  rw [h 3 (by omega), h 6 (by omega), h 0 (by omega)]
  constructor
  · rintro (q | ⟨n, h1, h2, h3, h4⟩)
    · exact Or.inl q
    · rw [h (7 + 2 * n) (by omega)] at h3; rw [h (8 + 2 * n) (by omega)] at h4
      exact Or.inr ⟨n, h1, h2, h3, h4⟩
  · rintro (q | ⟨n, h1, h2, h3, h4⟩)
    · exact Or.inl q
    · rw [← h (7 + 2 * n) (by omega)] at h3; rw [← h (8 + 2 * n) (by omega)] at h4
      exact Or.inr ⟨n, h1, h2, h3, h4⟩
theorem prd_congr {st st' : Nat → Int32} {r a b : Nat} (h : ∀ k, k < 11 → rl st' r k = rl st r k) : prd st' r a b ↔ prd st r a b := by
  unfold prd
  rw [h 6 (by omega)]
  constructor
  · rintro ⟨n, h1, h2, h3⟩
    rw [h (7 + 2 * n) (by omega), h (8 + 2 * n) (by omega)] at h3
    exact ⟨n, h1, h2, h3⟩
  · rintro ⟨n, h1, h2, h3⟩
    rw [← h (7 + 2 * n) (by omega), ← h (8 + 2 * n) (by omega)] at h3
    exact ⟨n, h1, h2, h3⟩
theorem RB.congr {l26 l27 l28 : Nat → Int64} {st st' : Nat → Int32} {nr : Nat} (hr : nr ≤ 60) (h : ∀ x, 282 ≤ x → x < 942 → st' x = st x) (R : RB l26 l27 l28 st nr) : RB l26 l27 l28 st' nr := by
  have k : ∀ r, r < nr → ∀ k, k < 11 → rl st' r k = rl st r k := fun r hrr k hk => rl_congr (by omega) hk h
  refine ⟨fun a kk r ha hk h64 => ?_, fun t x r ht hx h64 => ?_, fun a b r ha hb h64 => ?_⟩
  · rw [R.1 a kk r ha hk h64]
    constructor
    · rintro ⟨h1, h2, h3⟩; rw [← k r h1 0 (by omega)] at h2; rw [← k r h1 1 (by omega)] at h3; exact ⟨h1, h2, h3⟩
    · rintro ⟨h1, h2, h3⟩; rw [k r h1 0 (by omega)] at h2; rw [k r h1 1 (by omega)] at h3; exact ⟨h1, h2, h3⟩
  · rw [R.2.1 t x r ht hx h64]
    constructor
    · rintro ⟨h1, h2⟩; exact ⟨h1, (brk_congr (k r h1)).mpr h2⟩
    · rintro ⟨h1, h2⟩; exact ⟨h1, (brk_congr (k r h1)).mp h2⟩
  · rw [R.2.2 a b r ha hb h64]
    constructor
    · rintro ⟨h1, h2⟩; exact ⟨h1, (prd_congr (k r h1)).mpr h2⟩
    · rintro ⟨h1, h2⟩; exact ⟨h1, (prd_congr (k r h1)).mp h2⟩
theorem RW.congr {s29 s30 st st' : Nat → Int32} (h : ∀ x, 942 ≤ x → x < 958 → st' x = st x) (R : RW s29 s30 st) : RW s29 s30 st' := by
  refine ⟨fun k hk => ?_, fun a ha => ?_⟩
  · rw [h (942 + k) (by omega) (by omega)]; exact R.1 k hk
  · rw [h (954 + a) (by omega) (by omega)]; exact R.2 a ha
theorem RY.congr {s4 s31 s32 s33 st st' : Nat → Int32} {ny : Nat} (hy : ny ≤ 8) (h : ∀ x, 958 ≤ x → x < 982 → st' x = st x) (R : RY s4 s31 s32 s33 st ny) : RY s4 s31 s32 s33 st' ny := by
  refine ⟨R.1, fun j hj => ?_⟩
  rw [h (958 + 3 * j) (by omega) (by omega), h (959 + 3 * j) (by omega) (by omega), h (960 + 3 * j) (by omega) (by omega)]
  exact R.2 j hj
theorem RT.congr {s5 s34 st st' : Nat → Int32} {nq nr : Nat} (hq : nq ≤ 12) (h : ∀ x, 982 ≤ x → x < 994 → st' x = st x) (R : RT s5 s34 st nq nr) : RT s5 s34 st' nq nr := by
  refine ⟨R.1, fun j hj => ?_, fun i j hij hj => ?_⟩
  · rw [h (982 + j) (by omega) (by omega)]; exact R.2.1 j hj
  · rw [h (982 + i) (by omega) (by omega), h (982 + j) (by omega) (by omega)]; exact R.2.2 i j hij hj
