-- own words for the decompiled functions: a named value, a call's answer, an index that is looked at
def bnd {α β : Type} (a : α) (f : α → β) : β := f a
theorem bnd_elim {α β : Type} {a : α} {f : α → β} {o : β} (h : bnd a f = o) : ∃ x, x = a ∧ f x = o := ⟨a, rfl, h⟩
def ob {α β : Type} (o : Option α) (f : α → Option β) : Option β := match o with
  | none => none
  | some a => f a
theorem ob_some {α β : Type} (a : α) (f : α → Option β) : ob (some a) f = f a := rfl
theorem ob_elim {α β : Type} {o : Option α} {f : α → Option β} {z : β} (h : ob o f = some z) : ∃ x, o = some x ∧ f x = some z := by
  cases o with
  | none => cases h
  | some a => exact ⟨a, rfl, h⟩
def un2 {A B R : Type} (f : A → B → R) (q : A × B) : R := f q.1 q.2
def un3 {A B C R : Type} (f : A → B → C → R) (q : A × B × C) : R := f q.1 q.2.1 q.2.2
def un4 {A B C D R : Type} (f : A → B → C → D → R) (q : A × B × C × D) : R := f q.1 q.2.1 q.2.2.1 q.2.2.2
def un5 {A B C D E R : Type} (f : A → B → C → D → E → R) (q : A × B × C × D × E) : R := f q.1 q.2.1 q.2.2.1 q.2.2.2.1 q.2.2.2.2
def un6 {A B C D E F R : Type} (f : A → B → C → D → E → F → R) (q : A × B × C × D × E × F) : R := f q.1 q.2.1 q.2.2.1 q.2.2.2.1 q.2.2.2.2.1 q.2.2.2.2.2
theorem un2_e {A B R : Type} {f : A → B → R} {a : A} {b : B} {o : R} (h : un2 f (a, b) = o) : f a b = o := h
theorem un3_e {A B C R : Type} {f : A → B → C → R} {a : A} {b : B} {c : C} {o : R} (h : un3 f (a, b, c) = o) : f a b c = o := h
theorem un4_e {A B C D R : Type} {f : A → B → C → D → R} {a : A} {b : B} {c : C} {d : D} {o : R} (h : un4 f (a, b, c, d) = o) : f a b c d = o := h
theorem un5_e {A B C D E R : Type} {f : A → B → C → D → E → R} {a : A} {b : B} {c : C} {d : D} {e : E} {o : R} (h : un5 f (a, b, c, d, e) = o) : f a b c d e = o := h
def ob2 {A B R : Type} (o : Option (A × B)) (f : A → B → Option R) : Option R := ob o (un2 f)
def ob3 {A B C R : Type} (o : Option (A × B × C)) (f : A → B → C → Option R) : Option R := ob o (un3 f)
def ob4 {A B C D R : Type} (o : Option (A × B × C × D)) (f : A → B → C → D → Option R) : Option R := ob o (un4 f)
def ob5 {A B C D E R : Type} (o : Option (A × B × C × D × E)) (f : A → B → C → D → E → Option R) : Option R := ob o (un5 f)
def ob6 {A B C D E F R : Type} (o : Option (A × B × C × D × E × F)) (f : A → B → C → D → E → F → Option R) : Option R := ob o (un6 f)
theorem ob2_elim {A B R : Type} {o : Option (A × B)} {f : A → B → Option R} {z : R} (h : ob2 o f = some z) : ∃ a b, o = some (a, b) ∧ f a b = some z := by
  obtain ⟨⟨a, b⟩, h1, h2⟩ := ob_elim h
  exact ⟨a, b, h1, h2⟩
theorem ob3_elim {A B C R : Type} {o : Option (A × B × C)} {f : A → B → C → Option R} {z : R} (h : ob3 o f = some z) : ∃ a b c, o = some (a, b, c) ∧ f a b c = some z := by
  obtain ⟨⟨a, b, c⟩, h1, h2⟩ := ob_elim h
  exact ⟨a, b, c, h1, h2⟩
theorem ob4_elim {A B C D R : Type} {o : Option (A × B × C × D)} {f : A → B → C → D → Option R} {z : R} (h : ob4 o f = some z) : ∃ a b c d, o = some (a, b, c, d) ∧ f a b c d = some z := by
  obtain ⟨⟨a, b, c, d⟩, h1, h2⟩ := ob_elim h
  exact ⟨a, b, c, d, h1, h2⟩
theorem ob5_elim {A B C D E R : Type} {o : Option (A × B × C × D × E)} {f : A → B → C → D → E → Option R} {z : R} (h : ob5 o f = some z) : ∃ a b c d e, o = some (a, b, c, d, e) ∧ f a b c d e = some z := by
  obtain ⟨⟨a, b, c, d, e⟩, h1, h2⟩ := ob_elim h
  exact ⟨a, b, c, d, e, h1, h2⟩
theorem ob6_elim {A B C D E F R : Type} {o : Option (A × B × C × D × E × F)} {f : A → B → C → D → E → F → Option R} {z : R} (h : ob6 o f = some z) : ∃ a b c d e g, o = some (a, b, c, d, e, g) ∧ f a b c d e g = some z := by
  obtain ⟨⟨a, b, c, d, e, g⟩, h1, h2⟩ := ob_elim h
  exact ⟨a, b, c, d, e, g, h1, h2⟩
def os2 {A B R : Type} (o : Option (A ⊕ B)) (f : A → Option R) (g : B → Option R) : Option R := match o with
  | none => none
  | some (.inl a) => f a
  | some (.inr b) => g b
theorem os2_elim {A B R : Type} {o : Option (A ⊕ B)} {f : A → Option R} {g : B → Option R} {z : R} (h : os2 o f g = some z) : (∃ q, o = some (.inl q) ∧ f q = some z) ∨ (∃ q, o = some (.inr q) ∧ g q = some z) := by
  match o, h with
  | some (.inl a), h => exact Or.inl ⟨a, rfl, h⟩
  | some (.inr b), h => exact Or.inr ⟨b, rfl, h⟩
def os3 {A B C R : Type} (o : Option (A ⊕ (B ⊕ C))) (f : A → Option R) (g : B → Option R) (k : C → Option R) : Option R := match o with
  | none => none
  | some (.inl a) => f a
  | some (.inr (.inl b)) => g b
  | some (.inr (.inr c)) => k c
theorem os3_elim {A B C R : Type} {o : Option (A ⊕ (B ⊕ C))} {f : A → Option R} {g : B → Option R} {k : C → Option R} {z : R} (h : os3 o f g k = some z) : (∃ q, o = some (.inl q) ∧ f q = some z) ∨ (∃ q, o = some (.inr (.inl q)) ∧ g q = some z) ∨ (∃ q, o = some (.inr (.inr q)) ∧ k q = some z) := by
  match o, h with
  | some (.inl a), h => exact Or.inl ⟨a, rfl, h⟩
  | some (.inr (.inl b)), h => exact Or.inr (Or.inl ⟨b, rfl, h⟩)
  | some (.inr (.inr b)), h => exact Or.inr (Or.inr ⟨b, rfl, h⟩)
def os4 {A B C D R : Type} (o : Option (A ⊕ (B ⊕ (C ⊕ D)))) (f : A → Option R) (g : B → Option R) (k : C → Option R) (j : D → Option R) : Option R := match o with
  | none => none
  | some (.inl a) => f a
  | some (.inr (.inl b)) => g b
  | some (.inr (.inr (.inl c))) => k c
  | some (.inr (.inr (.inr d))) => j d
theorem os4_elim {A B C D R : Type} {o : Option (A ⊕ (B ⊕ (C ⊕ D)))} {f : A → Option R} {g : B → Option R} {k : C → Option R} {j : D → Option R} {z : R} (h : os4 o f g k j = some z) : (∃ q, o = some (.inl q) ∧ f q = some z) ∨ (∃ q, o = some (.inr (.inl q)) ∧ g q = some z) ∨ (∃ q, o = some (.inr (.inr (.inl q))) ∧ k q = some z) ∨ (∃ q, o = some (.inr (.inr (.inr q))) ∧ j q = some z) := by
  match o, h with
  | some (.inl a), h => exact Or.inl ⟨a, rfl, h⟩
  | some (.inr (.inl b)), h => exact Or.inr (Or.inl ⟨b, rfl, h⟩)
  | some (.inr (.inr (.inl b))), h => exact Or.inr (Or.inr (Or.inl ⟨b, rfl, h⟩))
  | some (.inr (.inr (.inr b))), h => exact Or.inr (Or.inr (Or.inr ⟨b, rfl, h⟩))
def ck {α : Type} (i : Int32) (n : Nat) (o : Option α) : Option α := if i < 0 ∨ n ≤ i.toNatClampNeg then none else o
theorem ck_elim {α : Type} {i : Int32} {n : Nat} {o : Option α} {z : α} (h : ck i n o = some z) : vp_in i n ∧ o = some z := by
  unfold ck at h
  by_cases c : i < 0 ∨ n ≤ i.toNatClampNeg
  · rw [if_pos c] at h; cases h
  · rw [if_neg c] at h; exact ⟨c, h⟩
theorem ck_in {α : Type} {i : Int32} {n : Nat} {o : Option α} (h : vp_in i n) : ck i n o = o := if_neg h
def zk {α : Type} (r : Int32) (o : Option α) : Option α := if r = 0 ∨ r = 1 then o else none
theorem zk_elim {α : Type} {r : Int32} {o : Option α} {z : α} (h : zk r o = some z) : narrow .boolean (.int r) = .int r ∧ o = some z := by
  unfold zk at h
  by_cases c : r = 0 ∨ r = 1
  · rw [if_pos c] at h
    refine ⟨?_, h⟩
    rcases c with rfl | rfl <;> rfl
  · rw [if_neg c] at h; cases h
theorem zk_in {α : Type} {r : Int32} {o : Option α} (h : r = 0 ∨ r = 1) : zk r o = o := if_pos h
theorem it_t {α : Type} {c : Prop} [Decidable c] {a b z : α} (hc : c) (h : (if c then a else b) = z) : a = z := by rw [if_pos hc] at h; exact h
theorem it_f {α : Type} {c : Prop} [Decidable c] {a b z : α} (hc : ¬ c) (h : (if c then a else b) = z) : b = z := by rw [if_neg hc] at h; exact h
def iush (x y : Int32) : Int32 := (x.toUInt32 >>> (y.toUInt32 &&& Int32.toUInt32 31)).toInt32
def lush (x : Int64) (y : Int32) : Int64 := (x.toUInt64 >>> (y.toInt64.toUInt64 &&& Int64.toUInt64 63)).toInt64
def lsh (x : Int64) (y : Int32) : Int64 := x <<< (y.toInt64 &&& 63)
def irm (x y : Int32) : Int32 := x - x / y * y
def FU : Nat := 20000
def qu2 (S : Nat → Nat → Int32) (k i : Nat) (x : Int32) : Nat → Nat → Int32 := fun q => bif Nat.beq q k then upd (S k) i x else S q
def qu2L (L : Nat → Nat → Int64) (k i : Nat) (x : Int64) : Nat → Nat → Int64 := fun q => bif Nat.beq q k then vp_updL (L k) i x else L q
section BASE
variable {p : Program} {l : Launch} {e : Env} {R : Room} {s : State} {m : MethodId} {args : Array Value} {below : List Frame} {meth : Method} {c : Code} {H : Heap} {locs : List Loc} {cells slots : Nat} {Q : State → Prop} {pc : Nat} {ls : Array Slot} {rest : List Value}
theorem nm_i {x y : Int32} (h : x = y) (k : W p l e R s m args below meth c H locs cells slots Q (F0 m pc ls (.int x :: rest))) : W p l e R s m args below meth c H locs cells slots Q (F0 m pc ls (.int y :: rest)) := h ▸ k
theorem nm_l {x y : Int64} (h : x = y) (k : W p l e R s m args below meth c H locs cells slots Q (F0 m pc ls (.long x :: rest))) : W p l e R s m args below meth c H locs cells slots Q (F0 m pc ls (.long y :: rest)) := h ▸ k
theorem ww_w (k : ∀ WW : Heap → List Loc → Nat → Array Slot → Prop, (WW = fun H locs pc ls => W p l e R s m args below meth c H locs cells slots Q (F0 m pc ls [])) → W p l e R s m args below meth c H locs cells slots Q (F0 m pc ls [])) : W p l e R s m args below meth c H locs cells slots Q (F0 m pc ls []) := k _ rfl
theorem wu_w {WW : Heap → List Loc → Nat → Array Slot → Prop} (h : WW = fun H locs pc ls => W p l e R s m args below meth c H locs cells slots Q (F0 m pc ls [])) (k : WW H locs pc ls) : W p l e R s m args below meth c H locs cells slots Q (F0 m pc ls []) := by subst h; exact k
theorem wi_w {WW : Heap → List Loc → Nat → Array Slot → Prop} (h : WW = fun H locs pc ls => W p l e R s m args below meth c H locs cells slots Q (F0 m pc ls [])) (k : W p l e R s m args below meth c H locs cells slots Q (F0 m pc ls [])) : WW H locs pc ls := by subst h; exact k
theorem ww_r (k : ∀ WW : Nat → Array Slot → Prop, (WW = fun pc ls => W p l e R s m args below meth c H locs cells slots Q (F0 m pc ls [])) → W p l e R s m args below meth c H locs cells slots Q (F0 m pc ls [])) : W p l e R s m args below meth c H locs cells slots Q (F0 m pc ls []) := k _ rfl
theorem wu_r {WW : Nat → Array Slot → Prop} (h : WW = fun pc ls => W p l e R s m args below meth c H locs cells slots Q (F0 m pc ls [])) (k : WW pc ls) : W p l e R s m args below meth c H locs cells slots Q (F0 m pc ls []) := by subst h; exact k
theorem wi_r {WW : Nat → Array Slot → Prop} (h : WW = fun pc ls => W p l e R s m args below meth c H locs cells slots Q (F0 m pc ls [])) (k : W p l e R s m args below meth c H locs cells slots Q (F0 m pc ls [])) : WW pc ls := by subst h; exact k
end BASE
/-- the cells of a world by their addresses, and those that come -/
def AX (n : Nat) (ad : Nat → Nat) (sz : Nat) : Nat → Prop := fun q => (∃ k, k < n ∧ q = ad k) ∨ sz ≤ q
theorem AX_mono {n : Nat} {ad : Nat → Nat} {a b q : Nat} (h : a ≤ b) (hq : AX n ad b q) : AX n ad a q := by
  rcases hq with h1 | h1
  · exact Or.inl h1
  · exact Or.inr (Nat.le_trans h h1)
theorem va_D_congr {A : Nat → Prop} {ws ws' : va_W} (he : ws'.map Prod.fst = ws.map Prod.fst) (h : va_D A ws) : va_D A ws' := by
  have key : ∀ (k : Nat) (q : Nat × va_E), ws'[k]? = some q → ∃ q0, ws[k]? = some q0 ∧ q0.1 = q.1 := by
    intro k q hk
    have h1 : (ws'.map Prod.fst)[k]? = some q.1 := by rw [List.getElem?_map, hk]; rfl
    rw [he, List.getElem?_map] at h1
    cases h2 : ws[k]? with
    | none => rw [h2] at h1; cases h1
    | some q0 => rw [h2] at h1; exact ⟨q0, rfl, Option.some.inj h1⟩
  refine ⟨fun i j x y hi hj hxy => ?_, fun k q hk => ?_⟩
  · obtain ⟨x0, h1, h2⟩ := key i x hi
    obtain ⟨y0, h3, h4⟩ := key j y hj
    exact h.1 i j x0 y0 h1 h3 (h2.trans (hxy.trans h4.symm))
  · obtain ⟨q0, h1, h2⟩ := key k q hk
    rw [← h2]
    exact h.2 k q0 h1
theorem va_D_AX {A : Nat → Prop} {ws : va_W} {n : Nat} {ad : Nat → Nat} {sz : Nat} (he : ws.map Prod.fst = (List.range n).map ad) (h : va_D A ws) : va_D (AX n ad sz) ws := by
  refine ⟨h.1, fun k q hk => Or.inl ?_⟩
  have h1 : (ws.map Prod.fst)[k]? = some q.1 := by rw [List.getElem?_map, hk]; rfl
  rw [he, List.getElem?_map] at h1
  cases h2 : (List.range n)[k]? with
  | none => rw [h2] at h1; cases h1
  | some j =>
    rw [h2] at h1
    have h3 : j < n := List.mem_range.mp (List.mem_of_getElem? h2)
    exact ⟨j, h3, (Option.some.inj h1).symm⟩
theorem sw4_out {x : Int32} (h0 : ¬ x = 0) (h1 : ¬ x = 1) (h2 : ¬ x = 2) (h3 : ¬ x = 3) : x.toInt < 0 ∨ 3 < x.toInt := by
  rw [← Int32.toInt_inj] at h0 h1 h2 h3
  have e0 : (0 : Int32).toInt = 0 := rfl
  have e1 : (1 : Int32).toInt = 1 := rfl
  have e2 : (2 : Int32).toInt = 2 := rfl
  have e3 : (3 : Int32).toInt = 3 := rfl
  omega
