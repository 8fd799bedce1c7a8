-- ===== the law: what stands through it, the two worlds side by side =====
def LC (p : Program) (s : State) (m : MethodId) (c : Code) (b Ln : Nat) (xs : Nat → Int32) : Prop := p.tables.exec = Jvm.exec ∧ c.code = cL_law ∧ c.maxLocals = 4 ∧ s.vm.findClass RL = some m.cls ∧ (∀ w ∈ wsL_law, w.before #[Value.ref b] s = true) ∧ va_X b Ln xs s s.heap ∧ b < s.heap.size
theorem ap_l {w1 w2 : va_W} {k : Nat} {q : Nat × va_E} (h : w1[k]? = some q) : (w1 ++ w2)[k]? = some q := by
  have h1 : k < w1.length := (List.getElem?_eq_some_iff.mp h).1
  rw [List.getElem?_append_left h1]
  exact h
theorem ap_r {w1 w2 : va_W} {k : Nat} {q : Nat × va_E} (h : w2[k]? = some q) : (w1 ++ w2)[w1.length + k]? = some q := by
  rw [List.getElem?_append_right (Nat.le_add_right _ _), Nat.add_sub_cancel_left]
  exact h
theorem P_l {D : va_G} {cl : List vw_C} {w1 w2 : va_W} {H : Heap} (h : va_P D cl (w1 ++ w2) H) : va_P D cl w1 H := fun k q hk => h k q (ap_l hk)
theorem P_r {D : va_G} {cl : List vw_C} {w1 w2 : va_W} {H : Heap} (h : va_P D cl (w1 ++ w2) H) : va_P D cl w2 H := fun k q hk => h (w1.length + k) q (ap_r hk)
theorem D_l {A : Nat → Prop} {w1 w2 : va_W} (h : va_D A (w1 ++ w2)) : va_D A w1 := ⟨fun i j x y hi hj e => h.1 i j x y (ap_l hi) (ap_l hj) e, fun k q hk => h.2 k q (ap_l hk)⟩
theorem D_r {A : Nat → Prop} {w1 w2 : va_W} (h : va_D A (w1 ++ w2)) : va_D A w2 := ⟨fun i j x y hi hj e => Nat.add_left_cancel (h.1 (w1.length + i) (w1.length + j) x y (ap_r hi) (ap_r hj) e), fun k q hk => h.2 (w1.length + k) q (ap_r hk)⟩
theorem D_ne {A : Nat → Prop} {w1 w2 : va_W} (h : va_D A (w1 ++ w2)) {i j : Nat} {x y : Nat × va_E} (hi : w1[i]? = some x) (hj : w2[j]? = some y) : x.1 ≠ y.1 := fun e => by
  have h1 := h.1 i (w1.length + j) x y (ap_l hi) (ap_r hj) e
  have h2 : i < w1.length := (List.getElem?_eq_some_iff.mp hi).1
  omega
theorem fst_at {ws : va_W} {n : Nat} {ad : Nat → Nat} (he : ws.map Prod.fst = (List.range n).map ad) {j : Nat} (hj : j < n) : ∃ q, ws[j]? = some q ∧ q.1 = ad j := by
  have h1 : (ws.map Prod.fst)[j]? = some (ad j) := by
    rw [he, List.getElem?_map, List.getElem?_range hj]
    rfl
  rw [List.getElem?_map] at h1
  cases h2 : ws[j]? with
  | none => rw [h2] at h1; cases h1
  | some q => rw [h2] at h1; exact ⟨q, rfl, Option.some.inj h1⟩
theorem XM_D {cI cJ cZ : ClassId} {ad bd : Nat → Nat} {S M : Nat → Nat → Int32} {L : Nat → Nat → Int64} {A : Nat → Prop} (h : va_D A (wX cI cJ ad S L ++ wM cI cZ bd M)) (S' : Nat → Nat → Int32) (L' : Nat → Nat → Int64) (M' : Nat → Nat → Int32) : va_D A (wX cI cJ ad S' L' ++ wM cI cZ bd M') := va_D_congr (by rfl) h
theorem joinX {D : va_G} {cI cJ cZ : ClassId} {ad bd : Nat → Nat} {S M S1 : Nat → Nat → Int32} {L L1 : Nat → Nat → Int64} {A : Nat → Prop} {H H1 : Heap} (hP : va_P D vwCl (wX cI cJ ad S L ++ wM cI cZ bd M) H) (hD : va_D A (wX cI cJ ad S L ++ wM cI cZ bd M)) (hk : ∀ q : Nat, q < H.size → ¬ AX 43 ad H.size q → H1[q]? = H[q]?) (hP1 : va_P D vwCl (wX cI cJ ad S1 L1) H1) : va_P D vwCl (wX cI cJ ad S1 L1 ++ wM cI cZ bd M) H1 := by
  have hM := P_r hP
  refine va_P.app hP1 (hM.kept (fun k q hq => ?_))
  have hlt := (hM k q hq).lt
  refine hk q.1 hlt (fun h => ?_)
  rcases h with ⟨j, hj, e⟩ | h
  · obtain ⟨x, h1, h2⟩ := fst_at (ws := wX cI cJ ad S L) (n := 43) (ad := ad) (by rfl) hj
    exact D_ne hD h1 hq (h2.trans e.symm)
  · exact absurd hlt (Nat.not_lt.mpr h)
theorem joinM {D : va_G} {cI cJ cZ : ClassId} {ad bd : Nat → Nat} {S M M1 : Nat → Nat → Int32} {L : Nat → Nat → Int64} {A : Nat → Prop} {H H1 : Heap} (hP : va_P D vwCl (wX cI cJ ad S L ++ wM cI cZ bd M) H) (hD : va_D A (wX cI cJ ad S L ++ wM cI cZ bd M)) (hk : ∀ q : Nat, q < H.size → ¬ AX 7 bd H.size q → H1[q]? = H[q]?) (hP1 : va_P D vwCl (wM cI cZ bd M1) H1) : va_P D vwCl (wX cI cJ ad S L ++ wM cI cZ bd M1) H1 := by
  have hX := P_l hP
  refine va_P.app (hX.kept (fun k q hq => ?_)) hP1
  have hlt := (hX k q hq).lt
  refine hk q.1 hlt (fun h => ?_)
  rcases h with ⟨j, hj, e⟩ | h
  · obtain ⟨x, h1, h2⟩ := fst_at (ws := wM cI cZ bd M) (n := 7) (ad := bd) (by rfl) hj
    exact D_ne hD hq h1 (e.trans h2.symm)
  · exact absurd hlt (Nat.not_lt.mpr h)
theorem freeX {cI cJ cZ : ClassId} {ad bd : Nat → Nat} {S M : Nat → Nat → Int32} {L : Nat → Nat → Int64} {A : Nat → Prop} {H0 H : Heap} {locs : List Loc} (hD : va_D A (wX cI cJ ad S L ++ wM cI cZ bd M)) (hS : va_S A H0 H locs) (hA : ∀ q : Nat, H0.size ≤ q → A q) : ∀ q : Nat, AX 43 ad H.size q → A q := by
  intro q h
  rcases h with ⟨j, hj, e⟩ | h
  · obtain ⟨x, h1, h2⟩ := fst_at (ws := wX cI cJ ad S L) (n := 43) (ad := ad) (by rfl) hj
    have h3 := hD.2 _ x (ap_l h1)
    rw [h2, ← e] at h3
    exact h3
  · exact hA q (Nat.le_trans hS.1 h)
theorem freeM {cI cJ cZ : ClassId} {ad bd : Nat → Nat} {S M : Nat → Nat → Int32} {L : Nat → Nat → Int64} {A : Nat → Prop} {H0 H : Heap} {locs : List Loc} (hD : va_D A (wX cI cJ ad S L ++ wM cI cZ bd M)) (hS : va_S A H0 H locs) (hA : ∀ q : Nat, H0.size ≤ q → A q) : ∀ q : Nat, AX 7 bd H.size q → A q := by
  intro q h
  rcases h with ⟨j, hj, e⟩ | h
  · obtain ⟨x, h1, h2⟩ := fst_at (ws := wM cI cZ bd M) (n := 7) (ad := bd) (by rfl) hj
    have h3 := hD.2 _ x (ap_r (w1 := wX cI cJ ad S L) h1)
    rw [h2, ← e] at h3
    exact h3
  · exact hA q (Nat.le_trans hS.1 h)
theorem arrK {ty : FieldType} {args : Array Value} {s : State} (h : (Cond.arrayClass ty).before args s = true) : ∃ cA : ClassId, ArrOfT s cA ty ∧ s.vm.findClass ("[" ++ ty.toString) = some cA := by
  obtain ⟨cA, kA, comp, h1, h2, h3⟩ := Cond.arrayClass_spec h
  exact ⟨cA, fun n z => ⟨fun k h => (by cases h), kA, h2, comp, h3⟩, h1⟩
theorem rel_new {S M : Nat → Nat → Int32} (hX : okX S) (hM : okM M) : Rel S (fun _ _ => 0) M := by
  have n0 : (nI 0 : Int32) = 0 := rfl
  have m0 : ∀ x, x < 942 ∨ 942 + 12 ≤ x → M 1 x = 0 := hM.2.2
  have z : ∀ r : Nat, lb 0 r = true → False := fun r h => by rw [lb_zero] at h; cases h
  refine ⟨0, 0, 0, 0, 0, ?_, ?_, ?_, ?_, ?_, ?_, ?_, ?_⟩
  · exact ⟨⟨m0 0 (by omega), by omega⟩, ⟨m0 1 (by omega), by omega⟩, ⟨m0 2 (by omega), by omega⟩, ⟨m0 3 (by omega), by omega⟩, ⟨m0 4 (by omega), by omega⟩⟩
  · refine ⟨hX.1 1 0 (by decide) (by decide) (by decide), hX.1 1 1 (by decide) (by decide) (by decide), fun c h => absurd h (Nat.not_lt_zero c), fun c _ _ => hX.1 14 c (by decide) (by decide) (by decide), fun c t h => absurd h (Nat.not_lt_zero c), fun c t _ h1 h2 => ⟨hX.2.1 (6 * c + t) (by omega), hX.2.2.1 (6 * c + t) (by omega)⟩, fun j h => absurd h (Nat.not_lt_zero j)⟩
  · exact ⟨hX.1 2 0 (by decide) (by decide) (by decide), fun r h => absurd h (Nat.not_lt_zero r), fun r _ _ => hX.1 23 r (by decide) (by decide) (by decide)⟩
  · exact ⟨fun a k r _ _ _ => ⟨fun h => (z r h).elim, fun h => absurd h.1 (Nat.not_lt_zero r)⟩, fun t x r _ _ _ => ⟨fun h => (z r h).elim, fun h => absurd h.1 (Nat.not_lt_zero r)⟩, fun a b r _ _ _ => ⟨fun h => (z r h).elim, fun h => absurd h.1 (Nat.not_lt_zero r)⟩⟩
  · refine ⟨fun k hk => ?_, fun a ha => ?_⟩
    · rw [hX.2.2.2 k hk, hM.2.1 k hk]
      exact ⟨rfl, k % 3, Nat.mod_lt k (by decide), rfl⟩
    · rw [hX.1 30 a (by decide) (by decide) (by decide), m0 (954 + a) (by omega)]
      exact ⟨rfl, 0, by decide, rfl⟩
  · exact ⟨hX.1 4 0 (by decide) (by decide) (by decide), fun j h => absurd h (Nat.not_lt_zero j)⟩
  · exact ⟨hX.1 5 0 (by decide) (by decide) (by decide), fun j h => absurd h (Nat.not_lt_zero j), fun i j _ h => absurd h (Nat.not_lt_zero j)⟩
  · exact fun i _ => hM.1 3 i (by decide)
