-- ===== the constructors: words =====
def adL : List Nat → Nat → Nat
  | [], _ => 0
  | a :: _, 0 => a
  | _ :: l, k + 1 => adL l k
def QC (sz : Nat) (dC : Nat → ClassId) (dI : Nat → Nat → Nat) (tys : List (ClassId × FieldType)) (N : List (String × Nat × MethodName × String)) (W0 : va_W) (U : State) : Prop := U.heap.size = sz ∧ va_P (dC, dI) vwCl W0 U.heap ∧ va_K (dC, dI) vwCl tys U ∧ va_D (fun _ => True) W0 ∧ ∀ w ∈ N, va_Nw (.methodLinkNest w.1 w.2.1 w.2.2.1 w.2.2.2) U
theorem QC_blind {sz : Nat} {dC : Nat → ClassId} {dI : Nat → Nat → Nat} {tys : List (ClassId × FieldType)} {N : List (String × Nat × MethodName × String)} {W0 : va_W} {av : List Value} : FrameBlind (va_Pc av (QC sz dC dI tys N W0)) := fun a U gg mk q => ⟨q.1, q.2.1, q.2.2.1, va_K.moved (u := U) (U := U.calling gg mk a) (Vm.Alike.refl U.vm) q.2.2.2.1, q.2.2.2.2.1, fun w hw => va_Nw.same (u := U) (U := U.calling gg mk a) rfl rfl (q.2.2.2.2.2 w hw)⟩
theorem QC_at {dC : Nat → ClassId} {dI : Nat → Nat → Nat} {tys : List (ClassId × FieldType)} {N : List (String × Nat × MethodName × String)} {W0 : va_W} {av : List Value} {A : Nat → Prop} {s : State} {H : Heap} (hP : va_P (dC, dI) vwCl W0 H) (hK : va_K (dC, dI) vwCl tys s) (hD : va_D A W0) (hN : ∀ w ∈ N, va_Nw (.methodLinkNest w.1 w.2.1 w.2.2.1 w.2.2.2) s) : ∀ U : State, U.heap = H → s.WarmedH U.vm → va_Pc av (QC H.size dC dI tys N W0) av.toArray U :=
  fun U hU hW => ⟨rfl, by rw [hU], by rw [hU]; exact hP, va_K.moved hW.alike hK, hD.weaken (fun _ _ _ _ => trivial), fun w hw => va_Nw.warmM hW (hN w hw)⟩
section CTOR
variable {p : Program} {l : Launch} {e : Env} {R : Room} {s : State} {m : MethodId} {args : Array Value} {below : List Frame} {meth : Method} {c : Code} {H : Heap} {locs : List Loc} {cells slots : Nat} {Q : State → Prop} {pc : Nat} {ls : Array Slot} {rest : List Value} {D : va_G} {cl : List vw_C} {tys : List (ClassId × FieldType)} {ws : va_W} {A : Nat → Prop} {H0 : Heap} {cc : ByteArray}
theorem nw_i (hexec : p.tables.exec = Jvm.exec) (hb : c.code = cc) (harr : (Cond.arrayClass .int).before args s = true) (hK : va_K D cl tys s) (hP : va_P D cl ws H) (hD : va_D A ws) (hS : va_S A H0 H locs) (hA : ∀ q, H0.size ≤ q → A q) {cI : ClassId} (ki : Nat) (he : tys[ki]? = some (cI, .int)) {n : Int32} {N' : Nat} (hn : ¬ n < 0) (hN : n.toNatClampNeg = N') (hbytes : N' * componentBytes .int ≤ 536870912) (hcells : cells + 1 ≤ R.cells) (hslots : slots + N' ≤ R.slots) (hdg : decode cc pc = .ok (.newarray .int, 2))
    (kk : ∀ (q : Nat) (H1 : Heap), va_P D cl (ws ++ [(q, .inl (cI, N', .inl (fun _ => 0)))]) H1 → va_D A (ws ++ [(q, .inl (cI, N', .inl (fun _ => 0)))]) → va_S A H0 H1 locs → W p l e R s m args below meth c H1 locs (cells + 1) (slots + N') Q (F0 m (pc + 2) ls (.ref q :: rest))) : W p l e R s m args below meth c H locs cells slots Q (F0 m pc ls (.int n :: rest)) := by
  refine va_newa (atype := .int) (ty := .int) (a0 := (N', .inl (fun _ => 0))) hexec hb harr rfl hK hP hD hS hA (fun _ => rfl) hn hN hbytes hcells hslots hdg (fun q cA H1 hK1 hP1 hD1 hS1 => ?_)
  have h1 := (hK1.2 tys.length (cA, .int) (by simp)).2
  have h2 := (hK.2 ki _ he).2
  have h3 : cA = cI := Option.some.inj (h1.symm.trans h2)
  subst h3
  exact kk q H1 hP1 hD1 hS1
theorem nw_j (hexec : p.tables.exec = Jvm.exec) (hb : c.code = cc) (harr : (Cond.arrayClass .long).before args s = true) (hK : va_K D cl tys s) (hP : va_P D cl ws H) (hD : va_D A ws) (hS : va_S A H0 H locs) (hA : ∀ q, H0.size ≤ q → A q) {cI : ClassId} (ki : Nat) (he : tys[ki]? = some (cI, .long)) {n : Int32} {N' : Nat} (hn : ¬ n < 0) (hN : n.toNatClampNeg = N') (hbytes : N' * componentBytes .long ≤ 536870912) (hcells : cells + 1 ≤ R.cells) (hslots : slots + N' ≤ R.slots) (hdg : decode cc pc = .ok (.newarray .long, 2))
    (kk : ∀ (q : Nat) (H1 : Heap), va_P D cl (ws ++ [(q, .inl (cI, N', .inr (.inl (fun _ => 0))))]) H1 → va_D A (ws ++ [(q, .inl (cI, N', .inr (.inl (fun _ => 0))))]) → va_S A H0 H1 locs → W p l e R s m args below meth c H1 locs (cells + 1) (slots + N') Q (F0 m (pc + 2) ls (.ref q :: rest))) : W p l e R s m args below meth c H locs cells slots Q (F0 m pc ls (.int n :: rest)) := by
  refine va_newa (atype := .long) (ty := .long) (a0 := (N', .inr (.inl (fun _ => 0)))) hexec hb harr rfl hK hP hD hS hA (fun _ => rfl) hn hN hbytes hcells hslots hdg (fun q cA H1 hK1 hP1 hD1 hS1 => ?_)
  have h1 := (hK1.2 tys.length (cA, .long) (by simp)).2
  have h2 := (hK.2 ki _ he).2
  have h3 : cA = cI := Option.some.inj (h1.symm.trans h2)
  subst h3
  exact kk q H1 hP1 hD1 hS1
theorem nw_z (hexec : p.tables.exec = Jvm.exec) (hb : c.code = cc) (harr : (Cond.arrayClass .boolean).before args s = true) (hK : va_K D cl tys s) (hP : va_P D cl ws H) (hD : va_D A ws) (hS : va_S A H0 H locs) (hA : ∀ q, H0.size ≤ q → A q) {cI : ClassId} (ki : Nat) (he : tys[ki]? = some (cI, .boolean)) {n : Int32} {N' : Nat} (hn : ¬ n < 0) (hN : n.toNatClampNeg = N') (hbytes : N' * componentBytes .boolean ≤ 536870912) (hcells : cells + 1 ≤ R.cells) (hslots : slots + N' ≤ R.slots) (hdg : decode cc pc = .ok (.newarray .boolean, 2))
    (kk : ∀ (q : Nat) (H1 : Heap), va_P D cl (ws ++ [(q, .inl (cI, N', .inl (fun _ => 0)))]) H1 → va_D A (ws ++ [(q, .inl (cI, N', .inl (fun _ => 0)))]) → va_S A H0 H1 locs → W p l e R s m args below meth c H1 locs (cells + 1) (slots + N') Q (F0 m (pc + 2) ls (.ref q :: rest))) : W p l e R s m args below meth c H locs cells slots Q (F0 m pc ls (.int n :: rest)) := by
  refine va_newa (atype := .boolean) (ty := .boolean) (a0 := (N', .inl (fun _ => 0))) hexec hb harr rfl hK hP hD hS hA (fun _ => rfl) hn hN hbytes hcells hslots hdg (fun q cA H1 hK1 hP1 hD1 hS1 => ?_)
  have h1 := (hK1.2 tys.length (cA, .boolean) (by simp)).2
  have h2 := (hK.2 ki _ he).2
  have h3 : cA = cI := Option.some.inj (h1.symm.trans h2)
  subst h3
  exact kk q H1 hP1 hD1 hS1
end CTOR
/-- the class's numbers when it is new -/
def sI (f15 f16 f29 : Nat → Int32) : Nat → Nat → Int32 := fun k => bif Nat.beq k 15 then f15 else bif Nat.beq k 16 then f16 else bif Nat.beq k 29 then f29 else fun _ => 0
def okX (S : Nat → Nat → Int32) : Prop := (∀ k i, k ≠ 15 → k ≠ 16 → k ≠ 29 → S k i = 0) ∧ (∀ i, i < 96 → S 15 i = -1) ∧ (∀ i, i < 96 → S 16 i = -1) ∧ ∀ i, i < 12 → S 29 i = nI (i % 3)
theorem sI_ok {f15 f16 f29 : Nat → Int32} (h1 : ∀ i, i < 96 → f15 i = -1) (h2 : ∀ i, i < 96 → f16 i = -1) (h3 : ∀ i, i < 12 → f29 i = nI (i % 3)) : okX (sI f15 f16 f29) := by
  have nb : ∀ a b, a ≠ b → Nat.beq a b = false := fun a b h => by cases hb : Nat.beq a b with
    | true => exact absurd (Nat.eq_of_beq_eq_true hb) h
    | false => rfl
  refine ⟨fun k i a b c => ?_, h1, h2, h3⟩
  unfold sI
  rw [nb k 15 a, nb k 16 b, nb k 29 c]
  rfl
def sM (g : Nat → Int32) : Nat → Nat → Int32 := fun k => bif Nat.beq k 1 then g else fun _ => 0
def okM (S : Nat → Nat → Int32) : Prop := (∀ k i, k ≠ 1 → S k i = 0) ∧ (∀ x, x < 12 → S 1 (942 + x) = nI (x % 3)) ∧ ∀ x, x < 942 ∨ 942 + 12 ≤ x → S 1 x = 0
theorem sM_ok {g : Nat → Int32} (h : (∀ x, x < 12 → g (942 + x) = nI (x % 3)) ∧ ∀ x, x < 942 ∨ 942 + 12 ≤ x → g x = 0) : okM (sM g) := by
  have nb : ∀ a b, a ≠ b → Nat.beq a b = false := fun a b h => by cases hb : Nat.beq a b with
    | true => exact absurd (Nat.eq_of_beq_eq_true hb) h
    | false => rfl
  refine ⟨fun k i a => ?_, h.1, h.2⟩
  unfold sM
  rw [nb k 1 a]
  rfl
set_option maxHeartbeats 4000000 in
set_option maxRecDepth 100000 in
theorem mfill96 (l : Launch) (dC : Nat → ClassId) (dI : Nat → Nat → Nat) (cI : ClassId) (a : Nat) (f : Nat → Int32) (v : Int32) (sz : Nat) : Met l yJ7_fill_53178 wsJ7_fill_53178 ({ frames := 0, cells := 0, slots := 0, locals := 0 }) (va_Pc [.ref a, .int v] (QC sz dC dI [(cI, .int)] [] [(a, .inl (cI, 96, .inl f))])) (va_Qv (fun (g : Nat → Int32) => ∀ i, i < 96 → g i = v) (fun (g : Nat → Int32) t => va_P (dC, dI) vwCl [(a, .inl (cI, 96, .inl g))] t.heap ∧ va_D (va_A [(a, .inl (cI, 96, .inl f))] sz) [(a, .inl (cI, 96, .inl g))]) (va_A [(a, .inl (cI, 96, .inl f))] sz)) 0 0 (va_A [(a, .inl (cI, 96, .inl f))] sz) := by
  refine Met.ofW (cc := cJ7_fill_53178) (maxL := 4) (ret := none) (by decide) rfl ?_
  intro p e s m args below meth c s₁ B hml hv
  obtain ⟨rfl, hsz, hP, hK, hD0, hN⟩ := hv
  have hx := B.exec
  have hb := B.bytes
  have hr := B.returns
  have hts := atoms_spec (ws := wsJ7_fill_53178) B.pre
  have hown : s.vm.findClass RJ7 = some m.cls := findClass_of_methodNamed B.named
  subst hsz
  have hD := hD0.self (sz := s.heap.size)
  generalize hAe : va_A [(a, .inl (cI, 96, .inl f))] s.heap.size = A at hD ⊢
  have hS : va_S A s.heap s.heap [] := va_S.rf
  have hl := lv_entry ([.ref a, .int v]) (n := 4) (Nat.le_of_ble_eq_true rfl)
  rw [lg_entry_eq]
  generalize (lg_sl ([.ref a, .int v]) ++ List.replicate (4 - (lg_sl ([.ref a, .int v])).length) Slot.unset).toArray = ls at hl ⊢
  have hl : lv_has ls 4 [(0, .ref a), (1, .int v)] := hl
  refine lv_iconst (v := 0) hx hb dJ7_fill_53178_0 (by decide) ?_
  refine lv_istore_n (lv' := [(2, .int 0), (0, .ref a), (1, .int v)]) hx hb dJ7_fill_53178_1 rfl hl (by decide) rfl (fun ls hl => ?_)
  refine lv_aload_n hx hb dJ7_fill_53178_2 rfl (lv_at hl 1 rfl) ?_
  refine va_alen (v := 96) hx hb hK hP 0 0 rfl rfl rfl dJ7_fill_53178_3 ?_
  refine lv_istore_n (lv' := [(3, .int 96), (2, .int 0), (0, .ref a), (1, .int v)]) hx hb dJ7_fill_53178_4 rfl hl (by decide) rfl (fun ls hl => ?_)
  refine ww_w (fun WW hWW => ?_)
  have Lh : ∀ (d i : Nat), i + d = 96 → ∀ (g : Nat → Int32), (∀ x, x < i → g x = v) → ∀ (H : Heap) (locs : List Loc), va_P (dC, dI) vwCl [(a, .inl (cI, 96, .inl g))] H → va_S A s.heap H locs → ∀ ls : Array Slot, lv_has ls 4 [(0, .ref a), (1, .int v), (2, .int (nI i)), (3, .int 96)] → WW H locs 5 ls := by
    intro d
    induction d with
    | zero =>
      intro i hi g hg H locs hP hS ls hl
      have hD : va_D A [(a, .inl (cI, 96, .inl g))] := va_D_congr (by rfl) hD
      refine wi_w hWW ?_
      refine lv_iload_n hx hb dJ7_fill_53178_5 rfl (lv_at hl 2 rfl) ?_
      refine lv_iload_n hx hb dJ7_fill_53178_6 rfl (lv_at hl 3 rfl) ?_
      refine lv_icmp_ge (tgt := 20) hx hb dJ7_fill_53178_7 (by decide) (fun c4 => ?_) (fun c4 => absurd (show (96 : Int32) ≤ nI i from nI_le (a := 96) (by omega) (by omega)) c4)
      exact W.vret hx hb hr (fun t ht hW => ⟨⟨g, rfl, fun x hx9 => hg x (by omega), by rw [ht]; exact hP, hD⟩, hS.F ht⟩) hS.2.2 dJ7_fill_53178_20
    | succ d ih =>
      intro i hi g hg H locs hP hS ls hl
      have hD : va_D A [(a, .inl (cI, 96, .inl g))] := va_D_congr (by rfl) hD
      refine wi_w hWW ?_
      refine lv_iload_n hx hb dJ7_fill_53178_5 rfl (lv_at hl 2 rfl) ?_
      refine lv_iload_n hx hb dJ7_fill_53178_6 rfl (lv_at hl 3 rfl) ?_
      refine lv_icmp_ge (tgt := 20) hx hb dJ7_fill_53178_7 (by decide) (fun c4 => absurd (show (96 : Int32) ≤ nI i from c4) (nI_ge (b := 96) (by omega) (by decide))) (fun c4 => ?_)
      refine lv_aload_n hx hb dJ7_fill_53178_10 rfl (lv_at hl 0 rfl) ?_
      refine lv_iload_n hx hb dJ7_fill_53178_11 rfl (lv_at hl 2 rfl) ?_
      refine lv_iload_n hx hb dJ7_fill_53178_12 rfl (lv_at hl 1 rfl) ?_
      refine va_iast hx hb hK hP hD hS 0 0 rfl rfl (vp_in_nI (n := i) (by omega) (by decide)) dJ7_fill_53178_13 (fun H locs hP9 _ hS => ?_)
      rw [nI_clamp (show i < 2 ^ 31 by omega)] at hP9
      have hP : va_P (dC, dI) vwCl [(a, .inl (cI, 96, .inl (upd g i v)))] H := hP9
      refine lv_iinc (v := nI (i + 1)) (lv' := [(2, .int (nI (i + 1))), (0, .ref a), (1, .int v), (3, .int 96)]) hx hb dJ7_fill_53178_14 hl (k := 2) rfl (by rw [← nI_1]; rfl) (by decide) rfl (fun ls hl => ?_)
      refine lv_goto (tgt := 5) hx hb dJ7_fill_53178_17 (by decide) ?_
      refine wu_w hWW ?_
      exact ih (i + 1) (by omega) (upd g i v) (fun x hx9 => by
        by_cases e9 : x = i
        · subst e9; rw [pk_us]
        · rw [pk_un e9]; exact hg x (by omega)) H locs hP hS ls (lv_sub hl [1, 2, 0, 3] rfl)
  refine wu_w hWW ?_
  exact Lh 96 0 (by omega) f (fun x hx9 => absurd hx9 (Nat.not_lt_zero x)) _ _ hP hS ls (lv_sub hl [2, 3, 1, 0] rfl)
