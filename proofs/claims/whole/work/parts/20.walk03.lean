set_option maxHeartbeats 4000000 in
set_option maxRecDepth 100000 in
theorem mX11_puts (l : Launch) (dC : Nat → ClassId) (dI : Nat → Nat → Nat) (cI cZ : ClassId) (ad : Nat → Nat) (p1 : Int32) (p2 : Int32) (S : Nat → Nat → Int32) (sz : Nat) {z : Int32 × (Nat → Nat → Int32)} (h : sX11_puts p1 p2 S = some z) : Met l yX11_puts wsX11_puts ({ frames := 0, cells := 0, slots := 0, locals := 0 }) (va_Pc [.ref (ad 0), .int p1, .int p2] (QMs sz dC dI cI cZ ad S)) (va_Qi (fun (r : Int32) (u : (Nat → Nat → Int32)) => (r, u) = z) (fun (u : (Nat → Nat → Int32)) t => va_P (dC, dI) vwCl (wM cI cZ ad u) t.heap) (AX 7 ad sz)) 0 0 (AX 7 ad sz) := by
  refine Met.ofW (cc := cX11_puts) (maxL := 4) (ret := (some .int)) (by decide) rfl ?_
  intro p e s m args below meth c s₁ B hml hv
  obtain ⟨rfl, hsz, hP, hK, hD0⟩ := hv
  have hx := B.exec
  have hb := B.bytes
  have hr := B.returns
  have hts := atoms_spec (ws := wsX11_puts) B.pre
  have hown : s.vm.findClass RX11 = some m.cls := findClass_of_methodNamed B.named
  have hlocks := B.notSynchronized
  subst hsz
  have hD := wM_DA hD0 s.heap.size
  have hS : va_S (AX 7 ad s.heap.size) s.heap s.heap [] := va_S.rf
  have hl := lv_entry ([.ref (ad 0), .int p1, .int p2]) (n := 4) (Nat.le_of_ble_eq_true rfl)
  rw [lg_entry_eq]
  generalize (lg_sl ([.ref (ad 0), .int p1, .int p2]) ++ List.replicate (4 - (lg_sl ([.ref (ad 0), .int p1, .int p2])).length) Slot.unset).toArray = ls at hl ⊢
  have hl : lv_has ls 4 [(0, .ref (ad 0)), (1, .int p1), (2, .int p2)] := hl
  have hf7 := hts (.fieldLink RX11 7 "LawRingsModel" "st" "[I") (by decide +kernel)
  have hiX11 : ∀ w ∈ u_ws RX11 TX11 8, w ∈ wsX11_puts := by decide +kernel
  rw [sX11_puts] at h
  refine lv_aload_n hx hb dX11_puts_0 rfl (lv_at hl 0 rfl) ?_
  refine va_get (D := (dC, dI)) (ci := 11) (v := .ref (ad 1)) (C := RX11) (T := TX11) (N := 8) hx hb hts hiX11 hown hK hP 0 rfl rfl 0 (by decide) hf7 (fun _ h9 => h9) rfl dX11_puts_1 ?_
  refine lv_iload_n hx hb dX11_puts_4 rfl (lv_at hl 1 rfl) ?_
  obtain ⟨b1, h⟩ := ck_elim h
  refine va_iald hx hb hK hP 1 0 rfl rfl b1 dX11_puts_5 ?_
  obtain ⟨x2, ex2, h⟩ := bnd_elim h
  refine nm_i ex2 ?_
  refine lv_istore_n (lv' := [(3, .int x2), (0, .ref (ad 0)), (1, .int p1), (2, .int p2)]) hx hb dX11_puts_6 rfl hl (by decide) rfl (fun ls hl => ?_)
  refine lv_aload_n hx hb dX11_puts_7 rfl (lv_at hl 1 rfl) ?_
  refine va_get (D := (dC, dI)) (ci := 11) (v := .ref (ad 1)) (C := RX11) (T := TX11) (N := 8) hx hb hts hiX11 hown hK hP 0 rfl rfl 0 (by decide) hf7 (fun _ h9 => h9) rfl dX11_puts_8 ?_
  refine lv_iload_n hx hb dX11_puts_11 rfl (lv_at hl 2 rfl) ?_
  refine lv_iload_n hx hb dX11_puts_12 rfl (lv_at hl 3 rfl) ?_
  obtain ⟨b3, h⟩ := ck_elim h
  obtain ⟨S4, eS4, h⟩ := bnd_elim h
  refine va_iast hx hb hK hP hD hS 1 0 rfl rfl b3 dX11_puts_13 (fun H locs hP9 _ hS => ?_)
  have hP := swM_1 hP9
  rw [← eS4] at hP
  have hD := wM_D hD S4
  refine lv_iload_n hx hb dX11_puts_14 rfl (lv_at hl 0 rfl) ?_
  cases h
  exact W.iret hx hb hr (fun t ht hW => ⟨⟨_, _, rfl, rfl, by show va_P _ _ _ t.heap; rw [ht]; exact hP⟩, hS.F ht⟩) hS.2.2 dX11_puts_15
set_option maxHeartbeats 4000000 in
set_option maxRecDepth 100000 in
theorem mX11_sort (l : Launch) (dC : Nat → ClassId) (dI : Nat → Nat → Nat) (cI cZ : ClassId) (ad : Nat → Nat) (p1 : Int32) (p2 : Int32) (p3 : Int32) (S : Nat → Nat → Int32) (sz : Nat) {z : Int32 × (Nat → Nat → Int32)} (h : sX11_sort p1 p2 p3 S = some z) : Met l yX11_sort wsX11_sort ({ frames := 2, cells := 0, slots := 0, locals := 42 }) (va_Pc [.ref (ad 0), .int p1, .int p2, .int p3] (QMs sz dC dI cI cZ ad S)) (va_Qi (fun (r : Int32) (u : (Nat → Nat → Int32)) => (r, u) = z) (fun (u : (Nat → Nat → Int32)) t => va_P (dC, dI) vwCl (wM cI cZ ad u) t.heap) (AX 7 ad sz)) 0 0 (AX 7 ad sz) := by
  refine Met.ofW (cc := cX11_sort) (maxL := 4) (ret := (some .int)) (by decide) rfl ?_
  intro p e s m args below meth c s₁ B hml hv
  obtain ⟨rfl, hsz, hP, hK, hD0⟩ := hv
  have hx := B.exec
  have hb := B.bytes
  have hr := B.returns
  have hts := atoms_spec (ws := wsX11_sort) B.pre
  have hown : s.vm.findClass RX11 = some m.cls := findClass_of_methodNamed B.named
  have hlocks := B.notSynchronized
  subst hsz
  have hD := wM_DA hD0 s.heap.size
  have hS : va_S (AX 7 ad s.heap.size) s.heap s.heap [] := va_S.rf
  have hl := lv_entry ([.ref (ad 0), .int p1, .int p2, .int p3]) (n := 4) (Nat.le_of_ble_eq_true rfl)
  rw [lg_entry_eq]
  generalize (lg_sl ([.ref (ad 0), .int p1, .int p2, .int p3]) ++ List.replicate (4 - (lg_sl ([.ref (ad 0), .int p1, .int p2, .int p3])).length) Slot.unset).toArray = ls at hl ⊢
  have hl : lv_has ls 4 [(0, .ref (ad 0)), (1, .int p1), (2, .int p2), (3, .int p3)] := hl
  rw [sX11_sort] at h
  refine lv_iload_n hx hb dX11_sort_0 rfl (lv_at hl 1 rfl) ?_
  obtain ⟨r2, k1, h⟩ := ob_elim h
  refine vp_callSi (W.runS (As := [.int p1]) (rest := []) ⟨hx, hb, hml, hown, hts⟩ (mX11_isLand l p1 k1) (va_cwS 1 hts gX11_sort_X11_isLand rfl rfl rfl (by decide +kernel) ⟨Nat.le_of_ble_eq_true rfl, Nat.le_of_ble_eq_true rfl⟩) ⟨fun _ _ _ _ q => q, fun U hU hW => ⟨rfl, trivial⟩⟩ rfl rfl hl.1 rfl (lv_room (Nat.le_of_ble_eq_true rfl)) dX11_sort_1 ⟨Nat.zero_le _, Nat.zero_le _⟩) (fun r9 er9 => ?_)
  replace er9 := er9.symm
  subst er9
  refine lv_if_eq (tgt := 38) hx hb dX11_sort_4 (by decide) (fun c3 => ?_) (fun c3 => ?_)
  · replace h := it_t c3 h
    refine lv_bipush (v := (-2)) hx hb dX11_sort_38 (by decide) ?_
    cases h
    exact W.iret hx hb hr (fun t ht hW => ⟨⟨_, _, rfl, rfl, by show va_P _ _ _ t.heap; rw [ht]; exact hP⟩, hS.F ht⟩) hS.2.2 dX11_sort_40
  · replace h := it_f c3 h
    refine lv_iload_n hx hb dX11_sort_7 rfl (lv_at hl 2 rfl) ?_
    obtain ⟨r5, k4, h⟩ := ob_elim h
    refine vp_callSi (W.runS (As := [.int p2]) (rest := []) ⟨hx, hb, hml, hown, hts⟩ (mX11_isKind l p2 k4) (va_cwS 1 hts gX11_sort_X11_isKind rfl rfl rfl (by decide +kernel) ⟨Nat.le_of_ble_eq_true rfl, Nat.le_of_ble_eq_true rfl⟩) ⟨fun _ _ _ _ q => q, fun U hU hW => ⟨rfl, trivial⟩⟩ rfl rfl hl.1 rfl (lv_room (Nat.le_of_ble_eq_true rfl)) dX11_sort_8 ⟨Nat.zero_le _, Nat.zero_le _⟩) (fun r9 er9 => ?_)
    replace er9 := er9.symm
    subst er9
    refine lv_if_eq (tgt := 38) hx hb dX11_sort_11 (by decide) (fun c6 => ?_) (fun c6 => ?_)
    · replace h := it_t c6 h
      refine lv_bipush (v := (-2)) hx hb dX11_sort_38 (by decide) ?_
      cases h
      exact W.iret hx hb hr (fun t ht hW => ⟨⟨_, _, rfl, rfl, by show va_P _ _ _ t.heap; rw [ht]; exact hP⟩, hS.F ht⟩) hS.2.2 dX11_sort_40
    · replace h := it_f c6 h
      refine lv_iload_n hx hb dX11_sort_14 rfl (lv_at hl 3 rfl) ?_
      obtain ⟨r8, k7, h⟩ := ob_elim h
      refine vp_callSi (W.runS (As := [.int p3]) (rest := []) ⟨hx, hb, hml, hown, hts⟩ (mX11_isKind l p3 k7) (va_cwS 1 hts gX11_sort_X11_isKind rfl rfl rfl (by decide +kernel) ⟨Nat.le_of_ble_eq_true rfl, Nat.le_of_ble_eq_true rfl⟩) ⟨fun _ _ _ _ q => q, fun U hU hW => ⟨rfl, trivial⟩⟩ rfl rfl hl.1 rfl (lv_room (Nat.le_of_ble_eq_true rfl)) dX11_sort_15 ⟨Nat.zero_le _, Nat.zero_le _⟩) (fun r9 er9 => ?_)
      replace er9 := er9.symm
      subst er9
      refine lv_if_eq (tgt := 38) hx hb dX11_sort_18 (by decide) (fun c9 => ?_) (fun c9 => ?_)
      · replace h := it_t c9 h
        refine lv_bipush (v := (-2)) hx hb dX11_sort_38 (by decide) ?_
        cases h
        exact W.iret hx hb hr (fun t ht hW => ⟨⟨_, _, rfl, rfl, by show va_P _ _ _ t.heap; rw [ht]; exact hP⟩, hS.F ht⟩) hS.2.2 dX11_sort_40
      · replace h := it_f c9 h
        refine lv_aload_n hx hb dX11_sort_21 rfl (lv_at hl 0 rfl) ?_
        refine lv_sipush (v := 942) hx hb dX11_sort_22 (by decide) ?_
        refine lv_iconst (v := 3) hx hb dX11_sort_25 (by decide) ?_
        refine lv_iload_n hx hb dX11_sort_26 rfl (lv_at hl 1 rfl) ?_
        refine lv_imul hx hb dX11_sort_27 ?_
        refine lv_iadd hx hb dX11_sort_28 ?_
        refine lv_iload_n hx hb dX11_sort_29 rfl (lv_at hl 2 rfl) ?_
        refine lv_iadd hx hb dX11_sort_30 ?_
        refine lv_iload_n hx hb dX11_sort_31 rfl (lv_at hl 3 rfl) ?_
        obtain ⟨r12, S11, k10, h⟩ := ob2_elim h
        refine va_calli (va_runV (As := [.int ((942 + (3 * p1)) + p2), .int p3]) (rest := []) ⟨hx, hb, hml, hown, hts⟩ (mX11_puts l dC dI cI cZ ad ((942 + (3 * p1)) + p2) p3 S s.heap.size k10) (cwV 2 hts gX11_sort_X11_puts rfl rfl rfl (by decide +kernel) ⟨Nat.le_of_ble_eq_true rfl, Nat.le_of_ble_eq_true rfl⟩) ⟨QMs_blind, va_recv hK hP (ci := 11) (q0 := 0) rfl rfl, fun U hU hW => ⟨rfl, congrArg Array.size hU, QM_at hP hK hD hU hW⟩⟩ rfl rfl hl.1 rfl (lv_room (Nat.le_of_ble_eq_true rfl)) dX11_sort_32 ⟨Nat.zero_le _, Nat.zero_le _⟩) hS (fun q _ hq => AX_mono hS.1 hq) (fun q hq => AX_mono hS.1 hq) (fun r u t H1 locs ht hvm hw hB hz1 hk1 hS => ?_)
        cases hw
        rw [ht] at hB
        have hP := hB
        clear hB hk1 hz1
        generalize H1 = H at hP hS ⊢
        have hD := wM_D hD S11
        refine lv_goto (tgt := 40) hx hb dX11_sort_35 (by decide) ?_
        cases h
        exact W.iret hx hb hr (fun t ht hW => ⟨⟨_, _, rfl, rfl, by show va_P _ _ _ t.heap; rw [ht]; exact hP⟩, hS.F ht⟩) hS.2.2 dX11_sort_40
set_option maxHeartbeats 4000000 in
set_option maxRecDepth 100000 in
theorem mX10_way (l : Launch) (dC : Nat → ClassId) (dI : Nat → Nat → Nat) (cI cJ : ClassId) (ad : Nat → Nat) (p1 : Int32) (p2 : Int32) (S : Nat → Nat → Int32) (L : Nat → Nat → Int64) (sz : Nat) {z : Int32 × (Nat → Nat → Int32) × (Nat → Nat → Int64)} (h : sX10_way p1 p2 S L = some z) : Met l yX10_way wsX10_way ({ frames := 2, cells := 0, slots := 0, locals := 41 }) (va_Pc [.ref (ad 0), .int p1, .int p2] (QXs sz dC dI cI cJ ad S L)) (va_Qi (fun (r : Int32) (u : (Nat → Nat → Int32) × (Nat → Nat → Int64)) => (r, u) = z) (fun (u : (Nat → Nat → Int32) × (Nat → Nat → Int64)) t => va_P (dC, dI) vwCl (wX cI cJ ad u.1 u.2) t.heap) (AX 43 ad sz)) 0 0 (AX 43 ad sz) := by
  refine Met.ofW (cc := cX10_way) (maxL := 4) (ret := (some .int)) (by decide) rfl ?_
  intro p e s m args below meth c s₁ B hml hv
  obtain ⟨rfl, hsz, hP, hK, hD0⟩ := hv
  have hx := B.exec
  have hb := B.bytes
  have hr := B.returns
  have hts := atoms_spec (ws := wsX10_way) B.pre
  have hown : s.vm.findClass RX10 = some m.cls := findClass_of_methodNamed B.named
  have hlocks := B.notSynchronized
  subst hsz
  have hD := wX_DA hD0 s.heap.size
  have hS : va_S (AX 43 ad s.heap.size) s.heap s.heap [] := va_S.rf
  have hl := lv_entry ([.ref (ad 0), .int p1, .int p2]) (n := 4) (Nat.le_of_ble_eq_true rfl)
  rw [lg_entry_eq]
  generalize (lg_sl ([.ref (ad 0), .int p1, .int p2]) ++ List.replicate (4 - (lg_sl ([.ref (ad 0), .int p1, .int p2])).length) Slot.unset).toArray = ls at hl ⊢
  have hl : lv_has ls 4 [(0, .ref (ad 0)), (1, .int p1), (2, .int p2)] := hl
  have hf26 := hts (.fieldLink RX10 26 "LawRings" "lands" "LLawRings$Lands;") (by decide +kernel)
  have hiX10 : ∀ w ∈ u_ws RX10 TX10 11, w ∈ wsX10_way := by decide +kernel
  have hf153 := hts (.fieldLink RX10 153 "LawRings$Lands" "ways" "[I") (by decide +kernel)
  have hiX5 : ∀ w ∈ u_ws RX5 TX5 2, w ∈ wsX10_way := by decide +kernel
  rw [sX10_way] at h
  refine lv_iload_n hx hb dX10_way_0 rfl (lv_at hl 1 rfl) ?_
  obtain ⟨r2, k1, h⟩ := ob_elim h
  refine vp_callSi (W.runS (As := [.int p1]) (rest := []) ⟨hx, hb, hml, hown, hts⟩ (mX10_isLand l p1 k1) (va_cwS 1 hts gX10_way_X10_isLand rfl rfl rfl (by decide +kernel) ⟨Nat.le_of_ble_eq_true rfl, Nat.le_of_ble_eq_true rfl⟩) ⟨fun _ _ _ _ q => q, fun U hU hW => ⟨rfl, trivial⟩⟩ rfl rfl hl.1 rfl (lv_room (Nat.le_of_ble_eq_true rfl)) dX10_way_1 ⟨Nat.zero_le _, Nat.zero_le _⟩) (fun r9 er9 => ?_)
  replace er9 := er9.symm
  subst er9
  refine lv_if_eq (tgt := 15) hx hb dX10_way_4 (by decide) (fun c3 => ?_) (fun c3 => ?_)
  · replace h := it_t c3 h
    refine lv_bipush (v := (-2)) hx hb dX10_way_15 (by decide) ?_
    cases h
    exact W.iret hx hb hr (fun t ht hW => ⟨⟨_, _, rfl, rfl, by show va_P _ _ _ t.heap; rw [ht]; exact hP⟩, hS.F ht⟩) hS.2.2 dX10_way_17
  · replace h := it_f c3 h
    refine lv_iload_n hx hb dX10_way_7 rfl (lv_at hl 2 rfl) ?_
    refine lv_iconst (v := 4) hx hb dX10_way_8 (by decide) ?_
    obtain ⟨r5, k4, h⟩ := ob_elim h
    refine vp_callSi (W.runS (As := [.int p2, .int 4]) (rest := []) ⟨hx, hb, hml, hown, hts⟩ (mX10_isBelow l p2 4 k4) (va_cwS 2 hts gX10_way_X10_isBelow rfl rfl rfl (by decide +kernel) ⟨Nat.le_of_ble_eq_true rfl, Nat.le_of_ble_eq_true rfl⟩) ⟨fun _ _ _ _ q => q, fun U hU hW => ⟨rfl, trivial⟩⟩ rfl rfl hl.1 rfl (lv_room (Nat.le_of_ble_eq_true rfl)) dX10_way_9 ⟨Nat.zero_le _, Nat.zero_le _⟩) (fun r9 er9 => ?_)
    replace er9 := er9.symm
    subst er9
    refine lv_if_ne (tgt := 18) hx hb dX10_way_12 (by decide) (fun c6 => ?_) (fun c6 => ?_)
    · replace h := it_f c6 h
      refine lv_aload_n hx hb dX10_way_18 rfl (lv_at hl 0 rfl) ?_
      refine va_get (D := (dC, dI)) (ci := 10) (v := .ref (ad 3)) (C := RX10) (T := TX10) (N := 11) hx hb hts hiX10 hown hK hP 0 rfl rfl 2 (by decide) hf26 (fun _ h9 => h9) rfl dX10_way_19 ?_
      refine va_get (D := (dC, dI)) (ci := 5) (v := .ref (ad 30)) (C := RX5) (T := TX5) (N := 2) hx hb hts hiX5 hown hK hP 3 rfl rfl 1 (by decide) hf153 (fun _ h9 => h9) rfl dX10_way_22 ?_
      refine lv_iload_n hx hb dX10_way_25 rfl (lv_at hl 1 rfl) ?_
      obtain ⟨b7, h⟩ := ck_elim h
      refine va_iald hx hb hK hP 30 0 rfl rfl b7 dX10_way_26 ?_
      obtain ⟨x8, ex8, h⟩ := bnd_elim h
      refine nm_i ex8 ?_
      refine lv_istore_n (lv' := [(3, .int x8), (0, .ref (ad 0)), (1, .int p1), (2, .int p2)]) hx hb dX10_way_27 rfl hl (by decide) rfl (fun ls hl => ?_)
      refine lv_aload_n hx hb dX10_way_28 rfl (lv_at hl 1 rfl) ?_
      refine va_get (D := (dC, dI)) (ci := 10) (v := .ref (ad 3)) (C := RX10) (T := TX10) (N := 11) hx hb hts hiX10 hown hK hP 0 rfl rfl 2 (by decide) hf26 (fun _ h9 => h9) rfl dX10_way_29 ?_
      refine va_get (D := (dC, dI)) (ci := 5) (v := .ref (ad 30)) (C := RX5) (T := TX5) (N := 2) hx hb hts hiX5 hown hK hP 3 rfl rfl 1 (by decide) hf153 (fun _ h9 => h9) rfl dX10_way_32 ?_
      refine lv_iload_n hx hb dX10_way_35 rfl (lv_at hl 2 rfl) ?_
      refine lv_iload_n hx hb dX10_way_36 rfl (lv_at hl 3 rfl) ?_
      obtain ⟨b9, h⟩ := ck_elim h
      obtain ⟨S10, eS10, h⟩ := bnd_elim h
      refine va_iast hx hb hK hP hD hS 30 0 rfl rfl b9 dX10_way_37 (fun H locs hP9 _ hS => ?_)
      have hP := swX_30 hP9
      rw [← eS10] at hP
      have hD := wX_D hD S10 L
      refine lv_iload_n hx hb dX10_way_38 rfl (lv_at hl 0 rfl) ?_
      cases h
      exact W.iret hx hb hr (fun t ht hW => ⟨⟨_, _, rfl, rfl, by show va_P _ _ _ t.heap; rw [ht]; exact hP⟩, hS.F ht⟩) hS.2.2 dX10_way_39
    · replace h := it_t c6 h
      refine lv_bipush (v := (-2)) hx hb dX10_way_15 (by decide) ?_
      cases h
      exact W.iret hx hb hr (fun t ht hW => ⟨⟨_, _, rfl, rfl, by show va_P _ _ _ t.heap; rw [ht]; exact hP⟩, hS.F ht⟩) hS.2.2 dX10_way_17
set_option maxHeartbeats 4000000 in
set_option maxRecDepth 100000 in
theorem mX11_way (l : Launch) (dC : Nat → ClassId) (dI : Nat → Nat → Nat) (cI cZ : ClassId) (ad : Nat → Nat) (p1 : Int32) (p2 : Int32) (S : Nat → Nat → Int32) (sz : Nat) {z : Int32 × (Nat → Nat → Int32)} (h : sX11_way p1 p2 S = some z) : Met l yX11_way wsX11_way ({ frames := 2, cells := 0, slots := 0, locals := 42 }) (va_Pc [.ref (ad 0), .int p1, .int p2] (QMs sz dC dI cI cZ ad S)) (va_Qi (fun (r : Int32) (u : (Nat → Nat → Int32)) => (r, u) = z) (fun (u : (Nat → Nat → Int32)) t => va_P (dC, dI) vwCl (wM cI cZ ad u) t.heap) (AX 7 ad sz)) 0 0 (AX 7 ad sz) := by
  refine Met.ofW (cc := cX11_way) (maxL := 3) (ret := (some .int)) (by decide) rfl ?_
  intro p e s m args below meth c s₁ B hml hv
  obtain ⟨rfl, hsz, hP, hK, hD0⟩ := hv
  have hx := B.exec
  have hb := B.bytes
  have hr := B.returns
  have hts := atoms_spec (ws := wsX11_way) B.pre
  have hown : s.vm.findClass RX11 = some m.cls := findClass_of_methodNamed B.named
  have hlocks := B.notSynchronized
  subst hsz
  have hD := wM_DA hD0 s.heap.size
  have hS : va_S (AX 7 ad s.heap.size) s.heap s.heap [] := va_S.rf
  have hl := lv_entry ([.ref (ad 0), .int p1, .int p2]) (n := 3) (Nat.le_of_ble_eq_true rfl)
  rw [lg_entry_eq]
  generalize (lg_sl ([.ref (ad 0), .int p1, .int p2]) ++ List.replicate (3 - (lg_sl ([.ref (ad 0), .int p1, .int p2])).length) Slot.unset).toArray = ls at hl ⊢
  have hl : lv_has ls 3 [(0, .ref (ad 0)), (1, .int p1), (2, .int p2)] := hl
  rw [sX11_way] at h
  refine lv_iload_n hx hb dX11_way_0 rfl (lv_at hl 1 rfl) ?_
  obtain ⟨r2, k1, h⟩ := ob_elim h
  refine vp_callSi (W.runS (As := [.int p1]) (rest := []) ⟨hx, hb, hml, hown, hts⟩ (mX11_isLand l p1 k1) (va_cwS 1 hts gX11_way_X11_isLand rfl rfl rfl (by decide +kernel) ⟨Nat.le_of_ble_eq_true rfl, Nat.le_of_ble_eq_true rfl⟩) ⟨fun _ _ _ _ q => q, fun U hU hW => ⟨rfl, trivial⟩⟩ rfl rfl hl.1 rfl (lv_room (Nat.le_of_ble_eq_true rfl)) dX11_way_1 ⟨Nat.zero_le _, Nat.zero_le _⟩) (fun r9 er9 => ?_)
  replace er9 := er9.symm
  subst er9
  refine lv_if_eq (tgt := 29) hx hb dX11_way_4 (by decide) (fun c3 => ?_) (fun c3 => ?_)
  · replace h := it_t c3 h
    refine lv_bipush (v := (-2)) hx hb dX11_way_29 (by decide) ?_
    cases h
    exact W.iret hx hb hr (fun t ht hW => ⟨⟨_, _, rfl, rfl, by show va_P _ _ _ t.heap; rw [ht]; exact hP⟩, hS.F ht⟩) hS.2.2 dX11_way_31
  · replace h := it_f c3 h
    refine lv_iload_n hx hb dX11_way_7 rfl (lv_at hl 2 rfl) ?_
    refine lv_iconst (v := 0) hx hb dX11_way_8 (by decide) ?_
    refine lv_iconst (v := 3) hx hb dX11_way_9 (by decide) ?_
    obtain ⟨r5, k4, h⟩ := ob_elim h
    refine vp_callSi (W.runS (As := [.int p2, .int 0, .int 3]) (rest := []) ⟨hx, hb, hml, hown, hts⟩ (mX11_in l p2 0 3 k4) (va_cwS 3 hts gX11_way_X11_in rfl rfl rfl (by decide +kernel) ⟨Nat.le_of_ble_eq_true rfl, Nat.le_of_ble_eq_true rfl⟩) ⟨fun _ _ _ _ q => q, fun U hU hW => ⟨rfl, trivial⟩⟩ rfl rfl hl.1 rfl (lv_room (Nat.le_of_ble_eq_true rfl)) dX11_way_10 ⟨Nat.zero_le _, Nat.zero_le _⟩) (fun r9 er9 => ?_)
    replace er9 := er9.symm
    subst er9
    refine lv_if_eq (tgt := 29) hx hb dX11_way_13 (by decide) (fun c6 => ?_) (fun c6 => ?_)
    · replace h := it_t c6 h
      refine lv_bipush (v := (-2)) hx hb dX11_way_29 (by decide) ?_
      cases h
      exact W.iret hx hb hr (fun t ht hW => ⟨⟨_, _, rfl, rfl, by show va_P _ _ _ t.heap; rw [ht]; exact hP⟩, hS.F ht⟩) hS.2.2 dX11_way_31
    · replace h := it_f c6 h
      refine lv_aload_n hx hb dX11_way_16 rfl (lv_at hl 0 rfl) ?_
      refine lv_sipush (v := 954) hx hb dX11_way_17 (by decide) ?_
      refine lv_iload_n hx hb dX11_way_20 rfl (lv_at hl 1 rfl) ?_
      refine lv_iadd hx hb dX11_way_21 ?_
      refine lv_iload_n hx hb dX11_way_22 rfl (lv_at hl 2 rfl) ?_
      obtain ⟨r9, S8, k7, h⟩ := ob2_elim h
      refine va_calli (va_runV (As := [.int (954 + p1), .int p2]) (rest := []) ⟨hx, hb, hml, hown, hts⟩ (mX11_puts l dC dI cI cZ ad (954 + p1) p2 S s.heap.size k7) (cwV 2 hts gX11_way_X11_puts rfl rfl rfl (by decide +kernel) ⟨Nat.le_of_ble_eq_true rfl, Nat.le_of_ble_eq_true rfl⟩) ⟨QMs_blind, va_recv hK hP (ci := 11) (q0 := 0) rfl rfl, fun U hU hW => ⟨rfl, congrArg Array.size hU, QM_at hP hK hD hU hW⟩⟩ rfl rfl hl.1 rfl (lv_room (Nat.le_of_ble_eq_true rfl)) dX11_way_23 ⟨Nat.zero_le _, Nat.zero_le _⟩) hS (fun q _ hq => AX_mono hS.1 hq) (fun q hq => AX_mono hS.1 hq) (fun r u t H1 locs ht hvm hw hB hz1 hk1 hS => ?_)
      cases hw
      rw [ht] at hB
      have hP := hB
      clear hB hk1 hz1
      generalize H1 = H at hP hS ⊢
      have hD := wM_D hD S8
      refine lv_goto (tgt := 31) hx hb dX11_way_26 (by decide) ?_
      cases h
      exact W.iret hx hb hr (fun t ht hW => ⟨⟨_, _, rfl, rfl, by show va_P _ _ _ t.heap; rw [ht]; exact hP⟩, hS.F ht⟩) hS.2.2 dX11_way_31
set_option maxHeartbeats 4000000 in
set_option maxRecDepth 100000 in
theorem mX8_add (l : Launch) (dC : Nat → ClassId) (dI : Nat → Nat → Nat) (cI cJ : ClassId) (ad : Nat → Nat) (p1 : Int32) (p2 : Int32) (p3 : Int32) (S : Nat → Nat → Int32) (L : Nat → Nat → Int64) (sz : Nat) {z : Int32 × (Nat → Nat → Int32) × (Nat → Nat → Int64)} (h : sX8_add p1 p2 p3 S L = some z) : Met l yX8_add wsX8_add ({ frames := 0, cells := 0, slots := 0, locals := 0 }) (va_Pc [.ref (ad 4), .int p1, .int p2, .int p3] (QXs sz dC dI cI cJ ad S L)) (va_Qi (fun (r : Int32) (u : (Nat → Nat → Int32) × (Nat → Nat → Int64)) => (r, u) = z) (fun (u : (Nat → Nat → Int32) × (Nat → Nat → Int64)) t => va_P (dC, dI) vwCl (wX cI cJ ad u.1 u.2) t.heap) (AX 43 ad sz)) 0 0 (AX 43 ad sz) := by
  refine Met.ofW (cc := cX8_add) (maxL := 4) (ret := (some .int)) (by decide) rfl ?_
  intro p e s m args below meth c s₁ B hml hv
  obtain ⟨rfl, hsz, hP, hK, hD0⟩ := hv
  have hx := B.exec
  have hb := B.bytes
  have hr := B.returns
  have hts := atoms_spec (ws := wsX8_add) B.pre
  have hown : s.vm.findClass RX8 = some m.cls := findClass_of_methodNamed B.named
  have hlocks := B.notSynchronized
  subst hsz
  have hD := wX_DA hD0 s.heap.size
  have hS : va_S (AX 43 ad s.heap.size) s.heap s.heap [] := va_S.rf
  have hl := lv_entry ([.ref (ad 4), .int p1, .int p2, .int p3]) (n := 4) (Nat.le_of_ble_eq_true rfl)
  rw [lg_entry_eq]
  generalize (lg_sl ([.ref (ad 4), .int p1, .int p2, .int p3]) ++ List.replicate (4 - (lg_sl ([.ref (ad 4), .int p1, .int p2, .int p3])).length) Slot.unset).toArray = ls at hl ⊢
  have hl : lv_has ls 4 [(0, .ref (ad 4)), (1, .int p1), (2, .int p2), (3, .int p3)] := hl
  have hf9 := hts (.fieldLink RX8 9 "LawRings$Treaties" "kind" "[I") (by decide +kernel)
  have hiX8 : ∀ w ∈ u_ws RX8 TX8 4, w ∈ wsX8_add := by decide +kernel
  have hf21 := hts (.fieldLink RX8 21 "LawRings$Treaties" "size" "I") (by decide +kernel)
  have hf15 := hts (.fieldLink RX8 15 "LawRings$Treaties" "lands" "[I") (by decide +kernel)
  have hf18 := hts (.fieldLink RX8 18 "LawRings$Treaties" "tie" "[I") (by decide +kernel)
  rw [sX8_add] at h
  refine lv_aload_n hx hb dX8_add_0 rfl (lv_at hl 0 rfl) ?_
  refine va_get (D := (dC, dI)) (ci := 8) (v := .ref (ad 31)) (C := RX8) (T := TX8) (N := 4) hx hb hts hiX8 hown hK hP 4 rfl rfl 1 (by decide) hf9 (fun _ h9 => h9) rfl dX8_add_1 ?_
  refine lv_aload_n hx hb dX8_add_4 rfl (lv_at hl 0 rfl) ?_
  refine va_get (D := (dC, dI)) (ci := 8) (v := .int (S 4 0)) (C := RX8) (T := TX8) (N := 4) hx hb hts hiX8 hown hK hP 4 rfl rfl 0 (by decide) hf21 (fun _ h9 => h9) rfl dX8_add_5 ?_
  refine lv_iload_n hx hb dX8_add_8 rfl (lv_at hl 1 rfl) ?_
  obtain ⟨b1, h⟩ := ck_elim h
  obtain ⟨S2, eS2, h⟩ := bnd_elim h
  refine va_iast hx hb hK hP hD hS 31 0 rfl rfl b1 dX8_add_9 (fun H locs hP9 _ hS => ?_)
  have hP := swX_31 hP9
  rw [← eS2] at hP
  have hD := wX_D hD S2 L
  refine lv_aload_n hx hb dX8_add_10 rfl (lv_at hl 0 rfl) ?_
  refine va_get (D := (dC, dI)) (ci := 8) (v := .ref (ad 32)) (C := RX8) (T := TX8) (N := 4) hx hb hts hiX8 hown hK hP 4 rfl rfl 2 (by decide) hf15 (fun _ h9 => h9) rfl dX8_add_11 ?_
  refine lv_aload_n hx hb dX8_add_14 rfl (lv_at hl 0 rfl) ?_
  refine va_get (D := (dC, dI)) (ci := 8) (v := .int (S2 4 0)) (C := RX8) (T := TX8) (N := 4) hx hb hts hiX8 hown hK hP 4 rfl rfl 0 (by decide) hf21 (fun _ h9 => h9) rfl dX8_add_15 ?_
  refine lv_iload_n hx hb dX8_add_18 rfl (lv_at hl 2 rfl) ?_
  obtain ⟨b3, h⟩ := ck_elim h
  obtain ⟨S4, eS4, h⟩ := bnd_elim h
  refine va_iast hx hb hK hP hD hS 32 0 rfl rfl b3 dX8_add_19 (fun H locs hP9 _ hS => ?_)
  have hP := swX_32 hP9
  rw [← eS4] at hP
  have hD := wX_D hD S4 L
  refine lv_aload_n hx hb dX8_add_20 rfl (lv_at hl 0 rfl) ?_
  refine va_get (D := (dC, dI)) (ci := 8) (v := .ref (ad 33)) (C := RX8) (T := TX8) (N := 4) hx hb hts hiX8 hown hK hP 4 rfl rfl 3 (by decide) hf18 (fun _ h9 => h9) rfl dX8_add_21 ?_
  refine lv_aload_n hx hb dX8_add_24 rfl (lv_at hl 0 rfl) ?_
  refine va_get (D := (dC, dI)) (ci := 8) (v := .int (S4 4 0)) (C := RX8) (T := TX8) (N := 4) hx hb hts hiX8 hown hK hP 4 rfl rfl 0 (by decide) hf21 (fun _ h9 => h9) rfl dX8_add_25 ?_
  refine lv_iload_n hx hb dX8_add_28 rfl (lv_at hl 3 rfl) ?_
  obtain ⟨b5, h⟩ := ck_elim h
  obtain ⟨S6, eS6, h⟩ := bnd_elim h
  refine va_iast hx hb hK hP hD hS 33 0 rfl rfl b5 dX8_add_29 (fun H locs hP9 _ hS => ?_)
  have hP := swX_33 hP9
  rw [← eS6] at hP
  have hD := wX_D hD S6 L
  refine lv_aload_n hx hb dX8_add_30 rfl (lv_at hl 0 rfl) ?_
  refine lv_dup hx hb dX8_add_31 rfl ?_
  refine va_get (D := (dC, dI)) (ci := 8) (v := .int (S6 4 0)) (C := RX8) (T := TX8) (N := 4) hx hb hts hiX8 hown hK hP 4 rfl rfl 0 (by decide) hf21 (fun _ h9 => h9) rfl dX8_add_32 ?_
  refine lv_iconst (v := 1) hx hb dX8_add_35 (by decide) ?_
  refine lv_iadd hx hb dX8_add_36 ?_
  obtain ⟨S7, eS7, h⟩ := bnd_elim h
  refine va_put (D := (dC, dI)) (ci := 8) (v := .int ((S6 4 0) + 1)) (ty := .int) (C := RX8) (T := TX8) (N := 4) hx hb hts hiX8 tyX8 tyX8_ok nmX8 hown hK hP hD hS 4 rfl rfl 0 (by decide) hf21 (fun _ h9 => h9) rfl (by decide +kernel) rfl rfl (Nat.le_of_ble_eq_true rfl) dX8_add_37 (fun H locs hP9 _ hS => ?_)
  have hP := swX_4_0 hP9
  rw [← eS7] at hP
  have hD := wX_D hD S7 L
  refine lv_aload_n hx hb dX8_add_40 rfl (lv_at hl 0 rfl) ?_
  refine va_get (D := (dC, dI)) (ci := 8) (v := .int (S7 4 0)) (C := RX8) (T := TX8) (N := 4) hx hb hts hiX8 hown hK hP 4 rfl rfl 0 (by decide) hf21 (fun _ h9 => h9) rfl dX8_add_41 ?_
  refine lv_iconst (v := 1) hx hb dX8_add_44 (by decide) ?_
  refine lv_isub hx hb dX8_add_45 ?_
  cases h
  exact W.iret hx hb hr (fun t ht hW => ⟨⟨_, _, rfl, rfl, by show va_P _ _ _ t.heap; rw [ht]; exact hP⟩, hS.F ht⟩) hS.2.2 dX8_add_46
set_option maxHeartbeats 4000000 in
set_option maxRecDepth 100000 in
theorem mX10_treaty (l : Launch) (dC : Nat → ClassId) (dI : Nat → Nat → Nat) (cI cJ : ClassId) (ad : Nat → Nat) (p1 : Int32) (p2 : Int32) (p3 : Int32) (S : Nat → Nat → Int32) (L : Nat → Nat → Int64) (sz : Nat) {z : Int32 × (Nat → Nat → Int32) × (Nat → Nat → Int64)} (h : sX10_treaty p1 p2 p3 S L = some z) : Met l yX10_treaty wsX10_treaty ({ frames := 2, cells := 0, slots := 0, locals := 41 }) (va_Pc [.ref (ad 0), .int p1, .int p2, .int p3] (QXs sz dC dI cI cJ ad S L)) (va_Qi (fun (r : Int32) (u : (Nat → Nat → Int32) × (Nat → Nat → Int64)) => (r, u) = z) (fun (u : (Nat → Nat → Int32) × (Nat → Nat → Int64)) t => va_P (dC, dI) vwCl (wX cI cJ ad u.1 u.2) t.heap) (AX 43 ad sz)) 0 0 (AX 43 ad sz) := by
  refine Met.ofW (cc := cX10_treaty) (maxL := 4) (ret := (some .int)) (by decide) rfl ?_
  intro p e s m args below meth c s₁ B hml hv
  obtain ⟨rfl, hsz, hP, hK, hD0⟩ := hv
  have hx := B.exec
  have hb := B.bytes
  have hr := B.returns
  have hts := atoms_spec (ws := wsX10_treaty) B.pre
  have hown : s.vm.findClass RX10 = some m.cls := findClass_of_methodNamed B.named
  have hlocks := B.notSynchronized
  subst hsz
  have hD := wX_DA hD0 s.heap.size
  have hS : va_S (AX 43 ad s.heap.size) s.heap s.heap [] := va_S.rf
  have hl := lv_entry ([.ref (ad 0), .int p1, .int p2, .int p3]) (n := 4) (Nat.le_of_ble_eq_true rfl)
  rw [lg_entry_eq]
  generalize (lg_sl ([.ref (ad 0), .int p1, .int p2, .int p3]) ++ List.replicate (4 - (lg_sl ([.ref (ad 0), .int p1, .int p2, .int p3])).length) Slot.unset).toArray = ls at hl ⊢
  have hl : lv_has ls 4 [(0, .ref (ad 0)), (1, .int p1), (2, .int p2), (3, .int p3)] := hl
  have hf33 := hts (.fieldLink RX10 33 "LawRings" "treaties" "LLawRings$Treaties;") (by decide +kernel)
  have hiX10 : ∀ w ∈ u_ws RX10 TX10 11, w ∈ wsX10_treaty := by decide +kernel
  have hf156 := hts (.fieldLink RX10 156 "LawRings$Treaties" "size" "I") (by decide +kernel)
  have hiX8 : ∀ w ∈ u_ws RX8 TX8 4, w ∈ wsX10_treaty := by decide +kernel
  rw [sX10_treaty] at h
  refine lv_iload_n hx hb dX10_treaty_0 rfl (lv_at hl 1 rfl) ?_
  obtain ⟨r2, k1, h⟩ := ob_elim h
  refine vp_callSi (W.runS (As := [.int p1]) (rest := []) ⟨hx, hb, hml, hown, hts⟩ (mX10_isKind l p1 k1) (va_cwS 1 hts gX10_treaty_X10_isKind rfl rfl rfl (by decide +kernel) ⟨Nat.le_of_ble_eq_true rfl, Nat.le_of_ble_eq_true rfl⟩) ⟨fun _ _ _ _ q => q, fun U hU hW => ⟨rfl, trivial⟩⟩ rfl rfl hl.1 rfl (lv_room (Nat.le_of_ble_eq_true rfl)) dX10_treaty_1 ⟨Nat.zero_le _, Nat.zero_le _⟩) (fun r9 er9 => ?_)
  replace er9 := er9.symm
  subst er9
  refine lv_if_eq (tgt := 23) hx hb dX10_treaty_4 (by decide) (fun c3 => ?_) (fun c3 => ?_)
  · replace h := it_t c3 h
    refine lv_bipush (v := (-2)) hx hb dX10_treaty_23 (by decide) ?_
    cases h
    exact W.iret hx hb hr (fun t ht hW => ⟨⟨_, _, rfl, rfl, by show va_P _ _ _ t.heap; rw [ht]; exact hP⟩, hS.F ht⟩) hS.2.2 dX10_treaty_25
  · replace h := it_f c3 h
    refine lv_iload_n hx hb dX10_treaty_7 rfl (lv_at hl 2 rfl) ?_
    refine lv_bipush (v := 16) hx hb dX10_treaty_8 (by decide) ?_
    obtain ⟨r5, k4, h⟩ := ob_elim h
    refine vp_callSi (W.runS (As := [.int p2, .int 16]) (rest := []) ⟨hx, hb, hml, hown, hts⟩ (mX10_isBelow l p2 16 k4) (va_cwS 2 hts gX10_treaty_X10_isBelow rfl rfl rfl (by decide +kernel) ⟨Nat.le_of_ble_eq_true rfl, Nat.le_of_ble_eq_true rfl⟩) ⟨fun _ _ _ _ q => q, fun U hU hW => ⟨rfl, trivial⟩⟩ rfl rfl hl.1 rfl (lv_room (Nat.le_of_ble_eq_true rfl)) dX10_treaty_10 ⟨Nat.zero_le _, Nat.zero_le _⟩) (fun r9 er9 => ?_)
    replace er9 := er9.symm
    subst er9
    refine lv_if_eq (tgt := 23) hx hb dX10_treaty_13 (by decide) (fun c6 => ?_) (fun c6 => ?_)
    · replace h := it_t c6 h
      refine lv_bipush (v := (-2)) hx hb dX10_treaty_23 (by decide) ?_
      cases h
      exact W.iret hx hb hr (fun t ht hW => ⟨⟨_, _, rfl, rfl, by show va_P _ _ _ t.heap; rw [ht]; exact hP⟩, hS.F ht⟩) hS.2.2 dX10_treaty_25
    · replace h := it_f c6 h
      refine lv_iload_n hx hb dX10_treaty_16 rfl (lv_at hl 3 rfl) ?_
      obtain ⟨r8, k7, h⟩ := ob_elim h
      refine vp_callSi (W.runS (As := [.int p3]) (rest := []) ⟨hx, hb, hml, hown, hts⟩ (mX10_isTie l p3 k7) (va_cwS 1 hts gX10_treaty_X10_isTie rfl rfl rfl (by decide +kernel) ⟨Nat.le_of_ble_eq_true rfl, Nat.le_of_ble_eq_true rfl⟩) ⟨fun _ _ _ _ q => q, fun U hU hW => ⟨rfl, trivial⟩⟩ rfl rfl hl.1 rfl (lv_room (Nat.le_of_ble_eq_true rfl)) dX10_treaty_17 ⟨Nat.zero_le _, Nat.zero_le _⟩) (fun r9 er9 => ?_)
      replace er9 := er9.symm
      subst er9
      refine lv_if_ne (tgt := 26) hx hb dX10_treaty_20 (by decide) (fun c9 => ?_) (fun c9 => ?_)
      · replace h := it_f c9 h
        refine lv_aload_n hx hb dX10_treaty_26 rfl (lv_at hl 0 rfl) ?_
        refine va_get (D := (dC, dI)) (ci := 10) (v := .ref (ad 4)) (C := RX10) (T := TX10) (N := 11) hx hb hts hiX10 hown hK hP 0 rfl rfl 3 (by decide) hf33 (fun _ h9 => h9) rfl dX10_treaty_27 ?_
        refine va_get (D := (dC, dI)) (ci := 8) (v := .int (S 4 0)) (C := RX8) (T := TX8) (N := 4) hx hb hts hiX8 hown hK hP 4 rfl rfl 0 (by decide) hf156 (fun _ h9 => h9) rfl dX10_treaty_30 ?_
        refine lv_bipush (v := 8) hx hb dX10_treaty_33 (by decide) ?_
        refine lv_icmp_lt (tgt := 41) hx hb dX10_treaty_35 (by decide) (fun c10 => ?_) (fun c10 => ?_)
        · replace h := it_t c10 h
          refine lv_aload_n hx hb dX10_treaty_41 rfl (lv_at hl 0 rfl) ?_
          refine va_get (D := (dC, dI)) (ci := 10) (v := .ref (ad 4)) (C := RX10) (T := TX10) (N := 11) hx hb hts hiX10 hown hK hP 0 rfl rfl 3 (by decide) hf33 (fun _ h9 => h9) rfl dX10_treaty_42 ?_
          refine lv_iload_n hx hb dX10_treaty_45 rfl (lv_at hl 1 rfl) ?_
          refine lv_iload_n hx hb dX10_treaty_46 rfl (lv_at hl 2 rfl) ?_
          refine lv_iload_n hx hb dX10_treaty_47 rfl (lv_at hl 3 rfl) ?_
          obtain ⟨r14, S12, L13, k11, h⟩ := ob3_elim h
          refine va_calli (va_runV (As := [.int p1, .int p2, .int p3]) (rest := []) ⟨hx, hb, hml, hown, hts⟩ (mX8_add l dC dI cI cJ ad p1 p2 p3 S L s.heap.size k11) (cwV 3 hts gX10_treaty_X8_add rfl rfl rfl (by decide +kernel) ⟨Nat.le_of_ble_eq_true rfl, Nat.le_of_ble_eq_true rfl⟩) ⟨QXs_blind, va_recv hK hP (ci := 8) (q0 := 4) rfl rfl, fun U hU hW => ⟨rfl, congrArg Array.size hU, QX_at hP hK hD hU hW⟩⟩ rfl rfl hl.1 rfl (lv_room (Nat.le_of_ble_eq_true rfl)) dX10_treaty_48 ⟨Nat.zero_le _, Nat.zero_le _⟩) hS (fun q _ hq => AX_mono hS.1 hq) (fun q hq => AX_mono hS.1 hq) (fun r u t H1 locs ht hvm hw hB hz1 hk1 hS => ?_)
          cases hw
          rw [ht] at hB
          have hP := hB
          clear hB hk1 hz1
          generalize H1 = H at hP hS ⊢
          have hD := wX_D hD S12 L13
          cases h
          exact W.iret hx hb hr (fun t ht hW => ⟨⟨_, _, rfl, rfl, by show va_P _ _ _ t.heap; rw [ht]; exact hP⟩, hS.F ht⟩) hS.2.2 dX10_treaty_51
        · replace h := it_f c10 h
          refine lv_bipush (v := (-4)) hx hb dX10_treaty_38 (by decide) ?_
          cases h
          exact W.iret hx hb hr (fun t ht hW => ⟨⟨_, _, rfl, rfl, by show va_P _ _ _ t.heap; rw [ht]; exact hP⟩, hS.F ht⟩) hS.2.2 dX10_treaty_40
      · replace h := it_t c9 h
        refine lv_bipush (v := (-2)) hx hb dX10_treaty_23 (by decide) ?_
        cases h
        exact W.iret hx hb hr (fun t ht hW => ⟨⟨_, _, rfl, rfl, by show va_P _ _ _ t.heap; rw [ht]; exact hP⟩, hS.F ht⟩) hS.2.2 dX10_treaty_25
set_option maxHeartbeats 4000000 in
set_option maxRecDepth 100000 in
theorem mX11_treaty (l : Launch) (dC : Nat → ClassId) (dI : Nat → Nat → Nat) (cI cZ : ClassId) (ad : Nat → Nat) (p1 : Int32) (p2 : Int32) (p3 : Int32) (S : Nat → Nat → Int32) (sz : Nat) {z : Int32 × (Nat → Nat → Int32)} (h : sX11_treaty p1 p2 p3 S = some z) : Met l yX11_treaty wsX11_treaty ({ frames := 2, cells := 0, slots := 0, locals := 42 }) (va_Pc [.ref (ad 0), .int p1, .int p2, .int p3] (QMs sz dC dI cI cZ ad S)) (va_Qi (fun (r : Int32) (u : (Nat → Nat → Int32)) => (r, u) = z) (fun (u : (Nat → Nat → Int32)) t => va_P (dC, dI) vwCl (wM cI cZ ad u) t.heap) (AX 7 ad sz)) 0 0 (AX 7 ad sz) := by
  refine Met.ofW (cc := cX11_treaty) (maxL := 5) (ret := (some .int)) (by decide) rfl ?_
  intro p e s m args below meth c s₁ B hml hv
  obtain ⟨rfl, hsz, hP, hK, hD0⟩ := hv
  have hx := B.exec
  have hb := B.bytes
  have hr := B.returns
  have hts := atoms_spec (ws := wsX11_treaty) B.pre
  have hown : s.vm.findClass RX11 = some m.cls := findClass_of_methodNamed B.named
  have hlocks := B.notSynchronized
  subst hsz
  have hD := wM_DA hD0 s.heap.size
  have hS : va_S (AX 7 ad s.heap.size) s.heap s.heap [] := va_S.rf
  have hl := lv_entry ([.ref (ad 0), .int p1, .int p2, .int p3]) (n := 5) (Nat.le_of_ble_eq_true rfl)
  rw [lg_entry_eq]
  generalize (lg_sl ([.ref (ad 0), .int p1, .int p2, .int p3]) ++ List.replicate (5 - (lg_sl ([.ref (ad 0), .int p1, .int p2, .int p3])).length) Slot.unset).toArray = ls at hl ⊢
  have hl : lv_has ls 5 [(0, .ref (ad 0)), (1, .int p1), (2, .int p2), (3, .int p3)] := hl
  have hf7 := hts (.fieldLink RX11 7 "LawRingsModel" "st" "[I") (by decide +kernel)
  have hiX11 : ∀ w ∈ u_ws RX11 TX11 8, w ∈ wsX11_treaty := by decide +kernel
  rw [sX11_treaty] at h
  refine lv_iload_n hx hb dX11_treaty_0 rfl (lv_at hl 1 rfl) ?_
  obtain ⟨r2, k1, h⟩ := ob_elim h
  refine vp_callSi (W.runS (As := [.int p1]) (rest := []) ⟨hx, hb, hml, hown, hts⟩ (mX11_isKind l p1 k1) (va_cwS 1 hts gX11_treaty_X11_isKind rfl rfl rfl (by decide +kernel) ⟨Nat.le_of_ble_eq_true rfl, Nat.le_of_ble_eq_true rfl⟩) ⟨fun _ _ _ _ q => q, fun U hU hW => ⟨rfl, trivial⟩⟩ rfl rfl hl.1 rfl (lv_room (Nat.le_of_ble_eq_true rfl)) dX11_treaty_1 ⟨Nat.zero_le _, Nat.zero_le _⟩) (fun r9 er9 => ?_)
  replace er9 := er9.symm
  subst er9
  refine lv_if_eq (tgt := 24) hx hb dX11_treaty_4 (by decide) (fun c3 => ?_) (fun c3 => ?_)
  · replace h := it_t c3 h
    refine lv_bipush (v := (-2)) hx hb dX11_treaty_24 (by decide) ?_
    cases h
    exact W.iret hx hb hr (fun t ht hW => ⟨⟨_, _, rfl, rfl, by show va_P _ _ _ t.heap; rw [ht]; exact hP⟩, hS.F ht⟩) hS.2.2 dX11_treaty_26
  · replace h := it_f c3 h
    refine lv_iload_n hx hb dX11_treaty_7 rfl (lv_at hl 2 rfl) ?_
    refine lv_iconst (v := 0) hx hb dX11_treaty_8 (by decide) ?_
    refine lv_bipush (v := 15) hx hb dX11_treaty_9 (by decide) ?_
    obtain ⟨r5, k4, h⟩ := ob_elim h
    refine vp_callSi (W.runS (As := [.int p2, .int 0, .int 15]) (rest := []) ⟨hx, hb, hml, hown, hts⟩ (mX11_in l p2 0 15 k4) (va_cwS 3 hts gX11_treaty_X11_in rfl rfl rfl (by decide +kernel) ⟨Nat.le_of_ble_eq_true rfl, Nat.le_of_ble_eq_true rfl⟩) ⟨fun _ _ _ _ q => q, fun U hU hW => ⟨rfl, trivial⟩⟩ rfl rfl hl.1 rfl (lv_room (Nat.le_of_ble_eq_true rfl)) dX11_treaty_11 ⟨Nat.zero_le _, Nat.zero_le _⟩) (fun r9 er9 => ?_)
    replace er9 := er9.symm
    subst er9
    refine lv_if_eq (tgt := 24) hx hb dX11_treaty_14 (by decide) (fun c6 => ?_) (fun c6 => ?_)
    · replace h := it_t c6 h
      refine lv_bipush (v := (-2)) hx hb dX11_treaty_24 (by decide) ?_
      cases h
      exact W.iret hx hb hr (fun t ht hW => ⟨⟨_, _, rfl, rfl, by show va_P _ _ _ t.heap; rw [ht]; exact hP⟩, hS.F ht⟩) hS.2.2 dX11_treaty_26
    · replace h := it_f c6 h
      refine lv_iload_n hx hb dX11_treaty_17 rfl (lv_at hl 3 rfl) ?_
      obtain ⟨r8, k7, h⟩ := ob_elim h
      refine vp_callSi (W.runS (As := [.int p3]) (rest := []) ⟨hx, hb, hml, hown, hts⟩ (mX11_isTie l p3 k7) (va_cwS 1 hts gX11_treaty_X11_isTie rfl rfl rfl (by decide +kernel) ⟨Nat.le_of_ble_eq_true rfl, Nat.le_of_ble_eq_true rfl⟩) ⟨fun _ _ _ _ q => q, fun U hU hW => ⟨rfl, trivial⟩⟩ rfl rfl hl.1 rfl (lv_room (Nat.le_of_ble_eq_true rfl)) dX11_treaty_18 ⟨Nat.zero_le _, Nat.zero_le _⟩) (fun r9 er9 => ?_)
      replace er9 := er9.symm
      subst er9
      refine lv_if_ne (tgt := 27) hx hb dX11_treaty_21 (by decide) (fun c9 => ?_) (fun c9 => ?_)
      · replace h := it_f c9 h
        refine lv_aload_n hx hb dX11_treaty_27 rfl (lv_at hl 0 rfl) ?_
        refine va_get (D := (dC, dI)) (ci := 11) (v := .ref (ad 1)) (C := RX11) (T := TX11) (N := 8) hx hb hts hiX11 hown hK hP 0 rfl rfl 0 (by decide) hf7 (fun _ h9 => h9) rfl dX11_treaty_28 ?_
        refine lv_iconst (v := 3) hx hb dX11_treaty_31 (by decide) ?_
        obtain ⟨b10, h⟩ := ck_elim h
        refine va_iald hx hb hK hP 1 0 rfl rfl b10 dX11_treaty_32 ?_
        refine lv_bipush (v := 8) hx hb dX11_treaty_33 (by decide) ?_
        refine lv_icmp_ne (tgt := 41) hx hb dX11_treaty_35 (by decide) (fun c11 => ?_) (fun c11 => ?_)
        · replace h := it_f c11 h
          refine lv_sipush (v := 958) hx hb dX11_treaty_41 (by decide) ?_
          refine lv_iconst (v := 3) hx hb dX11_treaty_44 (by decide) ?_
          refine lv_aload_n hx hb dX11_treaty_45 rfl (lv_at hl 0 rfl) ?_
          refine va_get (D := (dC, dI)) (ci := 11) (v := .ref (ad 1)) (C := RX11) (T := TX11) (N := 8) hx hb hts hiX11 hown hK hP 0 rfl rfl 0 (by decide) hf7 (fun _ h9 => h9) rfl dX11_treaty_46 ?_
          refine lv_iconst (v := 3) hx hb dX11_treaty_49 (by decide) ?_
          obtain ⟨b12, h⟩ := ck_elim h
          refine va_iald hx hb hK hP 1 0 rfl rfl b12 dX11_treaty_50 ?_
          refine lv_imul hx hb dX11_treaty_51 ?_
          refine lv_iadd hx hb dX11_treaty_52 ?_
          obtain ⟨x13, ex13, h⟩ := bnd_elim h
          refine nm_i ex13 ?_
          refine lv_istore (lv' := [(4, .int x13), (0, .ref (ad 0)), (1, .int p1), (2, .int p2), (3, .int p3)]) hx hb dX11_treaty_53 hl (by decide) rfl (fun ls hl => ?_)
          refine lv_aload_n hx hb dX11_treaty_55 rfl (lv_at hl 1 rfl) ?_
          refine va_get (D := (dC, dI)) (ci := 11) (v := .ref (ad 1)) (C := RX11) (T := TX11) (N := 8) hx hb hts hiX11 hown hK hP 0 rfl rfl 0 (by decide) hf7 (fun _ h9 => h9) rfl dX11_treaty_56 ?_
          refine lv_iload hx hb dX11_treaty_59 (lv_at hl 0 rfl) ?_
          refine lv_iload_n hx hb dX11_treaty_61 rfl (lv_at hl 2 rfl) ?_
          obtain ⟨b14, h⟩ := ck_elim h
          obtain ⟨S15, eS15, h⟩ := bnd_elim h
          refine va_iast hx hb hK hP hD hS 1 0 rfl rfl b14 dX11_treaty_62 (fun H locs hP9 _ hS => ?_)
          have hP := swM_1 hP9
          rw [← eS15] at hP
          have hD := wM_D hD S15
          refine lv_aload_n hx hb dX11_treaty_63 rfl (lv_at hl 1 rfl) ?_
          refine va_get (D := (dC, dI)) (ci := 11) (v := .ref (ad 1)) (C := RX11) (T := TX11) (N := 8) hx hb hts hiX11 hown hK hP 0 rfl rfl 0 (by decide) hf7 (fun _ h9 => h9) rfl dX11_treaty_64 ?_
          refine lv_iload hx hb dX11_treaty_67 (lv_at hl 0 rfl) ?_
          refine lv_iconst (v := 1) hx hb dX11_treaty_69 (by decide) ?_
          refine lv_iadd hx hb dX11_treaty_70 ?_
          refine lv_iload_n hx hb dX11_treaty_71 rfl (lv_at hl 3 rfl) ?_
          obtain ⟨b16, h⟩ := ck_elim h
          obtain ⟨S17, eS17, h⟩ := bnd_elim h
          refine va_iast hx hb hK hP hD hS 1 0 rfl rfl b16 dX11_treaty_72 (fun H locs hP9 _ hS => ?_)
          have hP := swM_1 hP9
          rw [← eS17] at hP
          have hD := wM_D hD S17
          refine lv_aload_n hx hb dX11_treaty_73 rfl (lv_at hl 1 rfl) ?_
          refine va_get (D := (dC, dI)) (ci := 11) (v := .ref (ad 1)) (C := RX11) (T := TX11) (N := 8) hx hb hts hiX11 hown hK hP 0 rfl rfl 0 (by decide) hf7 (fun _ h9 => h9) rfl dX11_treaty_74 ?_
          refine lv_iload hx hb dX11_treaty_77 (lv_at hl 0 rfl) ?_
          refine lv_iconst (v := 2) hx hb dX11_treaty_79 (by decide) ?_
          refine lv_iadd hx hb dX11_treaty_80 ?_
          refine lv_iload_n hx hb dX11_treaty_81 rfl (lv_at hl 4 rfl) ?_
          obtain ⟨b18, h⟩ := ck_elim h
          obtain ⟨S19, eS19, h⟩ := bnd_elim h
          refine va_iast hx hb hK hP hD hS 1 0 rfl rfl b18 dX11_treaty_82 (fun H locs hP9 _ hS => ?_)
          have hP := swM_1 hP9
          rw [← eS19] at hP
          have hD := wM_D hD S19
          refine lv_aload_n hx hb dX11_treaty_83 rfl (lv_at hl 1 rfl) ?_
          refine lv_iconst (v := 3) hx hb dX11_treaty_84 (by decide) ?_
          obtain ⟨r22, S21, k20, h⟩ := ob2_elim h
          refine va_calli (va_runV (As := [.int 3]) (rest := []) ⟨hx, hb, hml, hown, hts⟩ (mX11_one l dC dI cI cZ ad 3 S19 H.size k20) (cwV 1 hts gX11_treaty_X11_one rfl rfl rfl (by decide +kernel) ⟨Nat.le_of_ble_eq_true rfl, Nat.le_of_ble_eq_true rfl⟩) ⟨QMs_blind, va_recv hK hP (ci := 11) (q0 := 0) rfl rfl, fun U hU hW => ⟨rfl, congrArg Array.size hU, QM_at hP hK hD hU hW⟩⟩ rfl rfl hl.1 rfl (lv_room (Nat.le_of_ble_eq_true rfl)) dX11_treaty_85 ⟨Nat.zero_le _, Nat.zero_le _⟩) hS (fun q _ hq => AX_mono hS.1 hq) (fun q hq => AX_mono hS.1 hq) (fun r u t H1 locs ht hvm hw hB hz1 hk1 hS => ?_)
          cases hw
          rw [ht] at hB
          have hP := hB
          clear hB hk1 hz1
          generalize H1 = H at hP hS ⊢
          have hD := wM_D hD S21
          cases h
          exact W.iret hx hb hr (fun t ht hW => ⟨⟨_, _, rfl, rfl, by show va_P _ _ _ t.heap; rw [ht]; exact hP⟩, hS.F ht⟩) hS.2.2 dX11_treaty_88
        · replace h := it_t c11 h
          refine lv_bipush (v := (-4)) hx hb dX11_treaty_38 (by decide) ?_
          cases h
          exact W.iret hx hb hr (fun t ht hW => ⟨⟨_, _, rfl, rfl, by show va_P _ _ _ t.heap; rw [ht]; exact hP⟩, hS.F ht⟩) hS.2.2 dX11_treaty_40
      · replace h := it_t c9 h
        refine lv_bipush (v := (-2)) hx hb dX11_treaty_24 (by decide) ?_
        cases h
        exact W.iret hx hb hr (fun t ht hW => ⟨⟨_, _, rfl, rfl, by show va_P _ _ _ t.heap; rw [ht]; exact hP⟩, hS.F ht⟩) hS.2.2 dX11_treaty_26
set_option maxHeartbeats 4000000 in
set_option maxRecDepth 100000 in
theorem mX4_takeTies (l : Launch) (dC : Nat → ClassId) (dI : Nat → Nat → Nat) (cI cJ : ClassId) (ad : Nat → Nat) (p2 : Int32) (S : Nat → Nat → Int32) (L : Nat → Nat → Int64) (sz : Nat) {z : (Nat → Nat → Int32) × (Nat → Nat → Int64)} (h : sX4_takeTies p2 S L = some z) : Met l yX4_takeTies wsX4_takeTies ({ frames := 1, cells := 0, slots := 0, locals := 22 }) (va_Pc [.ref (ad 6), .ref (ad 1), .int p2] (QXs sz dC dI cI cJ ad S L)) (va_Qv (fun (u : (Nat → Nat → Int32) × (Nat → Nat → Int64)) => u = z) (fun (u : (Nat → Nat → Int32) × (Nat → Nat → Int64)) t => va_P (dC, dI) vwCl (wX cI cJ ad u.1 u.2) t.heap) (AX 43 ad sz)) 0 0 (AX 43 ad sz) := by
  refine Met.ofW (cc := cX4_takeTies) (maxL := 4) (ret := none) (by decide) rfl ?_
  intro p e s m args below meth c s₁ B hml hv
  obtain ⟨rfl, hsz, hP, hK, hD0⟩ := hv
  have hx := B.exec
  have hb := B.bytes
  have hr := B.returns
  have hts := atoms_spec (ws := wsX4_takeTies) B.pre
  have hown : s.vm.findClass RX4 = some m.cls := findClass_of_methodNamed B.named
  have hlocks := B.notSynchronized
  subst hsz
  have hD := wX_DA hD0 s.heap.size
  have hS : va_S (AX 43 ad s.heap.size) s.heap s.heap [] := va_S.rf
  have hl := lv_entry ([.ref (ad 6), .ref (ad 1), .int p2]) (n := 4) (Nat.le_of_ble_eq_true rfl)
  rw [lg_entry_eq]
  generalize (lg_sl ([.ref (ad 6), .ref (ad 1), .int p2]) ++ List.replicate (4 - (lg_sl ([.ref (ad 6), .ref (ad 1), .int p2])).length) Slot.unset).toArray = ls at hl ⊢
  have hl : lv_has ls 4 [(0, .ref (ad 6)), (1, .ref (ad 1)), (2, .int p2)] := hl
  have hf9 := hts (.fieldLink RX4 9 "LawRings$Hearing" "ties" "[I") (by decide +kernel)
  have hiX4 : ∀ w ∈ u_ws RX4 TX4 9, w ∈ wsX4_takeTies := by decide +kernel
  rw [sX4_takeTies] at h
  refine lv_iconst (v := 0) hx hb dX4_takeTies_0 (by decide) ?_
  refine lv_istore_n (lv' := [(3, .int 0), (0, .ref (ad 6)), (1, .ref (ad 1)), (2, .int p2)]) hx hb dX4_takeTies_1 rfl hl (by decide) rfl (fun ls hl => ?_)
  refine ww_w (fun WW2 hWW2 => ?_)
  have Lh2 : ∀ (n : Nat) (v1 : Int32) (S2 : (Nat → Nat → Int32)) (L3 : (Nat → Nat → Int64)) (z : ((Nat → Nat → Int32) × (Nat → Nat → Int64))), lX4_takeTies_2 p2 n v1 S2 L3 = some z → ∀ (H : Heap) (locs : List Loc), va_P (dC, dI) vwCl (wX cI cJ ad S2 L3) H → va_S (AX 43 ad s.heap.size) s.heap H locs → ∀ ls : Array Slot, lv_has ls 4 [(0, .ref (ad 6)), (1, .ref (ad 1)), (2, .int p2), (3, .int v1)] → (∀ (YS : (Nat → Nat → Int32)) (YL : (Nat → Nat → Int64)), z = (YS, YL) → ∀ (H : Heap) (locs : List Loc), va_P (dC, dI) vwCl (wX cI cJ ad YS YL) H → va_S (AX 43 ad s.heap.size) s.heap H locs → ∀ ls : Array Slot, lv_has ls 4 [] → WW2 H locs 26 ls) → WW2 H locs 2 ls := by
    intro n
    induction n with
    | zero => intro v1 S2 L3 z h H locs hP hS ls hl K0; rw [lX4_takeTies_2] at h; cases h
    | succ n ih =>
      intro v1 S2 L3 z h H locs hP hS ls hl K0
      have hD := wX_D hD S2 L3
      rw [lX4_takeTies_2] at h
      refine wi_w hWW2 ?_
      refine lv_iload_n hx hb dX4_takeTies_2 rfl (lv_at hl 3 rfl) ?_
      refine lv_bipush (v := 6) hx hb dX4_takeTies_3 (by decide) ?_
      refine lv_icmp_ge (tgt := 26) hx hb dX4_takeTies_5 (by decide) (fun c4 => ?_) (fun c4 => ?_)
      · replace h := it_t c4 h
        refine wu_w hWW2 ?_
        exact K0 S2 L3 (Option.some.inj h).symm H locs hP hS ls (lv_sub hl [] rfl)
      · replace h := it_f c4 h
        refine lv_aload_n hx hb dX4_takeTies_8 rfl (lv_at hl 0 rfl) ?_
        refine va_get (D := (dC, dI)) (ci := 4) (v := .ref (ad 35)) (C := RX4) (T := TX4) (N := 9) hx hb hts hiX4 hown hK hP 6 rfl rfl 3 (by decide) hf9 (fun _ h9 => h9) rfl dX4_takeTies_9 ?_
        refine lv_iload_n hx hb dX4_takeTies_12 rfl (lv_at hl 3 rfl) ?_
        refine lv_aload_n hx hb dX4_takeTies_13 rfl (lv_at hl 1 rfl) ?_
        refine lv_iload_n hx hb dX4_takeTies_14 rfl (lv_at hl 2 rfl) ?_
        refine lv_iload_n hx hb dX4_takeTies_15 rfl (lv_at hl 3 rfl) ?_
        obtain ⟨r6, k5, h⟩ := ob_elim h
        refine vp_callSi (W.runV (As := [.int p2, .int v1]) (rest := [.int v1, .ref (ad 35)]) ⟨hx, hb, hml, hown, hts⟩ (mX2_landOf l dC dI cI cJ ad p2 v1 S2 L3 k5) (cwV 2 hts gX4_takeTies_X2_landOf rfl rfl rfl (by decide +kernel) ⟨Nat.le_of_ble_eq_true rfl, Nat.le_of_ble_eq_true rfl⟩) ⟨QX_blind, va_recv hK hP (ci := 2) (q0 := 1) rfl rfl, fun U hU hW => ⟨rfl, QX_at hP hK hD hU hW⟩⟩ rfl rfl hl.1 rfl (lv_room (Nat.le_of_ble_eq_true rfl)) dX4_takeTies_16 ⟨Nat.zero_le _, Nat.zero_le _⟩) (fun r9 er9 => ?_)
        replace er9 := er9.symm
        subst er9
        obtain ⟨b7, h⟩ := ck_elim h
        obtain ⟨S8, eS8, h⟩ := bnd_elim h
        refine va_iast hx hb hK hP hD hS 35 0 rfl rfl b7 dX4_takeTies_19 (fun H locs hP9 _ hS => ?_)
        have hP := swX_35 hP9
        rw [← eS8] at hP
        have hD := wX_D hD S8 L3
        obtain ⟨x9, ex9, h⟩ := bnd_elim h
        refine lv_iinc (v := x9) (lv' := [(3, .int x9), (0, .ref (ad 6)), (1, .ref (ad 1)), (2, .int p2)]) hx hb dX4_takeTies_20 hl (k := 3) rfl (by rw [ex9]; rfl) (by decide) rfl (fun ls hl => ?_)
        refine lv_goto (tgt := 2) hx hb dX4_takeTies_23 (by decide) ?_
        refine wu_w hWW2 ?_
        exact ih x9 S8 L3 z h H locs hP hS ls (lv_sub hl [1, 2, 3, 0] rfl) K0
  obtain ⟨S11, L12, k10, h⟩ := ob2_elim h
  refine wu_w hWW2 ?_
  refine Lh2 FU 0 S L _ k10 s.heap [] hP hS ls (lv_sub hl [1, 2, 3, 0] rfl) ?_
  intro y0 y1 hy H locs hP hS ls hl
  cases hy
  have hD := wX_D hD S11 L12
  refine wi_w hWW2 ?_
  cases h
  exact W.vret hx hb hr (fun t ht hW => ⟨⟨_, rfl, rfl, by show va_P _ _ _ t.heap; rw [ht]; exact hP⟩, hS.F ht⟩) hS.2.2 dX4_takeTies_26
set_option maxHeartbeats 4000000 in
set_option maxRecDepth 100000 in
theorem mX6_stands (l : Launch) (dC : Nat → ClassId) (dI : Nat → Nat → Nat) (cI cJ : ClassId) (ad : Nat → Nat) (p1 : Int32) (p2 : Int32) (S : Nat → Nat → Int32) (L : Nat → Nat → Int64) {z : Int32} (h : sX6_stands p1 p2 S L = some z) : Met l yX6_stands wsX6_stands ({ frames := 0, cells := 0, slots := 0, locals := 0 }) (va_Pc [.ref (ad 2), .int p1, .int p2] (QX dC dI cI cJ ad S L)) (vp_Si (fun r => r = z)) 0 0 (fun _ => False) := by
  refine Met.ofW (cc := cX6_stands) (maxL := 3) (ret := (some .boolean)) (by decide) rfl ?_
  intro p e s m args below meth c s₁ B hml hv
  obtain ⟨rfl, hP, hK, hD⟩ := hv
  have hx := B.exec
  have hb := B.bytes
  have hr := B.returns
  have hts := atoms_spec (ws := wsX6_stands) B.pre
  have hown : s.vm.findClass RX6 = some m.cls := findClass_of_methodNamed B.named
  have hlocks := B.notSynchronized
  have hl := lv_entry ([.ref (ad 2), .int p1, .int p2]) (n := 3) (Nat.le_of_ble_eq_true rfl)
  rw [lg_entry_eq]
  generalize (lg_sl ([.ref (ad 2), .int p1, .int p2]) ++ List.replicate (3 - (lg_sl ([.ref (ad 2), .int p1, .int p2])).length) Slot.unset).toArray = ls at hl ⊢
  have hl : lv_has ls 3 [(0, .ref (ad 2)), (1, .int p1), (2, .int p2)] := hl
  have hf24 := hts (.fieldLink RX6 24 "LawRings$Rules" "from" "[I") (by decide +kernel)
  have hiX6 : ∀ w ∈ u_ws RX6 TX6 13, w ∈ wsX6_stands := by decide +kernel
  have hf27 := hts (.fieldLink RX6 27 "LawRings$Rules" "struck" "[I") (by decide +kernel)
  rw [sX6_stands] at h
  refine lv_aload_n hx hb dX6_stands_0 rfl (lv_at hl 0 rfl) ?_
  refine va_get (D := (dC, dI)) (ci := 6) (v := .ref (ad 21)) (C := RX6) (T := TX6) (N := 13) hx hb hts hiX6 hown hK hP 2 rfl rfl 5 (by decide) hf24 (fun _ h9 => h9) rfl dX6_stands_1 ?_
  refine lv_iload_n hx hb dX6_stands_4 rfl (lv_at hl 1 rfl) ?_
  obtain ⟨b1, h⟩ := ck_elim h
  refine va_iald hx hb hK hP 21 0 rfl rfl b1 dX6_stands_5 ?_
  refine lv_iload_n hx hb dX6_stands_6 rfl (lv_at hl 2 rfl) ?_
  refine lv_icmp_gt (tgt := 34) hx hb dX6_stands_7 (by decide) (fun c2 => ?_) (fun c2 => ?_)
  · replace h := it_t c2 h
    refine lv_iconst (v := 0) hx hb dX6_stands_34 (by decide) ?_
    cases h
    exact W.zret hx hb hr rfl (fun t ht hW => ⟨_, rfl, rfl, ht⟩) (fun q hq => absurd hq List.not_mem_nil) dX6_stands_35
  · replace h := it_f c2 h
    refine lv_aload_n hx hb dX6_stands_10 rfl (lv_at hl 0 rfl) ?_
    refine va_get (D := (dC, dI)) (ci := 6) (v := .ref (ad 22)) (C := RX6) (T := TX6) (N := 13) hx hb hts hiX6 hown hK hP 2 rfl rfl 6 (by decide) hf27 (fun _ h9 => h9) rfl dX6_stands_11 ?_
    refine lv_iload_n hx hb dX6_stands_14 rfl (lv_at hl 1 rfl) ?_
    obtain ⟨b3, h⟩ := ck_elim h
    refine va_iald hx hb hK hP 22 0 rfl rfl b3 dX6_stands_15 ?_
    refine lv_iconst (v := (-1)) hx hb dX6_stands_16 (by decide) ?_
    refine lv_icmp_eq (tgt := 30) hx hb dX6_stands_17 (by decide) (fun c4 => ?_) (fun c4 => ?_)
    · replace h := it_t c4 h
      refine lv_iconst (v := 1) hx hb dX6_stands_30 (by decide) ?_
      refine lv_goto (tgt := 35) hx hb dX6_stands_31 (by decide) ?_
      cases h
      exact W.zret hx hb hr rfl (fun t ht hW => ⟨_, rfl, rfl, ht⟩) (fun q hq => absurd hq List.not_mem_nil) dX6_stands_35
    · replace h := it_f c4 h
      refine lv_iload_n hx hb dX6_stands_20 rfl (lv_at hl 2 rfl) ?_
      refine lv_aload_n hx hb dX6_stands_21 rfl (lv_at hl 0 rfl) ?_
      refine va_get (D := (dC, dI)) (ci := 6) (v := .ref (ad 22)) (C := RX6) (T := TX6) (N := 13) hx hb hts hiX6 hown hK hP 2 rfl rfl 6 (by decide) hf27 (fun _ h9 => h9) rfl dX6_stands_22 ?_
      refine lv_iload_n hx hb dX6_stands_25 rfl (lv_at hl 1 rfl) ?_
      obtain ⟨b5, h⟩ := ck_elim h
      refine va_iald hx hb hK hP 22 0 rfl rfl b5 dX6_stands_26 ?_
      refine lv_icmp_ge (tgt := 34) hx hb dX6_stands_27 (by decide) (fun c6 => ?_) (fun c6 => ?_)
      · replace h := it_t c6 h
        refine lv_iconst (v := 0) hx hb dX6_stands_34 (by decide) ?_
        cases h
        exact W.zret hx hb hr rfl (fun t ht hW => ⟨_, rfl, rfl, ht⟩) (fun q hq => absurd hq List.not_mem_nil) dX6_stands_35
      · replace h := it_f c6 h
        refine lv_iconst (v := 1) hx hb dX6_stands_30 (by decide) ?_
        refine lv_goto (tgt := 35) hx hb dX6_stands_31 (by decide) ?_
        cases h
        exact W.zret hx hb hr rfl (fun t ht hW => ⟨_, rfl, rfl, ht⟩) (fun q hq => absurd hq List.not_mem_nil) dX6_stands_35
set_option maxHeartbeats 4000000 in
set_option maxRecDepth 100000 in
theorem mX6_standing (l : Launch) (dC : Nat → ClassId) (dI : Nat → Nat → Nat) (cI cJ : ClassId) (ad : Nat → Nat) (p1 : Int32) (S : Nat → Nat → Int32) (L : Nat → Nat → Int64) {z : Int64} (h : sX6_standing p1 S L = some z) : Met l yX6_standing wsX6_standing ({ frames := 1, cells := 0, slots := 0, locals := 22 }) (va_Pc [.ref (ad 2), .int p1] (QX dC dI cI cJ ad S L)) (vp_Sl (fun r => r = z)) 0 0 (fun _ => False) := by
  refine Met.ofW (cc := cX6_standing) (maxL := 5) (ret := (some .long)) (by decide) rfl ?_
  intro p e s m args below meth c s₁ B hml hv
  obtain ⟨rfl, hP, hK, hD⟩ := hv
  have hx := B.exec
  have hb := B.bytes
  have hr := B.returns
  have hts := atoms_spec (ws := wsX6_standing) B.pre
  have hown : s.vm.findClass RX6 = some m.cls := findClass_of_methodNamed B.named
  have hlocks := B.notSynchronized
  have hl := lv_entry ([.ref (ad 2), .int p1]) (n := 5) (Nat.le_of_ble_eq_true rfl)
  rw [lg_entry_eq]
  generalize (lg_sl ([.ref (ad 2), .int p1]) ++ List.replicate (5 - (lg_sl ([.ref (ad 2), .int p1])).length) Slot.unset).toArray = ls at hl ⊢
  have hl : lv_has ls 5 [(0, .ref (ad 2)), (1, .int p1)] := hl
  have hf49 := hts (.fieldLink RX6 49 "LawRings$Rules" "size" "I") (by decide +kernel)
  have hiX6 : ∀ w ∈ u_ws RX6 TX6 13, w ∈ wsX6_standing := by decide +kernel
  rw [sX6_standing] at h
  refine lv_lconst (v := 0) hx hb dX6_standing_0 (by decide) ?_
  refine lv_lstore_n (lv' := [(2, .long 0), (0, .ref (ad 2)), (1, .int p1)]) hx hb dX6_standing_1 rfl hl (by decide) rfl (fun ls hl => ?_)
  refine lv_iconst (v := 0) hx hb dX6_standing_2 (by decide) ?_
  refine lv_istore (lv' := [(4, .int 0), (2, .long 0), (0, .ref (ad 2)), (1, .int p1)]) hx hb dX6_standing_3 hl (by decide) rfl (fun ls hl => ?_)
  refine ww_r (fun WW5 hWW5 => ?_)
  have Lh5 : ∀ (n : Nat) (v1 : Int64) (v2 : Int32) (z : (Int64)), lX6_standing_5 p1 S L n v1 v2 = some z → ∀ ls : Array Slot, lv_has ls 5 [(0, .ref (ad 2)), (1, .int p1), (2, .long v1), (4, .int v2)] → (∀ (y0 : Int64), z = y0 → ∀ ls : Array Slot, lv_has ls 5 [(2, .long y0)] → WW5  37 ls) → WW5  5 ls := by
    intro n
    induction n with
    | zero => intro v1 v2 z h ls hl K0; rw [lX6_standing_5] at h; cases h
    | succ n ih =>
      intro v1 v2 z h ls hl K0
      rw [lX6_standing_5] at h
      refine wi_r hWW5 ?_
      refine lv_iload hx hb dX6_standing_5 (lv_at hl 3 rfl) ?_
      refine lv_aload_n hx hb dX6_standing_7 rfl (lv_at hl 0 rfl) ?_
      refine va_get (D := (dC, dI)) (ci := 6) (v := .int (S 2 0)) (C := RX6) (T := TX6) (N := 13) hx hb hts hiX6 hown hK hP 2 rfl rfl 0 (by decide) hf49 (fun _ h9 => h9) rfl dX6_standing_8 ?_
      refine lv_icmp_ge (tgt := 37) hx hb dX6_standing_11 (by decide) (fun c3 => ?_) (fun c3 => ?_)
      · replace h := it_t c3 h
        refine wu_r hWW5 ?_
        exact K0 v1 (Option.some.inj h).symm ls (lv_sub hl [2] rfl)
      · replace h := it_f c3 h
        refine lv_aload_n hx hb dX6_standing_14 rfl (lv_at hl 0 rfl) ?_
        refine lv_iload hx hb dX6_standing_15 (lv_at hl 3 rfl) ?_
        refine lv_iload_n hx hb dX6_standing_17 rfl (lv_at hl 1 rfl) ?_
        obtain ⟨r5, k4, h⟩ := ob_elim h
        refine vp_callSi (W.runV (As := [.int v2, .int p1]) (rest := []) ⟨hx, hb, hml, hown, hts⟩ (mX6_stands l dC dI cI cJ ad v2 p1 S L k4) (cwV 2 hts gX6_standing_X6_stands rfl rfl rfl (by decide +kernel) ⟨Nat.le_of_ble_eq_true rfl, Nat.le_of_ble_eq_true rfl⟩) ⟨QX_blind, va_recv hK hP (ci := 6) (q0 := 2) rfl rfl, fun U hU hW => ⟨rfl, QX_at hP hK hD hU hW⟩⟩ rfl rfl hl.1 rfl (lv_room (Nat.le_of_ble_eq_true rfl)) dX6_standing_18 ⟨Nat.zero_le _, Nat.zero_le _⟩) (fun r9 er9 => ?_)
        replace er9 := er9.symm
        subst er9
        refine lv_if_eq (tgt := 31) hx hb dX6_standing_21 (by decide) (fun c6 => ?_) (fun c6 => ?_)
        · replace h := it_t c6 h
          obtain ⟨x7, ex7, h⟩ := bnd_elim h
          refine lv_iinc (v := x7) (lv' := [(4, .int x7), (0, .ref (ad 2)), (1, .int p1), (2, .long v1)]) hx hb dX6_standing_31 hl (k := 3) rfl (by rw [ex7]; rfl) (by decide) rfl (fun ls hl => ?_)
          refine lv_goto (tgt := 5) hx hb dX6_standing_34 (by decide) ?_
          refine wu_r hWW5 ?_
          exact ih v1 x7 z h ls (lv_sub hl [1, 2, 3, 0] rfl) K0
        · replace h := it_f c6 h
          refine lv_lload_n hx hb dX6_standing_24 rfl (lv_at hl 2 rfl) ?_
          refine lv_lconst (v := 1) hx hb dX6_standing_25 (by decide) ?_
          refine lv_iload hx hb dX6_standing_26 (lv_at hl 3 rfl) ?_
          refine lv_lshl (v := lsh 1 v2) hx hb dX6_standing_28 rfl ?_
          refine lv_lor hx hb dX6_standing_29 ?_
          obtain ⟨x8, ex8, h⟩ := bnd_elim h
          refine nm_l ex8 ?_
          refine lv_lstore_n (lv' := [(2, .long x8), (0, .ref (ad 2)), (1, .int p1), (4, .int v2)]) hx hb dX6_standing_30 rfl hl (by decide) rfl (fun ls hl => ?_)
          obtain ⟨x9, ex9, h⟩ := bnd_elim h
          refine lv_iinc (v := x9) (lv' := [(4, .int x9), (2, .long x8), (0, .ref (ad 2)), (1, .int p1)]) hx hb dX6_standing_31 hl (k := 3) rfl (by rw [ex9]; rfl) (by decide) rfl (fun ls hl => ?_)
          refine lv_goto (tgt := 5) hx hb dX6_standing_34 (by decide) ?_
          refine wu_r hWW5 ?_
          exact ih x8 x9 z h ls (lv_sub hl [2, 3, 1, 0] rfl) K0
  obtain ⟨w11, k10, h⟩ := ob_elim h
  refine wu_r hWW5 ?_
  refine Lh5 FU 0 0 _ k10 ls (lv_sub hl [2, 3, 1, 0] rfl) ?_
  intro y0 hy ls hl
  cases hy
  refine wi_r hWW5 ?_
  refine lv_lload_n hx hb dX6_standing_37 rfl (lv_at hl 0 rfl) ?_
  cases h
  exact W.lret hx hb hr (fun t ht hW => ⟨_, rfl, rfl, ht⟩) (fun q hq => absurd hq List.not_mem_nil) dX6_standing_38
set_option maxHeartbeats 4000000 in
set_option maxRecDepth 100000 in
theorem mX6_letBy (l : Launch) (dC : Nat → ClassId) (dI : Nat → Nat → Nat) (cI cJ : ClassId) (ad : Nat → Nat) (p2 : Int32) (S : Nat → Nat → Int32) (L : Nat → Nat → Int64) {z : Int64} (h : sX6_letBy p2 S L = some z) : Met l yX6_letBy wsX6_letBy ({ frames := 0, cells := 0, slots := 0, locals := 0 }) (va_Pc [.ref (ad 2), .ref (ad 35), .int p2] (QX dC dI cI cJ ad S L)) (vp_Sl (fun r => r = z)) 0 0 (fun _ => False) := by
  refine Met.ofW (cc := cX6_letBy) (maxL := 6) (ret := (some .long)) (by decide) rfl ?_
  intro p e s m args below meth c s₁ B hml hv
  obtain ⟨rfl, hP, hK, hD⟩ := hv
  have hx := B.exec
  have hb := B.bytes
  have hr := B.returns
  have hts := atoms_spec (ws := wsX6_letBy) B.pre
  have hown : s.vm.findClass RX6 = some m.cls := findClass_of_methodNamed B.named
  have hlocks := B.notSynchronized
  have hl := lv_entry ([.ref (ad 2), .ref (ad 35), .int p2]) (n := 6) (Nat.le_of_ble_eq_true rfl)
  rw [lg_entry_eq]
  generalize (lg_sl ([.ref (ad 2), .ref (ad 35), .int p2]) ++ List.replicate (6 - (lg_sl ([.ref (ad 2), .ref (ad 35), .int p2])).length) Slot.unset).toArray = ls at hl ⊢
  have hl : lv_has ls 6 [(0, .ref (ad 2)), (1, .ref (ad 35)), (2, .int p2)] := hl
  have hf43 := hts (.fieldLink RX6 43 "LawRings$Rules" "broken" "[J") (by decide +kernel)
  have hiX6 : ∀ w ∈ u_ws RX6 TX6 13, w ∈ wsX6_letBy := by decide +kernel
  have hk74 := hts (.constantLong RX6 74 (-1)) (by decide +kernel)
  have hf46 := hts (.fieldLink RX6 46 "LawRings$Rules" "paired" "[J") (by decide +kernel)
  rw [sX6_letBy] at h
  refine lv_aload_n hx hb dX6_letBy_0 rfl (lv_at hl 0 rfl) ?_
  refine va_get (D := (dC, dI)) (ci := 6) (v := .ref (ad 27)) (C := RX6) (T := TX6) (N := 13) hx hb hts hiX6 hown hK hP 2 rfl rfl 11 (by decide) hf43 (fun _ h9 => h9) rfl dX6_letBy_1 ?_
  refine lv_iload_n hx hb dX6_letBy_4 rfl (lv_at hl 2 rfl) ?_
  refine lv_iconst (v := 5) hx hb dX6_letBy_5 (by decide) ?_
  refine lv_imul hx hb dX6_letBy_6 ?_
  refine lv_aload_n hx hb dX6_letBy_7 rfl (lv_at hl 1 rfl) ?_
  refine lv_iload_n hx hb dX6_letBy_8 rfl (lv_at hl 2 rfl) ?_
  obtain ⟨b1, h⟩ := ck_elim h
  refine va_iald hx hb hK hP 35 0 rfl rfl b1 dX6_letBy_9 ?_
  refine lv_iadd hx hb dX6_letBy_10 ?_
  refine lv_iconst (v := 1) hx hb dX6_letBy_11 (by decide) ?_
  refine lv_iadd hx hb dX6_letBy_12 ?_
  obtain ⟨b2, h⟩ := ck_elim h
  refine va_lald hx hb hK hP 27 1 rfl rfl b2 dX6_letBy_13 ?_
  refine lv_ldc2 (v := (-1)) hx hb hown hk74 dX6_letBy_14 ?_
  refine lv_lxor hx hb dX6_letBy_17 ?_
  obtain ⟨x3, ex3, h⟩ := bnd_elim h
  refine nm_l ex3 ?_
  refine lv_lstore_n (lv' := [(3, .long x3), (0, .ref (ad 2)), (1, .ref (ad 35)), (2, .int p2)]) hx hb dX6_letBy_18 rfl hl (by decide) rfl (fun ls hl => ?_)
  refine lv_iload_n hx hb dX6_letBy_19 rfl (lv_at hl 3 rfl) ?_
  refine lv_iconst (v := 1) hx hb dX6_letBy_20 (by decide) ?_
  refine lv_iadd hx hb dX6_letBy_21 ?_
  obtain ⟨x4, ex4, h⟩ := bnd_elim h
  refine nm_i ex4 ?_
  refine lv_istore (lv' := [(5, .int x4), (3, .long x3), (0, .ref (ad 2)), (1, .ref (ad 35)), (2, .int p2)]) hx hb dX6_letBy_22 hl (by decide) rfl (fun ls hl => ?_)
  refine ww_r (fun WW24 hWW24 => ?_)
  have Lh24 : ∀ (n : Nat) (v5 : Int64) (v6 : Int32) (z : (Int64)), lX6_letBy_24 p2 S L n v5 v6 = some z → ∀ ls : Array Slot, lv_has ls 6 [(0, .ref (ad 2)), (1, .ref (ad 35)), (2, .int p2), (3, .long v5), (5, .int v6)] → (∀ (y0 : Int64), z = y0 → ∀ ls : Array Slot, lv_has ls 6 [(3, .long y0)] → WW24  66 ls) → WW24  24 ls := by
    intro n
    induction n with
    | zero => intro v5 v6 z h ls hl K0; rw [lX6_letBy_24] at h; cases h
    | succ n ih =>
      intro v5 v6 z h ls hl K0
      rw [lX6_letBy_24] at h
      refine wi_r hWW24 ?_
      refine lv_iload hx hb dX6_letBy_24 (lv_at hl 4 rfl) ?_
      refine lv_bipush (v := 6) hx hb dX6_letBy_26 (by decide) ?_
      refine lv_icmp_ge (tgt := 66) hx hb dX6_letBy_28 (by decide) (fun c7 => ?_) (fun c7 => ?_)
      · replace h := it_t c7 h
        refine wu_r hWW24 ?_
        exact K0 v5 (Option.some.inj h).symm ls (lv_sub hl [3] rfl)
      · replace h := it_f c7 h
        refine lv_aload_n hx hb dX6_letBy_31 rfl (lv_at hl 1 rfl) ?_
        refine lv_iload hx hb dX6_letBy_32 (lv_at hl 4 rfl) ?_
        obtain ⟨b8, h⟩ := ck_elim h
        refine va_iald hx hb hK hP 35 0 rfl rfl b8 dX6_letBy_34 ?_
        refine lv_aload_n hx hb dX6_letBy_35 rfl (lv_at hl 1 rfl) ?_
        refine lv_iload_n hx hb dX6_letBy_36 rfl (lv_at hl 2 rfl) ?_
        obtain ⟨b9, h⟩ := ck_elim h
        refine va_iald hx hb hK hP 35 0 rfl rfl b9 dX6_letBy_37 ?_
        refine lv_icmp_eq (tgt := 60) hx hb dX6_letBy_38 (by decide) (fun c10 => ?_) (fun c10 => ?_)
        · replace h := it_t c10 h
          obtain ⟨x11, ex11, h⟩ := bnd_elim h
          refine lv_iinc (v := x11) (lv' := [(5, .int x11), (0, .ref (ad 2)), (1, .ref (ad 35)), (2, .int p2), (3, .long v5)]) hx hb dX6_letBy_60 hl (k := 4) rfl (by rw [ex11]; rfl) (by decide) rfl (fun ls hl => ?_)
          refine lv_goto (tgt := 24) hx hb dX6_letBy_63 (by decide) ?_
          refine wu_r hWW24 ?_
          exact ih v5 x11 z h ls (lv_sub hl [1, 2, 3, 4, 0] rfl) K0
        · replace h := it_f c10 h
          refine lv_lload_n hx hb dX6_letBy_41 rfl (lv_at hl 3 rfl) ?_
          refine lv_aload_n hx hb dX6_letBy_42 rfl (lv_at hl 0 rfl) ?_
          refine va_get (D := (dC, dI)) (ci := 6) (v := .ref (ad 28)) (C := RX6) (T := TX6) (N := 13) hx hb hts hiX6 hown hK hP 2 rfl rfl 12 (by decide) hf46 (fun _ h9 => h9) rfl dX6_letBy_43 ?_
          refine lv_iload_n hx hb dX6_letBy_46 rfl (lv_at hl 2 rfl) ?_
          refine lv_bipush (v := 6) hx hb dX6_letBy_47 (by decide) ?_
          refine lv_imul hx hb dX6_letBy_49 ?_
          refine lv_iload hx hb dX6_letBy_50 (lv_at hl 4 rfl) ?_
          refine lv_iadd hx hb dX6_letBy_52 ?_
          obtain ⟨b12, h⟩ := ck_elim h
          refine va_lald hx hb hK hP 28 1 rfl rfl b12 dX6_letBy_53 ?_
          refine lv_ldc2 (v := (-1)) hx hb hown hk74 dX6_letBy_54 ?_
          refine lv_lxor hx hb dX6_letBy_57 ?_
          refine lv_land hx hb dX6_letBy_58 ?_
          obtain ⟨x13, ex13, h⟩ := bnd_elim h
          refine nm_l ex13 ?_
          refine lv_lstore_n (lv' := [(3, .long x13), (0, .ref (ad 2)), (1, .ref (ad 35)), (2, .int p2), (5, .int v6)]) hx hb dX6_letBy_59 rfl hl (by decide) rfl (fun ls hl => ?_)
          obtain ⟨x14, ex14, h⟩ := bnd_elim h
          refine lv_iinc (v := x14) (lv' := [(5, .int x14), (3, .long x13), (0, .ref (ad 2)), (1, .ref (ad 35)), (2, .int p2)]) hx hb dX6_letBy_60 hl (k := 4) rfl (by rw [ex14]; rfl) (by decide) rfl (fun ls hl => ?_)
          refine lv_goto (tgt := 24) hx hb dX6_letBy_63 (by decide) ?_
          refine wu_r hWW24 ?_
          exact ih x13 x14 z h ls (lv_sub hl [2, 3, 4, 1, 0] rfl) K0
  obtain ⟨w16, k15, h⟩ := ob_elim h
  refine wu_r hWW24 ?_
  refine Lh24 FU x3 x4 _ k15 ls (lv_sub hl [2, 3, 4, 1, 0] rfl) ?_
  intro y0 hy ls hl
  cases hy
  refine wi_r hWW24 ?_
  refine lv_lload_n hx hb dX6_letBy_66 rfl (lv_at hl 0 rfl) ?_
  cases h
  exact W.lret hx hb hr (fun t ht hW => ⟨_, rfl, rfl, ht⟩) (fun q hq => absurd hq List.not_mem_nil) dX6_letBy_67
set_option maxHeartbeats 4000000 in
set_option maxRecDepth 100000 in
theorem mX4_open (l : Launch) (dC : Nat → ClassId) (dI : Nat → Nat → Nat) (cI cJ : ClassId) (ad : Nat → Nat) (p2 : Int32) (S : Nat → Nat → Int32) (L : Nat → Nat → Int64) (sz : Nat) {z : (Nat → Nat → Int32) × (Nat → Nat → Int64)} (h : sX4_open p2 S L = some z) : Met l yX4_open wsX4_open ({ frames := 2, cells := 0, slots := 0, locals := 46 }) (va_Pc [.ref (ad 6), .ref (ad 1), .int p2] (QXs sz dC dI cI cJ ad S L)) (va_Qv (fun (u : (Nat → Nat → Int32) × (Nat → Nat → Int64)) => u = z) (fun (u : (Nat → Nat → Int32) × (Nat → Nat → Int64)) t => va_P (dC, dI) vwCl (wX cI cJ ad u.1 u.2) t.heap) (AX 43 ad sz)) 0 0 (AX 43 ad sz) := by
  refine Met.ofW (cc := cX4_open) (maxL := 4) (ret := none) (by decide) rfl ?_
  intro p e s m args below meth c s₁ B hml hv
  obtain ⟨rfl, hsz, hP, hK, hD0⟩ := hv
  have hx := B.exec
  have hb := B.bytes
  have hr := B.returns
  have hts := atoms_spec (ws := wsX4_open) B.pre
  have hown : s.vm.findClass RX4 = some m.cls := findClass_of_methodNamed B.named
  have hlocks := B.notSynchronized
  subst hsz
  have hD := wX_DA hD0 s.heap.size
  have hS : va_S (AX 43 ad s.heap.size) s.heap s.heap [] := va_S.rf
  have hl := lv_entry ([.ref (ad 6), .ref (ad 1), .int p2]) (n := 4) (Nat.le_of_ble_eq_true rfl)
  rw [lg_entry_eq]
  generalize (lg_sl ([.ref (ad 6), .ref (ad 1), .int p2]) ++ List.replicate (4 - (lg_sl ([.ref (ad 6), .ref (ad 1), .int p2])).length) Slot.unset).toArray = ls at hl ⊢
  have hl : lv_has ls 4 [(0, .ref (ad 6)), (1, .ref (ad 1)), (2, .int p2)] := hl
  have hf28 := hts (.fieldLink RX4 28 "LawRings$Hearing" "rules" "LLawRings$Rules;") (by decide +kernel)
  have hiX4 : ∀ w ∈ u_ws RX4 TX4 9, w ∈ wsX4_open := by decide +kernel
  have hf44 := hts (.fieldLink RX4 44 "LawRings$Cases" "day" "[I") (by decide +kernel)
  have hiX2 : ∀ w ∈ u_ws RX2 TX2 6, w ∈ wsX4_open := by decide +kernel
  have hf55 := hts (.fieldLink RX4 55 "LawRings$Hearing" "held" "J") (by decide +kernel)
  have hf9 := hts (.fieldLink RX4 9 "LawRings$Hearing" "ties" "[I") (by decide +kernel)
  rw [sX4_open] at h
  refine lv_aload_n hx hb dX4_open_0 rfl (lv_at hl 0 rfl) ?_
  refine lv_aload_n hx hb dX4_open_1 rfl (lv_at hl 1 rfl) ?_
  refine lv_iload_n hx hb dX4_open_2 rfl (lv_at hl 2 rfl) ?_
  obtain ⟨S2, L3, k1, h⟩ := ob2_elim h
  refine va_callv (va_runV (As := [.ref (ad 1), .int p2]) (rest := []) ⟨hx, hb, hml, hown, hts⟩ (mX4_takeTies l dC dI cI cJ ad p2 S L s.heap.size k1) (cwV 2 hts gX4_open_X4_takeTies rfl rfl rfl (by decide +kernel) ⟨Nat.le_of_ble_eq_true rfl, Nat.le_of_ble_eq_true rfl⟩) ⟨QXs_blind, va_recv hK hP (ci := 4) (q0 := 6) rfl rfl, fun U hU hW => ⟨rfl, congrArg Array.size hU, QX_at hP hK hD hU hW⟩⟩ rfl rfl hl.1 rfl (lv_room (Nat.le_of_ble_eq_true rfl)) dX4_open_3 ⟨Nat.zero_le _, Nat.zero_le _⟩) hS (fun q _ hq => AX_mono hS.1 hq) (fun q hq => AX_mono hS.1 hq) (fun u t H1 locs ht hvm hw hB hz1 hk1 hS => ?_)
  cases hw
  rw [ht] at hB
  have hP := hB
  clear hB hk1 hz1
  generalize H1 = H at hP hS ⊢
  have hD := wX_D hD S2 L3
  refine lv_aload_n hx hb dX4_open_6 rfl (lv_at hl 0 rfl) ?_
  refine lv_aload_n hx hb dX4_open_7 rfl (lv_at hl 0 rfl) ?_
  refine va_get (D := (dC, dI)) (ci := 4) (v := .ref (ad 2)) (C := RX4) (T := TX4) (N := 9) hx hb hts hiX4 hown hK hP 6 rfl rfl 0 (by decide) hf28 (fun _ h9 => h9) rfl dX4_open_8 ?_
  refine lv_aload_n hx hb dX4_open_11 rfl (lv_at hl 1 rfl) ?_
  refine va_get (D := (dC, dI)) (ci := 2) (v := .ref (ad 13)) (C := RX2) (T := TX2) (N := 6) hx hb hts hiX2 hown hK hP 1 rfl rfl 2 (by decide) hf44 (fun _ h9 => h9) rfl dX4_open_12 ?_
  refine lv_iload_n hx hb dX4_open_15 rfl (lv_at hl 2 rfl) ?_
  obtain ⟨b4, h⟩ := ck_elim h
  refine va_iald hx hb hK hP 13 0 rfl rfl b4 dX4_open_16 ?_
  obtain ⟨r6, k5, h⟩ := ob_elim h
  refine vp_callSl (W.runV (As := [.int (S2 13 p2.toNatClampNeg)]) (rest := [.ref (ad 6)]) ⟨hx, hb, hml, hown, hts⟩ (mX6_standing l dC dI cI cJ ad (S2 13 p2.toNatClampNeg) S2 L3 k5) (cwV 1 hts gX4_open_X6_standing rfl rfl rfl (by decide +kernel) ⟨Nat.le_of_ble_eq_true rfl, Nat.le_of_ble_eq_true rfl⟩) ⟨QX_blind, va_recv hK hP (ci := 6) (q0 := 2) rfl rfl, fun U hU hW => ⟨rfl, QX_at hP hK hD hU hW⟩⟩ rfl rfl hl.1 rfl (lv_room (Nat.le_of_ble_eq_true rfl)) dX4_open_17 ⟨Nat.zero_le _, Nat.zero_le _⟩) (fun r9 er9 => ?_)
  replace er9 := er9.symm
  subst er9
  obtain ⟨L7, eL7, h⟩ := bnd_elim h
  refine va_put (D := (dC, dI)) (ci := 4) (v := .long r6) (ty := .long) (C := RX4) (T := TX4) (N := 9) hx hb hts hiX4 tyX4 tyX4_ok nmX4 hown hK hP hD hS 6 rfl rfl 4 (by decide) hf55 (fun _ h9 => h9) rfl (by decide +kernel) rfl rfl (Nat.le_of_ble_eq_true rfl) dX4_open_20 (fun H locs hP9 _ hS => ?_)
  have hP := swX_6_4 hP9
  rw [← eL7] at hP
  have hD := wX_D hD S2 L7
  refine lv_iconst (v := 0) hx hb dX4_open_23 (by decide) ?_
  refine lv_istore_n (lv' := [(3, .int 0), (0, .ref (ad 6)), (1, .ref (ad 1)), (2, .int p2)]) hx hb dX4_open_24 rfl hl (by decide) rfl (fun ls hl => ?_)
  refine ww_w (fun WW25 hWW25 => ?_)
  have Lh25 : ∀ (n : Nat) (v8 : Int32) (S9 : (Nat → Nat → Int32)) (L10 : (Nat → Nat → Int64)) (z : ((Nat → Nat → Int32) × (Nat → Nat → Int64))), lX4_open_25 n v8 S9 L10 = some z → ∀ (H : Heap) (locs : List Loc), va_P (dC, dI) vwCl (wX cI cJ ad S9 L10) H → va_S (AX 43 ad s.heap.size) s.heap H locs → ∀ ls : Array Slot, lv_has ls 4 [(0, .ref (ad 6)), (3, .int v8)] → (∀ (YS : (Nat → Nat → Int32)) (YL : (Nat → Nat → Int64)), z = (YS, YL) → ∀ (H : Heap) (locs : List Loc), va_P (dC, dI) vwCl (wX cI cJ ad YS YL) H → va_S (AX 43 ad s.heap.size) s.heap H locs → ∀ ls : Array Slot, lv_has ls 4 [] → WW25 H locs 58 ls) → WW25 H locs 25 ls := by
    intro n
    induction n with
    | zero => intro v8 S9 L10 z h H locs hP hS ls hl K0; rw [lX4_open_25] at h; cases h
    | succ n ih =>
      intro v8 S9 L10 z h H locs hP hS ls hl K0
      have hD := wX_D hD S9 L10
      rw [lX4_open_25] at h
      refine wi_w hWW25 ?_
      refine lv_iload_n hx hb dX4_open_25 rfl (lv_at hl 1 rfl) ?_
      refine lv_bipush (v := 6) hx hb dX4_open_26 (by decide) ?_
      refine lv_icmp_ge (tgt := 58) hx hb dX4_open_28 (by decide) (fun c11 => ?_) (fun c11 => ?_)
      · replace h := it_t c11 h
        refine wu_w hWW25 ?_
        exact K0 S9 L10 (Option.some.inj h).symm H locs hP hS ls (lv_sub hl [] rfl)
      · replace h := it_f c11 h
        refine lv_aload_n hx hb dX4_open_31 rfl (lv_at hl 0 rfl) ?_
        refine lv_dup hx hb dX4_open_32 rfl ?_
        refine va_get (D := (dC, dI)) (ci := 4) (v := .long (L10 6 4)) (C := RX4) (T := TX4) (N := 9) hx hb hts hiX4 hown hK hP 6 rfl rfl 4 (by decide) hf55 (fun _ h9 => h9) rfl dX4_open_33 ?_
        refine lv_aload_n hx hb dX4_open_36 rfl (lv_at hl 0 rfl) ?_
        refine va_get (D := (dC, dI)) (ci := 4) (v := .ref (ad 2)) (C := RX4) (T := TX4) (N := 9) hx hb hts hiX4 hown hK hP 6 rfl rfl 0 (by decide) hf28 (fun _ h9 => h9) rfl dX4_open_37 ?_
        refine lv_aload_n hx hb dX4_open_40 rfl (lv_at hl 0 rfl) ?_
        refine va_get (D := (dC, dI)) (ci := 4) (v := .ref (ad 35)) (C := RX4) (T := TX4) (N := 9) hx hb hts hiX4 hown hK hP 6 rfl rfl 3 (by decide) hf9 (fun _ h9 => h9) rfl dX4_open_41 ?_
        refine lv_iload_n hx hb dX4_open_44 rfl (lv_at hl 1 rfl) ?_
        obtain ⟨r13, k12, h⟩ := ob_elim h
        refine vp_callSl (W.runV (As := [.ref (ad 35), .int v8]) (rest := [.long (L10 6 4), .ref (ad 6)]) ⟨hx, hb, hml, hown, hts⟩ (mX6_letBy l dC dI cI cJ ad v8 S9 L10 k12) (cwV 2 hts gX4_open_X6_letBy rfl rfl rfl (by decide +kernel) ⟨Nat.le_of_ble_eq_true rfl, Nat.le_of_ble_eq_true rfl⟩) ⟨QX_blind, va_recv hK hP (ci := 6) (q0 := 2) rfl rfl, fun U hU hW => ⟨rfl, QX_at hP hK hD hU hW⟩⟩ rfl rfl hl.1 rfl (lv_room (Nat.le_of_ble_eq_true rfl)) dX4_open_45 ⟨Nat.zero_le _, Nat.zero_le _⟩) (fun r9 er9 => ?_)
        replace er9 := er9.symm
        subst er9
        refine lv_land hx hb dX4_open_48 ?_
        obtain ⟨L14, eL14, h⟩ := bnd_elim h
        refine va_put (D := (dC, dI)) (ci := 4) (v := .long ((L10 6 4) &&& r13)) (ty := .long) (C := RX4) (T := TX4) (N := 9) hx hb hts hiX4 tyX4 tyX4_ok nmX4 hown hK hP hD hS 6 rfl rfl 4 (by decide) hf55 (fun _ h9 => h9) rfl (by decide +kernel) rfl rfl (Nat.le_of_ble_eq_true rfl) dX4_open_49 (fun H locs hP9 _ hS => ?_)
        have hP := swX_6_4 hP9
        rw [← eL14] at hP
        have hD := wX_D hD S9 L14
        obtain ⟨x15, ex15, h⟩ := bnd_elim h
        refine lv_iinc (v := x15) (lv' := [(3, .int x15), (0, .ref (ad 6))]) hx hb dX4_open_52 hl (k := 1) rfl (by rw [ex15]; rfl) (by decide) rfl (fun ls hl => ?_)
        refine lv_goto (tgt := 25) hx hb dX4_open_55 (by decide) ?_
        refine wu_w hWW25 ?_
        exact ih x15 S9 L14 z h H locs hP hS ls (lv_sub hl [1, 0] rfl) K0
  obtain ⟨S17, L18, k16, h⟩ := ob2_elim h
  refine wu_w hWW25 ?_
  refine Lh25 FU 0 S2 L7 _ k16 H locs hP hS ls (lv_sub hl [1, 0] rfl) ?_
  intro y0 y1 hy H locs hP hS ls hl
  cases hy
  have hD := wX_D hD S17 L18
  refine wi_w hWW25 ?_
  cases h
  exact W.vret hx hb hr (fun t ht hW => ⟨⟨_, rfl, rfl, by show va_P _ _ _ t.heap; rw [ht]; exact hP⟩, hS.F ht⟩) hS.2.2 dX4_open_58
