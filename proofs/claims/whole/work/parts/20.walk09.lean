set_option maxHeartbeats 4000000 in
set_option maxRecDepth 100000 in
theorem mX0_turnTo (l : Launch) (dC : Nat → ClassId) (dI : Nat → Nat → Nat) (cI cJ : ClassId) (ad : Nat → Nat) (p1 : Int32) (p2 : Int32) (S : Nat → Nat → Int32) (L : Nat → Nat → Int64) (sz : Nat) {z : (Nat → Nat → Int32) × (Nat → Nat → Int64)} (h : sX0_turnTo p1 p2 S L = some z) : Met l yX0_turnTo wsX0_turnTo ({ frames := 3, cells := 0, slots := 0, locals := 72 }) (va_Pc [.ref (ad 8), .int p1, .int p2] (QXs sz dC dI cI cJ ad S L)) (va_Qv (fun (u : (Nat → Nat → Int32) × (Nat → Nat → Int64)) => u = z) (fun (u : (Nat → Nat → Int32) × (Nat → Nat → Int64)) t => va_P (dC, dI) vwCl (wX cI cJ ad u.1 u.2) t.heap) (AX 43 ad sz)) 0 0 (AX 43 ad sz) := by
  refine Met.ofW (cc := cX0_turnTo) (maxL := 3) (ret := none) (by decide) rfl ?_
  intro p e s m args below meth c s₁ B hml hv
  obtain ⟨rfl, hsz, hP, hK, hD0⟩ := hv
  have hx := B.exec
  have hb := B.bytes
  have hr := B.returns
  have hts := atoms_spec (ws := wsX0_turnTo) B.pre
  have hown : s.vm.findClass RX0 = some m.cls := findClass_of_methodNamed B.named
  have hlocks := B.notSynchronized
  subst hsz
  have hD := wX_DA hD0 s.heap.size
  have hS : va_S (AX 43 ad s.heap.size) s.heap s.heap [] := va_S.rf
  have hl := lv_entry ([.ref (ad 8), .int p1, .int p2]) (n := 3) (Nat.le_of_ble_eq_true rfl)
  rw [lg_entry_eq]
  generalize (lg_sl ([.ref (ad 8), .int p1, .int p2]) ++ List.replicate (3 - (lg_sl ([.ref (ad 8), .int p1, .int p2])).length) Slot.unset).toArray = ls at hl ⊢
  have hl : lv_has ls 3 [(0, .ref (ad 8)), (1, .int p1), (2, .int p2)] := hl
  have hf19 := hts (.fieldLink RX0 19 "LawRings$AllCases" "hearing" "LLawRings$Hearing;") (by decide +kernel)
  have hiX0 : ∀ w ∈ u_ws RX0 TX0 3, w ∈ wsX0_turnTo := by decide +kernel
  rw [sX0_turnTo] at h
  refine lv_aload_n hx hb dX0_turnTo_0 rfl (lv_at hl 0 rfl) ?_
  refine lv_iload_n hx hb dX0_turnTo_1 rfl (lv_at hl 1 rfl) ?_
  obtain ⟨S2, L3, k1, h⟩ := ob2_elim h
  refine va_callv (va_runV (As := [.int p1]) (rest := []) ⟨hx, hb, hml, hown, hts⟩ (mX0_setTies l dC dI cI cJ ad p1 S L s.heap.size k1) (cwV 1 hts gX0_turnTo_X0_setTies rfl rfl rfl (by decide +kernel) ⟨Nat.le_of_ble_eq_true rfl, Nat.le_of_ble_eq_true rfl⟩) ⟨QXs_blind, va_recv hK hP (ci := 0) (q0 := 8) rfl rfl, fun U hU hW => ⟨rfl, congrArg Array.size hU, QX_at hP hK hD hU hW⟩⟩ rfl rfl hl.1 rfl (lv_room (Nat.le_of_ble_eq_true rfl)) dX0_turnTo_2 ⟨Nat.zero_le _, Nat.zero_le _⟩) hS (fun q _ hq => AX_mono hS.1 hq) (fun q hq => AX_mono hS.1 hq) (fun u t H1 locs ht hvm hw hB hz1 hk1 hS => ?_)
  cases hw
  rw [ht] at hB
  have hP := hB
  clear hB hk1 hz1
  generalize H1 = H at hP hS ⊢
  have hD := wX_D hD S2 L3
  refine lv_aload_n hx hb dX0_turnTo_5 rfl (lv_at hl 0 rfl) ?_
  refine va_get (D := (dC, dI)) (ci := 0) (v := .ref (ad 6)) (C := RX0) (T := TX0) (N := 3) hx hb hts hiX0 hown hK hP 8 rfl rfl 1 (by decide) hf19 (fun _ h9 => h9) rfl dX0_turnTo_6 ?_
  refine lv_iload_n hx hb dX0_turnTo_9 rfl (lv_at hl 2 rfl) ?_
  obtain ⟨S5, L6, k4, h⟩ := ob2_elim h
  refine va_callv (va_runV (As := [.int p2]) (rest := []) ⟨hx, hb, hml, hown, hts⟩ (mX4_readBooks l dC dI cI cJ ad p2 S2 L3 H.size k4) (cwV 1 hts gX0_turnTo_X4_readBooks rfl rfl rfl (by decide +kernel) ⟨Nat.le_of_ble_eq_true rfl, Nat.le_of_ble_eq_true rfl⟩) ⟨QXs_blind, va_recv hK hP (ci := 4) (q0 := 6) rfl rfl, fun U hU hW => ⟨rfl, congrArg Array.size hU, QX_at hP hK hD hU hW⟩⟩ rfl rfl hl.1 rfl (lv_room (Nat.le_of_ble_eq_true rfl)) dX0_turnTo_10 ⟨Nat.zero_le _, Nat.zero_le _⟩) hS (fun q _ hq => AX_mono hS.1 hq) (fun q hq => AX_mono hS.1 hq) (fun u t H1 locs ht hvm hw hB hz1 hk1 hS => ?_)
  cases hw
  rw [ht] at hB
  have hP := hB
  clear hB hk1 hz1
  generalize H1 = H at hP hS ⊢
  have hD := wX_D hD S5 L6
  cases h
  exact W.vret hx hb hr (fun t ht hW => ⟨⟨_, rfl, rfl, by show va_P _ _ _ t.heap; rw [ht]; exact hP⟩, hS.F ht⟩) hS.2.2 dX0_turnTo_13
set_option maxHeartbeats 4000000 in
set_option maxRecDepth 100000 in
theorem mX10_endsIn (l : Launch) (dC : Nat → ClassId) (dI : Nat → Nat → Nat) (cI cJ : ClassId) (ad : Nat → Nat) (p1 : Int32) (p2 : Int32) (p3 : Int32) (p4 : Int32) (S : Nat → Nat → Int32) (L : Nat → Nat → Int64) (sz : Nat) {z : Int32 × (Nat → Nat → Int32) × (Nat → Nat → Int64)} (h : sX10_endsIn p1 p2 p3 p4 S L = some z) : Met l yX10_endsIn wsX10_endsIn ({ frames := 4, cells := 0, slots := 0, locals := 94 }) (va_Pc [.ref (ad 0), .int p1, .int p2, .int p3, .int p4] (QXs sz dC dI cI cJ ad S L)) (va_Qi (fun (r : Int32) (u : (Nat → Nat → Int32) × (Nat → Nat → Int64)) => (r, u) = z) (fun (u : (Nat → Nat → Int32) × (Nat → Nat → Int64)) t => va_P (dC, dI) vwCl (wX cI cJ ad u.1 u.2) t.heap) (AX 43 ad sz)) 0 0 (AX 43 ad sz) := by
  refine Met.ofW (cc := cX10_endsIn) (maxL := 5) (ret := (some .int)) (by decide) rfl ?_
  intro p e s m args below meth c s₁ B hml hv
  obtain ⟨rfl, hsz, hP, hK, hD0⟩ := hv
  have hx := B.exec
  have hb := B.bytes
  have hr := B.returns
  have hts := atoms_spec (ws := wsX10_endsIn) B.pre
  have hown : s.vm.findClass RX10 = some m.cls := findClass_of_methodNamed B.named
  have hlocks := B.notSynchronized
  subst hsz
  have hD := wX_DA hD0 s.heap.size
  have hS : va_S (AX 43 ad s.heap.size) s.heap s.heap [] := va_S.rf
  have hl := lv_entry ([.ref (ad 0), .int p1, .int p2, .int p3, .int p4]) (n := 5) (Nat.le_of_ble_eq_true rfl)
  rw [lg_entry_eq]
  generalize (lg_sl ([.ref (ad 0), .int p1, .int p2, .int p3, .int p4]) ++ List.replicate (5 - (lg_sl ([.ref (ad 0), .int p1, .int p2, .int p3, .int p4])).length) Slot.unset).toArray = ls at hl ⊢
  have hl : lv_has ls 5 [(0, .ref (ad 0)), (1, .int p1), (2, .int p2), (3, .int p3), (4, .int p4)] := hl
  have hf58 := hts (.fieldLink RX10 58 "LawRings" "allCases" "LLawRings$AllCases;") (by decide +kernel)
  have hiX10 : ∀ w ∈ u_ws RX10 TX10 11, w ∈ wsX10_endsIn := by decide +kernel
  have hf49 := hts (.fieldLink RX10 49 "LawRings" "hearing" "LLawRings$Hearing;") (by decide +kernel)
  rw [sX10_endsIn] at h
  refine lv_iload_n hx hb dX10_endsIn_0 rfl (lv_at hl 1 rfl) ?_
  refine lv_iload_n hx hb dX10_endsIn_1 rfl (lv_at hl 2 rfl) ?_
  refine lv_iload_n hx hb dX10_endsIn_2 rfl (lv_at hl 3 rfl) ?_
  obtain ⟨r2, k1, h⟩ := ob_elim h
  refine vp_callSi (W.runS (As := [.int p1, .int p2, .int p3]) (rest := []) ⟨hx, hb, hml, hown, hts⟩ (mX10_isTable l p1 p2 p3 k1) (va_cwS 3 hts gX10_endsIn_X10_isTable rfl rfl rfl (by decide +kernel) ⟨Nat.le_of_ble_eq_true rfl, Nat.le_of_ble_eq_true rfl⟩) ⟨fun _ _ _ _ q => q, fun U hU hW => ⟨rfl, trivial⟩⟩ rfl rfl hl.1 rfl (lv_room (Nat.le_of_ble_eq_true rfl)) dX10_endsIn_3 ⟨Nat.zero_le _, Nat.zero_le _⟩) (fun r9 er9 => ?_)
  replace er9 := er9.symm
  subst er9
  refine lv_if_eq (tgt := 20) hx hb dX10_endsIn_6 (by decide) (fun c3 => ?_) (fun c3 => ?_)
  · replace h := it_t c3 h
    refine lv_bipush (v := (-2)) hx hb dX10_endsIn_20 (by decide) ?_
    cases h
    exact W.iret hx hb hr (fun t ht hW => ⟨⟨_, _, rfl, rfl, by show va_P _ _ _ t.heap; rw [ht]; exact hP⟩, hS.F ht⟩) hS.2.2 dX10_endsIn_22
  · replace h := it_f c3 h
    refine lv_iload hx hb dX10_endsIn_9 (lv_at hl 4 rfl) ?_
    refine lv_sipush (v := 15625) hx hb dX10_endsIn_11 (by decide) ?_
    obtain ⟨r5, k4, h⟩ := ob_elim h
    refine vp_callSi (W.runS (As := [.int p4, .int 15625]) (rest := []) ⟨hx, hb, hml, hown, hts⟩ (mX10_isBelow l p4 15625 k4) (va_cwS 2 hts gX10_endsIn_X10_isBelow rfl rfl rfl (by decide +kernel) ⟨Nat.le_of_ble_eq_true rfl, Nat.le_of_ble_eq_true rfl⟩) ⟨fun _ _ _ _ q => q, fun U hU hW => ⟨rfl, trivial⟩⟩ rfl rfl hl.1 rfl (lv_room (Nat.le_of_ble_eq_true rfl)) dX10_endsIn_14 ⟨Nat.zero_le _, Nat.zero_le _⟩) (fun r9 er9 => ?_)
    replace er9 := er9.symm
    subst er9
    refine lv_if_ne (tgt := 23) hx hb dX10_endsIn_17 (by decide) (fun c6 => ?_) (fun c6 => ?_)
    · replace h := it_f c6 h
      refine lv_aload_n hx hb dX10_endsIn_23 rfl (lv_at hl 0 rfl) ?_
      refine va_get (D := (dC, dI)) (ci := 10) (v := .ref (ad 8)) (C := RX10) (T := TX10) (N := 11) hx hb hts hiX10 hown hK hP 0 rfl rfl 6 (by decide) hf58 (fun _ h9 => h9) rfl dX10_endsIn_24 ?_
      refine lv_iload_n hx hb dX10_endsIn_27 rfl (lv_at hl 3 rfl) ?_
      obtain ⟨S8, L9, k7, h⟩ := ob2_elim h
      refine va_callv (va_runV (As := [.int p3]) (rest := []) ⟨hx, hb, hml, hown, hts⟩ (mX0_start l dC dI cI cJ ad p3 S L s.heap.size k7) (cwV 1 hts gX10_endsIn_X0_start rfl rfl rfl (by decide +kernel) ⟨Nat.le_of_ble_eq_true rfl, Nat.le_of_ble_eq_true rfl⟩) ⟨QXs_blind, va_recv hK hP (ci := 0) (q0 := 8) rfl rfl, fun U hU hW => ⟨rfl, congrArg Array.size hU, QX_at hP hK hD hU hW⟩⟩ rfl rfl hl.1 rfl (lv_room (Nat.le_of_ble_eq_true rfl)) dX10_endsIn_28 ⟨Nat.zero_le _, Nat.zero_le _⟩) hS (fun q _ hq => AX_mono hS.1 hq) (fun q hq => AX_mono hS.1 hq) (fun u t H1 locs ht hvm hw hB hz1 hk1 hS => ?_)
      cases hw
      rw [ht] at hB
      have hP := hB
      clear hB hk1 hz1
      generalize H1 = H at hP hS ⊢
      have hD := wX_D hD S8 L9
      refine lv_aload_n hx hb dX10_endsIn_31 rfl (lv_at hl 0 rfl) ?_
      refine va_get (D := (dC, dI)) (ci := 10) (v := .ref (ad 8)) (C := RX10) (T := TX10) (N := 11) hx hb hts hiX10 hown hK hP 0 rfl rfl 6 (by decide) hf58 (fun _ h9 => h9) rfl dX10_endsIn_32 ?_
      refine lv_iload hx hb dX10_endsIn_35 (lv_at hl 4 rfl) ?_
      refine lv_iload_n hx hb dX10_endsIn_37 rfl (lv_at hl 2 rfl) ?_
      obtain ⟨S11, L12, k10, h⟩ := ob2_elim h
      refine va_callv (va_runV (As := [.int p4, .int p2]) (rest := []) ⟨hx, hb, hml, hown, hts⟩ (mX0_turnTo l dC dI cI cJ ad p4 p2 S8 L9 H.size k10) (cwV 2 hts gX10_endsIn_X0_turnTo rfl rfl rfl (by decide +kernel) ⟨Nat.le_of_ble_eq_true rfl, Nat.le_of_ble_eq_true rfl⟩) ⟨QXs_blind, va_recv hK hP (ci := 0) (q0 := 8) rfl rfl, fun U hU hW => ⟨rfl, congrArg Array.size hU, QX_at hP hK hD hU hW⟩⟩ rfl rfl hl.1 rfl (lv_room (Nat.le_of_ble_eq_true rfl)) dX10_endsIn_38 ⟨Nat.zero_le _, Nat.zero_le _⟩) hS (fun q _ hq => AX_mono hS.1 hq) (fun q hq => AX_mono hS.1 hq) (fun u t H1 locs ht hvm hw hB hz1 hk1 hS => ?_)
      cases hw
      rw [ht] at hB
      have hP := hB
      clear hB hk1 hz1
      generalize H1 = H at hP hS ⊢
      have hD := wX_D hD S11 L12
      refine lv_aload_n hx hb dX10_endsIn_41 rfl (lv_at hl 0 rfl) ?_
      refine va_get (D := (dC, dI)) (ci := 10) (v := .ref (ad 6)) (C := RX10) (T := TX10) (N := 11) hx hb hts hiX10 hown hK hP 0 rfl rfl 5 (by decide) hf49 (fun _ h9 => h9) rfl dX10_endsIn_42 ?_
      refine lv_iload_n hx hb dX10_endsIn_45 rfl (lv_at hl 1 rfl) ?_
      obtain ⟨r16, S14, L15, k13, h⟩ := ob3_elim h
      refine va_calli (va_runV (As := [.int p1]) (rest := []) ⟨hx, hb, hml, hown, hts⟩ (mX4_outcome l dC dI cI cJ ad p1 S11 L12 H.size k13) (cwV 1 hts gX10_endsIn_X4_outcome rfl rfl rfl (by decide +kernel) ⟨Nat.le_of_ble_eq_true rfl, Nat.le_of_ble_eq_true rfl⟩) ⟨QXs_blind, va_recv hK hP (ci := 4) (q0 := 6) rfl rfl, fun U hU hW => ⟨rfl, congrArg Array.size hU, QX_at hP hK hD hU hW⟩⟩ rfl rfl hl.1 rfl (lv_room (Nat.le_of_ble_eq_true rfl)) dX10_endsIn_46 ⟨Nat.zero_le _, Nat.zero_le _⟩) hS (fun q _ hq => AX_mono hS.1 hq) (fun q hq => AX_mono hS.1 hq) (fun r u t H1 locs ht hvm hw hB hz1 hk1 hS => ?_)
      cases hw
      rw [ht] at hB
      have hP := hB
      clear hB hk1 hz1
      generalize H1 = H at hP hS ⊢
      have hD := wX_D hD S14 L15
      cases h
      exact W.iret hx hb hr (fun t ht hW => ⟨⟨_, _, rfl, rfl, by show va_P _ _ _ t.heap; rw [ht]; exact hP⟩, hS.F ht⟩) hS.2.2 dX10_endsIn_49
    · replace h := it_t c6 h
      refine lv_bipush (v := (-2)) hx hb dX10_endsIn_20 (by decide) ?_
      cases h
      exact W.iret hx hb hr (fun t ht hW => ⟨⟨_, _, rfl, rfl, by show va_P _ _ _ t.heap; rw [ht]; exact hP⟩, hS.F ht⟩) hS.2.2 dX10_endsIn_22
set_option maxHeartbeats 4000000 in
set_option maxRecDepth 100000 in
theorem mX11_looksAtNumber (l : Launch) (dC : Nat → ClassId) (dI : Nat → Nat → Nat) (cI cZ : ClassId) (ad : Nat → Nat) (p1 : Int32) (p2 : Int32) (S : Nat → Nat → Int32) (sz : Nat) {z : (Nat → Nat → Int32)} (h : sX11_looksAtNumber p1 p2 S = some z) : Met l yX11_looksAtNumber wsX11_looksAtNumber ({ frames := 0, cells := 0, slots := 0, locals := 0 }) (va_Pc [.ref (ad 0), .int p1, .int p2] (QMs sz dC dI cI cZ ad S)) (va_Qv (fun (u : (Nat → Nat → Int32)) => u = z) (fun (u : (Nat → Nat → Int32)) t => va_P (dC, dI) vwCl (wM cI cZ ad u) t.heap) (AX 7 ad sz)) 0 0 (AX 7 ad sz) := by
  refine Met.ofW (cc := cX11_looksAtNumber) (maxL := 5) (ret := none) (by decide) rfl ?_
  intro p e s m args below meth c s₁ B hml hv
  obtain ⟨rfl, hsz, hP, hK, hD0⟩ := hv
  have hx := B.exec
  have hb := B.bytes
  have hr := B.returns
  have hts := atoms_spec (ws := wsX11_looksAtNumber) B.pre
  have hown : s.vm.findClass RX11 = some m.cls := findClass_of_methodNamed B.named
  have hlocks := B.notSynchronized
  subst hsz
  have hD := wM_DA hD0 s.heap.size
  have hS : va_S (AX 7 ad s.heap.size) s.heap s.heap [] := va_S.rf
  have hl := lv_entry ([.ref (ad 0), .int p1, .int p2]) (n := 5) (Nat.le_of_ble_eq_true rfl)
  rw [lg_entry_eq]
  generalize (lg_sl ([.ref (ad 0), .int p1, .int p2]) ++ List.replicate (5 - (lg_sl ([.ref (ad 0), .int p1, .int p2])).length) Slot.unset).toArray = ls at hl ⊢
  have hl : lv_has ls 5 [(0, .ref (ad 0)), (1, .int p1), (2, .int p2)] := hl
  have hf48 := hts (.fieldLink RX11 48 "LawRingsModel" "day" "I") (by decide +kernel)
  have hiX11 : ∀ w ∈ u_ws RX11 TX11 8, w ∈ wsX11_looksAtNumber := by decide +kernel
  have hf13 := hts (.fieldLink RX11 13 "LawRingsModel" "ties" "[I") (by decide +kernel)
  rw [sX11_looksAtNumber] at h
  refine lv_aload_n hx hb dX11_looksAtNumber_0 rfl (lv_at hl 0 rfl) ?_
  refine lv_iload_n hx hb dX11_looksAtNumber_1 rfl (lv_at hl 2 rfl) ?_
  obtain ⟨S1, eS1, h⟩ := bnd_elim h
  refine va_put (D := (dC, dI)) (ci := 11) (v := .int p2) (ty := .int) (C := RX11) (T := TX11) (N := 8) hx hb hts hiX11 tyX11 tyX11_ok nmX11 hown hK hP hD hS 0 rfl rfl 2 (by decide) hf48 (fun _ h9 => h9) rfl (by decide +kernel) rfl rfl (Nat.le_of_ble_eq_true rfl) dX11_looksAtNumber_2 (fun H locs hP9 _ hS => ?_)
  have hP := swM_0_2 hP9
  rw [← eS1] at hP
  have hD := wM_D hD S1
  refine lv_iload_n hx hb dX11_looksAtNumber_5 rfl (lv_at hl 1 rfl) ?_
  refine lv_istore_n (lv' := [(3, .int p1), (0, .ref (ad 0)), (1, .int p1), (2, .int p2)]) hx hb dX11_looksAtNumber_6 rfl hl (by decide) rfl (fun ls hl => ?_)
  refine lv_iconst (v := 0) hx hb dX11_looksAtNumber_7 (by decide) ?_
  refine lv_istore (lv' := [(4, .int 0), (3, .int p1), (0, .ref (ad 0)), (1, .int p1), (2, .int p2)]) hx hb dX11_looksAtNumber_8 hl (by decide) rfl (fun ls hl => ?_)
  refine ww_w (fun WW10 hWW10 => ?_)
  have Lh10 : ∀ (n : Nat) (v2 : Int32) (v3 : Int32) (S4 : (Nat → Nat → Int32)) (z : ((Nat → Nat → Int32))), lX11_looksAtNumber_10 n v2 v3 S4 = some z → ∀ (H : Heap) (locs : List Loc), va_P (dC, dI) vwCl (wM cI cZ ad S4) H → va_S (AX 7 ad s.heap.size) s.heap H locs → ∀ ls : Array Slot, lv_has ls 5 [(0, .ref (ad 0)), (3, .int v2), (4, .int v3)] → (∀ (YS : (Nat → Nat → Int32)), z = YS → ∀ (H : Heap) (locs : List Loc), va_P (dC, dI) vwCl (wM cI cZ ad YS) H → va_S (AX 7 ad s.heap.size) s.heap H locs → ∀ ls : Array Slot, lv_has ls 5 [] → WW10 H locs 39 ls) → WW10 H locs 10 ls := by
    intro n
    induction n with
    | zero => intro v2 v3 S4 z h H locs hP hS ls hl K0; rw [lX11_looksAtNumber_10] at h; cases h
    | succ n ih =>
      intro v2 v3 S4 z h H locs hP hS ls hl K0
      have hD := wM_D hD S4
      rw [lX11_looksAtNumber_10] at h
      refine wi_w hWW10 ?_
      refine lv_iload hx hb dX11_looksAtNumber_10 (lv_at hl 2 rfl) ?_
      refine lv_bipush (v := 6) hx hb dX11_looksAtNumber_12 (by decide) ?_
      refine lv_icmp_ge (tgt := 39) hx hb dX11_looksAtNumber_14 (by decide) (fun c5 => ?_) (fun c5 => ?_)
      · replace h := it_t c5 h
        refine wu_w hWW10 ?_
        exact K0 S4 (Option.some.inj h).symm H locs hP hS ls (lv_sub hl [] rfl)
      · replace h := it_f c5 h
        refine lv_aload_n hx hb dX11_looksAtNumber_17 rfl (lv_at hl 0 rfl) ?_
        refine va_get (D := (dC, dI)) (ci := 11) (v := .ref (ad 2)) (C := RX11) (T := TX11) (N := 8) hx hb hts hiX11 hown hK hP 0 rfl rfl 1 (by decide) hf13 (fun _ h9 => h9) rfl dX11_looksAtNumber_18 ?_
        refine lv_iload hx hb dX11_looksAtNumber_21 (lv_at hl 2 rfl) ?_
        refine lv_iload_n hx hb dX11_looksAtNumber_23 rfl (lv_at hl 1 rfl) ?_
        refine lv_iconst (v := 5) hx hb dX11_looksAtNumber_24 (by decide) ?_
        refine lv_irem hx hb dX11_looksAtNumber_25 (by decide) ?_
        refine nm_i (x := irm v2 5) rfl ?_
        refine lv_iconst (v := 1) hx hb dX11_looksAtNumber_26 (by decide) ?_
        refine lv_isub hx hb dX11_looksAtNumber_27 ?_
        obtain ⟨b6, h⟩ := ck_elim h
        obtain ⟨S7, eS7, h⟩ := bnd_elim h
        refine va_iast hx hb hK hP hD hS 2 0 rfl rfl b6 dX11_looksAtNumber_28 (fun H locs hP9 _ hS => ?_)
        have hP := swM_2 hP9
        rw [← eS7] at hP
        have hD := wM_D hD S7
        refine lv_iload_n hx hb dX11_looksAtNumber_29 rfl (lv_at hl 1 rfl) ?_
        refine lv_iconst (v := 5) hx hb dX11_looksAtNumber_30 (by decide) ?_
        refine lv_idiv hx hb dX11_looksAtNumber_31 (by decide) ?_
        obtain ⟨x8, ex8, h⟩ := bnd_elim h
        refine nm_i ex8 ?_
        refine lv_istore_n (lv' := [(3, .int x8), (0, .ref (ad 0)), (4, .int v3)]) hx hb dX11_looksAtNumber_32 rfl hl (by decide) rfl (fun ls hl => ?_)
        obtain ⟨x9, ex9, h⟩ := bnd_elim h
        refine lv_iinc (v := x9) (lv' := [(4, .int x9), (3, .int x8), (0, .ref (ad 0))]) hx hb dX11_looksAtNumber_33 hl (k := 2) rfl (by rw [ex9]; rfl) (by decide) rfl (fun ls hl => ?_)
        refine lv_goto (tgt := 10) hx hb dX11_looksAtNumber_36 (by decide) ?_
        refine wu_w hWW10 ?_
        exact ih x8 x9 S7 z h H locs hP hS ls (lv_sub hl [2, 1, 0] rfl) K0
  obtain ⟨S11, k10, h⟩ := ob_elim h
  refine wu_w hWW10 ?_
  refine Lh10 FU p1 0 S1 _ k10 H locs hP hS ls (lv_sub hl [2, 1, 0] rfl) ?_
  intro y0 hy H locs hP hS ls hl
  cases hy
  have hD := wM_D hD S11
  refine wi_w hWW10 ?_
  cases h
  exact W.vret hx hb hr (fun t ht hW => ⟨⟨_, rfl, rfl, by show va_P _ _ _ t.heap; rw [ht]; exact hP⟩, hS.F ht⟩) hS.2.2 dX11_looksAtNumber_39
set_option maxHeartbeats 4000000 in
set_option maxRecDepth 100000 in
theorem mX11_endsIn (l : Launch) (dC : Nat → ClassId) (dI : Nat → Nat → Nat) (cI cZ : ClassId) (ad : Nat → Nat) (p1 : Int32) (p2 : Int32) (p3 : Int32) (p4 : Int32) (S : Nat → Nat → Int32) (sz : Nat) {z : Int32 × (Nat → Nat → Int32)} (h : sX11_endsIn p1 p2 p3 p4 S = some z) : Met l yX11_endsIn wsX11_endsIn ({ frames := 8, cells := 0, slots := 0, locals := 190 }) (va_Pc [.ref (ad 0), .int p1, .int p2, .int p3, .int p4] (QMs sz dC dI cI cZ ad S)) (va_Qi (fun (r : Int32) (u : (Nat → Nat → Int32)) => (r, u) = z) (fun (u : (Nat → Nat → Int32)) t => va_P (dC, dI) vwCl (wM cI cZ ad u) t.heap) (AX 7 ad sz)) 0 0 (AX 7 ad sz) := by
  refine Met.ofW (cc := cX11_endsIn) (maxL := 5) (ret := (some .int)) (by decide) rfl ?_
  intro p e s m args below meth c s₁ B hml hv
  obtain ⟨rfl, hsz, hP, hK, hD0⟩ := hv
  have hx := B.exec
  have hb := B.bytes
  have hr := B.returns
  have hts := atoms_spec (ws := wsX11_endsIn) B.pre
  have hown : s.vm.findClass RX11 = some m.cls := findClass_of_methodNamed B.named
  have hlocks := B.notSynchronized
  subst hsz
  have hD := wM_DA hD0 s.heap.size
  have hS : va_S (AX 7 ad s.heap.size) s.heap s.heap [] := va_S.rf
  have hl := lv_entry ([.ref (ad 0), .int p1, .int p2, .int p3, .int p4]) (n := 5) (Nat.le_of_ble_eq_true rfl)
  rw [lg_entry_eq]
  generalize (lg_sl ([.ref (ad 0), .int p1, .int p2, .int p3, .int p4]) ++ List.replicate (5 - (lg_sl ([.ref (ad 0), .int p1, .int p2, .int p3, .int p4])).length) Slot.unset).toArray = ls at hl ⊢
  have hl : lv_has ls 5 [(0, .ref (ad 0)), (1, .int p1), (2, .int p2), (3, .int p3), (4, .int p4)] := hl
  rw [sX11_endsIn] at h
  refine lv_iload_n hx hb dX11_endsIn_0 rfl (lv_at hl 1 rfl) ?_
  obtain ⟨r2, k1, h⟩ := ob_elim h
  refine vp_callSi (W.runS (As := [.int p1]) (rest := []) ⟨hx, hb, hml, hown, hts⟩ (mX11_isLand l p1 k1) (va_cwS 1 hts gX11_endsIn_X11_isLand rfl rfl rfl (by decide +kernel) ⟨Nat.le_of_ble_eq_true rfl, Nat.le_of_ble_eq_true rfl⟩) ⟨fun _ _ _ _ q => q, fun U hU hW => ⟨rfl, trivial⟩⟩ rfl rfl hl.1 rfl (lv_room (Nat.le_of_ble_eq_true rfl)) dX11_endsIn_1 ⟨Nat.zero_le _, Nat.zero_le _⟩) (fun r9 er9 => ?_)
  replace er9 := er9.symm
  subst er9
  refine lv_if_eq (tgt := 33) hx hb dX11_endsIn_4 (by decide) (fun c3 => ?_) (fun c3 => ?_)
  · replace h := it_t c3 h
    refine lv_bipush (v := (-2)) hx hb dX11_endsIn_33 (by decide) ?_
    cases h
    exact W.iret hx hb hr (fun t ht hW => ⟨⟨_, _, rfl, rfl, by show va_P _ _ _ t.heap; rw [ht]; exact hP⟩, hS.F ht⟩) hS.2.2 dX11_endsIn_35
  · replace h := it_f c3 h
    refine lv_iload_n hx hb dX11_endsIn_7 rfl (lv_at hl 2 rfl) ?_
    obtain ⟨r5, k4, h⟩ := ob_elim h
    refine vp_callSi (W.runS (As := [.int p2]) (rest := []) ⟨hx, hb, hml, hown, hts⟩ (mX11_isKind l p2 k4) (va_cwS 1 hts gX11_endsIn_X11_isKind rfl rfl rfl (by decide +kernel) ⟨Nat.le_of_ble_eq_true rfl, Nat.le_of_ble_eq_true rfl⟩) ⟨fun _ _ _ _ q => q, fun U hU hW => ⟨rfl, trivial⟩⟩ rfl rfl hl.1 rfl (lv_room (Nat.le_of_ble_eq_true rfl)) dX11_endsIn_8 ⟨Nat.zero_le _, Nat.zero_le _⟩) (fun r9 er9 => ?_)
    replace er9 := er9.symm
    subst er9
    refine lv_if_eq (tgt := 33) hx hb dX11_endsIn_11 (by decide) (fun c6 => ?_) (fun c6 => ?_)
    · replace h := it_t c6 h
      refine lv_bipush (v := (-2)) hx hb dX11_endsIn_33 (by decide) ?_
      cases h
      exact W.iret hx hb hr (fun t ht hW => ⟨⟨_, _, rfl, rfl, by show va_P _ _ _ t.heap; rw [ht]; exact hP⟩, hS.F ht⟩) hS.2.2 dX11_endsIn_35
    · replace h := it_f c6 h
      refine lv_iload_n hx hb dX11_endsIn_14 rfl (lv_at hl 3 rfl) ?_
      obtain ⟨r8, k7, h⟩ := ob_elim h
      refine vp_callSi (W.runS (As := [.int p3]) (rest := []) ⟨hx, hb, hml, hown, hts⟩ (mX11_isDay l p3 k7) (va_cwS 1 hts gX11_endsIn_X11_isDay rfl rfl rfl (by decide +kernel) ⟨Nat.le_of_ble_eq_true rfl, Nat.le_of_ble_eq_true rfl⟩) ⟨fun _ _ _ _ q => q, fun U hU hW => ⟨rfl, trivial⟩⟩ rfl rfl hl.1 rfl (lv_room (Nat.le_of_ble_eq_true rfl)) dX11_endsIn_15 ⟨Nat.zero_le _, Nat.zero_le _⟩) (fun r9 er9 => ?_)
      replace er9 := er9.symm
      subst er9
      refine lv_if_eq (tgt := 33) hx hb dX11_endsIn_18 (by decide) (fun c9 => ?_) (fun c9 => ?_)
      · replace h := it_t c9 h
        refine lv_bipush (v := (-2)) hx hb dX11_endsIn_33 (by decide) ?_
        cases h
        exact W.iret hx hb hr (fun t ht hW => ⟨⟨_, _, rfl, rfl, by show va_P _ _ _ t.heap; rw [ht]; exact hP⟩, hS.F ht⟩) hS.2.2 dX11_endsIn_35
      · replace h := it_f c9 h
        refine lv_iload hx hb dX11_endsIn_21 (lv_at hl 4 rfl) ?_
        refine lv_iconst (v := 0) hx hb dX11_endsIn_23 (by decide) ?_
        refine lv_sipush (v := 15624) hx hb dX11_endsIn_24 (by decide) ?_
        obtain ⟨r11, k10, h⟩ := ob_elim h
        refine vp_callSi (W.runS (As := [.int p4, .int 0, .int 15624]) (rest := []) ⟨hx, hb, hml, hown, hts⟩ (mX11_in l p4 0 15624 k10) (va_cwS 3 hts gX11_endsIn_X11_in rfl rfl rfl (by decide +kernel) ⟨Nat.le_of_ble_eq_true rfl, Nat.le_of_ble_eq_true rfl⟩) ⟨fun _ _ _ _ q => q, fun U hU hW => ⟨rfl, trivial⟩⟩ rfl rfl hl.1 rfl (lv_room (Nat.le_of_ble_eq_true rfl)) dX11_endsIn_27 ⟨Nat.zero_le _, Nat.zero_le _⟩) (fun r9 er9 => ?_)
        replace er9 := er9.symm
        subst er9
        refine lv_if_ne (tgt := 36) hx hb dX11_endsIn_30 (by decide) (fun c12 => ?_) (fun c12 => ?_)
        · replace h := it_f c12 h
          refine lv_aload_n hx hb dX11_endsIn_36 rfl (lv_at hl 0 rfl) ?_
          refine lv_iload hx hb dX11_endsIn_37 (lv_at hl 4 rfl) ?_
          refine lv_iload_n hx hb dX11_endsIn_39 rfl (lv_at hl 3 rfl) ?_
          obtain ⟨S14, k13, h⟩ := ob_elim h
          refine va_callv (va_runV (As := [.int p4, .int p3]) (rest := []) ⟨hx, hb, hml, hown, hts⟩ (mX11_looksAtNumber l dC dI cI cZ ad p4 p3 S s.heap.size k13) (cwV 2 hts gX11_endsIn_X11_looksAtNumber rfl rfl rfl (by decide +kernel) ⟨Nat.le_of_ble_eq_true rfl, Nat.le_of_ble_eq_true rfl⟩) ⟨QMs_blind, va_recv hK hP (ci := 11) (q0 := 0) rfl rfl, fun U hU hW => ⟨rfl, congrArg Array.size hU, QM_at hP hK hD hU hW⟩⟩ rfl rfl hl.1 rfl (lv_room (Nat.le_of_ble_eq_true rfl)) dX11_endsIn_40 ⟨Nat.zero_le _, Nat.zero_le _⟩) hS (fun q _ hq => AX_mono hS.1 hq) (fun q hq => AX_mono hS.1 hq) (fun u t H1 locs ht hvm hw hB hz1 hk1 hS => ?_)
          cases hw
          rw [ht] at hB
          have hP := hB
          clear hB hk1 hz1
          generalize H1 = H at hP hS ⊢
          have hD := wM_D hD S14
          refine lv_aload_n hx hb dX11_endsIn_43 rfl (lv_at hl 0 rfl) ?_
          refine lv_iload_n hx hb dX11_endsIn_44 rfl (lv_at hl 1 rfl) ?_
          refine lv_iload_n hx hb dX11_endsIn_45 rfl (lv_at hl 2 rfl) ?_
          obtain ⟨r16, k15, h⟩ := ob_elim h
          refine vp_callSi (W.runV (As := [.int p1, .int p2]) (rest := []) ⟨hx, hb, hml, hown, hts⟩ (mX11_endsOf l dC dI cI cZ ad p1 p2 S14 k15) (cwV 2 hts gX11_endsIn_X11_endsOf rfl rfl rfl (by decide +kernel) ⟨Nat.le_of_ble_eq_true rfl, Nat.le_of_ble_eq_true rfl⟩) ⟨QM_blind, va_recv hK hP (ci := 11) (q0 := 0) rfl rfl, fun U hU hW => ⟨rfl, QM_at hP hK hD hU hW⟩⟩ rfl rfl hl.1 rfl (lv_room (Nat.le_of_ble_eq_true rfl)) dX11_endsIn_46 ⟨Nat.zero_le _, Nat.zero_le _⟩) (fun r9 er9 => ?_)
          replace er9 := er9.symm
          subst er9
          cases h
          exact W.iret hx hb hr (fun t ht hW => ⟨⟨_, _, rfl, rfl, by show va_P _ _ _ t.heap; rw [ht]; exact hP⟩, hS.F ht⟩) hS.2.2 dX11_endsIn_49
        · replace h := it_t c12 h
          refine lv_bipush (v := (-2)) hx hb dX11_endsIn_33 (by decide) ?_
          cases h
          exact W.iret hx hb hr (fun t ht hW => ⟨⟨_, _, rfl, rfl, by show va_P _ _ _ t.heap; rw [ht]; exact hP⟩, hS.F ht⟩) hS.2.2 dX11_endsIn_35
set_option maxHeartbeats 4000000 in
set_option maxRecDepth 100000 in
theorem mX0_partIn (l : Launch) (dC : Nat → ClassId) (dI : Nat → Nat → Nat) (cI cJ : ClassId) (ad : Nat → Nat) (p1 : Int32) (p2 : Int32) (p3 : Int32) (p4 : Int32) (S : Nat → Nat → Int32) (L : Nat → Nat → Int64) (sz : Nat) {z : Int32 × (Nat → Nat → Int32) × (Nat → Nat → Int64)} (h : sX0_partIn p1 p2 p3 p4 S L = some z) : Met l yX0_partIn wsX0_partIn ({ frames := 4, cells := 0, slots := 0, locals := 94 }) (va_Pc [.ref (ad 8), .int p1, .int p2, .int p3, .int p4] (QXs sz dC dI cI cJ ad S L)) (va_Qi (fun (r : Int32) (u : (Nat → Nat → Int32) × (Nat → Nat → Int64)) => (r, u) = z) (fun (u : (Nat → Nat → Int32) × (Nat → Nat → Int64)) t => va_P (dC, dI) vwCl (wX cI cJ ad u.1 u.2) t.heap) (AX 43 ad sz)) 0 0 (AX 43 ad sz) := by
  refine Met.ofW (cc := cX0_partIn) (maxL := 5) (ret := (some .boolean)) (by decide) rfl ?_
  intro p e s m args below meth c s₁ B hml hv
  obtain ⟨rfl, hsz, hP, hK, hD0⟩ := hv
  have hx := B.exec
  have hb := B.bytes
  have hr := B.returns
  have hts := atoms_spec (ws := wsX0_partIn) B.pre
  have hown : s.vm.findClass RX0 = some m.cls := findClass_of_methodNamed B.named
  have hlocks := B.notSynchronized
  subst hsz
  have hD := wX_DA hD0 s.heap.size
  have hS : va_S (AX 43 ad s.heap.size) s.heap s.heap [] := va_S.rf
  have hl := lv_entry ([.ref (ad 8), .int p1, .int p2, .int p3, .int p4]) (n := 5) (Nat.le_of_ble_eq_true rfl)
  rw [lg_entry_eq]
  generalize (lg_sl ([.ref (ad 8), .int p1, .int p2, .int p3, .int p4]) ++ List.replicate (5 - (lg_sl ([.ref (ad 8), .int p1, .int p2, .int p3, .int p4])).length) Slot.unset).toArray = ls at hl ⊢
  have hl : lv_has ls 5 [(0, .ref (ad 8)), (1, .int p1), (2, .int p2), (3, .int p3), (4, .int p4)] := hl
  have hf19 := hts (.fieldLink RX0 19 "LawRings$AllCases" "hearing" "LLawRings$Hearing;") (by decide +kernel)
  have hiX0 : ∀ w ∈ u_ws RX0 TX0 3, w ∈ wsX0_partIn := by decide +kernel
  rw [sX0_partIn] at h
  refine lv_aload_n hx hb dX0_partIn_0 rfl (lv_at hl 0 rfl) ?_
  refine lv_iload_n hx hb dX0_partIn_1 rfl (lv_at hl 1 rfl) ?_
  refine lv_iload hx hb dX0_partIn_2 (lv_at hl 4 rfl) ?_
  obtain ⟨S2, L3, k1, h⟩ := ob2_elim h
  refine va_callv (va_runV (As := [.int p1, .int p4]) (rest := []) ⟨hx, hb, hml, hown, hts⟩ (mX0_turnTo l dC dI cI cJ ad p1 p4 S L s.heap.size k1) (cwV 2 hts gX0_partIn_X0_turnTo rfl rfl rfl (by decide +kernel) ⟨Nat.le_of_ble_eq_true rfl, Nat.le_of_ble_eq_true rfl⟩) ⟨QXs_blind, va_recv hK hP (ci := 0) (q0 := 8) rfl rfl, fun U hU hW => ⟨rfl, congrArg Array.size hU, QX_at hP hK hD hU hW⟩⟩ rfl rfl hl.1 rfl (lv_room (Nat.le_of_ble_eq_true rfl)) dX0_partIn_4 ⟨Nat.zero_le _, Nat.zero_le _⟩) hS (fun q _ hq => AX_mono hS.1 hq) (fun q hq => AX_mono hS.1 hq) (fun u t H1 locs ht hvm hw hB hz1 hk1 hS => ?_)
  cases hw
  rw [ht] at hB
  have hP := hB
  clear hB hk1 hz1
  generalize H1 = H at hP hS ⊢
  have hD := wX_D hD S2 L3
  refine lv_aload_n hx hb dX0_partIn_7 rfl (lv_at hl 0 rfl) ?_
  refine va_get (D := (dC, dI)) (ci := 0) (v := .ref (ad 6)) (C := RX0) (T := TX0) (N := 3) hx hb hts hiX0 hown hK hP 8 rfl rfl 1 (by decide) hf19 (fun _ h9 => h9) rfl dX0_partIn_8 ?_
  refine lv_iload_n hx hb dX0_partIn_11 rfl (lv_at hl 2 rfl) ?_
  obtain ⟨r7, S5, L6, k4, h⟩ := ob3_elim h
  refine va_calli (va_runV (As := [.int p2]) (rest := []) ⟨hx, hb, hml, hown, hts⟩ (mX4_outcome l dC dI cI cJ ad p2 S2 L3 H.size k4) (cwV 1 hts gX0_partIn_X4_outcome rfl rfl rfl (by decide +kernel) ⟨Nat.le_of_ble_eq_true rfl, Nat.le_of_ble_eq_true rfl⟩) ⟨QXs_blind, va_recv hK hP (ci := 4) (q0 := 6) rfl rfl, fun U hU hW => ⟨rfl, congrArg Array.size hU, QX_at hP hK hD hU hW⟩⟩ rfl rfl hl.1 rfl (lv_room (Nat.le_of_ble_eq_true rfl)) dX0_partIn_12 ⟨Nat.zero_le _, Nat.zero_le _⟩) hS (fun q _ hq => AX_mono hS.1 hq) (fun q hq => AX_mono hS.1 hq) (fun r u t H1 locs ht hvm hw hB hz1 hk1 hS => ?_)
  cases hw
  rw [ht] at hB
  have hP := hB
  clear hB hk1 hz1
  generalize H1 = H at hP hS ⊢
  have hD := wX_D hD S5 L6
  refine lv_aload_n hx hb dX0_partIn_15 rfl (lv_at hl 0 rfl) ?_
  refine va_get (D := (dC, dI)) (ci := 0) (v := .ref (ad 6)) (C := RX0) (T := TX0) (N := 3) hx hb hts hiX0 hown hK hP 8 rfl rfl 1 (by decide) hf19 (fun _ h9 => h9) rfl dX0_partIn_16 ?_
  refine lv_iload_n hx hb dX0_partIn_19 rfl (lv_at hl 3 rfl) ?_
  obtain ⟨r11, S9, L10, k8, h⟩ := ob3_elim h
  refine va_calli (va_runV (As := [.int p3]) (rest := [.int r7]) ⟨hx, hb, hml, hown, hts⟩ (mX4_outcome l dC dI cI cJ ad p3 S5 L6 H.size k8) (cwV 1 hts gX0_partIn_X4_outcome rfl rfl rfl (by decide +kernel) ⟨Nat.le_of_ble_eq_true rfl, Nat.le_of_ble_eq_true rfl⟩) ⟨QXs_blind, va_recv hK hP (ci := 4) (q0 := 6) rfl rfl, fun U hU hW => ⟨rfl, congrArg Array.size hU, QX_at hP hK hD hU hW⟩⟩ rfl rfl hl.1 rfl (lv_room (Nat.le_of_ble_eq_true rfl)) dX0_partIn_20 ⟨Nat.zero_le _, Nat.zero_le _⟩) hS (fun q _ hq => AX_mono hS.1 hq) (fun q hq => AX_mono hS.1 hq) (fun r u t H1 locs ht hvm hw hB hz1 hk1 hS => ?_)
  cases hw
  rw [ht] at hB
  have hP := hB
  clear hB hk1 hz1
  generalize H1 = H at hP hS ⊢
  have hD := wX_D hD S9 L10
  refine lv_icmp_eq (tgt := 30) hx hb dX0_partIn_23 (by decide) (fun c12 => ?_) (fun c12 => ?_)
  · replace h := it_t c12 h
    refine lv_iconst (v := 0) hx hb dX0_partIn_30 (by decide) ?_
    cases h
    exact W.zret hx hb hr rfl (fun t ht hW => ⟨⟨_, _, rfl, rfl, by show va_P _ _ _ t.heap; rw [ht]; exact hP⟩, hS.F ht⟩) hS.2.2 dX0_partIn_31
  · replace h := it_f c12 h
    refine lv_iconst (v := 1) hx hb dX0_partIn_26 (by decide) ?_
    refine lv_goto (tgt := 31) hx hb dX0_partIn_27 (by decide) ?_
    cases h
    exact W.zret hx hb hr rfl (fun t ht hW => ⟨⟨_, _, rfl, rfl, by show va_P _ _ _ t.heap; rw [ht]; exact hP⟩, hS.F ht⟩) hS.2.2 dX0_partIn_31
set_option maxHeartbeats 4000000 in
set_option maxRecDepth 100000 in
theorem mX0_countUnlike (l : Launch) (dC : Nat → ClassId) (dI : Nat → Nat → Nat) (cI cJ : ClassId) (ad : Nat → Nat) (p1 : Int32) (p2 : Int32) (p3 : Int32) (p4 : Int32) (S : Nat → Nat → Int32) (L : Nat → Nat → Int64) (sz : Nat) {z : Int32 × (Nat → Nat → Int32) × (Nat → Nat → Int64)} (h : sX0_countUnlike p1 p2 p3 p4 S L = some z) : Met l yX0_countUnlike wsX0_countUnlike ({ frames := 5, cells := 0, slots := 0, locals := 118 }) (va_Pc [.ref (ad 8), .int p1, .int p2, .int p3, .int p4] (QXs sz dC dI cI cJ ad S L)) (va_Qi (fun (r : Int32) (u : (Nat → Nat → Int32) × (Nat → Nat → Int64)) => (r, u) = z) (fun (u : (Nat → Nat → Int32) × (Nat → Nat → Int64)) t => va_P (dC, dI) vwCl (wX cI cJ ad u.1 u.2) t.heap) (AX 43 ad sz)) 0 0 (AX 43 ad sz) := by
  refine Met.ofW (cc := cX0_countUnlike) (maxL := 7) (ret := (some .int)) (by decide) rfl ?_
  intro p e s m args below meth c s₁ B hml hv
  obtain ⟨rfl, hsz, hP, hK, hD0⟩ := hv
  have hx := B.exec
  have hb := B.bytes
  have hr := B.returns
  have hts := atoms_spec (ws := wsX0_countUnlike) B.pre
  have hown : s.vm.findClass RX0 = some m.cls := findClass_of_methodNamed B.named
  have hlocks := B.notSynchronized
  subst hsz
  have hD := wX_DA hD0 s.heap.size
  have hS : va_S (AX 43 ad s.heap.size) s.heap s.heap [] := va_S.rf
  have hl := lv_entry ([.ref (ad 8), .int p1, .int p2, .int p3, .int p4]) (n := 7) (Nat.le_of_ble_eq_true rfl)
  rw [lg_entry_eq]
  generalize (lg_sl ([.ref (ad 8), .int p1, .int p2, .int p3, .int p4]) ++ List.replicate (7 - (lg_sl ([.ref (ad 8), .int p1, .int p2, .int p3, .int p4])).length) Slot.unset).toArray = ls at hl ⊢
  have hl : lv_has ls 7 [(0, .ref (ad 8)), (1, .int p1), (2, .int p2), (3, .int p3), (4, .int p4)] := hl
  rw [sX0_countUnlike] at h
  refine lv_iconst (v := 0) hx hb dX0_countUnlike_0 (by decide) ?_
  refine lv_istore (lv' := [(5, .int 0), (0, .ref (ad 8)), (1, .int p1), (2, .int p2), (3, .int p3), (4, .int p4)]) hx hb dX0_countUnlike_1 hl (by decide) rfl (fun ls hl => ?_)
  refine lv_aload_n hx hb dX0_countUnlike_3 rfl (lv_at hl 1 rfl) ?_
  refine lv_iload hx hb dX0_countUnlike_4 (lv_at hl 5 rfl) ?_
  obtain ⟨S2, L3, k1, h⟩ := ob2_elim h
  refine va_callv (va_runV (As := [.int p4]) (rest := []) ⟨hx, hb, hml, hown, hts⟩ (mX0_start l dC dI cI cJ ad p4 S L s.heap.size k1) (cwV 1 hts gX0_countUnlike_X0_start rfl rfl rfl (by decide +kernel) ⟨Nat.le_of_ble_eq_true rfl, Nat.le_of_ble_eq_true rfl⟩) ⟨QXs_blind, va_recv hK hP (ci := 0) (q0 := 8) rfl rfl, fun U hU hW => ⟨rfl, congrArg Array.size hU, QX_at hP hK hD hU hW⟩⟩ rfl rfl hl.1 rfl (lv_room (Nat.le_of_ble_eq_true rfl)) dX0_countUnlike_6 ⟨Nat.zero_le _, Nat.zero_le _⟩) hS (fun q _ hq => AX_mono hS.1 hq) (fun q hq => AX_mono hS.1 hq) (fun u t H1 locs ht hvm hw hB hz1 hk1 hS => ?_)
  cases hw
  rw [ht] at hB
  have hP := hB
  clear hB hk1 hz1
  generalize H1 = H at hP hS ⊢
  have hD := wX_D hD S2 L3
  refine lv_iconst (v := 0) hx hb dX0_countUnlike_9 (by decide) ?_
  refine lv_istore (lv' := [(6, .int 0), (5, .int 0), (0, .ref (ad 8)), (1, .int p1), (2, .int p2), (3, .int p3), (4, .int p4)]) hx hb dX0_countUnlike_10 hl (by decide) rfl (fun ls hl => ?_)
  refine ww_w (fun WW12 hWW12 => ?_)
  have Lh12 : ∀ (n : Nat) (v4 : Int32) (v5 : Int32) (S6 : (Nat → Nat → Int32)) (L7 : (Nat → Nat → Int64)) (z : (Int32 × (Nat → Nat → Int32) × (Nat → Nat → Int64))), lX0_countUnlike_12 p1 p2 p3 n v4 v5 S6 L7 = some z → ∀ (H : Heap) (locs : List Loc), va_P (dC, dI) vwCl (wX cI cJ ad S6 L7) H → va_S (AX 43 ad s.heap.size) s.heap H locs → ∀ ls : Array Slot, lv_has ls 7 [(0, .ref (ad 8)), (1, .int p1), (2, .int p2), (3, .int p3), (5, .int v4), (6, .int v5)] → (∀ (y0 : Int32) (YS : (Nat → Nat → Int32)) (YL : (Nat → Nat → Int64)), z = (y0, YS, YL) → ∀ (H : Heap) (locs : List Loc), va_P (dC, dI) vwCl (wX cI cJ ad YS YL) H → va_S (AX 43 ad s.heap.size) s.heap H locs → ∀ ls : Array Slot, lv_has ls 7 [(5, .int y0)] → WW12 H locs 41 ls) → WW12 H locs 12 ls := by
    intro n
    induction n with
    | zero => intro v4 v5 S6 L7 z h H locs hP hS ls hl K0; rw [lX0_countUnlike_12] at h; cases h
    | succ n ih =>
      intro v4 v5 S6 L7 z h H locs hP hS ls hl K0
      have hD := wX_D hD S6 L7
      rw [lX0_countUnlike_12] at h
      refine wi_w hWW12 ?_
      refine lv_iload hx hb dX0_countUnlike_12 (lv_at hl 5 rfl) ?_
      refine lv_sipush (v := 15625) hx hb dX0_countUnlike_14 (by decide) ?_
      refine lv_icmp_ge (tgt := 41) hx hb dX0_countUnlike_17 (by decide) (fun c8 => ?_) (fun c8 => ?_)
      · replace h := it_t c8 h
        refine wu_w hWW12 ?_
        exact K0 v4 S6 L7 (Option.some.inj h).symm H locs hP hS ls (lv_sub hl [4] rfl)
      · replace h := it_f c8 h
        refine lv_aload_n hx hb dX0_countUnlike_20 rfl (lv_at hl 0 rfl) ?_
        refine lv_iload hx hb dX0_countUnlike_21 (lv_at hl 5 rfl) ?_
        refine lv_iload_n hx hb dX0_countUnlike_23 rfl (lv_at hl 1 rfl) ?_
        refine lv_iload_n hx hb dX0_countUnlike_24 rfl (lv_at hl 2 rfl) ?_
        refine lv_iload_n hx hb dX0_countUnlike_25 rfl (lv_at hl 3 rfl) ?_
        obtain ⟨r12, S10, L11, k9, h⟩ := ob3_elim h
        refine va_calli (va_runV (As := [.int v5, .int p1, .int p2, .int p3]) (rest := []) ⟨hx, hb, hml, hown, hts⟩ (mX0_partIn l dC dI cI cJ ad v5 p1 p2 p3 S6 L7 H.size k9) (cwV 4 hts gX0_countUnlike_X0_partIn rfl rfl rfl (by decide +kernel) ⟨Nat.le_of_ble_eq_true rfl, Nat.le_of_ble_eq_true rfl⟩) ⟨QXs_blind, va_recv hK hP (ci := 0) (q0 := 8) rfl rfl, fun U hU hW => ⟨rfl, congrArg Array.size hU, QX_at hP hK hD hU hW⟩⟩ rfl rfl hl.1 rfl (lv_room (Nat.le_of_ble_eq_true rfl)) dX0_countUnlike_26 ⟨Nat.zero_le _, Nat.zero_le _⟩) hS (fun q _ hq => AX_mono hS.1 hq) (fun q hq => AX_mono hS.1 hq) (fun r u t H1 locs ht hvm hw hB hz1 hk1 hS => ?_)
        cases hw
        rw [ht] at hB
        have hP := hB
        clear hB hk1 hz1
        generalize H1 = H at hP hS ⊢
        have hD := wX_D hD S10 L11
        refine lv_if_eq (tgt := 35) hx hb dX0_countUnlike_29 (by decide) (fun c13 => ?_) (fun c13 => ?_)
        · replace h := it_t c13 h
          obtain ⟨x14, ex14, h⟩ := bnd_elim h
          refine lv_iinc (v := x14) (lv' := [(6, .int x14), (0, .ref (ad 8)), (1, .int p1), (2, .int p2), (3, .int p3), (5, .int v4)]) hx hb dX0_countUnlike_35 hl (k := 5) rfl (by rw [ex14]; rfl) (by decide) rfl (fun ls hl => ?_)
          refine lv_goto (tgt := 12) hx hb dX0_countUnlike_38 (by decide) ?_
          refine wu_w hWW12 ?_
          exact ih v4 x14 S10 L11 z h H locs hP hS ls (lv_sub hl [1, 2, 3, 4, 5, 0] rfl) K0
        · replace h := it_f c13 h
          obtain ⟨x15, ex15, h⟩ := bnd_elim h
          refine lv_iinc (v := x15) (lv' := [(5, .int x15), (0, .ref (ad 8)), (1, .int p1), (2, .int p2), (3, .int p3), (6, .int v5)]) hx hb dX0_countUnlike_32 hl (k := 4) rfl (by rw [ex15]; rfl) (by decide) rfl (fun ls hl => ?_)
          obtain ⟨x16, ex16, h⟩ := bnd_elim h
          refine lv_iinc (v := x16) (lv' := [(6, .int x16), (5, .int x15), (0, .ref (ad 8)), (1, .int p1), (2, .int p2), (3, .int p3)]) hx hb dX0_countUnlike_35 hl (k := 5) rfl (by rw [ex16]; rfl) (by decide) rfl (fun ls hl => ?_)
          refine lv_goto (tgt := 12) hx hb dX0_countUnlike_38 (by decide) ?_
          refine wu_w hWW12 ?_
          exact ih x15 x16 S10 L11 z h H locs hP hS ls (lv_sub hl [2, 3, 4, 5, 1, 0] rfl) K0
  obtain ⟨w18, S19, L20, k17, h⟩ := ob3_elim h
  refine wu_w hWW12 ?_
  refine Lh12 FU 0 0 S2 L3 _ k17 H locs hP hS ls (lv_sub hl [2, 3, 4, 5, 1, 0] rfl) ?_
  intro y0 y1 y2 hy H locs hP hS ls hl
  cases hy
  have hD := wX_D hD S19 L20
  refine wi_w hWW12 ?_
  refine lv_iload hx hb dX0_countUnlike_41 (lv_at hl 0 rfl) ?_
  cases h
  exact W.iret hx hb hr (fun t ht hW => ⟨⟨_, _, rfl, rfl, by show va_P _ _ _ t.heap; rw [ht]; exact hP⟩, hS.F ht⟩) hS.2.2 dX0_countUnlike_43
set_option maxHeartbeats 4000000 in
set_option maxRecDepth 100000 in
theorem mX10_unlike (l : Launch) (dC : Nat → ClassId) (dI : Nat → Nat → Nat) (cI cJ : ClassId) (ad : Nat → Nat) (p1 : Int32) (p2 : Int32) (p3 : Int32) (p4 : Int32) (S : Nat → Nat → Int32) (L : Nat → Nat → Int64) (sz : Nat) {z : Int32 × (Nat → Nat → Int32) × (Nat → Nat → Int64)} (h : sX10_unlike p1 p2 p3 p4 S L = some z) : Met l yX10_unlike wsX10_unlike ({ frames := 6, cells := 0, slots := 0, locals := 144 }) (va_Pc [.ref (ad 0), .int p1, .int p2, .int p3, .int p4] (QXs sz dC dI cI cJ ad S L)) (va_Qi (fun (r : Int32) (u : (Nat → Nat → Int32) × (Nat → Nat → Int64)) => (r, u) = z) (fun (u : (Nat → Nat → Int32) × (Nat → Nat → Int64)) t => va_P (dC, dI) vwCl (wX cI cJ ad u.1 u.2) t.heap) (AX 43 ad sz)) 0 0 (AX 43 ad sz) := by
  refine Met.ofW (cc := cX10_unlike) (maxL := 5) (ret := (some .int)) (by decide) rfl ?_
  intro p e s m args below meth c s₁ B hml hv
  obtain ⟨rfl, hsz, hP, hK, hD0⟩ := hv
  have hx := B.exec
  have hb := B.bytes
  have hr := B.returns
  have hts := atoms_spec (ws := wsX10_unlike) B.pre
  have hown : s.vm.findClass RX10 = some m.cls := findClass_of_methodNamed B.named
  have hlocks := B.notSynchronized
  subst hsz
  have hD := wX_DA hD0 s.heap.size
  have hS : va_S (AX 43 ad s.heap.size) s.heap s.heap [] := va_S.rf
  have hl := lv_entry ([.ref (ad 0), .int p1, .int p2, .int p3, .int p4]) (n := 5) (Nat.le_of_ble_eq_true rfl)
  rw [lg_entry_eq]
  generalize (lg_sl ([.ref (ad 0), .int p1, .int p2, .int p3, .int p4]) ++ List.replicate (5 - (lg_sl ([.ref (ad 0), .int p1, .int p2, .int p3, .int p4])).length) Slot.unset).toArray = ls at hl ⊢
  have hl : lv_has ls 5 [(0, .ref (ad 0)), (1, .int p1), (2, .int p2), (3, .int p3), (4, .int p4)] := hl
  have hf58 := hts (.fieldLink RX10 58 "LawRings" "allCases" "LLawRings$AllCases;") (by decide +kernel)
  have hiX10 : ∀ w ∈ u_ws RX10 TX10 11, w ∈ wsX10_unlike := by decide +kernel
  rw [sX10_unlike] at h
  refine lv_iload_n hx hb dX10_unlike_0 rfl (lv_at hl 1 rfl) ?_
  refine lv_iload_n hx hb dX10_unlike_1 rfl (lv_at hl 3 rfl) ?_
  refine lv_iload hx hb dX10_unlike_2 (lv_at hl 4 rfl) ?_
  obtain ⟨r2, k1, h⟩ := ob_elim h
  refine vp_callSi (W.runS (As := [.int p1, .int p3, .int p4]) (rest := []) ⟨hx, hb, hml, hown, hts⟩ (mX10_isTable l p1 p3 p4 k1) (va_cwS 3 hts gX10_unlike_X10_isTable rfl rfl rfl (by decide +kernel) ⟨Nat.le_of_ble_eq_true rfl, Nat.le_of_ble_eq_true rfl⟩) ⟨fun _ _ _ _ q => q, fun U hU hW => ⟨rfl, trivial⟩⟩ rfl rfl hl.1 rfl (lv_room (Nat.le_of_ble_eq_true rfl)) dX10_unlike_4 ⟨Nat.zero_le _, Nat.zero_le _⟩) (fun r9 er9 => ?_)
  replace er9 := er9.symm
  subst er9
  refine lv_if_eq (tgt := 18) hx hb dX10_unlike_7 (by decide) (fun c3 => ?_) (fun c3 => ?_)
  · replace h := it_t c3 h
    refine lv_bipush (v := (-2)) hx hb dX10_unlike_18 (by decide) ?_
    cases h
    exact W.iret hx hb hr (fun t ht hW => ⟨⟨_, _, rfl, rfl, by show va_P _ _ _ t.heap; rw [ht]; exact hP⟩, hS.F ht⟩) hS.2.2 dX10_unlike_20
  · replace h := it_f c3 h
    refine lv_iload_n hx hb dX10_unlike_10 rfl (lv_at hl 1 rfl) ?_
    refine lv_iload_n hx hb dX10_unlike_11 rfl (lv_at hl 2 rfl) ?_
    obtain ⟨r5, k4, h⟩ := ob_elim h
    refine vp_callSi (W.runS (As := [.int p1, .int p2]) (rest := []) ⟨hx, hb, hml, hown, hts⟩ (mX10_isOther l p1 p2 k4) (va_cwS 2 hts gX10_unlike_X10_isOther rfl rfl rfl (by decide +kernel) ⟨Nat.le_of_ble_eq_true rfl, Nat.le_of_ble_eq_true rfl⟩) ⟨fun _ _ _ _ q => q, fun U hU hW => ⟨rfl, trivial⟩⟩ rfl rfl hl.1 rfl (lv_room (Nat.le_of_ble_eq_true rfl)) dX10_unlike_12 ⟨Nat.zero_le _, Nat.zero_le _⟩) (fun r9 er9 => ?_)
    replace er9 := er9.symm
    subst er9
    refine lv_if_ne (tgt := 21) hx hb dX10_unlike_15 (by decide) (fun c6 => ?_) (fun c6 => ?_)
    · replace h := it_f c6 h
      refine lv_aload_n hx hb dX10_unlike_21 rfl (lv_at hl 0 rfl) ?_
      refine va_get (D := (dC, dI)) (ci := 10) (v := .ref (ad 8)) (C := RX10) (T := TX10) (N := 11) hx hb hts hiX10 hown hK hP 0 rfl rfl 6 (by decide) hf58 (fun _ h9 => h9) rfl dX10_unlike_22 ?_
      refine lv_iload_n hx hb dX10_unlike_25 rfl (lv_at hl 1 rfl) ?_
      refine lv_iload_n hx hb dX10_unlike_26 rfl (lv_at hl 2 rfl) ?_
      refine lv_iload_n hx hb dX10_unlike_27 rfl (lv_at hl 3 rfl) ?_
      refine lv_iload hx hb dX10_unlike_28 (lv_at hl 4 rfl) ?_
      obtain ⟨r10, S8, L9, k7, h⟩ := ob3_elim h
      refine va_calli (va_runV (As := [.int p1, .int p2, .int p3, .int p4]) (rest := []) ⟨hx, hb, hml, hown, hts⟩ (mX0_countUnlike l dC dI cI cJ ad p1 p2 p3 p4 S L s.heap.size k7) (cwV 4 hts gX10_unlike_X0_countUnlike rfl rfl rfl (by decide +kernel) ⟨Nat.le_of_ble_eq_true rfl, Nat.le_of_ble_eq_true rfl⟩) ⟨QXs_blind, va_recv hK hP (ci := 0) (q0 := 8) rfl rfl, fun U hU hW => ⟨rfl, congrArg Array.size hU, QX_at hP hK hD hU hW⟩⟩ rfl rfl hl.1 rfl (lv_room (Nat.le_of_ble_eq_true rfl)) dX10_unlike_30 ⟨Nat.zero_le _, Nat.zero_le _⟩) hS (fun q _ hq => AX_mono hS.1 hq) (fun q hq => AX_mono hS.1 hq) (fun r u t H1 locs ht hvm hw hB hz1 hk1 hS => ?_)
      cases hw
      rw [ht] at hB
      have hP := hB
      clear hB hk1 hz1
      generalize H1 = H at hP hS ⊢
      have hD := wX_D hD S8 L9
      cases h
      exact W.iret hx hb hr (fun t ht hW => ⟨⟨_, _, rfl, rfl, by show va_P _ _ _ t.heap; rw [ht]; exact hP⟩, hS.F ht⟩) hS.2.2 dX10_unlike_33
    · replace h := it_t c6 h
      refine lv_bipush (v := (-2)) hx hb dX10_unlike_18 (by decide) ?_
      cases h
      exact W.iret hx hb hr (fun t ht hW => ⟨⟨_, _, rfl, rfl, by show va_P _ _ _ t.heap; rw [ht]; exact hP⟩, hS.F ht⟩) hS.2.2 dX10_unlike_20
set_option maxHeartbeats 4000000 in
set_option maxRecDepth 100000 in
theorem mX11_arePair (l : Launch) (p0 : Int32) (p1 : Int32) {z : Int32} (h : sX11_arePair p0 p1 = some z) : Met l yX11_arePair wsX11_arePair ({ frames := 2, cells := 0, slots := 0, locals := 42 }) (va_Pc [.int p0, .int p1] (fun _ => True)) (vp_Si (fun r => r = z)) 0 0 (fun _ => False) := by
  refine Met.ofW (cc := cX11_arePair) (maxL := 2) (ret := (some .boolean)) (by decide) rfl ?_
  intro p e s m args below meth c s₁ B hml hv
  obtain ⟨rfl, -⟩ := hv
  have hx := B.exec
  have hb := B.bytes
  have hr := B.returns
  have hts := atoms_spec (ws := wsX11_arePair) B.pre
  have hown : s.vm.findClass RX11 = some m.cls := findClass_of_methodNamed B.named
  have hlocks := B.notSynchronized
  have hl := lv_entry ([.int p0, .int p1]) (n := 2) (Nat.le_of_ble_eq_true rfl)
  rw [lg_entry_eq]
  generalize (lg_sl ([.int p0, .int p1]) ++ List.replicate (2 - (lg_sl ([.int p0, .int p1])).length) Slot.unset).toArray = ls at hl ⊢
  have hl : lv_has ls 2 [(0, .int p0), (1, .int p1)] := hl
  rw [sX11_arePair] at h
  refine lv_iload_n hx hb dX11_arePair_0 rfl (lv_at hl 0 rfl) ?_
  obtain ⟨r2, k1, h⟩ := ob_elim h
  refine vp_callSi (W.runS (As := [.int p0]) (rest := []) ⟨hx, hb, hml, hown, hts⟩ (mX11_isLand l p0 k1) (va_cwS 1 hts gX11_arePair_X11_isLand rfl rfl rfl (by decide +kernel) ⟨Nat.le_of_ble_eq_true rfl, Nat.le_of_ble_eq_true rfl⟩) ⟨fun _ _ _ _ q => q, fun U hU hW => ⟨rfl, trivial⟩⟩ rfl rfl hl.1 rfl (lv_room (Nat.le_of_ble_eq_true rfl)) dX11_arePair_1 ⟨Nat.zero_le _, Nat.zero_le _⟩) (fun r9 er9 => ?_)
  replace er9 := er9.symm
  subst er9
  refine lv_if_eq (tgt := 23) hx hb dX11_arePair_4 (by decide) (fun c3 => ?_) (fun c3 => ?_)
  · replace h := it_t c3 h
    refine lv_iconst (v := 0) hx hb dX11_arePair_23 (by decide) ?_
    cases h
    exact W.zret hx hb hr rfl (fun t ht hW => ⟨_, rfl, rfl, ht⟩) (fun q hq => absurd hq List.not_mem_nil) dX11_arePair_24
  · replace h := it_f c3 h
    refine lv_iload_n hx hb dX11_arePair_7 rfl (lv_at hl 1 rfl) ?_
    obtain ⟨r5, k4, h⟩ := ob_elim h
    refine vp_callSi (W.runS (As := [.int p1]) (rest := []) ⟨hx, hb, hml, hown, hts⟩ (mX11_isLand l p1 k4) (va_cwS 1 hts gX11_arePair_X11_isLand rfl rfl rfl (by decide +kernel) ⟨Nat.le_of_ble_eq_true rfl, Nat.le_of_ble_eq_true rfl⟩) ⟨fun _ _ _ _ q => q, fun U hU hW => ⟨rfl, trivial⟩⟩ rfl rfl hl.1 rfl (lv_room (Nat.le_of_ble_eq_true rfl)) dX11_arePair_8 ⟨Nat.zero_le _, Nat.zero_le _⟩) (fun r9 er9 => ?_)
    replace er9 := er9.symm
    subst er9
    refine lv_if_eq (tgt := 23) hx hb dX11_arePair_11 (by decide) (fun c6 => ?_) (fun c6 => ?_)
    · replace h := it_t c6 h
      refine lv_iconst (v := 0) hx hb dX11_arePair_23 (by decide) ?_
      cases h
      exact W.zret hx hb hr rfl (fun t ht hW => ⟨_, rfl, rfl, ht⟩) (fun q hq => absurd hq List.not_mem_nil) dX11_arePair_24
    · replace h := it_f c6 h
      refine lv_iload_n hx hb dX11_arePair_14 rfl (lv_at hl 0 rfl) ?_
      refine lv_iload_n hx hb dX11_arePair_15 rfl (lv_at hl 1 rfl) ?_
      refine lv_icmp_eq (tgt := 23) hx hb dX11_arePair_16 (by decide) (fun c7 => ?_) (fun c7 => ?_)
      · replace h := it_t c7 h
        refine lv_iconst (v := 0) hx hb dX11_arePair_23 (by decide) ?_
        cases h
        exact W.zret hx hb hr rfl (fun t ht hW => ⟨_, rfl, rfl, ht⟩) (fun q hq => absurd hq List.not_mem_nil) dX11_arePair_24
      · replace h := it_f c7 h
        refine lv_iconst (v := 1) hx hb dX11_arePair_19 (by decide) ?_
        refine lv_goto (tgt := 24) hx hb dX11_arePair_20 (by decide) ?_
        cases h
        exact W.zret hx hb hr rfl (fun t ht hW => ⟨_, rfl, rfl, ht⟩) (fun q hq => absurd hq List.not_mem_nil) dX11_arePair_24
set_option maxHeartbeats 4000000 in
set_option maxRecDepth 100000 in
theorem mX11_unlike (l : Launch) (dC : Nat → ClassId) (dI : Nat → Nat → Nat) (cI cZ : ClassId) (ad : Nat → Nat) (p1 : Int32) (p2 : Int32) (p3 : Int32) (p4 : Int32) (S : Nat → Nat → Int32) (sz : Nat) {z : Int32 × (Nat → Nat → Int32)} (h : sX11_unlike p1 p2 p3 p4 S = some z) : Met l yX11_unlike wsX11_unlike ({ frames := 8, cells := 0, slots := 0, locals := 190 }) (va_Pc [.ref (ad 0), .int p1, .int p2, .int p3, .int p4] (QMs sz dC dI cI cZ ad S)) (va_Qi (fun (r : Int32) (u : (Nat → Nat → Int32)) => (r, u) = z) (fun (u : (Nat → Nat → Int32)) t => va_P (dC, dI) vwCl (wM cI cZ ad u) t.heap) (AX 7 ad sz)) 0 0 (AX 7 ad sz) := by
  refine Met.ofW (cc := cX11_unlike) (maxL := 7) (ret := (some .int)) (by decide) rfl ?_
  intro p e s m args below meth c s₁ B hml hv
  obtain ⟨rfl, hsz, hP, hK, hD0⟩ := hv
  have hx := B.exec
  have hb := B.bytes
  have hr := B.returns
  have hts := atoms_spec (ws := wsX11_unlike) B.pre
  have hown : s.vm.findClass RX11 = some m.cls := findClass_of_methodNamed B.named
  have hlocks := B.notSynchronized
  subst hsz
  have hD := wM_DA hD0 s.heap.size
  have hS : va_S (AX 7 ad s.heap.size) s.heap s.heap [] := va_S.rf
  have hl := lv_entry ([.ref (ad 0), .int p1, .int p2, .int p3, .int p4]) (n := 7) (Nat.le_of_ble_eq_true rfl)
  rw [lg_entry_eq]
  generalize (lg_sl ([.ref (ad 0), .int p1, .int p2, .int p3, .int p4]) ++ List.replicate (7 - (lg_sl ([.ref (ad 0), .int p1, .int p2, .int p3, .int p4])).length) Slot.unset).toArray = ls at hl ⊢
  have hl : lv_has ls 7 [(0, .ref (ad 0)), (1, .int p1), (2, .int p2), (3, .int p3), (4, .int p4)] := hl
  rw [sX11_unlike] at h
  refine lv_iload_n hx hb dX11_unlike_0 rfl (lv_at hl 1 rfl) ?_
  refine lv_iload_n hx hb dX11_unlike_1 rfl (lv_at hl 2 rfl) ?_
  obtain ⟨r2, k1, h⟩ := ob_elim h
  refine vp_callSi (W.runS (As := [.int p1, .int p2]) (rest := []) ⟨hx, hb, hml, hown, hts⟩ (mX11_arePair l p1 p2 k1) (va_cwS 2 hts gX11_unlike_X11_arePair rfl rfl rfl (by decide +kernel) ⟨Nat.le_of_ble_eq_true rfl, Nat.le_of_ble_eq_true rfl⟩) ⟨fun _ _ _ _ q => q, fun U hU hW => ⟨rfl, trivial⟩⟩ rfl rfl hl.1 rfl (lv_room (Nat.le_of_ble_eq_true rfl)) dX11_unlike_2 ⟨Nat.zero_le _, Nat.zero_le _⟩) (fun r9 er9 => ?_)
  replace er9 := er9.symm
  subst er9
  refine lv_if_eq (tgt := 23) hx hb dX11_unlike_5 (by decide) (fun c3 => ?_) (fun c3 => ?_)
  · replace h := it_t c3 h
    refine lv_bipush (v := (-2)) hx hb dX11_unlike_23 (by decide) ?_
    cases h
    exact W.iret hx hb hr (fun t ht hW => ⟨⟨_, _, rfl, rfl, by show va_P _ _ _ t.heap; rw [ht]; exact hP⟩, hS.F ht⟩) hS.2.2 dX11_unlike_25
  · replace h := it_f c3 h
    refine lv_iload_n hx hb dX11_unlike_8 rfl (lv_at hl 3 rfl) ?_
    obtain ⟨r5, k4, h⟩ := ob_elim h
    refine vp_callSi (W.runS (As := [.int p3]) (rest := []) ⟨hx, hb, hml, hown, hts⟩ (mX11_isKind l p3 k4) (va_cwS 1 hts gX11_unlike_X11_isKind rfl rfl rfl (by decide +kernel) ⟨Nat.le_of_ble_eq_true rfl, Nat.le_of_ble_eq_true rfl⟩) ⟨fun _ _ _ _ q => q, fun U hU hW => ⟨rfl, trivial⟩⟩ rfl rfl hl.1 rfl (lv_room (Nat.le_of_ble_eq_true rfl)) dX11_unlike_9 ⟨Nat.zero_le _, Nat.zero_le _⟩) (fun r9 er9 => ?_)
    replace er9 := er9.symm
    subst er9
    refine lv_if_eq (tgt := 23) hx hb dX11_unlike_12 (by decide) (fun c6 => ?_) (fun c6 => ?_)
    · replace h := it_t c6 h
      refine lv_bipush (v := (-2)) hx hb dX11_unlike_23 (by decide) ?_
      cases h
      exact W.iret hx hb hr (fun t ht hW => ⟨⟨_, _, rfl, rfl, by show va_P _ _ _ t.heap; rw [ht]; exact hP⟩, hS.F ht⟩) hS.2.2 dX11_unlike_25
    · replace h := it_f c6 h
      refine lv_iload hx hb dX11_unlike_15 (lv_at hl 4 rfl) ?_
      obtain ⟨r8, k7, h⟩ := ob_elim h
      refine vp_callSi (W.runS (As := [.int p4]) (rest := []) ⟨hx, hb, hml, hown, hts⟩ (mX11_isDay l p4 k7) (va_cwS 1 hts gX11_unlike_X11_isDay rfl rfl rfl (by decide +kernel) ⟨Nat.le_of_ble_eq_true rfl, Nat.le_of_ble_eq_true rfl⟩) ⟨fun _ _ _ _ q => q, fun U hU hW => ⟨rfl, trivial⟩⟩ rfl rfl hl.1 rfl (lv_room (Nat.le_of_ble_eq_true rfl)) dX11_unlike_17 ⟨Nat.zero_le _, Nat.zero_le _⟩) (fun r9 er9 => ?_)
      replace er9 := er9.symm
      subst er9
      refine lv_if_ne (tgt := 26) hx hb dX11_unlike_20 (by decide) (fun c9 => ?_) (fun c9 => ?_)
      · replace h := it_f c9 h
        refine lv_iconst (v := 0) hx hb dX11_unlike_26 (by decide) ?_
        refine lv_istore (lv' := [(5, .int 0), (0, .ref (ad 0)), (1, .int p1), (2, .int p2), (3, .int p3), (4, .int p4)]) hx hb dX11_unlike_27 hl (by decide) rfl (fun ls hl => ?_)
        refine lv_iconst (v := 0) hx hb dX11_unlike_29 (by decide) ?_
        refine lv_istore (lv' := [(6, .int 0), (5, .int 0), (0, .ref (ad 0)), (1, .int p1), (2, .int p2), (3, .int p3), (4, .int p4)]) hx hb dX11_unlike_30 hl (by decide) rfl (fun ls hl => ?_)
        refine ww_w (fun WW32 hWW32 => ?_)
        have Lh32 : ∀ (n : Nat) (v10 : Int32) (v11 : Int32) (S12 : (Nat → Nat → Int32)) (z : (Int32 × (Nat → Nat → Int32))), lX11_unlike_32 p1 p2 p3 p4 n v10 v11 S12 = some z → ∀ (H : Heap) (locs : List Loc), va_P (dC, dI) vwCl (wM cI cZ ad S12) H → va_S (AX 7 ad s.heap.size) s.heap H locs → ∀ ls : Array Slot, lv_has ls 7 [(0, .ref (ad 0)), (1, .int p1), (2, .int p2), (3, .int p3), (4, .int p4), (5, .int v10), (6, .int v11)] → (∀ (y0 : Int32) (YS : (Nat → Nat → Int32)), z = (y0, YS) → ∀ (H : Heap) (locs : List Loc), va_P (dC, dI) vwCl (wM cI cZ ad YS) H → va_S (AX 7 ad s.heap.size) s.heap H locs → ∀ ls : Array Slot, lv_has ls 7 [(5, .int y0)] → WW32 H locs 79 ls) → WW32 H locs 32 ls := by
          intro n
          induction n with
          | zero => intro v10 v11 S12 z h H locs hP hS ls hl K0; rw [lX11_unlike_32] at h; cases h
          | succ n ih =>
            intro v10 v11 S12 z h H locs hP hS ls hl K0
            have hD := wM_D hD S12
            rw [lX11_unlike_32] at h
            refine wi_w hWW32 ?_
            refine lv_iload hx hb dX11_unlike_32 (lv_at hl 6 rfl) ?_
            refine lv_sipush (v := 15625) hx hb dX11_unlike_34 (by decide) ?_
            refine lv_icmp_ge (tgt := 79) hx hb dX11_unlike_37 (by decide) (fun c13 => ?_) (fun c13 => ?_)
            · replace h := it_t c13 h
              refine wu_w hWW32 ?_
              exact K0 v10 S12 (Option.some.inj h).symm H locs hP hS ls (lv_sub hl [5] rfl)
            · replace h := it_f c13 h
              refine lv_aload_n hx hb dX11_unlike_40 rfl (lv_at hl 0 rfl) ?_
              refine lv_iload hx hb dX11_unlike_41 (lv_at hl 6 rfl) ?_
              refine lv_iload hx hb dX11_unlike_43 (lv_at hl 4 rfl) ?_
              obtain ⟨S15, k14, h⟩ := ob_elim h
              refine va_callv (va_runV (As := [.int v11, .int p4]) (rest := []) ⟨hx, hb, hml, hown, hts⟩ (mX11_looksAtNumber l dC dI cI cZ ad v11 p4 S12 H.size k14) (cwV 2 hts gX11_unlike_X11_looksAtNumber rfl rfl rfl (by decide +kernel) ⟨Nat.le_of_ble_eq_true rfl, Nat.le_of_ble_eq_true rfl⟩) ⟨QMs_blind, va_recv hK hP (ci := 11) (q0 := 0) rfl rfl, fun U hU hW => ⟨rfl, congrArg Array.size hU, QM_at hP hK hD hU hW⟩⟩ rfl rfl hl.1 rfl (lv_room (Nat.le_of_ble_eq_true rfl)) dX11_unlike_45 ⟨Nat.zero_le _, Nat.zero_le _⟩) hS (fun q _ hq => AX_mono hS.1 hq) (fun q hq => AX_mono hS.1 hq) (fun u t H1 locs ht hvm hw hB hz1 hk1 hS => ?_)
              cases hw
              rw [ht] at hB
              have hP := hB
              clear hB hk1 hz1
              generalize H1 = H at hP hS ⊢
              have hD := wM_D hD S15
              refine lv_iload hx hb dX11_unlike_48 (lv_at hl 5 rfl) ?_
              refine lv_aload_n hx hb dX11_unlike_50 rfl (lv_at hl 0 rfl) ?_
              refine lv_iload_n hx hb dX11_unlike_51 rfl (lv_at hl 1 rfl) ?_
              refine lv_iload_n hx hb dX11_unlike_52 rfl (lv_at hl 3 rfl) ?_
              obtain ⟨r17, k16, h⟩ := ob_elim h
              refine vp_callSi (W.runV (As := [.int p1, .int p3]) (rest := [.int v10]) ⟨hx, hb, hml, hown, hts⟩ (mX11_endsOf l dC dI cI cZ ad p1 p3 S15 k16) (cwV 2 hts gX11_unlike_X11_endsOf rfl rfl rfl (by decide +kernel) ⟨Nat.le_of_ble_eq_true rfl, Nat.le_of_ble_eq_true rfl⟩) ⟨QM_blind, va_recv hK hP (ci := 11) (q0 := 0) rfl rfl, fun U hU hW => ⟨rfl, QM_at hP hK hD hU hW⟩⟩ rfl rfl hl.1 rfl (lv_room (Nat.le_of_ble_eq_true rfl)) dX11_unlike_53 ⟨Nat.zero_le _, Nat.zero_le _⟩) (fun r9 er9 => ?_)
              replace er9 := er9.symm
              subst er9
              refine lv_aload_n hx hb dX11_unlike_56 rfl (lv_at hl 0 rfl) ?_
              refine lv_iload_n hx hb dX11_unlike_57 rfl (lv_at hl 2 rfl) ?_
              refine lv_iload_n hx hb dX11_unlike_58 rfl (lv_at hl 3 rfl) ?_
              obtain ⟨r19, k18, h⟩ := ob_elim h
              refine vp_callSi (W.runV (As := [.int p2, .int p3]) (rest := [.int r17, .int v10]) ⟨hx, hb, hml, hown, hts⟩ (mX11_endsOf l dC dI cI cZ ad p2 p3 S15 k18) (cwV 2 hts gX11_unlike_X11_endsOf rfl rfl rfl (by decide +kernel) ⟨Nat.le_of_ble_eq_true rfl, Nat.le_of_ble_eq_true rfl⟩) ⟨QM_blind, va_recv hK hP (ci := 11) (q0 := 0) rfl rfl, fun U hU hW => ⟨rfl, QM_at hP hK hD hU hW⟩⟩ rfl rfl hl.1 rfl (lv_room (Nat.le_of_ble_eq_true rfl)) dX11_unlike_59 ⟨Nat.zero_le _, Nat.zero_le _⟩) (fun r9 er9 => ?_)
              replace er9 := er9.symm
              subst er9
              refine lv_icmp_eq (tgt := 69) hx hb dX11_unlike_62 (by decide) (fun c20 => ?_) (fun c20 => ?_)
              · replace h := it_t c20 h
                refine lv_iconst (v := 0) hx hb dX11_unlike_69 (by decide) ?_
                refine lv_iadd hx hb dX11_unlike_70 ?_
                obtain ⟨x21, ex21, h⟩ := bnd_elim h
                refine nm_i ex21 ?_
                refine lv_istore (lv' := [(5, .int x21), (0, .ref (ad 0)), (1, .int p1), (2, .int p2), (3, .int p3), (4, .int p4), (6, .int v11)]) hx hb dX11_unlike_71 hl (by decide) rfl (fun ls hl => ?_)
                obtain ⟨x22, ex22, h⟩ := bnd_elim h
                refine lv_iinc (v := x22) (lv' := [(6, .int x22), (5, .int x21), (0, .ref (ad 0)), (1, .int p1), (2, .int p2), (3, .int p3), (4, .int p4)]) hx hb dX11_unlike_73 hl (k := 6) rfl (by rw [ex22]; rfl) (by decide) rfl (fun ls hl => ?_)
                refine lv_goto (tgt := 32) hx hb dX11_unlike_76 (by decide) ?_
                refine wu_w hWW32 ?_
                exact ih x21 x22 S15 z h H locs hP hS ls (lv_sub hl [2, 3, 4, 5, 6, 1, 0] rfl) K0
              · replace h := it_f c20 h
                refine lv_iconst (v := 1) hx hb dX11_unlike_65 (by decide) ?_
                refine lv_goto (tgt := 70) hx hb dX11_unlike_66 (by decide) ?_
                refine lv_iadd hx hb dX11_unlike_70 ?_
                obtain ⟨x23, ex23, h⟩ := bnd_elim h
                refine nm_i ex23 ?_
                refine lv_istore (lv' := [(5, .int x23), (0, .ref (ad 0)), (1, .int p1), (2, .int p2), (3, .int p3), (4, .int p4), (6, .int v11)]) hx hb dX11_unlike_71 hl (by decide) rfl (fun ls hl => ?_)
                obtain ⟨x24, ex24, h⟩ := bnd_elim h
                refine lv_iinc (v := x24) (lv' := [(6, .int x24), (5, .int x23), (0, .ref (ad 0)), (1, .int p1), (2, .int p2), (3, .int p3), (4, .int p4)]) hx hb dX11_unlike_73 hl (k := 6) rfl (by rw [ex24]; rfl) (by decide) rfl (fun ls hl => ?_)
                refine lv_goto (tgt := 32) hx hb dX11_unlike_76 (by decide) ?_
                refine wu_w hWW32 ?_
                exact ih x23 x24 S15 z h H locs hP hS ls (lv_sub hl [2, 3, 4, 5, 6, 1, 0] rfl) K0
        obtain ⟨w26, S27, k25, h⟩ := ob2_elim h
        refine wu_w hWW32 ?_
        refine Lh32 FU 0 0 S _ k25 s.heap [] hP hS ls (lv_sub hl [2, 3, 4, 5, 6, 1, 0] rfl) ?_
        intro y0 y1 hy H locs hP hS ls hl
        cases hy
        have hD := wM_D hD S27
        refine wi_w hWW32 ?_
        refine lv_iload hx hb dX11_unlike_79 (lv_at hl 0 rfl) ?_
        cases h
        exact W.iret hx hb hr (fun t ht hW => ⟨⟨_, _, rfl, rfl, by show va_P _ _ _ t.heap; rw [ht]; exact hP⟩, hS.F ht⟩) hS.2.2 dX11_unlike_81
      · replace h := it_t c9 h
        refine lv_bipush (v := (-2)) hx hb dX11_unlike_23 (by decide) ?_
        cases h
        exact W.iret hx hb hr (fun t ht hW => ⟨⟨_, _, rfl, rfl, by show va_P _ _ _ t.heap; rw [ht]; exact hP⟩, hS.F ht⟩) hS.2.2 dX11_unlike_25
set_option maxHeartbeats 4000000 in
set_option maxRecDepth 100000 in
theorem mX0_tiesTold (l : Launch) (dC : Nat → ClassId) (dI : Nat → Nat → Nat) (cI cJ : ClassId) (ad : Nat → Nat)  (S : Nat → Nat → Int32) (L : Nat → Nat → Int64) {z : Int32} (h : sX0_tiesTold S L = some z) : Met l yX0_tiesTold wsX0_tiesTold ({ frames := 0, cells := 0, slots := 0, locals := 0 }) (va_Pc [.ref (ad 8)] (QX dC dI cI cJ ad S L)) (vp_Si (fun r => r = z)) 0 0 (fun _ => False) := by
  refine Met.ofW (cc := cX0_tiesTold) (maxL := 3) (ret := (some .int)) (by decide) rfl ?_
  intro p e s m args below meth c s₁ B hml hv
  obtain ⟨rfl, hP, hK, hD⟩ := hv
  have hx := B.exec
  have hb := B.bytes
  have hr := B.returns
  have hts := atoms_spec (ws := wsX0_tiesTold) B.pre
  have hown : s.vm.findClass RX0 = some m.cls := findClass_of_methodNamed B.named
  have hlocks := B.notSynchronized
  have hl := lv_entry ([.ref (ad 8)]) (n := 3) (Nat.le_of_ble_eq_true rfl)
  rw [lg_entry_eq]
  generalize (lg_sl ([.ref (ad 8)]) ++ List.replicate (3 - (lg_sl ([.ref (ad 8)])).length) Slot.unset).toArray = ls at hl ⊢
  have hl : lv_has ls 3 [(0, .ref (ad 8))] := hl
  have hf19 := hts (.fieldLink RX0 19 "LawRings$AllCases" "hearing" "LLawRings$Hearing;") (by decide +kernel)
  have hiX0 : ∀ w ∈ u_ws RX0 TX0 3, w ∈ wsX0_tiesTold := by decide +kernel
  have hf23 := hts (.fieldLink RX0 23 "LawRings$Hearing" "ties" "[I") (by decide +kernel)
  have hiX4 : ∀ w ∈ u_ws RX4 TX4 9, w ∈ wsX0_tiesTold := by decide +kernel
  rw [sX0_tiesTold] at h
  refine lv_iconst (v := 0) hx hb dX0_tiesTold_0 (by decide) ?_
  refine lv_istore_n (lv' := [(1, .int 0), (0, .ref (ad 8))]) hx hb dX0_tiesTold_1 rfl hl (by decide) rfl (fun ls hl => ?_)
  refine lv_iconst (v := 0) hx hb dX0_tiesTold_2 (by decide) ?_
  refine lv_istore_n (lv' := [(2, .int 0), (1, .int 0), (0, .ref (ad 8))]) hx hb dX0_tiesTold_3 rfl hl (by decide) rfl (fun ls hl => ?_)
  refine ww_r (fun WW4 hWW4 => ?_)
  have Lh4 : ∀ (n : Nat) (v1 : Int32) (v2 : Int32) (z : (Int32)), lX0_tiesTold_4 S L n v1 v2 = some z → ∀ ls : Array Slot, lv_has ls 3 [(0, .ref (ad 8)), (1, .int v1), (2, .int v2)] → (∀ (y0 : Int32), z = y0 → ∀ ls : Array Slot, lv_has ls 3 [(1, .int y0)] → WW4  32 ls) → WW4  4 ls := by
    intro n
    induction n with
    | zero => intro v1 v2 z h ls hl K0; rw [lX0_tiesTold_4] at h; cases h
    | succ n ih =>
      intro v1 v2 z h ls hl K0
      rw [lX0_tiesTold_4] at h
      refine wi_r hWW4 ?_
      refine lv_iload_n hx hb dX0_tiesTold_4 rfl (lv_at hl 2 rfl) ?_
      refine lv_bipush (v := 6) hx hb dX0_tiesTold_5 (by decide) ?_
      refine lv_icmp_ge (tgt := 32) hx hb dX0_tiesTold_7 (by decide) (fun c3 => ?_) (fun c3 => ?_)
      · replace h := it_t c3 h
        refine wu_r hWW4 ?_
        exact K0 v1 (Option.some.inj h).symm ls (lv_sub hl [1] rfl)
      · replace h := it_f c3 h
        refine lv_aload_n hx hb dX0_tiesTold_10 rfl (lv_at hl 0 rfl) ?_
        refine va_get (D := (dC, dI)) (ci := 0) (v := .ref (ad 6)) (C := RX0) (T := TX0) (N := 3) hx hb hts hiX0 hown hK hP 8 rfl rfl 1 (by decide) hf19 (fun _ h9 => h9) rfl dX0_tiesTold_11 ?_
        refine va_get (D := (dC, dI)) (ci := 4) (v := .ref (ad 35)) (C := RX4) (T := TX4) (N := 9) hx hb hts hiX4 hown hK hP 6 rfl rfl 3 (by decide) hf23 (fun _ h9 => h9) rfl dX0_tiesTold_14 ?_
        refine lv_iload_n hx hb dX0_tiesTold_17 rfl (lv_at hl 2 rfl) ?_
        obtain ⟨b4, h⟩ := ck_elim h
        refine va_iald hx hb hK hP 35 0 rfl rfl b4 dX0_tiesTold_18 ?_
        refine lv_iconst (v := (-1)) hx hb dX0_tiesTold_19 (by decide) ?_
        refine lv_icmp_eq (tgt := 26) hx hb dX0_tiesTold_20 (by decide) (fun c5 => ?_) (fun c5 => ?_)
        · replace h := it_t c5 h
          obtain ⟨x6, ex6, h⟩ := bnd_elim h
          refine lv_iinc (v := x6) (lv' := [(2, .int x6), (0, .ref (ad 8)), (1, .int v1)]) hx hb dX0_tiesTold_26 hl (k := 2) rfl (by rw [ex6]; rfl) (by decide) rfl (fun ls hl => ?_)
          refine lv_goto (tgt := 4) hx hb dX0_tiesTold_29 (by decide) ?_
          refine wu_r hWW4 ?_
          exact ih v1 x6 z h ls (lv_sub hl [1, 2, 0] rfl) K0
        · replace h := it_f c5 h
          obtain ⟨x7, ex7, h⟩ := bnd_elim h
          refine lv_iinc (v := x7) (lv' := [(1, .int x7), (0, .ref (ad 8)), (2, .int v2)]) hx hb dX0_tiesTold_23 hl (k := 1) rfl (by rw [ex7]; rfl) (by decide) rfl (fun ls hl => ?_)
          obtain ⟨x8, ex8, h⟩ := bnd_elim h
          refine lv_iinc (v := x8) (lv' := [(2, .int x8), (1, .int x7), (0, .ref (ad 8))]) hx hb dX0_tiesTold_26 hl (k := 2) rfl (by rw [ex8]; rfl) (by decide) rfl (fun ls hl => ?_)
          refine lv_goto (tgt := 4) hx hb dX0_tiesTold_29 (by decide) ?_
          refine wu_r hWW4 ?_
          exact ih x7 x8 z h ls (lv_sub hl [2, 1, 0] rfl) K0
  obtain ⟨w10, k9, h⟩ := ob_elim h
  refine wu_r hWW4 ?_
  refine Lh4 FU 0 0 _ k9 ls (lv_sub hl [2, 1, 0] rfl) ?_
  intro y0 hy ls hl
  cases hy
  refine wi_r hWW4 ?_
  refine lv_iload_n hx hb dX0_tiesTold_32 rfl (lv_at hl 0 rfl) ?_
  cases h
  exact W.iret hx hb hr (fun t ht hW => ⟨_, rfl, rfl, ht⟩) (fun q hq => absurd hq List.not_mem_nil) dX0_tiesTold_33
set_option maxHeartbeats 4000000 in
set_option maxRecDepth 100000 in
theorem mX0_leastUnlike (l : Launch) (dC : Nat → ClassId) (dI : Nat → Nat → Nat) (cI cJ : ClassId) (ad : Nat → Nat) (p1 : Int32) (p2 : Int32) (p3 : Int32) (p4 : Int32) (S : Nat → Nat → Int32) (L : Nat → Nat → Int64) (sz : Nat) {z : Int32 × (Nat → Nat → Int32) × (Nat → Nat → Int64)} (h : sX0_leastUnlike p1 p2 p3 p4 S L = some z) : Met l yX0_leastUnlike wsX0_leastUnlike ({ frames := 5, cells := 0, slots := 0, locals := 118 }) (va_Pc [.ref (ad 8), .int p1, .int p2, .int p3, .int p4] (QXs sz dC dI cI cJ ad S L)) (va_Qi (fun (r : Int32) (u : (Nat → Nat → Int32) × (Nat → Nat → Int64)) => (r, u) = z) (fun (u : (Nat → Nat → Int32) × (Nat → Nat → Int64)) t => va_P (dC, dI) vwCl (wX cI cJ ad u.1 u.2) t.heap) (AX 43 ad sz)) 0 0 (AX 43 ad sz) := by
  refine Met.ofW (cc := cX0_leastUnlike) (maxL := 9) (ret := (some .int)) (by decide) rfl ?_
  intro p e s m args below meth c s₁ B hml hv
  obtain ⟨rfl, hsz, hP, hK, hD0⟩ := hv
  have hx := B.exec
  have hb := B.bytes
  have hr := B.returns
  have hts := atoms_spec (ws := wsX0_leastUnlike) B.pre
  have hown : s.vm.findClass RX0 = some m.cls := findClass_of_methodNamed B.named
  have hlocks := B.notSynchronized
  subst hsz
  have hD := wX_DA hD0 s.heap.size
  have hS : va_S (AX 43 ad s.heap.size) s.heap s.heap [] := va_S.rf
  have hl := lv_entry ([.ref (ad 8), .int p1, .int p2, .int p3, .int p4]) (n := 9) (Nat.le_of_ble_eq_true rfl)
  rw [lg_entry_eq]
  generalize (lg_sl ([.ref (ad 8), .int p1, .int p2, .int p3, .int p4]) ++ List.replicate (9 - (lg_sl ([.ref (ad 8), .int p1, .int p2, .int p3, .int p4])).length) Slot.unset).toArray = ls at hl ⊢
  have hl : lv_has ls 9 [(0, .ref (ad 8)), (1, .int p1), (2, .int p2), (3, .int p3), (4, .int p4)] := hl
  rw [sX0_leastUnlike] at h
  refine lv_iconst (v := (-1)) hx hb dX0_leastUnlike_0 (by decide) ?_
  refine lv_istore (lv' := [(5, .int (-1)), (0, .ref (ad 8)), (1, .int p1), (2, .int p2), (3, .int p3), (4, .int p4)]) hx hb dX0_leastUnlike_1 hl (by decide) rfl (fun ls hl => ?_)
  refine lv_bipush (v := 7) hx hb dX0_leastUnlike_3 (by decide) ?_
  refine lv_istore (lv' := [(6, .int 7), (5, .int (-1)), (0, .ref (ad 8)), (1, .int p1), (2, .int p2), (3, .int p3), (4, .int p4)]) hx hb dX0_leastUnlike_5 hl (by decide) rfl (fun ls hl => ?_)
  refine lv_aload_n hx hb dX0_leastUnlike_7 rfl (lv_at hl 2 rfl) ?_
  refine lv_iload hx hb dX0_leastUnlike_8 (lv_at hl 6 rfl) ?_
  obtain ⟨S2, L3, k1, h⟩ := ob2_elim h
  refine va_callv (va_runV (As := [.int p4]) (rest := []) ⟨hx, hb, hml, hown, hts⟩ (mX0_start l dC dI cI cJ ad p4 S L s.heap.size k1) (cwV 1 hts gX0_leastUnlike_X0_start rfl rfl rfl (by decide +kernel) ⟨Nat.le_of_ble_eq_true rfl, Nat.le_of_ble_eq_true rfl⟩) ⟨QXs_blind, va_recv hK hP (ci := 0) (q0 := 8) rfl rfl, fun U hU hW => ⟨rfl, congrArg Array.size hU, QX_at hP hK hD hU hW⟩⟩ rfl rfl hl.1 rfl (lv_room (Nat.le_of_ble_eq_true rfl)) dX0_leastUnlike_10 ⟨Nat.zero_le _, Nat.zero_le _⟩) hS (fun q _ hq => AX_mono hS.1 hq) (fun q hq => AX_mono hS.1 hq) (fun u t H1 locs ht hvm hw hB hz1 hk1 hS => ?_)
  cases hw
  rw [ht] at hB
  have hP := hB
  clear hB hk1 hz1
  generalize H1 = H at hP hS ⊢
  have hD := wX_D hD S2 L3
  refine lv_iconst (v := 0) hx hb dX0_leastUnlike_13 (by decide) ?_
  refine lv_istore (lv' := [(7, .int 0), (6, .int 7), (5, .int (-1)), (0, .ref (ad 8)), (1, .int p1), (2, .int p2), (3, .int p3), (4, .int p4)]) hx hb dX0_leastUnlike_14 hl (by decide) rfl (fun ls hl => ?_)
  refine ww_w (fun WW16 hWW16 => ?_)
  have Lh16 : ∀ (n : Nat) (v4 : Int32) (v5 : Int32) (v6 : Int32) (S7 : (Nat → Nat → Int32)) (L8 : (Nat → Nat → Int64)) (z : (Int32 × (Nat → Nat → Int32) × (Nat → Nat → Int64))), lX0_leastUnlike_16 p1 p2 p3 n v4 v5 v6 S7 L8 = some z → ∀ (H : Heap) (locs : List Loc), va_P (dC, dI) vwCl (wX cI cJ ad S7 L8) H → va_S (AX 43 ad s.heap.size) s.heap H locs → ∀ ls : Array Slot, lv_has ls 9 [(0, .ref (ad 8)), (1, .int p1), (2, .int p2), (3, .int p3), (5, .int v4), (6, .int v5), (7, .int v6)] → (∀ (y0 : Int32) (YS : (Nat → Nat → Int32)) (YL : (Nat → Nat → Int64)), z = (y0, YS, YL) → ∀ (H : Heap) (locs : List Loc), va_P (dC, dI) vwCl (wX cI cJ ad YS YL) H → va_S (AX 43 ad s.heap.size) s.heap H locs → ∀ ls : Array Slot, lv_has ls 9 [(5, .int y0)] → WW16 H locs 66 ls) → WW16 H locs 16 ls := by
    intro n
    induction n with
    | zero => intro v4 v5 v6 S7 L8 z h H locs hP hS ls hl K0; rw [lX0_leastUnlike_16] at h; cases h
    | succ n ih =>
      intro v4 v5 v6 S7 L8 z h H locs hP hS ls hl K0
      have hD := wX_D hD S7 L8
      rw [lX0_leastUnlike_16] at h
      refine wi_w hWW16 ?_
      refine lv_iload hx hb dX0_leastUnlike_16 (lv_at hl 6 rfl) ?_
      refine lv_sipush (v := 15625) hx hb dX0_leastUnlike_18 (by decide) ?_
      refine lv_icmp_ge (tgt := 66) hx hb dX0_leastUnlike_21 (by decide) (fun c9 => ?_) (fun c9 => ?_)
      · replace h := it_t c9 h
        refine wu_w hWW16 ?_
        exact K0 v4 S7 L8 (Option.some.inj h).symm H locs hP hS ls (lv_sub hl [4] rfl)
      · replace h := it_f c9 h
        refine lv_aload_n hx hb dX0_leastUnlike_24 rfl (lv_at hl 0 rfl) ?_
        refine lv_iload hx hb dX0_leastUnlike_25 (lv_at hl 6 rfl) ?_
        refine lv_iload_n hx hb dX0_leastUnlike_27 rfl (lv_at hl 1 rfl) ?_
        refine lv_iload_n hx hb dX0_leastUnlike_28 rfl (lv_at hl 2 rfl) ?_
        refine lv_iload_n hx hb dX0_leastUnlike_29 rfl (lv_at hl 3 rfl) ?_
        obtain ⟨r13, S11, L12, k10, h⟩ := ob3_elim h
        refine va_calli (va_runV (As := [.int v6, .int p1, .int p2, .int p3]) (rest := []) ⟨hx, hb, hml, hown, hts⟩ (mX0_partIn l dC dI cI cJ ad v6 p1 p2 p3 S7 L8 H.size k10) (cwV 4 hts gX0_leastUnlike_X0_partIn rfl rfl rfl (by decide +kernel) ⟨Nat.le_of_ble_eq_true rfl, Nat.le_of_ble_eq_true rfl⟩) ⟨QXs_blind, va_recv hK hP (ci := 0) (q0 := 8) rfl rfl, fun U hU hW => ⟨rfl, congrArg Array.size hU, QX_at hP hK hD hU hW⟩⟩ rfl rfl hl.1 rfl (lv_room (Nat.le_of_ble_eq_true rfl)) dX0_leastUnlike_30 ⟨Nat.zero_le _, Nat.zero_le _⟩) hS (fun q _ hq => AX_mono hS.1 hq) (fun q hq => AX_mono hS.1 hq) (fun r u t H1 locs ht hvm hw hB hz1 hk1 hS => ?_)
        cases hw
        rw [ht] at hB
        have hP := hB
        clear hB hk1 hz1
        generalize H1 = H at hP hS ⊢
        have hD := wX_D hD S11 L12
        refine lv_if_ne (tgt := 39) hx hb dX0_leastUnlike_33 (by decide) (fun c14 => ?_) (fun c14 => ?_)
        · replace h := it_f c14 h
          refine lv_aload_n hx hb dX0_leastUnlike_39 rfl (lv_at hl 0 rfl) ?_
          obtain ⟨r16, k15, h⟩ := ob_elim h
          refine vp_callSi (W.runV (As := []) (rest := []) ⟨hx, hb, hml, hown, hts⟩ (mX0_tiesTold l dC dI cI cJ ad S11 L12 k15) (cwV 0 hts gX0_leastUnlike_X0_tiesTold rfl rfl rfl (by decide +kernel) ⟨Nat.le_of_ble_eq_true rfl, Nat.le_of_ble_eq_true rfl⟩) ⟨QX_blind, va_recv hK hP (ci := 0) (q0 := 8) rfl rfl, fun U hU hW => ⟨rfl, QX_at hP hK hD hU hW⟩⟩ rfl rfl hl.1 rfl (lv_room (Nat.le_of_ble_eq_true rfl)) dX0_leastUnlike_40 ⟨Nat.zero_le _, Nat.zero_le _⟩) (fun r9 er9 => ?_)
          replace er9 := er9.symm
          subst er9
          refine lv_istore (lv' := [(8, .int r16), (0, .ref (ad 8)), (1, .int p1), (2, .int p2), (3, .int p3), (5, .int v4), (6, .int v5), (7, .int v6)]) hx hb dX0_leastUnlike_43 hl (by decide) rfl (fun ls hl => ?_)
          refine lv_iload hx hb dX0_leastUnlike_45 (lv_at hl 0 rfl) ?_
          refine lv_iload hx hb dX0_leastUnlike_47 (lv_at hl 6 rfl) ?_
          refine lv_icmp_ge (tgt := 60) hx hb dX0_leastUnlike_49 (by decide) (fun c17 => ?_) (fun c17 => ?_)
          · replace h := it_t c17 h
            obtain ⟨x18, ex18, h⟩ := bnd_elim h
            refine lv_iinc (v := x18) (lv' := [(7, .int x18), (8, .int r16), (0, .ref (ad 8)), (1, .int p1), (2, .int p2), (3, .int p3), (5, .int v4), (6, .int v5)]) hx hb dX0_leastUnlike_60 hl (k := 7) rfl (by rw [ex18]; rfl) (by decide) rfl (fun ls hl => ?_)
            refine lv_goto (tgt := 16) hx hb dX0_leastUnlike_63 (by decide) ?_
            refine wu_w hWW16 ?_
            exact ih v4 v5 x18 S11 L12 z h H locs hP hS ls (lv_sub hl [2, 3, 4, 5, 6, 7, 0] rfl) K0
          · replace h := it_f c17 h
            refine lv_iload hx hb dX0_leastUnlike_52 (lv_at hl 0 rfl) ?_
            refine lv_istore (lv' := [(6, .int r16), (8, .int r16), (0, .ref (ad 8)), (1, .int p1), (2, .int p2), (3, .int p3), (5, .int v4), (7, .int v6)]) hx hb dX0_leastUnlike_54 hl (by decide) rfl (fun ls hl => ?_)
            refine lv_iload hx hb dX0_leastUnlike_56 (lv_at hl 7 rfl) ?_
            refine lv_istore (lv' := [(5, .int v6), (6, .int r16), (8, .int r16), (0, .ref (ad 8)), (1, .int p1), (2, .int p2), (3, .int p3), (7, .int v6)]) hx hb dX0_leastUnlike_58 hl (by decide) rfl (fun ls hl => ?_)
            obtain ⟨x19, ex19, h⟩ := bnd_elim h
            refine lv_iinc (v := x19) (lv' := [(7, .int x19), (5, .int v6), (6, .int r16), (8, .int r16), (0, .ref (ad 8)), (1, .int p1), (2, .int p2), (3, .int p3)]) hx hb dX0_leastUnlike_60 hl (k := 7) rfl (by rw [ex19]; rfl) (by decide) rfl (fun ls hl => ?_)
            refine lv_goto (tgt := 16) hx hb dX0_leastUnlike_63 (by decide) ?_
            refine wu_w hWW16 ?_
            exact ih v6 r16 x19 S11 L12 z h H locs hP hS ls (lv_sub hl [4, 5, 6, 7, 1, 2, 0] rfl) K0
        · replace h := it_t c14 h
          refine lv_goto (tgt := 60) hx hb dX0_leastUnlike_36 (by decide) ?_
          obtain ⟨x20, ex20, h⟩ := bnd_elim h
          refine lv_iinc (v := x20) (lv' := [(7, .int x20), (0, .ref (ad 8)), (1, .int p1), (2, .int p2), (3, .int p3), (5, .int v4), (6, .int v5)]) hx hb dX0_leastUnlike_60 hl (k := 6) rfl (by rw [ex20]; rfl) (by decide) rfl (fun ls hl => ?_)
          refine lv_goto (tgt := 16) hx hb dX0_leastUnlike_63 (by decide) ?_
          refine wu_w hWW16 ?_
          exact ih v4 v5 x20 S11 L12 z h H locs hP hS ls (lv_sub hl [1, 2, 3, 4, 5, 6, 0] rfl) K0
  obtain ⟨w22, S23, L24, k21, h⟩ := ob3_elim h
  refine wu_w hWW16 ?_
  refine Lh16 FU (-1) 7 0 S2 L3 _ k21 H locs hP hS ls (lv_sub hl [3, 4, 5, 6, 2, 1, 0] rfl) ?_
  intro y0 y1 y2 hy H locs hP hS ls hl
  cases hy
  have hD := wX_D hD S23 L24
  refine wi_w hWW16 ?_
  refine lv_iload hx hb dX0_leastUnlike_66 (lv_at hl 0 rfl) ?_
  cases h
  exact W.iret hx hb hr (fun t ht hW => ⟨⟨_, _, rfl, rfl, by show va_P _ _ _ t.heap; rw [ht]; exact hP⟩, hS.F ht⟩) hS.2.2 dX0_leastUnlike_68
set_option maxHeartbeats 4000000 in
set_option maxRecDepth 100000 in
theorem mX10_least (l : Launch) (dC : Nat → ClassId) (dI : Nat → Nat → Nat) (cI cJ : ClassId) (ad : Nat → Nat) (p1 : Int32) (p2 : Int32) (p3 : Int32) (p4 : Int32) (S : Nat → Nat → Int32) (L : Nat → Nat → Int64) (sz : Nat) {z : Int32 × (Nat → Nat → Int32) × (Nat → Nat → Int64)} (h : sX10_least p1 p2 p3 p4 S L = some z) : Met l yX10_least wsX10_least ({ frames := 6, cells := 0, slots := 0, locals := 146 }) (va_Pc [.ref (ad 0), .int p1, .int p2, .int p3, .int p4] (QXs sz dC dI cI cJ ad S L)) (va_Qi (fun (r : Int32) (u : (Nat → Nat → Int32) × (Nat → Nat → Int64)) => (r, u) = z) (fun (u : (Nat → Nat → Int32) × (Nat → Nat → Int64)) t => va_P (dC, dI) vwCl (wX cI cJ ad u.1 u.2) t.heap) (AX 43 ad sz)) 0 0 (AX 43 ad sz) := by
  refine Met.ofW (cc := cX10_least) (maxL := 5) (ret := (some .int)) (by decide) rfl ?_
  intro p e s m args below meth c s₁ B hml hv
  obtain ⟨rfl, hsz, hP, hK, hD0⟩ := hv
  have hx := B.exec
  have hb := B.bytes
  have hr := B.returns
  have hts := atoms_spec (ws := wsX10_least) B.pre
  have hown : s.vm.findClass RX10 = some m.cls := findClass_of_methodNamed B.named
  have hlocks := B.notSynchronized
  subst hsz
  have hD := wX_DA hD0 s.heap.size
  have hS : va_S (AX 43 ad s.heap.size) s.heap s.heap [] := va_S.rf
  have hl := lv_entry ([.ref (ad 0), .int p1, .int p2, .int p3, .int p4]) (n := 5) (Nat.le_of_ble_eq_true rfl)
  rw [lg_entry_eq]
  generalize (lg_sl ([.ref (ad 0), .int p1, .int p2, .int p3, .int p4]) ++ List.replicate (5 - (lg_sl ([.ref (ad 0), .int p1, .int p2, .int p3, .int p4])).length) Slot.unset).toArray = ls at hl ⊢
  have hl : lv_has ls 5 [(0, .ref (ad 0)), (1, .int p1), (2, .int p2), (3, .int p3), (4, .int p4)] := hl
  have hf58 := hts (.fieldLink RX10 58 "LawRings" "allCases" "LLawRings$AllCases;") (by decide +kernel)
  have hiX10 : ∀ w ∈ u_ws RX10 TX10 11, w ∈ wsX10_least := by decide +kernel
  rw [sX10_least] at h
  refine lv_iload_n hx hb dX10_least_0 rfl (lv_at hl 1 rfl) ?_
  refine lv_iload_n hx hb dX10_least_1 rfl (lv_at hl 3 rfl) ?_
  refine lv_iload hx hb dX10_least_2 (lv_at hl 4 rfl) ?_
  obtain ⟨r2, k1, h⟩ := ob_elim h
  refine vp_callSi (W.runS (As := [.int p1, .int p3, .int p4]) (rest := []) ⟨hx, hb, hml, hown, hts⟩ (mX10_isTable l p1 p3 p4 k1) (va_cwS 3 hts gX10_least_X10_isTable rfl rfl rfl (by decide +kernel) ⟨Nat.le_of_ble_eq_true rfl, Nat.le_of_ble_eq_true rfl⟩) ⟨fun _ _ _ _ q => q, fun U hU hW => ⟨rfl, trivial⟩⟩ rfl rfl hl.1 rfl (lv_room (Nat.le_of_ble_eq_true rfl)) dX10_least_4 ⟨Nat.zero_le _, Nat.zero_le _⟩) (fun r9 er9 => ?_)
  replace er9 := er9.symm
  subst er9
  refine lv_if_eq (tgt := 18) hx hb dX10_least_7 (by decide) (fun c3 => ?_) (fun c3 => ?_)
  · replace h := it_t c3 h
    refine lv_bipush (v := (-2)) hx hb dX10_least_18 (by decide) ?_
    cases h
    exact W.iret hx hb hr (fun t ht hW => ⟨⟨_, _, rfl, rfl, by show va_P _ _ _ t.heap; rw [ht]; exact hP⟩, hS.F ht⟩) hS.2.2 dX10_least_20
  · replace h := it_f c3 h
    refine lv_iload_n hx hb dX10_least_10 rfl (lv_at hl 1 rfl) ?_
    refine lv_iload_n hx hb dX10_least_11 rfl (lv_at hl 2 rfl) ?_
    obtain ⟨r5, k4, h⟩ := ob_elim h
    refine vp_callSi (W.runS (As := [.int p1, .int p2]) (rest := []) ⟨hx, hb, hml, hown, hts⟩ (mX10_isOther l p1 p2 k4) (va_cwS 2 hts gX10_least_X10_isOther rfl rfl rfl (by decide +kernel) ⟨Nat.le_of_ble_eq_true rfl, Nat.le_of_ble_eq_true rfl⟩) ⟨fun _ _ _ _ q => q, fun U hU hW => ⟨rfl, trivial⟩⟩ rfl rfl hl.1 rfl (lv_room (Nat.le_of_ble_eq_true rfl)) dX10_least_12 ⟨Nat.zero_le _, Nat.zero_le _⟩) (fun r9 er9 => ?_)
    replace er9 := er9.symm
    subst er9
    refine lv_if_ne (tgt := 21) hx hb dX10_least_15 (by decide) (fun c6 => ?_) (fun c6 => ?_)
    · replace h := it_f c6 h
      refine lv_aload_n hx hb dX10_least_21 rfl (lv_at hl 0 rfl) ?_
      refine va_get (D := (dC, dI)) (ci := 10) (v := .ref (ad 8)) (C := RX10) (T := TX10) (N := 11) hx hb hts hiX10 hown hK hP 0 rfl rfl 6 (by decide) hf58 (fun _ h9 => h9) rfl dX10_least_22 ?_
      refine lv_iload_n hx hb dX10_least_25 rfl (lv_at hl 1 rfl) ?_
      refine lv_iload_n hx hb dX10_least_26 rfl (lv_at hl 2 rfl) ?_
      refine lv_iload_n hx hb dX10_least_27 rfl (lv_at hl 3 rfl) ?_
      refine lv_iload hx hb dX10_least_28 (lv_at hl 4 rfl) ?_
      obtain ⟨r10, S8, L9, k7, h⟩ := ob3_elim h
      refine va_calli (va_runV (As := [.int p1, .int p2, .int p3, .int p4]) (rest := []) ⟨hx, hb, hml, hown, hts⟩ (mX0_leastUnlike l dC dI cI cJ ad p1 p2 p3 p4 S L s.heap.size k7) (cwV 4 hts gX10_least_X0_leastUnlike rfl rfl rfl (by decide +kernel) ⟨Nat.le_of_ble_eq_true rfl, Nat.le_of_ble_eq_true rfl⟩) ⟨QXs_blind, va_recv hK hP (ci := 0) (q0 := 8) rfl rfl, fun U hU hW => ⟨rfl, congrArg Array.size hU, QX_at hP hK hD hU hW⟩⟩ rfl rfl hl.1 rfl (lv_room (Nat.le_of_ble_eq_true rfl)) dX10_least_30 ⟨Nat.zero_le _, Nat.zero_le _⟩) hS (fun q _ hq => AX_mono hS.1 hq) (fun q hq => AX_mono hS.1 hq) (fun r u t H1 locs ht hvm hw hB hz1 hk1 hS => ?_)
      cases hw
      rw [ht] at hB
      have hP := hB
      clear hB hk1 hz1
      generalize H1 = H at hP hS ⊢
      have hD := wX_D hD S8 L9
      cases h
      exact W.iret hx hb hr (fun t ht hW => ⟨⟨_, _, rfl, rfl, by show va_P _ _ _ t.heap; rw [ht]; exact hP⟩, hS.F ht⟩) hS.2.2 dX10_least_33
    · replace h := it_t c6 h
      refine lv_bipush (v := (-2)) hx hb dX10_least_18 (by decide) ?_
      cases h
      exact W.iret hx hb hr (fun t ht hW => ⟨⟨_, _, rfl, rfl, by show va_P _ _ _ t.heap; rw [ht]; exact hP⟩, hS.F ht⟩) hS.2.2 dX10_least_20
