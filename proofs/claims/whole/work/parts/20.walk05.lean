set_option maxHeartbeats 4000000 in
set_option maxRecDepth 100000 in
theorem mX6_first (l : Launch) (dC : Nat → ClassId) (dI : Nat → Nat → Nat) (cI cJ : ClassId) (ad : Nat → Nat) (p1 : Int64) (p2 : Int32) (p3 : Int32) (S : Nat → Nat → Int32) (L : Nat → Nat → Int64) {z : Int32} (h : sX6_first p1 p2 p3 S L = some z) : Met l yX6_first wsX6_first ({ frames := 1, cells := 0, slots := 0, locals := 21 }) (va_Pc [.ref (ad 2), .long p1, .int p2, .int p3] (QX dC dI cI cJ ad S L)) (vp_Si (fun r => r = z)) 0 0 (fun _ => False) := by
  refine Met.ofW (cc := cX6_first) (maxL := 7) (ret := (some .int)) (by decide) rfl ?_
  intro p e s m args below meth c s₁ B hml hv
  obtain ⟨rfl, hP, hK, hD⟩ := hv
  have hx := B.exec
  have hb := B.bytes
  have hr := B.returns
  have hts := atoms_spec (ws := wsX6_first) B.pre
  have hown : s.vm.findClass RX6 = some m.cls := findClass_of_methodNamed B.named
  have hlocks := B.notSynchronized
  have hl := lv_entry ([.ref (ad 2), .long p1, .int p2, .int p3]) (n := 7) (Nat.le_of_ble_eq_true rfl)
  rw [lg_entry_eq]
  generalize (lg_sl ([.ref (ad 2), .long p1, .int p2, .int p3]) ++ List.replicate (7 - (lg_sl ([.ref (ad 2), .long p1, .int p2, .int p3])).length) Slot.unset).toArray = ls at hl ⊢
  have hl : lv_has ls 7 [(0, .ref (ad 2)), (1, .long p1), (3, .int p2), (4, .int p3)] := hl
  have hf39 := hts (.fieldLink RX6 39 "LawRings$Rules" "book" "[J") (by decide +kernel)
  have hiX6 : ∀ w ∈ u_ws RX6 TX6 13, w ∈ wsX6_first := by decide +kernel
  rw [sX6_first] at h
  refine lv_lload_n hx hb dX6_first_0 rfl (lv_at hl 1 rfl) ?_
  refine lv_aload_n hx hb dX6_first_1 rfl (lv_at hl 0 rfl) ?_
  refine va_get (D := (dC, dI)) (ci := 6) (v := .ref (ad 26)) (C := RX6) (T := TX6) (N := 13) hx hb hts hiX6 hown hK hP 2 rfl rfl 10 (by decide) hf39 (fun _ h9 => h9) rfl dX6_first_2 ?_
  refine lv_iload_n hx hb dX6_first_5 rfl (lv_at hl 2 rfl) ?_
  refine lv_iconst (v := 3) hx hb dX6_first_6 (by decide) ?_
  refine lv_imul hx hb dX6_first_7 ?_
  refine lv_iload hx hb dX6_first_8 (lv_at hl 3 rfl) ?_
  refine lv_iadd hx hb dX6_first_10 ?_
  obtain ⟨b1, h⟩ := ck_elim h
  refine va_lald hx hb hK hP 26 1 rfl rfl b1 dX6_first_11 ?_
  refine lv_land hx hb dX6_first_12 ?_
  obtain ⟨x2, ex2, h⟩ := bnd_elim h
  refine nm_l ex2 ?_
  refine lv_lstore (lv' := [(5, .long x2), (0, .ref (ad 2)), (1, .long p1), (3, .int p2), (4, .int p3)]) hx hb dX6_first_13 hl (by decide) rfl (fun ls hl => ?_)
  refine lv_lload hx hb dX6_first_15 (lv_at hl 0 rfl) ?_
  refine lv_lconst (v := 0) hx hb dX6_first_17 (by decide) ?_
  refine W.lcmp hx hb dX6_first_18 ?_
  refine lv_if_ne (tgt := 26) hx hb dX6_first_19 (by decide) (fun c3 => ?_) (fun c3 => ?_)
  · replace h := it_f c3 h
    refine lv_lload hx hb dX6_first_26 (lv_at hl 0 rfl) ?_
    refine lv_lload hx hb dX6_first_28 (lv_at hl 0 rfl) ?_
    refine lv_lneg hx hb dX6_first_30 ?_
    refine lv_land hx hb dX6_first_31 ?_
    refine lv_lconst (v := 1) hx hb dX6_first_32 (by decide) ?_
    refine lv_lsub hx hb dX6_first_33 ?_
    obtain ⟨r5, k4, h⟩ := ob_elim h
    refine vp_callSi (W.runS (As := [.long ((x2 &&& (-x2)) - 1)]) (rest := []) ⟨hx, hb, hml, hown, hts⟩ (mJ13_bitCount_95d88 l ((x2 &&& (-x2)) - 1) k4) (va_cwS 1 hts gX6_first_J13_bitCount_95d88 rfl rfl rfl (by decide +kernel) ⟨Nat.le_of_ble_eq_true rfl, Nat.le_of_ble_eq_true rfl⟩) ⟨fun _ _ _ _ q => q, fun U hU hW => ⟨rfl, trivial⟩⟩ rfl rfl hl.1 rfl (lv_room (Nat.le_of_ble_eq_true rfl)) dX6_first_34 ⟨Nat.zero_le _, Nat.zero_le _⟩) (fun r9 er9 => ?_)
    replace er9 := er9.symm
    subst er9
    cases h
    exact W.iret hx hb hr (fun t ht hW => ⟨_, rfl, rfl, ht⟩) (fun q hq => absurd hq List.not_mem_nil) dX6_first_37
  · replace h := it_t c3 h
    refine lv_iconst (v := (-1)) hx hb dX6_first_22 (by decide) ?_
    refine lv_goto (tgt := 37) hx hb dX6_first_23 (by decide) ?_
    cases h
    exact W.iret hx hb hr (fun t ht hW => ⟨_, rfl, rfl, ht⟩) (fun q hq => absurd hq List.not_mem_nil) dX6_first_37
set_option maxHeartbeats 4000000 in
set_option maxRecDepth 100000 in
theorem mX10_says (l : Launch) (dC : Nat → ClassId) (dI : Nat → Nat → Nat) (cI cJ : ClassId) (ad : Nat → Nat) (p1 : Int32) (p2 : Int32) (p3 : Int32) (S : Nat → Nat → Int32) (L : Nat → Nat → Int64) (sz : Nat) {z : Int32 × (Nat → Nat → Int32) × (Nat → Nat → Int64)} (h : sX10_says p1 p2 p3 S L = some z) : Met l yX10_says wsX10_says ({ frames := 3, cells := 0, slots := 0, locals := 69 }) (va_Pc [.ref (ad 0), .int p1, .int p2, .int p3] (QXs sz dC dI cI cJ ad S L)) (va_Qi (fun (r : Int32) (u : (Nat → Nat → Int32) × (Nat → Nat → Int64)) => (r, u) = z) (fun (u : (Nat → Nat → Int32) × (Nat → Nat → Int64)) t => va_P (dC, dI) vwCl (wX cI cJ ad u.1 u.2) t.heap) (AX 43 ad sz)) 0 0 (AX 43 ad sz) := by
  refine Met.ofW (cc := cX10_says) (maxL := 4) (ret := (some .int)) (by decide) rfl ?_
  intro p e s m args below meth c s₁ B hml hv
  obtain ⟨rfl, hsz, hP, hK, hD0⟩ := hv
  have hx := B.exec
  have hb := B.bytes
  have hr := B.returns
  have hts := atoms_spec (ws := wsX10_says) B.pre
  have hown : s.vm.findClass RX10 = some m.cls := findClass_of_methodNamed B.named
  have hlocks := B.notSynchronized
  subst hsz
  have hD := wX_DA hD0 s.heap.size
  have hS : va_S (AX 43 ad s.heap.size) s.heap s.heap [] := va_S.rf
  have hl := lv_entry ([.ref (ad 0), .int p1, .int p2, .int p3]) (n := 4) (Nat.le_of_ble_eq_true rfl)
  rw [lg_entry_eq]
  generalize (lg_sl ([.ref (ad 0), .int p1, .int p2, .int p3]) ++ List.replicate (4 - (lg_sl ([.ref (ad 0), .int p1, .int p2, .int p3])).length) Slot.unset).toArray = ls at hl ⊢
  have hl : lv_has ls 4 [(0, .ref (ad 0)), (1, .int p1), (2, .int p2), (3, .int p3)] := hl
  have hf49 := hts (.fieldLink RX10 49 "LawRings" "hearing" "LLawRings$Hearing;") (by decide +kernel)
  have hiX10 : ∀ w ∈ u_ws RX10 TX10 11, w ∈ wsX10_says := by decide +kernel
  have hf12 := hts (.fieldLink RX10 12 "LawRings" "cases" "LLawRings$Cases;") (by decide +kernel)
  have hf19 := hts (.fieldLink RX10 19 "LawRings" "rules" "LLawRings$Rules;") (by decide +kernel)
  have hf163 := hts (.fieldLink RX10 163 "LawRings$Hearing" "held" "J") (by decide +kernel)
  have hiX4 : ∀ w ∈ u_ws RX4 TX4 9, w ∈ wsX10_says := by decide +kernel
  have hf26 := hts (.fieldLink RX10 26 "LawRings" "lands" "LLawRings$Lands;") (by decide +kernel)
  rw [sX10_says] at h
  refine lv_aload_n hx hb dX10_says_0 rfl (lv_at hl 0 rfl) ?_
  refine lv_iload_n hx hb dX10_says_1 rfl (lv_at hl 1 rfl) ?_
  refine lv_iload_n hx hb dX10_says_2 rfl (lv_at hl 2 rfl) ?_
  refine lv_iload_n hx hb dX10_says_3 rfl (lv_at hl 3 rfl) ?_
  obtain ⟨r2, k1, h⟩ := ob_elim h
  refine vp_callSi (W.runV (As := [.int p1, .int p2, .int p3]) (rest := []) ⟨hx, hb, hml, hown, hts⟩ (mX10_isQuestion l dC dI cI cJ ad p1 p2 p3 S L k1) (cwV 3 hts gX10_says_X10_isQuestion rfl rfl rfl (by decide +kernel) ⟨Nat.le_of_ble_eq_true rfl, Nat.le_of_ble_eq_true rfl⟩) ⟨QX_blind, va_recv hK hP (ci := 10) (q0 := 0) rfl rfl, fun U hU hW => ⟨rfl, QX_at hP hK hD hU hW⟩⟩ rfl rfl hl.1 rfl (lv_room (Nat.le_of_ble_eq_true rfl)) dX10_says_4 ⟨Nat.zero_le _, Nat.zero_le _⟩) (fun r9 er9 => ?_)
  replace er9 := er9.symm
  subst er9
  refine lv_if_ne (tgt := 13) hx hb dX10_says_7 (by decide) (fun c3 => ?_) (fun c3 => ?_)
  · replace h := it_f c3 h
    refine lv_aload_n hx hb dX10_says_13 rfl (lv_at hl 0 rfl) ?_
    refine va_get (D := (dC, dI)) (ci := 10) (v := .ref (ad 6)) (C := RX10) (T := TX10) (N := 11) hx hb hts hiX10 hown hK hP 0 rfl rfl 5 (by decide) hf49 (fun _ h9 => h9) rfl dX10_says_14 ?_
    refine lv_aload_n hx hb dX10_says_17 rfl (lv_at hl 0 rfl) ?_
    refine va_get (D := (dC, dI)) (ci := 10) (v := .ref (ad 1)) (C := RX10) (T := TX10) (N := 11) hx hb hts hiX10 hown hK hP 0 rfl rfl 0 (by decide) hf12 (fun _ h9 => h9) rfl dX10_says_18 ?_
    refine lv_iload_n hx hb dX10_says_21 rfl (lv_at hl 2 rfl) ?_
    obtain ⟨S5, L6, k4, h⟩ := ob2_elim h
    refine va_callv (va_runV (As := [.ref (ad 1), .int p2]) (rest := []) ⟨hx, hb, hml, hown, hts⟩ (mX4_open l dC dI cI cJ ad p2 S L s.heap.size k4) (cwV 2 hts gX10_says_X4_open rfl rfl rfl (by decide +kernel) ⟨Nat.le_of_ble_eq_true rfl, Nat.le_of_ble_eq_true rfl⟩) ⟨QXs_blind, va_recv hK hP (ci := 4) (q0 := 6) rfl rfl, fun U hU hW => ⟨rfl, congrArg Array.size hU, QX_at hP hK hD hU hW⟩⟩ rfl rfl hl.1 rfl (lv_room (Nat.le_of_ble_eq_true rfl)) dX10_says_22 ⟨Nat.zero_le _, Nat.zero_le _⟩) hS (fun q _ hq => AX_mono hS.1 hq) (fun q hq => AX_mono hS.1 hq) (fun u t H1 locs ht hvm hw hB hz1 hk1 hS => ?_)
    cases hw
    rw [ht] at hB
    have hP := hB
    clear hB hk1 hz1
    generalize H1 = H at hP hS ⊢
    have hD := wX_D hD S5 L6
    refine lv_aload_n hx hb dX10_says_25 rfl (lv_at hl 0 rfl) ?_
    refine va_get (D := (dC, dI)) (ci := 10) (v := .ref (ad 2)) (C := RX10) (T := TX10) (N := 11) hx hb hts hiX10 hown hK hP 0 rfl rfl 1 (by decide) hf19 (fun _ h9 => h9) rfl dX10_says_26 ?_
    refine lv_aload_n hx hb dX10_says_29 rfl (lv_at hl 0 rfl) ?_
    refine va_get (D := (dC, dI)) (ci := 10) (v := .ref (ad 6)) (C := RX10) (T := TX10) (N := 11) hx hb hts hiX10 hown hK hP 0 rfl rfl 5 (by decide) hf49 (fun _ h9 => h9) rfl dX10_says_30 ?_
    refine va_get (D := (dC, dI)) (ci := 4) (v := .long (L6 6 4)) (C := RX4) (T := TX4) (N := 9) hx hb hts hiX4 hown hK hP 6 rfl rfl 4 (by decide) hf163 (fun _ h9 => h9) rfl dX10_says_33 ?_
    refine lv_iload_n hx hb dX10_says_36 rfl (lv_at hl 1 rfl) ?_
    refine lv_aload_n hx hb dX10_says_37 rfl (lv_at hl 0 rfl) ?_
    refine va_get (D := (dC, dI)) (ci := 10) (v := .ref (ad 3)) (C := RX10) (T := TX10) (N := 11) hx hb hts hiX10 hown hK hP 0 rfl rfl 2 (by decide) hf26 (fun _ h9 => h9) rfl dX10_says_38 ?_
    refine lv_iload_n hx hb dX10_says_41 rfl (lv_at hl 1 rfl) ?_
    refine lv_iload_n hx hb dX10_says_42 rfl (lv_at hl 3 rfl) ?_
    obtain ⟨r8, k7, h⟩ := ob_elim h
    refine vp_callSi (W.runV (As := [.int p1, .int p3]) (rest := [.int p1, .long (L6 6 4), .ref (ad 2)]) ⟨hx, hb, hml, hown, hts⟩ (mX5_ownKind l dC dI cI cJ ad p1 p3 S5 L6 k7) (cwV 2 hts gX10_says_X5_ownKind rfl rfl rfl (by decide +kernel) ⟨Nat.le_of_ble_eq_true rfl, Nat.le_of_ble_eq_true rfl⟩) ⟨QX_blind, va_recv hK hP (ci := 5) (q0 := 3) rfl rfl, fun U hU hW => ⟨rfl, QX_at hP hK hD hU hW⟩⟩ rfl rfl hl.1 rfl (lv_room (Nat.le_of_ble_eq_true rfl)) dX10_says_43 ⟨Nat.zero_le _, Nat.zero_le _⟩) (fun r9 er9 => ?_)
    replace er9 := er9.symm
    subst er9
    obtain ⟨r10, k9, h⟩ := ob_elim h
    refine vp_callSi (W.runV (As := [.long (L6 6 4), .int p1, .int r8]) (rest := []) ⟨hx, hb, hml, hown, hts⟩ (mX6_first l dC dI cI cJ ad (L6 6 4) p1 r8 S5 L6 k9) (cwV 3 hts gX10_says_X6_first rfl rfl rfl (by decide +kernel) ⟨Nat.le_of_ble_eq_true rfl, Nat.le_of_ble_eq_true rfl⟩) ⟨QX_blind, va_recv hK hP (ci := 6) (q0 := 2) rfl rfl, fun U hU hW => ⟨rfl, QX_at hP hK hD hU hW⟩⟩ rfl rfl hl.1 rfl (lv_room (Nat.le_of_ble_eq_true rfl)) dX10_says_46 ⟨Nat.zero_le _, Nat.zero_le _⟩) (fun r9 er9 => ?_)
    replace er9 := er9.symm
    subst er9
    cases h
    exact W.iret hx hb hr (fun t ht hW => ⟨⟨_, _, rfl, rfl, by show va_P _ _ _ t.heap; rw [ht]; exact hP⟩, hS.F ht⟩) hS.2.2 dX10_says_49
  · replace h := it_t c3 h
    refine lv_bipush (v := (-10)) hx hb dX10_says_10 (by decide) ?_
    cases h
    exact W.iret hx hb hr (fun t ht hW => ⟨⟨_, _, rfl, rfl, by show va_P _ _ _ t.heap; rw [ht]; exact hP⟩, hS.F ht⟩) hS.2.2 dX10_says_12
set_option maxHeartbeats 4000000 in
set_option maxRecDepth 100000 in
theorem mX11_isAsked (l : Launch) (dC : Nat → ClassId) (dI : Nat → Nat → Nat) (cI cZ : ClassId) (ad : Nat → Nat) (p1 : Int32) (p2 : Int32) (p3 : Int32) (S : Nat → Nat → Int32) {z : Int32} (h : sX11_isAsked p1 p2 p3 S = some z) : Met l yX11_isAsked wsX11_isAsked ({ frames := 2, cells := 0, slots := 0, locals := 44 }) (va_Pc [.ref (ad 0), .int p1, .int p2, .int p3] (QM dC dI cI cZ ad S)) (vp_Si (fun r => r = z)) 0 0 (fun _ => False) := by
  refine Met.ofW (cc := cX11_isAsked) (maxL := 4) (ret := (some .boolean)) (by decide) rfl ?_
  intro p e s m args below meth c s₁ B hml hv
  obtain ⟨rfl, hP, hK, hD⟩ := hv
  have hx := B.exec
  have hb := B.bytes
  have hr := B.returns
  have hts := atoms_spec (ws := wsX11_isAsked) B.pre
  have hown : s.vm.findClass RX11 = some m.cls := findClass_of_methodNamed B.named
  have hlocks := B.notSynchronized
  have hl := lv_entry ([.ref (ad 0), .int p1, .int p2, .int p3]) (n := 4) (Nat.le_of_ble_eq_true rfl)
  rw [lg_entry_eq]
  generalize (lg_sl ([.ref (ad 0), .int p1, .int p2, .int p3]) ++ List.replicate (4 - (lg_sl ([.ref (ad 0), .int p1, .int p2, .int p3])).length) Slot.unset).toArray = ls at hl ⊢
  have hl : lv_has ls 4 [(0, .ref (ad 0)), (1, .int p1), (2, .int p2), (3, .int p3)] := hl
  rw [sX11_isAsked] at h
  refine lv_iload_n hx hb dX11_isAsked_0 rfl (lv_at hl 1 rfl) ?_
  obtain ⟨r2, k1, h⟩ := ob_elim h
  refine vp_callSi (W.runS (As := [.int p1]) (rest := []) ⟨hx, hb, hml, hown, hts⟩ (mX11_isLand l p1 k1) (va_cwS 1 hts gX11_isAsked_X11_isLand rfl rfl rfl (by decide +kernel) ⟨Nat.le_of_ble_eq_true rfl, Nat.le_of_ble_eq_true rfl⟩) ⟨fun _ _ _ _ q => q, fun U hU hW => ⟨rfl, trivial⟩⟩ rfl rfl hl.1 rfl (lv_room (Nat.le_of_ble_eq_true rfl)) dX11_isAsked_1 ⟨Nat.zero_le _, Nat.zero_le _⟩) (fun r9 er9 => ?_)
  replace er9 := er9.symm
  subst er9
  refine lv_if_eq (tgt := 27) hx hb dX11_isAsked_4 (by decide) (fun c3 => ?_) (fun c3 => ?_)
  · replace h := it_t c3 h
    refine lv_iconst (v := 0) hx hb dX11_isAsked_27 (by decide) ?_
    cases h
    exact W.zret hx hb hr rfl (fun t ht hW => ⟨_, rfl, rfl, ht⟩) (fun q hq => absurd hq List.not_mem_nil) dX11_isAsked_28
  · replace h := it_f c3 h
    refine lv_aload_n hx hb dX11_isAsked_7 rfl (lv_at hl 0 rfl) ?_
    refine lv_iconst (v := 0) hx hb dX11_isAsked_8 (by decide) ?_
    refine lv_iload_n hx hb dX11_isAsked_9 rfl (lv_at hl 2 rfl) ?_
    obtain ⟨r5, k4, h⟩ := ob_elim h
    refine vp_callSi (W.runV (As := [.int 0, .int p2]) (rest := []) ⟨hx, hb, hml, hown, hts⟩ (mX11_is l dC dI cI cZ ad 0 p2 S k4) (cwV 2 hts gX11_isAsked_X11_is rfl rfl rfl (by decide +kernel) ⟨Nat.le_of_ble_eq_true rfl, Nat.le_of_ble_eq_true rfl⟩) ⟨QM_blind, va_recv hK hP (ci := 11) (q0 := 0) rfl rfl, fun U hU hW => ⟨rfl, QM_at hP hK hD hU hW⟩⟩ rfl rfl hl.1 rfl (lv_room (Nat.le_of_ble_eq_true rfl)) dX11_isAsked_10 ⟨Nat.zero_le _, Nat.zero_le _⟩) (fun r9 er9 => ?_)
    replace er9 := er9.symm
    subst er9
    refine lv_if_eq (tgt := 27) hx hb dX11_isAsked_13 (by decide) (fun c6 => ?_) (fun c6 => ?_)
    · replace h := it_t c6 h
      refine lv_iconst (v := 0) hx hb dX11_isAsked_27 (by decide) ?_
      cases h
      exact W.zret hx hb hr rfl (fun t ht hW => ⟨_, rfl, rfl, ht⟩) (fun q hq => absurd hq List.not_mem_nil) dX11_isAsked_28
    · replace h := it_f c6 h
      refine lv_iload_n hx hb dX11_isAsked_16 rfl (lv_at hl 3 rfl) ?_
      obtain ⟨r8, k7, h⟩ := ob_elim h
      refine vp_callSi (W.runS (As := [.int p3]) (rest := []) ⟨hx, hb, hml, hown, hts⟩ (mX11_isKind l p3 k7) (va_cwS 1 hts gX11_isAsked_X11_isKind rfl rfl rfl (by decide +kernel) ⟨Nat.le_of_ble_eq_true rfl, Nat.le_of_ble_eq_true rfl⟩) ⟨fun _ _ _ _ q => q, fun U hU hW => ⟨rfl, trivial⟩⟩ rfl rfl hl.1 rfl (lv_room (Nat.le_of_ble_eq_true rfl)) dX11_isAsked_17 ⟨Nat.zero_le _, Nat.zero_le _⟩) (fun r9 er9 => ?_)
      replace er9 := er9.symm
      subst er9
      refine lv_if_eq (tgt := 27) hx hb dX11_isAsked_20 (by decide) (fun c9 => ?_) (fun c9 => ?_)
      · replace h := it_t c9 h
        refine lv_iconst (v := 0) hx hb dX11_isAsked_27 (by decide) ?_
        cases h
        exact W.zret hx hb hr rfl (fun t ht hW => ⟨_, rfl, rfl, ht⟩) (fun q hq => absurd hq List.not_mem_nil) dX11_isAsked_28
      · replace h := it_f c9 h
        refine lv_iconst (v := 1) hx hb dX11_isAsked_23 (by decide) ?_
        refine lv_goto (tgt := 28) hx hb dX11_isAsked_24 (by decide) ?_
        cases h
        exact W.zret hx hb hr rfl (fun t ht hW => ⟨_, rfl, rfl, ht⟩) (fun q hq => absurd hq List.not_mem_nil) dX11_isAsked_28
set_option maxHeartbeats 4000000 in
set_option maxRecDepth 100000 in
theorem mX11_firstOf (l : Launch) (dC : Nat → ClassId) (dI : Nat → Nat → Nat) (cI cZ : ClassId) (ad : Nat → Nat) (p1 : Int32) (p2 : Int32) (S : Nat → Nat → Int32) {z : Int32} (h : sX11_firstOf p1 p2 S = some z) : Met l yX11_firstOf wsX11_firstOf ({ frames := 3, cells := 0, slots := 0, locals := 67 }) (va_Pc [.ref (ad 0), .int p1, .int p2] (QM dC dI cI cZ ad S)) (vp_Si (fun r => r = z)) 0 0 (fun _ => False) := by
  refine Met.ofW (cc := cX11_firstOf) (maxL := 4) (ret := (some .int)) (by decide) rfl ?_
  intro p e s m args below meth c s₁ B hml hv
  obtain ⟨rfl, hP, hK, hD⟩ := hv
  have hx := B.exec
  have hb := B.bytes
  have hr := B.returns
  have hts := atoms_spec (ws := wsX11_firstOf) B.pre
  have hown : s.vm.findClass RX11 = some m.cls := findClass_of_methodNamed B.named
  have hlocks := B.notSynchronized
  have hl := lv_entry ([.ref (ad 0), .int p1, .int p2]) (n := 4) (Nat.le_of_ble_eq_true rfl)
  rw [lg_entry_eq]
  generalize (lg_sl ([.ref (ad 0), .int p1, .int p2]) ++ List.replicate (4 - (lg_sl ([.ref (ad 0), .int p1, .int p2])).length) Slot.unset).toArray = ls at hl ⊢
  have hl : lv_has ls 4 [(0, .ref (ad 0)), (1, .int p1), (2, .int p2)] := hl
  have hf7 := hts (.fieldLink RX11 7 "LawRingsModel" "st" "[I") (by decide +kernel)
  have hiX11 : ∀ w ∈ u_ws RX11 TX11 8, w ∈ wsX11_firstOf := by decide +kernel
  have hf16 := hts (.fieldLink RX11 16 "LawRingsModel" "isOut" "[Z") (by decide +kernel)
  rw [sX11_firstOf] at h
  refine lv_iconst (v := 0) hx hb dX11_firstOf_0 (by decide) ?_
  refine lv_istore_n (lv' := [(3, .int 0), (0, .ref (ad 0)), (1, .int p1), (2, .int p2)]) hx hb dX11_firstOf_1 rfl hl (by decide) rfl (fun ls hl => ?_)
  refine ww_r (fun WW2 hWW2 => ?_)
  have Lh2 : ∀ (n : Nat) (v1 : Int32) (z : ((Int32) ⊕ Unit)), lX11_firstOf_2 p1 p2 S n v1 = some z → ∀ ls : Array Slot, lv_has ls 4 [(0, .ref (ad 0)), (1, .int p1), (2, .int p2), (3, .int v1)] → (∀ (y0 : Int32), z = .inl y0 → ∀ ls : Array Slot, lv_has ls 4 [(3, .int y0)] → WW2  49 ls) → (z = .inr () → ∀ ls : Array Slot, lv_has ls 4 [] → WW2  57 ls) → WW2  2 ls := by
    intro n
    induction n with
    | zero => intro v1 z h ls hl K0 K1; rw [lX11_firstOf_2] at h; cases h
    | succ n ih =>
      intro v1 z h ls hl K0 K1
      rw [lX11_firstOf_2] at h
      refine wi_r hWW2 ?_
      refine lv_iload_n hx hb dX11_firstOf_2 rfl (lv_at hl 3 rfl) ?_
      refine lv_aload_n hx hb dX11_firstOf_3 rfl (lv_at hl 0 rfl) ?_
      refine va_get (D := (dC, dI)) (ci := 11) (v := .ref (ad 1)) (C := RX11) (T := TX11) (N := 8) hx hb hts hiX11 hown hK hP 0 rfl rfl 0 (by decide) hf7 (fun _ h9 => h9) rfl dX11_firstOf_4 ?_
      refine lv_iconst (v := 2) hx hb dX11_firstOf_7 (by decide) ?_
      obtain ⟨b2, h⟩ := ck_elim h
      refine va_iald hx hb hK hP 1 0 rfl rfl b2 dX11_firstOf_8 ?_
      refine lv_icmp_ge (tgt := 57) hx hb dX11_firstOf_9 (by decide) (fun c3 => ?_) (fun c3 => ?_)
      · replace h := it_t c3 h
        refine wu_r hWW2 ?_
        exact K1 (Option.some.inj h).symm ls (lv_sub hl [] rfl)
      · replace h := it_f c3 h
        refine lv_aload_n hx hb dX11_firstOf_12 rfl (lv_at hl 0 rfl) ?_
        refine lv_iload_n hx hb dX11_firstOf_13 rfl (lv_at hl 3 rfl) ?_
        refine lv_iconst (v := 0) hx hb dX11_firstOf_14 (by decide) ?_
        obtain ⟨r5, k4, h⟩ := ob_elim h
        refine vp_callSi (W.runV (As := [.int v1, .int 0]) (rest := []) ⟨hx, hb, hml, hown, hts⟩ (mX11_ruleOf l dC dI cI cZ ad v1 0 S k4) (cwV 2 hts gX11_firstOf_X11_ruleOf rfl rfl rfl (by decide +kernel) ⟨Nat.le_of_ble_eq_true rfl, Nat.le_of_ble_eq_true rfl⟩) ⟨QM_blind, va_recv hK hP (ci := 11) (q0 := 0) rfl rfl, fun U hU hW => ⟨rfl, QM_at hP hK hD hU hW⟩⟩ rfl rfl hl.1 rfl (lv_room (Nat.le_of_ble_eq_true rfl)) dX11_firstOf_15 ⟨Nat.zero_le _, Nat.zero_le _⟩) (fun r9 er9 => ?_)
        replace er9 := er9.symm
        subst er9
        refine lv_iload_n hx hb dX11_firstOf_18 rfl (lv_at hl 1 rfl) ?_
        refine lv_icmp_ne (tgt := 51) hx hb dX11_firstOf_19 (by decide) (fun c6 => ?_) (fun c6 => ?_)
        · replace h := it_f c6 h
          obtain ⟨x7, ex7, h⟩ := bnd_elim h
          refine lv_iinc (v := x7) (lv' := [(3, .int x7), (0, .ref (ad 0)), (1, .int p1), (2, .int p2)]) hx hb dX11_firstOf_51 hl (k := 3) rfl (by rw [ex7]; rfl) (by decide) rfl (fun ls hl => ?_)
          refine lv_goto (tgt := 2) hx hb dX11_firstOf_54 (by decide) ?_
          refine wu_r hWW2 ?_
          exact ih x7 z h ls (lv_sub hl [1, 2, 3, 0] rfl) K0 K1
        · replace h := it_t c6 h
          refine lv_aload_n hx hb dX11_firstOf_22 rfl (lv_at hl 0 rfl) ?_
          refine lv_iload_n hx hb dX11_firstOf_23 rfl (lv_at hl 3 rfl) ?_
          refine lv_iconst (v := 1) hx hb dX11_firstOf_24 (by decide) ?_
          obtain ⟨r9, k8, h⟩ := ob_elim h
          refine vp_callSi (W.runV (As := [.int v1, .int 1]) (rest := []) ⟨hx, hb, hml, hown, hts⟩ (mX11_ruleOf l dC dI cI cZ ad v1 1 S k8) (cwV 2 hts gX11_firstOf_X11_ruleOf rfl rfl rfl (by decide +kernel) ⟨Nat.le_of_ble_eq_true rfl, Nat.le_of_ble_eq_true rfl⟩) ⟨QM_blind, va_recv hK hP (ci := 11) (q0 := 0) rfl rfl, fun U hU hW => ⟨rfl, QM_at hP hK hD hU hW⟩⟩ rfl rfl hl.1 rfl (lv_room (Nat.le_of_ble_eq_true rfl)) dX11_firstOf_25 ⟨Nat.zero_le _, Nat.zero_le _⟩) (fun r9 er9 => ?_)
          replace er9 := er9.symm
          subst er9
          refine lv_iload_n hx hb dX11_firstOf_28 rfl (lv_at hl 2 rfl) ?_
          refine lv_icmp_ne (tgt := 51) hx hb dX11_firstOf_29 (by decide) (fun c10 => ?_) (fun c10 => ?_)
          · replace h := it_f c10 h
            obtain ⟨x11, ex11, h⟩ := bnd_elim h
            refine lv_iinc (v := x11) (lv' := [(3, .int x11), (0, .ref (ad 0)), (1, .int p1), (2, .int p2)]) hx hb dX11_firstOf_51 hl (k := 3) rfl (by rw [ex11]; rfl) (by decide) rfl (fun ls hl => ?_)
            refine lv_goto (tgt := 2) hx hb dX11_firstOf_54 (by decide) ?_
            refine wu_r hWW2 ?_
            exact ih x11 z h ls (lv_sub hl [1, 2, 3, 0] rfl) K0 K1
          · replace h := it_t c10 h
            refine lv_aload_n hx hb dX11_firstOf_32 rfl (lv_at hl 0 rfl) ?_
            refine va_get (D := (dC, dI)) (ci := 11) (v := .ref (ad 3)) (C := RX11) (T := TX11) (N := 8) hx hb hts hiX11 hown hK hP 0 rfl rfl 3 (by decide) hf16 (fun _ h9 => h9) rfl dX11_firstOf_33 ?_
            refine lv_iload_n hx hb dX11_firstOf_36 rfl (lv_at hl 3 rfl) ?_
            obtain ⟨b12, h⟩ := ck_elim h
            refine va_zald hx hb hK hP 3 1 rfl rfl b12 dX11_firstOf_37 ?_
            refine lv_if_ne (tgt := 51) hx hb dX11_firstOf_38 (by decide) (fun c13 => ?_) (fun c13 => ?_)
            · replace h := it_f c13 h
              obtain ⟨x14, ex14, h⟩ := bnd_elim h
              refine lv_iinc (v := x14) (lv' := [(3, .int x14), (0, .ref (ad 0)), (1, .int p1), (2, .int p2)]) hx hb dX11_firstOf_51 hl (k := 3) rfl (by rw [ex14]; rfl) (by decide) rfl (fun ls hl => ?_)
              refine lv_goto (tgt := 2) hx hb dX11_firstOf_54 (by decide) ?_
              refine wu_r hWW2 ?_
              exact ih x14 z h ls (lv_sub hl [1, 2, 3, 0] rfl) K0 K1
            · replace h := it_t c13 h
              refine lv_aload_n hx hb dX11_firstOf_41 rfl (lv_at hl 0 rfl) ?_
              refine lv_iload_n hx hb dX11_firstOf_42 rfl (lv_at hl 3 rfl) ?_
              obtain ⟨r16, k15, h⟩ := ob_elim h
              refine vp_callSi (W.runV (As := [.int v1]) (rest := []) ⟨hx, hb, hml, hown, hts⟩ (mX11_holdsNow l dC dI cI cZ ad v1 S k15) (cwV 1 hts gX11_firstOf_X11_holdsNow rfl rfl rfl (by decide +kernel) ⟨Nat.le_of_ble_eq_true rfl, Nat.le_of_ble_eq_true rfl⟩) ⟨QM_blind, va_recv hK hP (ci := 11) (q0 := 0) rfl rfl, fun U hU hW => ⟨rfl, QM_at hP hK hD hU hW⟩⟩ rfl rfl hl.1 rfl (lv_room (Nat.le_of_ble_eq_true rfl)) dX11_firstOf_43 ⟨Nat.zero_le _, Nat.zero_le _⟩) (fun r9 er9 => ?_)
              replace er9 := er9.symm
              subst er9
              refine lv_if_eq (tgt := 51) hx hb dX11_firstOf_46 (by decide) (fun c17 => ?_) (fun c17 => ?_)
              · replace h := it_t c17 h
                obtain ⟨x18, ex18, h⟩ := bnd_elim h
                refine lv_iinc (v := x18) (lv' := [(3, .int x18), (0, .ref (ad 0)), (1, .int p1), (2, .int p2)]) hx hb dX11_firstOf_51 hl (k := 3) rfl (by rw [ex18]; rfl) (by decide) rfl (fun ls hl => ?_)
                refine lv_goto (tgt := 2) hx hb dX11_firstOf_54 (by decide) ?_
                refine wu_r hWW2 ?_
                exact ih x18 z h ls (lv_sub hl [1, 2, 3, 0] rfl) K0 K1
              · replace h := it_f c17 h
                refine wu_r hWW2 ?_
                exact K0 v1 (Option.some.inj h).symm ls (lv_sub hl [3] rfl)
  obtain ⟨q9, k19, h⟩ | ⟨q9, k19, h⟩ := os2_elim h
  · obtain ⟨w20, rfl⟩ : ∃ y, y = q9 := ⟨_, rfl⟩
    refine wu_r hWW2 ?_
    refine Lh2 FU 0 _ k19 ls (lv_sub hl [1, 2, 3, 0] rfl) ?_ (fun hy => by cases hy)
    intro y0 hy ls hl
    cases hy
    refine wi_r hWW2 ?_
    refine lv_iload_n hx hb dX11_firstOf_49 rfl (lv_at hl 0 rfl) ?_
    cases h
    exact W.iret hx hb hr (fun t ht hW => ⟨_, rfl, rfl, ht⟩) (fun q hq => absurd hq List.not_mem_nil) dX11_firstOf_50
  · refine wu_r hWW2 ?_
    refine Lh2 FU 0 _ k19 ls (lv_sub hl [1, 2, 3, 0] rfl) (fun _ hy => by cases hy) ?_
    intro hy ls hl
    cases hy
    refine wi_r hWW2 ?_
    refine lv_iconst (v := (-1)) hx hb dX11_firstOf_57 (by decide) ?_
    cases h
    exact W.iret hx hb hr (fun t ht hW => ⟨_, rfl, rfl, ht⟩) (fun q hq => absurd hq List.not_mem_nil) dX11_firstOf_58
set_option maxHeartbeats 4000000 in
set_option maxRecDepth 100000 in
theorem mX11_ruleBy (l : Launch) (dC : Nat → ClassId) (dI : Nat → Nat → Nat) (cI cZ : ClassId) (ad : Nat → Nat) (p1 : Int32) (p2 : Int32) (S : Nat → Nat → Int32) {z : Int32} (h : sX11_ruleBy p1 p2 S = some z) : Met l yX11_ruleBy wsX11_ruleBy ({ frames := 4, cells := 0, slots := 0, locals := 90 }) (va_Pc [.ref (ad 0), .int p1, .int p2] (QM dC dI cI cZ ad S)) (vp_Si (fun r => r = z)) 0 0 (fun _ => False) := by
  refine Met.ofW (cc := cX11_ruleBy) (maxL := 3) (ret := (some .int)) (by decide) rfl ?_
  intro p e s m args below meth c s₁ B hml hv
  obtain ⟨rfl, hP, hK, hD⟩ := hv
  have hx := B.exec
  have hb := B.bytes
  have hr := B.returns
  have hts := atoms_spec (ws := wsX11_ruleBy) B.pre
  have hown : s.vm.findClass RX11 = some m.cls := findClass_of_methodNamed B.named
  have hlocks := B.notSynchronized
  have hl := lv_entry ([.ref (ad 0), .int p1, .int p2]) (n := 3) (Nat.le_of_ble_eq_true rfl)
  rw [lg_entry_eq]
  generalize (lg_sl ([.ref (ad 0), .int p1, .int p2]) ++ List.replicate (3 - (lg_sl ([.ref (ad 0), .int p1, .int p2])).length) Slot.unset).toArray = ls at hl ⊢
  have hl : lv_has ls 3 [(0, .ref (ad 0)), (1, .int p1), (2, .int p2)] := hl
  have hf7 := hts (.fieldLink RX11 7 "LawRingsModel" "st" "[I") (by decide +kernel)
  have hiX11 : ∀ w ∈ u_ws RX11 TX11 8, w ∈ wsX11_ruleBy := by decide +kernel
  rw [sX11_ruleBy] at h
  refine lv_aload_n hx hb dX11_ruleBy_0 rfl (lv_at hl 0 rfl) ?_
  refine lv_iload_n hx hb dX11_ruleBy_1 rfl (lv_at hl 1 rfl) ?_
  refine lv_aload_n hx hb dX11_ruleBy_2 rfl (lv_at hl 0 rfl) ?_
  refine va_get (D := (dC, dI)) (ci := 11) (v := .ref (ad 1)) (C := RX11) (T := TX11) (N := 8) hx hb hts hiX11 hown hK hP 0 rfl rfl 0 (by decide) hf7 (fun _ h9 => h9) rfl dX11_ruleBy_3 ?_
  refine lv_sipush (v := 942) hx hb dX11_ruleBy_6 (by decide) ?_
  refine lv_iconst (v := 3) hx hb dX11_ruleBy_9 (by decide) ?_
  refine lv_iload_n hx hb dX11_ruleBy_10 rfl (lv_at hl 1 rfl) ?_
  refine lv_imul hx hb dX11_ruleBy_11 ?_
  refine lv_iadd hx hb dX11_ruleBy_12 ?_
  refine lv_iload_n hx hb dX11_ruleBy_13 rfl (lv_at hl 2 rfl) ?_
  refine lv_iadd hx hb dX11_ruleBy_14 ?_
  obtain ⟨b1, h⟩ := ck_elim h
  refine va_iald hx hb hK hP 1 0 rfl rfl b1 dX11_ruleBy_15 ?_
  obtain ⟨r3, k2, h⟩ := ob_elim h
  refine vp_callSi (W.runV (As := [.int p1, .int (S 1 ((942 + (3 * p1)) + p2).toNatClampNeg)]) (rest := []) ⟨hx, hb, hml, hown, hts⟩ (mX11_firstOf l dC dI cI cZ ad p1 (S 1 ((942 + (3 * p1)) + p2).toNatClampNeg) S k2) (cwV 2 hts gX11_ruleBy_X11_firstOf rfl rfl rfl (by decide +kernel) ⟨Nat.le_of_ble_eq_true rfl, Nat.le_of_ble_eq_true rfl⟩) ⟨QM_blind, va_recv hK hP (ci := 11) (q0 := 0) rfl rfl, fun U hU hW => ⟨rfl, QM_at hP hK hD hU hW⟩⟩ rfl rfl hl.1 rfl (lv_room (Nat.le_of_ble_eq_true rfl)) dX11_ruleBy_16 ⟨Nat.zero_le _, Nat.zero_le _⟩) (fun r9 er9 => ?_)
  replace er9 := er9.symm
  subst er9
  cases h
  exact W.iret hx hb hr (fun t ht hW => ⟨_, rfl, rfl, ht⟩) (fun q hq => absurd hq List.not_mem_nil) dX11_ruleBy_19
set_option maxHeartbeats 4000000 in
set_option maxRecDepth 100000 in
theorem mX11_says (l : Launch) (dC : Nat → ClassId) (dI : Nat → Nat → Nat) (cI cZ : ClassId) (ad : Nat → Nat) (p1 : Int32) (p2 : Int32) (p3 : Int32) (S : Nat → Nat → Int32) (sz : Nat) {z : Int32 × (Nat → Nat → Int32)} (h : sX11_says p1 p2 p3 S = some z) : Met l yX11_says wsX11_says ({ frames := 5, cells := 0, slots := 0, locals := 112 }) (va_Pc [.ref (ad 0), .int p1, .int p2, .int p3] (QMs sz dC dI cI cZ ad S)) (va_Qi (fun (r : Int32) (u : (Nat → Nat → Int32)) => (r, u) = z) (fun (u : (Nat → Nat → Int32)) t => va_P (dC, dI) vwCl (wM cI cZ ad u) t.heap) (AX 7 ad sz)) 0 0 (AX 7 ad sz) := by
  refine Met.ofW (cc := cX11_says) (maxL := 4) (ret := (some .int)) (by decide) rfl ?_
  intro p e s m args below meth c s₁ B hml hv
  obtain ⟨rfl, hsz, hP, hK, hD0⟩ := hv
  have hx := B.exec
  have hb := B.bytes
  have hr := B.returns
  have hts := atoms_spec (ws := wsX11_says) B.pre
  have hown : s.vm.findClass RX11 = some m.cls := findClass_of_methodNamed B.named
  have hlocks := B.notSynchronized
  subst hsz
  have hD := wM_DA hD0 s.heap.size
  have hS : va_S (AX 7 ad s.heap.size) s.heap s.heap [] := va_S.rf
  have hl := lv_entry ([.ref (ad 0), .int p1, .int p2, .int p3]) (n := 4) (Nat.le_of_ble_eq_true rfl)
  rw [lg_entry_eq]
  generalize (lg_sl ([.ref (ad 0), .int p1, .int p2, .int p3]) ++ List.replicate (4 - (lg_sl ([.ref (ad 0), .int p1, .int p2, .int p3])).length) Slot.unset).toArray = ls at hl ⊢
  have hl : lv_has ls 4 [(0, .ref (ad 0)), (1, .int p1), (2, .int p2), (3, .int p3)] := hl
  rw [sX11_says] at h
  refine lv_aload_n hx hb dX11_says_0 rfl (lv_at hl 0 rfl) ?_
  refine lv_iload_n hx hb dX11_says_1 rfl (lv_at hl 1 rfl) ?_
  refine lv_iload_n hx hb dX11_says_2 rfl (lv_at hl 2 rfl) ?_
  refine lv_iload_n hx hb dX11_says_3 rfl (lv_at hl 3 rfl) ?_
  obtain ⟨r2, k1, h⟩ := ob_elim h
  refine vp_callSi (W.runV (As := [.int p1, .int p2, .int p3]) (rest := []) ⟨hx, hb, hml, hown, hts⟩ (mX11_isAsked l dC dI cI cZ ad p1 p2 p3 S k1) (cwV 3 hts gX11_says_X11_isAsked rfl rfl rfl (by decide +kernel) ⟨Nat.le_of_ble_eq_true rfl, Nat.le_of_ble_eq_true rfl⟩) ⟨QM_blind, va_recv hK hP (ci := 11) (q0 := 0) rfl rfl, fun U hU hW => ⟨rfl, QM_at hP hK hD hU hW⟩⟩ rfl rfl hl.1 rfl (lv_room (Nat.le_of_ble_eq_true rfl)) dX11_says_4 ⟨Nat.zero_le _, Nat.zero_le _⟩) (fun r9 er9 => ?_)
  replace er9 := er9.symm
  subst er9
  refine lv_if_ne (tgt := 13) hx hb dX11_says_7 (by decide) (fun c3 => ?_) (fun c3 => ?_)
  · replace h := it_f c3 h
    refine lv_aload_n hx hb dX11_says_13 rfl (lv_at hl 0 rfl) ?_
    refine lv_iload_n hx hb dX11_says_14 rfl (lv_at hl 2 rfl) ?_
    obtain ⟨S5, k4, h⟩ := ob_elim h
    refine va_callv (va_runV (As := [.int p2]) (rest := []) ⟨hx, hb, hml, hown, hts⟩ (mX11_looksAt l dC dI cI cZ ad p2 S s.heap.size k4) (cwV 1 hts gX11_says_X11_looksAt rfl rfl rfl (by decide +kernel) ⟨Nat.le_of_ble_eq_true rfl, Nat.le_of_ble_eq_true rfl⟩) ⟨QMs_blind, va_recv hK hP (ci := 11) (q0 := 0) rfl rfl, fun U hU hW => ⟨rfl, congrArg Array.size hU, QM_at hP hK hD hU hW⟩⟩ rfl rfl hl.1 rfl (lv_room (Nat.le_of_ble_eq_true rfl)) dX11_says_15 ⟨Nat.zero_le _, Nat.zero_le _⟩) hS (fun q _ hq => AX_mono hS.1 hq) (fun q hq => AX_mono hS.1 hq) (fun u t H1 locs ht hvm hw hB hz1 hk1 hS => ?_)
    cases hw
    rw [ht] at hB
    have hP := hB
    clear hB hk1 hz1
    generalize H1 = H at hP hS ⊢
    have hD := wM_D hD S5
    refine lv_aload_n hx hb dX11_says_18 rfl (lv_at hl 0 rfl) ?_
    refine lv_iload_n hx hb dX11_says_19 rfl (lv_at hl 1 rfl) ?_
    refine lv_iload_n hx hb dX11_says_20 rfl (lv_at hl 3 rfl) ?_
    obtain ⟨r7, k6, h⟩ := ob_elim h
    refine vp_callSi (W.runV (As := [.int p1, .int p3]) (rest := []) ⟨hx, hb, hml, hown, hts⟩ (mX11_ruleBy l dC dI cI cZ ad p1 p3 S5 k6) (cwV 2 hts gX11_says_X11_ruleBy rfl rfl rfl (by decide +kernel) ⟨Nat.le_of_ble_eq_true rfl, Nat.le_of_ble_eq_true rfl⟩) ⟨QM_blind, va_recv hK hP (ci := 11) (q0 := 0) rfl rfl, fun U hU hW => ⟨rfl, QM_at hP hK hD hU hW⟩⟩ rfl rfl hl.1 rfl (lv_room (Nat.le_of_ble_eq_true rfl)) dX11_says_21 ⟨Nat.zero_le _, Nat.zero_le _⟩) (fun r9 er9 => ?_)
    replace er9 := er9.symm
    subst er9
    cases h
    exact W.iret hx hb hr (fun t ht hW => ⟨⟨_, _, rfl, rfl, by show va_P _ _ _ t.heap; rw [ht]; exact hP⟩, hS.F ht⟩) hS.2.2 dX11_says_24
  · replace h := it_t c3 h
    refine lv_bipush (v := (-10)) hx hb dX11_says_10 (by decide) ?_
    cases h
    exact W.iret hx hb hr (fun t ht hW => ⟨⟨_, _, rfl, rfl, by show va_P _ _ _ t.heap; rw [ht]; exact hP⟩, hS.F ht⟩) hS.2.2 dX11_says_12
set_option maxHeartbeats 4000000 in
set_option maxRecDepth 100000 in
theorem mX6_landMeant (l : Launch) (dC : Nat → ClassId) (dI : Nat → Nat → Nat) (cI cJ : ClassId) (ad : Nat → Nat) (p1 : Int32) (S : Nat → Nat → Int32) (L : Nat → Nat → Int64) {z : Int32} (h : sX6_landMeant p1 S L = some z) : Met l yX6_landMeant wsX6_landMeant ({ frames := 0, cells := 0, slots := 0, locals := 0 }) (va_Pc [.ref (ad 2), .int p1, .ref (ad 35)] (QX dC dI cI cJ ad S L)) (vp_Si (fun r => r = z)) 0 0 (fun _ => False) := by
  refine Met.ofW (cc := cX6_landMeant) (maxL := 4) (ret := (some .int)) (by decide) rfl ?_
  intro p e s m args below meth c s₁ B hml hv
  obtain ⟨rfl, hP, hK, hD⟩ := hv
  have hx := B.exec
  have hb := B.bytes
  have hr := B.returns
  have hts := atoms_spec (ws := wsX6_landMeant) B.pre
  have hown : s.vm.findClass RX6 = some m.cls := findClass_of_methodNamed B.named
  have hlocks := B.notSynchronized
  have hl := lv_entry ([.ref (ad 2), .int p1, .ref (ad 35)]) (n := 4) (Nat.le_of_ble_eq_true rfl)
  rw [lg_entry_eq]
  generalize (lg_sl ([.ref (ad 2), .int p1, .ref (ad 35)]) ++ List.replicate (4 - (lg_sl ([.ref (ad 2), .int p1, .ref (ad 35)])).length) Slot.unset).toArray = ls at hl ⊢
  have hl : lv_has ls 4 [(0, .ref (ad 2)), (1, .int p1), (2, .ref (ad 35))] := hl
  have hf21 := hts (.fieldLink RX6 21 "LawRings$Rules" "whom" "[I") (by decide +kernel)
  have hiX6 : ∀ w ∈ u_ws RX6 TX6 13, w ∈ wsX6_landMeant := by decide +kernel
  have hf9 := hts (.fieldLink RX6 9 "LawRings$Rules" "land" "[I") (by decide +kernel)
  rw [sX6_landMeant] at h
  refine lv_aload_n hx hb dX6_landMeant_0 rfl (lv_at hl 0 rfl) ?_
  refine va_get (D := (dC, dI)) (ci := 6) (v := .ref (ad 20)) (C := RX6) (T := TX6) (N := 13) hx hb hts hiX6 hown hK hP 2 rfl rfl 4 (by decide) hf21 (fun _ h9 => h9) rfl dX6_landMeant_1 ?_
  refine lv_iload_n hx hb dX6_landMeant_4 rfl (lv_at hl 1 rfl) ?_
  obtain ⟨b1, h⟩ := ck_elim h
  refine va_iald hx hb hK hP 20 0 rfl rfl b1 dX6_landMeant_5 ?_
  obtain ⟨x2, ex2, h⟩ := bnd_elim h
  refine nm_i ex2 ?_
  refine lv_istore_n (lv' := [(3, .int x2), (0, .ref (ad 2)), (1, .int p1), (2, .ref (ad 35))]) hx hb dX6_landMeant_6 rfl hl (by decide) rfl (fun ls hl => ?_)
  refine lv_iload_n hx hb dX6_landMeant_7 rfl (lv_at hl 0 rfl) ?_
  refine lv_if_ne (tgt := 18) hx hb dX6_landMeant_8 (by decide) (fun c3 => ?_) (fun c3 => ?_)
  · replace h := it_f c3 h
    refine lv_iload_n hx hb dX6_landMeant_18 rfl (lv_at hl 0 rfl) ?_
    refine lv_iconst (v := 5) hx hb dX6_landMeant_19 (by decide) ?_
    refine lv_icmp_ge (tgt := 29) hx hb dX6_landMeant_20 (by decide) (fun c4 => ?_) (fun c4 => ?_)
    · replace h := it_t c4 h
      refine lv_aload_n hx hb dX6_landMeant_29 rfl (lv_at hl 3 rfl) ?_
      refine lv_iload_n hx hb dX6_landMeant_30 rfl (lv_at hl 0 rfl) ?_
      refine lv_iconst (v := 5) hx hb dX6_landMeant_31 (by decide) ?_
      refine lv_isub hx hb dX6_landMeant_32 ?_
      obtain ⟨b5, h⟩ := ck_elim h
      refine va_iald hx hb hK hP 35 0 rfl rfl b5 dX6_landMeant_33 ?_
      cases h
      exact W.iret hx hb hr (fun t ht hW => ⟨_, rfl, rfl, ht⟩) (fun q hq => absurd hq List.not_mem_nil) dX6_landMeant_34
    · replace h := it_f c4 h
      refine lv_iload_n hx hb dX6_landMeant_23 rfl (lv_at hl 0 rfl) ?_
      refine lv_iconst (v := 1) hx hb dX6_landMeant_24 (by decide) ?_
      refine lv_isub hx hb dX6_landMeant_25 ?_
      refine lv_goto (tgt := 34) hx hb dX6_landMeant_26 (by decide) ?_
      cases h
      exact W.iret hx hb hr (fun t ht hW => ⟨_, rfl, rfl, ht⟩) (fun q hq => absurd hq List.not_mem_nil) dX6_landMeant_34
  · replace h := it_t c3 h
    refine lv_aload_n hx hb dX6_landMeant_11 rfl (lv_at hl 1 rfl) ?_
    refine va_get (D := (dC, dI)) (ci := 6) (v := .ref (ad 17)) (C := RX6) (T := TX6) (N := 13) hx hb hts hiX6 hown hK hP 2 rfl rfl 1 (by decide) hf9 (fun _ h9 => h9) rfl dX6_landMeant_12 ?_
    refine lv_iload_n hx hb dX6_landMeant_15 rfl (lv_at hl 2 rfl) ?_
    obtain ⟨b6, h⟩ := ck_elim h
    refine va_iald hx hb hK hP 17 0 rfl rfl b6 dX6_landMeant_16 ?_
    cases h
    exact W.iret hx hb hr (fun t ht hW => ⟨_, rfl, rfl, ht⟩) (fun q hq => absurd hq List.not_mem_nil) dX6_landMeant_17
set_option maxHeartbeats 4000000 in
set_option maxRecDepth 100000 in
theorem mX4_readBooks (l : Launch) (dC : Nat → ClassId) (dI : Nat → Nat → Nat) (cI cJ : ClassId) (ad : Nat → Nat) (p1 : Int32) (S : Nat → Nat → Int32) (L : Nat → Nat → Int64) (sz : Nat) {z : (Nat → Nat → Int32) × (Nat → Nat → Int64)} (h : sX4_readBooks p1 S L = some z) : Met l yX4_readBooks wsX4_readBooks ({ frames := 2, cells := 0, slots := 0, locals := 47 }) (va_Pc [.ref (ad 6), .int p1] (QXs sz dC dI cI cJ ad S L)) (va_Qv (fun (u : (Nat → Nat → Int32) × (Nat → Nat → Int64)) => u = z) (fun (u : (Nat → Nat → Int32) × (Nat → Nat → Int64)) t => va_P (dC, dI) vwCl (wX cI cJ ad u.1 u.2) t.heap) (AX 43 ad sz)) 0 0 (AX 43 ad sz) := by
  refine Met.ofW (cc := cX4_readBooks) (maxL := 4) (ret := none) (by decide) rfl ?_
  intro p e s m args below meth c s₁ B hml hv
  obtain ⟨rfl, hsz, hP, hK, hD0⟩ := hv
  have hx := B.exec
  have hb := B.bytes
  have hr := B.returns
  have hts := atoms_spec (ws := wsX4_readBooks) B.pre
  have hown : s.vm.findClass RX4 = some m.cls := findClass_of_methodNamed B.named
  have hlocks := B.notSynchronized
  subst hsz
  have hD := wX_DA hD0 s.heap.size
  have hS : va_S (AX 43 ad s.heap.size) s.heap s.heap [] := va_S.rf
  have hl := lv_entry ([.ref (ad 6), .int p1]) (n := 4) (Nat.le_of_ble_eq_true rfl)
  rw [lg_entry_eq]
  generalize (lg_sl ([.ref (ad 6), .int p1]) ++ List.replicate (4 - (lg_sl ([.ref (ad 6), .int p1])).length) Slot.unset).toArray = ls at hl ⊢
  have hl : lv_has ls 4 [(0, .ref (ad 6)), (1, .int p1)] := hl
  have hf67 := hts (.fieldLink RX4 67 "LawRings$Hearing" "kind" "I") (by decide +kernel)
  have hiX4 : ∀ w ∈ u_ws RX4 TX4 9, w ∈ wsX4_readBooks := by decide +kernel
  have hf28 := hts (.fieldLink RX4 28 "LawRings$Hearing" "rules" "LLawRings$Rules;") (by decide +kernel)
  have hf55 := hts (.fieldLink RX4 55 "LawRings$Hearing" "held" "J") (by decide +kernel)
  have hf32 := hts (.fieldLink RX4 32 "LawRings$Hearing" "lands" "LLawRings$Lands;") (by decide +kernel)
  have hf15 := hts (.fieldLink RX4 15 "LawRings$Hearing" "end" "[I") (by decide +kernel)
  have hf80 := hts (.fieldLink RX4 80 "LawRings$Rules" "end" "[I") (by decide +kernel)
  have hiX6 : ∀ w ∈ u_ws RX6 TX6 13, w ∈ wsX4_readBooks := by decide +kernel
  have hf18 := hts (.fieldLink RX4 18 "LawRings$Hearing" "to" "[I") (by decide +kernel)
  have hf9 := hts (.fieldLink RX4 9 "LawRings$Hearing" "ties" "[I") (by decide +kernel)
  rw [sX4_readBooks] at h
  refine lv_aload_n hx hb dX4_readBooks_0 rfl (lv_at hl 0 rfl) ?_
  refine lv_iload_n hx hb dX4_readBooks_1 rfl (lv_at hl 1 rfl) ?_
  obtain ⟨S1, eS1, h⟩ := bnd_elim h
  refine va_put (D := (dC, dI)) (ci := 4) (v := .int p1) (ty := .int) (C := RX4) (T := TX4) (N := 9) hx hb hts hiX4 tyX4 tyX4_ok nmX4 hown hK hP hD hS 6 rfl rfl 5 (by decide) hf67 (fun _ h9 => h9) rfl (by decide +kernel) rfl rfl (Nat.le_of_ble_eq_true rfl) dX4_readBooks_2 (fun H locs hP9 _ hS => ?_)
  have hP := swX_6_5 hP9
  rw [← eS1] at hP
  have hD := wX_D hD S1 L
  refine lv_iconst (v := 0) hx hb dX4_readBooks_5 (by decide) ?_
  refine lv_istore_n (lv' := [(2, .int 0), (0, .ref (ad 6)), (1, .int p1)]) hx hb dX4_readBooks_6 rfl hl (by decide) rfl (fun ls hl => ?_)
  refine ww_w (fun WW7 hWW7 => ?_)
  have Lh7 : ∀ (n : Nat) (v2 : Int32) (S3 : (Nat → Nat → Int32)) (L4 : (Nat → Nat → Int64)) (z : ((Nat → Nat → Int32) × (Nat → Nat → Int64))), lX4_readBooks_7 p1 n v2 S3 L4 = some z → ∀ (H : Heap) (locs : List Loc), va_P (dC, dI) vwCl (wX cI cJ ad S3 L4) H → va_S (AX 43 ad s.heap.size) s.heap H locs → ∀ ls : Array Slot, lv_has ls 4 [(0, .ref (ad 6)), (1, .int p1), (2, .int v2)] → (∀ (YS : (Nat → Nat → Int32)) (YL : (Nat → Nat → Int64)), z = (YS, YL) → ∀ (H : Heap) (locs : List Loc), va_P (dC, dI) vwCl (wX cI cJ ad YS YL) H → va_S (AX 43 ad s.heap.size) s.heap H locs → ∀ ls : Array Slot, lv_has ls 4 [] → WW7 H locs 91 ls) → WW7 H locs 7 ls := by
    intro n
    induction n with
    | zero => intro v2 S3 L4 z h H locs hP hS ls hl K0; rw [lX4_readBooks_7] at h; cases h
    | succ n ih =>
      intro v2 S3 L4 z h H locs hP hS ls hl K0
      have hD := wX_D hD S3 L4
      rw [lX4_readBooks_7] at h
      refine wi_w hWW7 ?_
      refine lv_iload_n hx hb dX4_readBooks_7 rfl (lv_at hl 2 rfl) ?_
      refine lv_iconst (v := 4) hx hb dX4_readBooks_8 (by decide) ?_
      refine lv_icmp_ge (tgt := 91) hx hb dX4_readBooks_9 (by decide) (fun c5 => ?_) (fun c5 => ?_)
      · replace h := it_t c5 h
        refine wu_w hWW7 ?_
        exact K0 S3 L4 (Option.some.inj h).symm H locs hP hS ls (lv_sub hl [] rfl)
      · replace h := it_f c5 h
        refine lv_aload_n hx hb dX4_readBooks_12 rfl (lv_at hl 0 rfl) ?_
        refine va_get (D := (dC, dI)) (ci := 4) (v := .ref (ad 2)) (C := RX4) (T := TX4) (N := 9) hx hb hts hiX4 hown hK hP 6 rfl rfl 0 (by decide) hf28 (fun _ h9 => h9) rfl dX4_readBooks_13 ?_
        refine lv_aload_n hx hb dX4_readBooks_16 rfl (lv_at hl 0 rfl) ?_
        refine va_get (D := (dC, dI)) (ci := 4) (v := .long (L4 6 4)) (C := RX4) (T := TX4) (N := 9) hx hb hts hiX4 hown hK hP 6 rfl rfl 4 (by decide) hf55 (fun _ h9 => h9) rfl dX4_readBooks_17 ?_
        refine lv_iload_n hx hb dX4_readBooks_20 rfl (lv_at hl 2 rfl) ?_
        refine lv_aload_n hx hb dX4_readBooks_21 rfl (lv_at hl 0 rfl) ?_
        refine va_get (D := (dC, dI)) (ci := 4) (v := .ref (ad 3)) (C := RX4) (T := TX4) (N := 9) hx hb hts hiX4 hown hK hP 6 rfl rfl 1 (by decide) hf32 (fun _ h9 => h9) rfl dX4_readBooks_22 ?_
        refine lv_iload_n hx hb dX4_readBooks_25 rfl (lv_at hl 2 rfl) ?_
        refine lv_iload_n hx hb dX4_readBooks_26 rfl (lv_at hl 1 rfl) ?_
        obtain ⟨r7, k6, h⟩ := ob_elim h
        refine vp_callSi (W.runV (As := [.int v2, .int p1]) (rest := [.int v2, .long (L4 6 4), .ref (ad 2)]) ⟨hx, hb, hml, hown, hts⟩ (mX5_ownKind l dC dI cI cJ ad v2 p1 S3 L4 k6) (cwV 2 hts gX4_readBooks_X5_ownKind rfl rfl rfl (by decide +kernel) ⟨Nat.le_of_ble_eq_true rfl, Nat.le_of_ble_eq_true rfl⟩) ⟨QX_blind, va_recv hK hP (ci := 5) (q0 := 3) rfl rfl, fun U hU hW => ⟨rfl, QX_at hP hK hD hU hW⟩⟩ rfl rfl hl.1 rfl (lv_room (Nat.le_of_ble_eq_true rfl)) dX4_readBooks_27 ⟨Nat.zero_le _, Nat.zero_le _⟩) (fun r9 er9 => ?_)
        replace er9 := er9.symm
        subst er9
        obtain ⟨r9, k8, h⟩ := ob_elim h
        refine vp_callSi (W.runV (As := [.long (L4 6 4), .int v2, .int r7]) (rest := []) ⟨hx, hb, hml, hown, hts⟩ (mX6_first l dC dI cI cJ ad (L4 6 4) v2 r7 S3 L4 k8) (cwV 3 hts gX4_readBooks_X6_first rfl rfl rfl (by decide +kernel) ⟨Nat.le_of_ble_eq_true rfl, Nat.le_of_ble_eq_true rfl⟩) ⟨QX_blind, va_recv hK hP (ci := 6) (q0 := 2) rfl rfl, fun U hU hW => ⟨rfl, QX_at hP hK hD hU hW⟩⟩ rfl rfl hl.1 rfl (lv_room (Nat.le_of_ble_eq_true rfl)) dX4_readBooks_30 ⟨Nat.zero_le _, Nat.zero_le _⟩) (fun r9 er9 => ?_)
        replace er9 := er9.symm
        subst er9
        refine lv_istore_n (lv' := [(3, .int r9), (0, .ref (ad 6)), (1, .int p1), (2, .int v2)]) hx hb dX4_readBooks_33 rfl hl (by decide) rfl (fun ls hl => ?_)
        refine lv_aload_n hx hb dX4_readBooks_34 rfl (lv_at hl 1 rfl) ?_
        refine va_get (D := (dC, dI)) (ci := 4) (v := .ref (ad 36)) (C := RX4) (T := TX4) (N := 9) hx hb hts hiX4 hown hK hP 6 rfl rfl 6 (by decide) hf15 (fun _ h9 => h9) rfl dX4_readBooks_35 ?_
        refine lv_iload_n hx hb dX4_readBooks_38 rfl (lv_at hl 3 rfl) ?_
        refine lv_iload_n hx hb dX4_readBooks_39 rfl (lv_at hl 0 rfl) ?_
        refine lv_iconst (v := (-1)) hx hb dX4_readBooks_40 (by decide) ?_
        refine lv_icmp_ne (tgt := 48) hx hb dX4_readBooks_41 (by decide) (fun c10 => ?_) (fun c10 => ?_)
        · replace h := it_f c10 h
          refine lv_aload_n hx hb dX4_readBooks_48 rfl (lv_at hl 1 rfl) ?_
          refine va_get (D := (dC, dI)) (ci := 4) (v := .ref (ad 2)) (C := RX4) (T := TX4) (N := 9) hx hb hts hiX4 hown hK hP 6 rfl rfl 0 (by decide) hf28 (fun _ h9 => h9) rfl dX4_readBooks_49 ?_
          refine va_get (D := (dC, dI)) (ci := 6) (v := .ref (ad 19)) (C := RX6) (T := TX6) (N := 13) hx hb hts hiX6 hown hK hP 2 rfl rfl 3 (by decide) hf80 (fun _ h9 => h9) rfl dX4_readBooks_52 ?_
          refine lv_iload_n hx hb dX4_readBooks_55 rfl (lv_at hl 0 rfl) ?_
          obtain ⟨b11, h⟩ := ck_elim h
          refine va_iald hx hb hK hP 19 0 rfl rfl b11 dX4_readBooks_56 ?_
          obtain ⟨b12, h⟩ := ck_elim h
          obtain ⟨S13, eS13, h⟩ := bnd_elim h
          refine va_iast hx hb hK hP hD hS 36 0 rfl rfl b12 dX4_readBooks_57 (fun H locs hP9 _ hS => ?_)
          have hP := swX_36 hP9
          rw [← eS13] at hP
          have hD := wX_D hD S13 L4
          refine lv_aload_n hx hb dX4_readBooks_58 rfl (lv_at hl 1 rfl) ?_
          refine va_get (D := (dC, dI)) (ci := 4) (v := .ref (ad 37)) (C := RX4) (T := TX4) (N := 9) hx hb hts hiX4 hown hK hP 6 rfl rfl 7 (by decide) hf18 (fun _ h9 => h9) rfl dX4_readBooks_59 ?_
          refine lv_iload_n hx hb dX4_readBooks_62 rfl (lv_at hl 3 rfl) ?_
          refine lv_iload_n hx hb dX4_readBooks_63 rfl (lv_at hl 0 rfl) ?_
          refine lv_iconst (v := (-1)) hx hb dX4_readBooks_64 (by decide) ?_
          refine lv_icmp_ne (tgt := 72) hx hb dX4_readBooks_65 (by decide) (fun c14 => ?_) (fun c14 => ?_)
          · replace h := it_f c14 h
            refine lv_aload_n hx hb dX4_readBooks_72 rfl (lv_at hl 1 rfl) ?_
            refine va_get (D := (dC, dI)) (ci := 4) (v := .ref (ad 2)) (C := RX4) (T := TX4) (N := 9) hx hb hts hiX4 hown hK hP 6 rfl rfl 0 (by decide) hf28 (fun _ h9 => h9) rfl dX4_readBooks_73 ?_
            refine lv_iload_n hx hb dX4_readBooks_76 rfl (lv_at hl 0 rfl) ?_
            refine lv_aload_n hx hb dX4_readBooks_77 rfl (lv_at hl 1 rfl) ?_
            refine va_get (D := (dC, dI)) (ci := 4) (v := .ref (ad 35)) (C := RX4) (T := TX4) (N := 9) hx hb hts hiX4 hown hK hP 6 rfl rfl 3 (by decide) hf9 (fun _ h9 => h9) rfl dX4_readBooks_78 ?_
            obtain ⟨r16, k15, h⟩ := ob_elim h
            refine vp_callSi (W.runV (As := [.int r9, .ref (ad 35)]) (rest := [.int v2, .ref (ad 37)]) ⟨hx, hb, hml, hown, hts⟩ (mX6_landMeant l dC dI cI cJ ad r9 S13 L4 k15) (cwV 2 hts gX4_readBooks_X6_landMeant rfl rfl rfl (by decide +kernel) ⟨Nat.le_of_ble_eq_true rfl, Nat.le_of_ble_eq_true rfl⟩) ⟨QX_blind, va_recv hK hP (ci := 6) (q0 := 2) rfl rfl, fun U hU hW => ⟨rfl, QX_at hP hK hD hU hW⟩⟩ rfl rfl hl.1 rfl (lv_room (Nat.le_of_ble_eq_true rfl)) dX4_readBooks_81 ⟨Nat.zero_le _, Nat.zero_le _⟩) (fun r9 er9 => ?_)
            replace er9 := er9.symm
            subst er9
            obtain ⟨b17, h⟩ := ck_elim h
            obtain ⟨S18, eS18, h⟩ := bnd_elim h
            refine va_iast hx hb hK hP hD hS 37 0 rfl rfl b17 dX4_readBooks_84 (fun H locs hP9 _ hS => ?_)
            have hP := swX_37 hP9
            rw [← eS18] at hP
            have hD := wX_D hD S18 L4
            obtain ⟨x19, ex19, h⟩ := bnd_elim h
            refine lv_iinc (v := x19) (lv' := [(2, .int x19), (3, .int r9), (0, .ref (ad 6)), (1, .int p1)]) hx hb dX4_readBooks_85 hl (k := 3) rfl (by rw [ex19]; rfl) (by decide) rfl (fun ls hl => ?_)
            refine lv_goto (tgt := 7) hx hb dX4_readBooks_88 (by decide) ?_
            refine wu_w hWW7 ?_
            exact ih x19 S18 L4 z h H locs hP hS ls (lv_sub hl [2, 3, 0] rfl) K0
          · replace h := it_t c14 h
            refine lv_iload_n hx hb dX4_readBooks_68 rfl (lv_at hl 3 rfl) ?_
            refine lv_goto (tgt := 84) hx hb dX4_readBooks_69 (by decide) ?_
            obtain ⟨b20, h⟩ := ck_elim h
            obtain ⟨S21, eS21, h⟩ := bnd_elim h
            refine va_iast hx hb hK hP hD hS 37 0 rfl rfl b20 dX4_readBooks_84 (fun H locs hP9 _ hS => ?_)
            have hP := swX_37 hP9
            rw [← eS21] at hP
            have hD := wX_D hD S21 L4
            obtain ⟨x22, ex22, h⟩ := bnd_elim h
            refine lv_iinc (v := x22) (lv' := [(2, .int x22), (3, .int r9), (0, .ref (ad 6)), (1, .int p1)]) hx hb dX4_readBooks_85 hl (k := 3) rfl (by rw [ex22]; rfl) (by decide) rfl (fun ls hl => ?_)
            refine lv_goto (tgt := 7) hx hb dX4_readBooks_88 (by decide) ?_
            refine wu_w hWW7 ?_
            exact ih x22 S21 L4 z h H locs hP hS ls (lv_sub hl [2, 3, 0] rfl) K0
        · replace h := it_t c10 h
          refine lv_iconst (v := 0) hx hb dX4_readBooks_44 (by decide) ?_
          refine lv_goto (tgt := 57) hx hb dX4_readBooks_45 (by decide) ?_
          obtain ⟨b23, h⟩ := ck_elim h
          obtain ⟨S24, eS24, h⟩ := bnd_elim h
          refine va_iast hx hb hK hP hD hS 36 0 rfl rfl b23 dX4_readBooks_57 (fun H locs hP9 _ hS => ?_)
          have hP := swX_36 hP9
          rw [← eS24] at hP
          have hD := wX_D hD S24 L4
          refine lv_aload_n hx hb dX4_readBooks_58 rfl (lv_at hl 1 rfl) ?_
          refine va_get (D := (dC, dI)) (ci := 4) (v := .ref (ad 37)) (C := RX4) (T := TX4) (N := 9) hx hb hts hiX4 hown hK hP 6 rfl rfl 7 (by decide) hf18 (fun _ h9 => h9) rfl dX4_readBooks_59 ?_
          refine lv_iload_n hx hb dX4_readBooks_62 rfl (lv_at hl 3 rfl) ?_
          refine lv_iload_n hx hb dX4_readBooks_63 rfl (lv_at hl 0 rfl) ?_
          refine lv_iconst (v := (-1)) hx hb dX4_readBooks_64 (by decide) ?_
          refine lv_icmp_ne (tgt := 72) hx hb dX4_readBooks_65 (by decide) (fun c25 => ?_) (fun c25 => ?_)
          · replace h := it_f c25 h
            refine lv_aload_n hx hb dX4_readBooks_72 rfl (lv_at hl 1 rfl) ?_
            refine va_get (D := (dC, dI)) (ci := 4) (v := .ref (ad 2)) (C := RX4) (T := TX4) (N := 9) hx hb hts hiX4 hown hK hP 6 rfl rfl 0 (by decide) hf28 (fun _ h9 => h9) rfl dX4_readBooks_73 ?_
            refine lv_iload_n hx hb dX4_readBooks_76 rfl (lv_at hl 0 rfl) ?_
            refine lv_aload_n hx hb dX4_readBooks_77 rfl (lv_at hl 1 rfl) ?_
            refine va_get (D := (dC, dI)) (ci := 4) (v := .ref (ad 35)) (C := RX4) (T := TX4) (N := 9) hx hb hts hiX4 hown hK hP 6 rfl rfl 3 (by decide) hf9 (fun _ h9 => h9) rfl dX4_readBooks_78 ?_
            obtain ⟨r27, k26, h⟩ := ob_elim h
            refine vp_callSi (W.runV (As := [.int r9, .ref (ad 35)]) (rest := [.int v2, .ref (ad 37)]) ⟨hx, hb, hml, hown, hts⟩ (mX6_landMeant l dC dI cI cJ ad r9 S24 L4 k26) (cwV 2 hts gX4_readBooks_X6_landMeant rfl rfl rfl (by decide +kernel) ⟨Nat.le_of_ble_eq_true rfl, Nat.le_of_ble_eq_true rfl⟩) ⟨QX_blind, va_recv hK hP (ci := 6) (q0 := 2) rfl rfl, fun U hU hW => ⟨rfl, QX_at hP hK hD hU hW⟩⟩ rfl rfl hl.1 rfl (lv_room (Nat.le_of_ble_eq_true rfl)) dX4_readBooks_81 ⟨Nat.zero_le _, Nat.zero_le _⟩) (fun r9 er9 => ?_)
            replace er9 := er9.symm
            subst er9
            obtain ⟨b28, h⟩ := ck_elim h
            obtain ⟨S29, eS29, h⟩ := bnd_elim h
            refine va_iast hx hb hK hP hD hS 37 0 rfl rfl b28 dX4_readBooks_84 (fun H locs hP9 _ hS => ?_)
            have hP := swX_37 hP9
            rw [← eS29] at hP
            have hD := wX_D hD S29 L4
            obtain ⟨x30, ex30, h⟩ := bnd_elim h
            refine lv_iinc (v := x30) (lv' := [(2, .int x30), (3, .int r9), (0, .ref (ad 6)), (1, .int p1)]) hx hb dX4_readBooks_85 hl (k := 3) rfl (by rw [ex30]; rfl) (by decide) rfl (fun ls hl => ?_)
            refine lv_goto (tgt := 7) hx hb dX4_readBooks_88 (by decide) ?_
            refine wu_w hWW7 ?_
            exact ih x30 S29 L4 z h H locs hP hS ls (lv_sub hl [2, 3, 0] rfl) K0
          · replace h := it_t c25 h
            refine lv_iload_n hx hb dX4_readBooks_68 rfl (lv_at hl 3 rfl) ?_
            refine lv_goto (tgt := 84) hx hb dX4_readBooks_69 (by decide) ?_
            obtain ⟨b31, h⟩ := ck_elim h
            obtain ⟨S32, eS32, h⟩ := bnd_elim h
            refine va_iast hx hb hK hP hD hS 37 0 rfl rfl b31 dX4_readBooks_84 (fun H locs hP9 _ hS => ?_)
            have hP := swX_37 hP9
            rw [← eS32] at hP
            have hD := wX_D hD S32 L4
            obtain ⟨x33, ex33, h⟩ := bnd_elim h
            refine lv_iinc (v := x33) (lv' := [(2, .int x33), (3, .int r9), (0, .ref (ad 6)), (1, .int p1)]) hx hb dX4_readBooks_85 hl (k := 3) rfl (by rw [ex33]; rfl) (by decide) rfl (fun ls hl => ?_)
            refine lv_goto (tgt := 7) hx hb dX4_readBooks_88 (by decide) ?_
            refine wu_w hWW7 ?_
            exact ih x33 S32 L4 z h H locs hP hS ls (lv_sub hl [2, 3, 0] rfl) K0
  obtain ⟨S35, L36, k34, h⟩ := ob2_elim h
  refine wu_w hWW7 ?_
  refine Lh7 FU 0 S1 L _ k34 H locs hP hS ls (lv_sub hl [1, 2, 0] rfl) ?_
  intro y0 y1 hy H locs hP hS ls hl
  cases hy
  have hD := wX_D hD S35 L36
  refine wi_w hWW7 ?_
  cases h
  exact W.vret hx hb hr (fun t ht hW => ⟨⟨_, rfl, rfl, by show va_P _ _ _ t.heap; rw [ht]; exact hP⟩, hS.F ht⟩) hS.2.2 dX4_readBooks_91
set_option maxHeartbeats 4000000 in
set_option maxRecDepth 100000 in
theorem mX10_hear (l : Launch) (dC : Nat → ClassId) (dI : Nat → Nat → Nat) (cI cJ : ClassId) (ad : Nat → Nat) (p1 : Int32) (p2 : Int32) (S : Nat → Nat → Int32) (L : Nat → Nat → Int64) (sz : Nat) {z : (Nat → Nat → Int32) × (Nat → Nat → Int64)} (h : sX10_hear p1 p2 S L = some z) : Met l yX10_hear wsX10_hear ({ frames := 3, cells := 0, slots := 0, locals := 70 }) (va_Pc [.ref (ad 0), .int p1, .int p2] (QXs sz dC dI cI cJ ad S L)) (va_Qv (fun (u : (Nat → Nat → Int32) × (Nat → Nat → Int64)) => u = z) (fun (u : (Nat → Nat → Int32) × (Nat → Nat → Int64)) t => va_P (dC, dI) vwCl (wX cI cJ ad u.1 u.2) t.heap) (AX 43 ad sz)) 0 0 (AX 43 ad sz) := by
  refine Met.ofW (cc := cX10_hear) (maxL := 3) (ret := none) (by decide) rfl ?_
  intro p e s m args below meth c s₁ B hml hv
  obtain ⟨rfl, hsz, hP, hK, hD0⟩ := hv
  have hx := B.exec
  have hb := B.bytes
  have hr := B.returns
  have hts := atoms_spec (ws := wsX10_hear) B.pre
  have hown : s.vm.findClass RX10 = some m.cls := findClass_of_methodNamed B.named
  have hlocks := B.notSynchronized
  subst hsz
  have hD := wX_DA hD0 s.heap.size
  have hS : va_S (AX 43 ad s.heap.size) s.heap s.heap [] := va_S.rf
  have hl := lv_entry ([.ref (ad 0), .int p1, .int p2]) (n := 3) (Nat.le_of_ble_eq_true rfl)
  rw [lg_entry_eq]
  generalize (lg_sl ([.ref (ad 0), .int p1, .int p2]) ++ List.replicate (3 - (lg_sl ([.ref (ad 0), .int p1, .int p2])).length) Slot.unset).toArray = ls at hl ⊢
  have hl : lv_has ls 3 [(0, .ref (ad 0)), (1, .int p1), (2, .int p2)] := hl
  have hf49 := hts (.fieldLink RX10 49 "LawRings" "hearing" "LLawRings$Hearing;") (by decide +kernel)
  have hiX10 : ∀ w ∈ u_ws RX10 TX10 11, w ∈ wsX10_hear := by decide +kernel
  have hf12 := hts (.fieldLink RX10 12 "LawRings" "cases" "LLawRings$Cases;") (by decide +kernel)
  rw [sX10_hear] at h
  refine lv_aload_n hx hb dX10_hear_0 rfl (lv_at hl 0 rfl) ?_
  refine va_get (D := (dC, dI)) (ci := 10) (v := .ref (ad 6)) (C := RX10) (T := TX10) (N := 11) hx hb hts hiX10 hown hK hP 0 rfl rfl 5 (by decide) hf49 (fun _ h9 => h9) rfl dX10_hear_1 ?_
  refine lv_aload_n hx hb dX10_hear_4 rfl (lv_at hl 0 rfl) ?_
  refine va_get (D := (dC, dI)) (ci := 10) (v := .ref (ad 1)) (C := RX10) (T := TX10) (N := 11) hx hb hts hiX10 hown hK hP 0 rfl rfl 0 (by decide) hf12 (fun _ h9 => h9) rfl dX10_hear_5 ?_
  refine lv_iload_n hx hb dX10_hear_8 rfl (lv_at hl 1 rfl) ?_
  obtain ⟨S2, L3, k1, h⟩ := ob2_elim h
  refine va_callv (va_runV (As := [.ref (ad 1), .int p1]) (rest := []) ⟨hx, hb, hml, hown, hts⟩ (mX4_open l dC dI cI cJ ad p1 S L s.heap.size k1) (cwV 2 hts gX10_hear_X4_open rfl rfl rfl (by decide +kernel) ⟨Nat.le_of_ble_eq_true rfl, Nat.le_of_ble_eq_true rfl⟩) ⟨QXs_blind, va_recv hK hP (ci := 4) (q0 := 6) rfl rfl, fun U hU hW => ⟨rfl, congrArg Array.size hU, QX_at hP hK hD hU hW⟩⟩ rfl rfl hl.1 rfl (lv_room (Nat.le_of_ble_eq_true rfl)) dX10_hear_9 ⟨Nat.zero_le _, Nat.zero_le _⟩) hS (fun q _ hq => AX_mono hS.1 hq) (fun q hq => AX_mono hS.1 hq) (fun u t H1 locs ht hvm hw hB hz1 hk1 hS => ?_)
  cases hw
  rw [ht] at hB
  have hP := hB
  clear hB hk1 hz1
  generalize H1 = H at hP hS ⊢
  have hD := wX_D hD S2 L3
  refine lv_aload_n hx hb dX10_hear_12 rfl (lv_at hl 0 rfl) ?_
  refine va_get (D := (dC, dI)) (ci := 10) (v := .ref (ad 6)) (C := RX10) (T := TX10) (N := 11) hx hb hts hiX10 hown hK hP 0 rfl rfl 5 (by decide) hf49 (fun _ h9 => h9) rfl dX10_hear_13 ?_
  refine lv_iload_n hx hb dX10_hear_16 rfl (lv_at hl 2 rfl) ?_
  obtain ⟨S5, L6, k4, h⟩ := ob2_elim h
  refine va_callv (va_runV (As := [.int p2]) (rest := []) ⟨hx, hb, hml, hown, hts⟩ (mX4_readBooks l dC dI cI cJ ad p2 S2 L3 H.size k4) (cwV 1 hts gX10_hear_X4_readBooks rfl rfl rfl (by decide +kernel) ⟨Nat.le_of_ble_eq_true rfl, Nat.le_of_ble_eq_true rfl⟩) ⟨QXs_blind, va_recv hK hP (ci := 4) (q0 := 6) rfl rfl, fun U hU hW => ⟨rfl, congrArg Array.size hU, QX_at hP hK hD hU hW⟩⟩ rfl rfl hl.1 rfl (lv_room (Nat.le_of_ble_eq_true rfl)) dX10_hear_17 ⟨Nat.zero_le _, Nat.zero_le _⟩) hS (fun q _ hq => AX_mono hS.1 hq) (fun q hq => AX_mono hS.1 hq) (fun u t H1 locs ht hvm hw hB hz1 hk1 hS => ?_)
  cases hw
  rw [ht] at hB
  have hP := hB
  clear hB hk1 hz1
  generalize H1 = H at hP hS ⊢
  have hD := wX_D hD S5 L6
  cases h
  exact W.vret hx hb hr (fun t ht hW => ⟨⟨_, rfl, rfl, by show va_P _ _ _ t.heap; rw [ht]; exact hP⟩, hS.F ht⟩) hS.2.2 dX10_hear_20
set_option maxHeartbeats 4000000 in
set_option maxRecDepth 100000 in
theorem mX10_said (l : Launch) (dC : Nat → ClassId) (dI : Nat → Nat → Nat) (cI cJ : ClassId) (ad : Nat → Nat) (p1 : Int32) (p2 : Int32) (p3 : Int32) (S : Nat → Nat → Int32) (L : Nat → Nat → Int64) (sz : Nat) {z : Int32 × (Nat → Nat → Int32) × (Nat → Nat → Int64)} (h : sX10_said p1 p2 p3 S L = some z) : Met l yX10_said wsX10_said ({ frames := 4, cells := 0, slots := 0, locals := 92 }) (va_Pc [.ref (ad 0), .int p1, .int p2, .int p3] (QXs sz dC dI cI cJ ad S L)) (va_Qi (fun (r : Int32) (u : (Nat → Nat → Int32) × (Nat → Nat → Int64)) => (r, u) = z) (fun (u : (Nat → Nat → Int32) × (Nat → Nat → Int64)) t => va_P (dC, dI) vwCl (wX cI cJ ad u.1 u.2) t.heap) (AX 43 ad sz)) 0 0 (AX 43 ad sz) := by
  refine Met.ofW (cc := cX10_said) (maxL := 4) (ret := (some .int)) (by decide) rfl ?_
  intro p e s m args below meth c s₁ B hml hv
  obtain ⟨rfl, hsz, hP, hK, hD0⟩ := hv
  have hx := B.exec
  have hb := B.bytes
  have hr := B.returns
  have hts := atoms_spec (ws := wsX10_said) B.pre
  have hown : s.vm.findClass RX10 = some m.cls := findClass_of_methodNamed B.named
  have hlocks := B.notSynchronized
  subst hsz
  have hD := wX_DA hD0 s.heap.size
  have hS : va_S (AX 43 ad s.heap.size) s.heap s.heap [] := va_S.rf
  have hl := lv_entry ([.ref (ad 0), .int p1, .int p2, .int p3]) (n := 4) (Nat.le_of_ble_eq_true rfl)
  rw [lg_entry_eq]
  generalize (lg_sl ([.ref (ad 0), .int p1, .int p2, .int p3]) ++ List.replicate (4 - (lg_sl ([.ref (ad 0), .int p1, .int p2, .int p3])).length) Slot.unset).toArray = ls at hl ⊢
  have hl : lv_has ls 4 [(0, .ref (ad 0)), (1, .int p1), (2, .int p2), (3, .int p3)] := hl
  have hf49 := hts (.fieldLink RX10 49 "LawRings" "hearing" "LLawRings$Hearing;") (by decide +kernel)
  have hiX10 : ∀ w ∈ u_ws RX10 TX10 11, w ∈ wsX10_said := by decide +kernel
  have hf179 := hts (.fieldLink RX10 179 "LawRings$Hearing" "end" "[I") (by decide +kernel)
  have hiX4 : ∀ w ∈ u_ws RX4 TX4 9, w ∈ wsX10_said := by decide +kernel
  have hf182 := hts (.fieldLink RX10 182 "LawRings$Hearing" "to" "[I") (by decide +kernel)
  rw [sX10_said] at h
  refine lv_aload_n hx hb dX10_said_0 rfl (lv_at hl 0 rfl) ?_
  refine lv_iload_n hx hb dX10_said_1 rfl (lv_at hl 1 rfl) ?_
  refine lv_iload_n hx hb dX10_said_2 rfl (lv_at hl 2 rfl) ?_
  refine lv_iload_n hx hb dX10_said_3 rfl (lv_at hl 3 rfl) ?_
  obtain ⟨r2, k1, h⟩ := ob_elim h
  refine vp_callSi (W.runV (As := [.int p1, .int p2, .int p3]) (rest := []) ⟨hx, hb, hml, hown, hts⟩ (mX10_isQuestion l dC dI cI cJ ad p1 p2 p3 S L k1) (cwV 3 hts gX10_said_X10_isQuestion rfl rfl rfl (by decide +kernel) ⟨Nat.le_of_ble_eq_true rfl, Nat.le_of_ble_eq_true rfl⟩) ⟨QX_blind, va_recv hK hP (ci := 10) (q0 := 0) rfl rfl, fun U hU hW => ⟨rfl, QX_at hP hK hD hU hW⟩⟩ rfl rfl hl.1 rfl (lv_room (Nat.le_of_ble_eq_true rfl)) dX10_said_4 ⟨Nat.zero_le _, Nat.zero_le _⟩) (fun r9 er9 => ?_)
  replace er9 := er9.symm
  subst er9
  refine lv_if_ne (tgt := 13) hx hb dX10_said_7 (by decide) (fun c3 => ?_) (fun c3 => ?_)
  · replace h := it_f c3 h
    refine lv_aload_n hx hb dX10_said_13 rfl (lv_at hl 0 rfl) ?_
    refine lv_iload_n hx hb dX10_said_14 rfl (lv_at hl 2 rfl) ?_
    refine lv_iload_n hx hb dX10_said_15 rfl (lv_at hl 3 rfl) ?_
    obtain ⟨S5, L6, k4, h⟩ := ob2_elim h
    refine va_callv (va_runV (As := [.int p2, .int p3]) (rest := []) ⟨hx, hb, hml, hown, hts⟩ (mX10_hear l dC dI cI cJ ad p2 p3 S L s.heap.size k4) (cwV 2 hts gX10_said_X10_hear rfl rfl rfl (by decide +kernel) ⟨Nat.le_of_ble_eq_true rfl, Nat.le_of_ble_eq_true rfl⟩) ⟨QXs_blind, va_recv hK hP (ci := 10) (q0 := 0) rfl rfl, fun U hU hW => ⟨rfl, congrArg Array.size hU, QX_at hP hK hD hU hW⟩⟩ rfl rfl hl.1 rfl (lv_room (Nat.le_of_ble_eq_true rfl)) dX10_said_16 ⟨Nat.zero_le _, Nat.zero_le _⟩) hS (fun q _ hq => AX_mono hS.1 hq) (fun q hq => AX_mono hS.1 hq) (fun u t H1 locs ht hvm hw hB hz1 hk1 hS => ?_)
    cases hw
    rw [ht] at hB
    have hP := hB
    clear hB hk1 hz1
    generalize H1 = H at hP hS ⊢
    have hD := wX_D hD S5 L6
    refine lv_bipush (v := 10) hx hb dX10_said_19 (by decide) ?_
    refine lv_aload_n hx hb dX10_said_21 rfl (lv_at hl 0 rfl) ?_
    refine va_get (D := (dC, dI)) (ci := 10) (v := .ref (ad 6)) (C := RX10) (T := TX10) (N := 11) hx hb hts hiX10 hown hK hP 0 rfl rfl 5 (by decide) hf49 (fun _ h9 => h9) rfl dX10_said_22 ?_
    refine va_get (D := (dC, dI)) (ci := 4) (v := .ref (ad 36)) (C := RX4) (T := TX4) (N := 9) hx hb hts hiX4 hown hK hP 6 rfl rfl 6 (by decide) hf179 (fun _ h9 => h9) rfl dX10_said_25 ?_
    refine lv_iload_n hx hb dX10_said_28 rfl (lv_at hl 1 rfl) ?_
    obtain ⟨b7, h⟩ := ck_elim h
    refine va_iald hx hb hK hP 36 0 rfl rfl b7 dX10_said_29 ?_
    refine lv_imul hx hb dX10_said_30 ?_
    refine lv_aload_n hx hb dX10_said_31 rfl (lv_at hl 0 rfl) ?_
    refine va_get (D := (dC, dI)) (ci := 10) (v := .ref (ad 6)) (C := RX10) (T := TX10) (N := 11) hx hb hts hiX10 hown hK hP 0 rfl rfl 5 (by decide) hf49 (fun _ h9 => h9) rfl dX10_said_32 ?_
    refine va_get (D := (dC, dI)) (ci := 4) (v := .ref (ad 37)) (C := RX4) (T := TX4) (N := 9) hx hb hts hiX4 hown hK hP 6 rfl rfl 7 (by decide) hf182 (fun _ h9 => h9) rfl dX10_said_35 ?_
    refine lv_iload_n hx hb dX10_said_38 rfl (lv_at hl 1 rfl) ?_
    obtain ⟨b8, h⟩ := ck_elim h
    refine va_iald hx hb hK hP 37 0 rfl rfl b8 dX10_said_39 ?_
    refine lv_iadd hx hb dX10_said_40 ?_
    cases h
    exact W.iret hx hb hr (fun t ht hW => ⟨⟨_, _, rfl, rfl, by show va_P _ _ _ t.heap; rw [ht]; exact hP⟩, hS.F ht⟩) hS.2.2 dX10_said_41
  · replace h := it_t c3 h
    refine lv_bipush (v := (-2)) hx hb dX10_said_10 (by decide) ?_
    cases h
    exact W.iret hx hb hr (fun t ht hW => ⟨⟨_, _, rfl, rfl, by show va_P _ _ _ t.heap; rw [ht]; exact hP⟩, hS.F ht⟩) hS.2.2 dX10_said_12
set_option maxHeartbeats 4000000 in
set_option maxRecDepth 100000 in
theorem mX11_saying (l : Launch) (dC : Nat → ClassId) (dI : Nat → Nat → Nat) (cI cZ : ClassId) (ad : Nat → Nat) (p1 : Int32) (p2 : Int32) (S : Nat → Nat → Int32) {z : Int32} (h : sX11_saying p1 p2 S = some z) : Met l yX11_saying wsX11_saying ({ frames := 5, cells := 0, slots := 0, locals := 112 }) (va_Pc [.ref (ad 0), .int p1, .int p2] (QM dC dI cI cZ ad S)) (vp_Si (fun r => r = z)) 0 0 (fun _ => False) := by
  refine Met.ofW (cc := cX11_saying) (maxL := 4) (ret := (some .int)) (by decide) rfl ?_
  intro p e s m args below meth c s₁ B hml hv
  obtain ⟨rfl, hP, hK, hD⟩ := hv
  have hx := B.exec
  have hb := B.bytes
  have hr := B.returns
  have hts := atoms_spec (ws := wsX11_saying) B.pre
  have hown : s.vm.findClass RX11 = some m.cls := findClass_of_methodNamed B.named
  have hlocks := B.notSynchronized
  have hl := lv_entry ([.ref (ad 0), .int p1, .int p2]) (n := 4) (Nat.le_of_ble_eq_true rfl)
  rw [lg_entry_eq]
  generalize (lg_sl ([.ref (ad 0), .int p1, .int p2]) ++ List.replicate (4 - (lg_sl ([.ref (ad 0), .int p1, .int p2])).length) Slot.unset).toArray = ls at hl ⊢
  have hl : lv_has ls 4 [(0, .ref (ad 0)), (1, .int p1), (2, .int p2)] := hl
  rw [sX11_saying] at h
  refine lv_aload_n hx hb dX11_saying_0 rfl (lv_at hl 0 rfl) ?_
  refine lv_iload_n hx hb dX11_saying_1 rfl (lv_at hl 1 rfl) ?_
  refine lv_iload_n hx hb dX11_saying_2 rfl (lv_at hl 2 rfl) ?_
  obtain ⟨r2, k1, h⟩ := ob_elim h
  refine vp_callSi (W.runV (As := [.int p1, .int p2]) (rest := []) ⟨hx, hb, hml, hown, hts⟩ (mX11_ruleBy l dC dI cI cZ ad p1 p2 S k1) (cwV 2 hts gX11_saying_X11_ruleBy rfl rfl rfl (by decide +kernel) ⟨Nat.le_of_ble_eq_true rfl, Nat.le_of_ble_eq_true rfl⟩) ⟨QM_blind, va_recv hK hP (ci := 11) (q0 := 0) rfl rfl, fun U hU hW => ⟨rfl, QM_at hP hK hD hU hW⟩⟩ rfl rfl hl.1 rfl (lv_room (Nat.le_of_ble_eq_true rfl)) dX11_saying_3 ⟨Nat.zero_le _, Nat.zero_le _⟩) (fun r9 er9 => ?_)
  replace er9 := er9.symm
  subst er9
  refine lv_istore_n (lv' := [(3, .int r2), (0, .ref (ad 0)), (1, .int p1), (2, .int p2)]) hx hb dX11_saying_6 rfl hl (by decide) rfl (fun ls hl => ?_)
  refine lv_iload_n hx hb dX11_saying_7 rfl (lv_at hl 0 rfl) ?_
  refine lv_iconst (v := (-1)) hx hb dX11_saying_8 (by decide) ?_
  refine lv_icmp_ne (tgt := 16) hx hb dX11_saying_9 (by decide) (fun c3 => ?_) (fun c3 => ?_)
  · replace h := it_f c3 h
    refine lv_bipush (v := 10) hx hb dX11_saying_16 (by decide) ?_
    refine lv_aload_n hx hb dX11_saying_18 rfl (lv_at hl 1 rfl) ?_
    refine lv_iload_n hx hb dX11_saying_19 rfl (lv_at hl 0 rfl) ?_
    refine lv_iconst (v := 2) hx hb dX11_saying_20 (by decide) ?_
    obtain ⟨r5, k4, h⟩ := ob_elim h
    refine vp_callSi (W.runV (As := [.int r2, .int 2]) (rest := [.int 10]) ⟨hx, hb, hml, hown, hts⟩ (mX11_ruleOf l dC dI cI cZ ad r2 2 S k4) (cwV 2 hts gX11_saying_X11_ruleOf rfl rfl rfl (by decide +kernel) ⟨Nat.le_of_ble_eq_true rfl, Nat.le_of_ble_eq_true rfl⟩) ⟨QM_blind, va_recv hK hP (ci := 11) (q0 := 0) rfl rfl, fun U hU hW => ⟨rfl, QM_at hP hK hD hU hW⟩⟩ rfl rfl hl.1 rfl (lv_room (Nat.le_of_ble_eq_true rfl)) dX11_saying_21 ⟨Nat.zero_le _, Nat.zero_le _⟩) (fun r9 er9 => ?_)
    replace er9 := er9.symm
    subst er9
    refine lv_imul hx hb dX11_saying_24 ?_
    refine lv_aload_n hx hb dX11_saying_25 rfl (lv_at hl 1 rfl) ?_
    refine lv_iload_n hx hb dX11_saying_26 rfl (lv_at hl 0 rfl) ?_
    obtain ⟨r7, k6, h⟩ := ob_elim h
    refine vp_callSi (W.runV (As := [.int r2]) (rest := [.int (10 * r5)]) ⟨hx, hb, hml, hown, hts⟩ (mX11_endOf l dC dI cI cZ ad r2 S k6) (cwV 1 hts gX11_saying_X11_endOf rfl rfl rfl (by decide +kernel) ⟨Nat.le_of_ble_eq_true rfl, Nat.le_of_ble_eq_true rfl⟩) ⟨QM_blind, va_recv hK hP (ci := 11) (q0 := 0) rfl rfl, fun U hU hW => ⟨rfl, QM_at hP hK hD hU hW⟩⟩ rfl rfl hl.1 rfl (lv_room (Nat.le_of_ble_eq_true rfl)) dX11_saying_27 ⟨Nat.zero_le _, Nat.zero_le _⟩) (fun r9 er9 => ?_)
    replace er9 := er9.symm
    subst er9
    refine lv_iadd hx hb dX11_saying_30 ?_
    cases h
    exact W.iret hx hb hr (fun t ht hW => ⟨_, rfl, rfl, ht⟩) (fun q hq => absurd hq List.not_mem_nil) dX11_saying_31
  · replace h := it_t c3 h
    refine lv_iload_n hx hb dX11_saying_12 rfl (lv_at hl 2 rfl) ?_
    refine lv_goto (tgt := 31) hx hb dX11_saying_13 (by decide) ?_
    cases h
    exact W.iret hx hb hr (fun t ht hW => ⟨_, rfl, rfl, ht⟩) (fun q hq => absurd hq List.not_mem_nil) dX11_saying_31
set_option maxHeartbeats 4000000 in
set_option maxRecDepth 100000 in
theorem mX11_said (l : Launch) (dC : Nat → ClassId) (dI : Nat → Nat → Nat) (cI cZ : ClassId) (ad : Nat → Nat) (p1 : Int32) (p2 : Int32) (p3 : Int32) (S : Nat → Nat → Int32) (sz : Nat) {z : Int32 × (Nat → Nat → Int32)} (h : sX11_said p1 p2 p3 S = some z) : Met l yX11_said wsX11_said ({ frames := 6, cells := 0, slots := 0, locals := 135 }) (va_Pc [.ref (ad 0), .int p1, .int p2, .int p3] (QMs sz dC dI cI cZ ad S)) (va_Qi (fun (r : Int32) (u : (Nat → Nat → Int32)) => (r, u) = z) (fun (u : (Nat → Nat → Int32)) t => va_P (dC, dI) vwCl (wM cI cZ ad u) t.heap) (AX 7 ad sz)) 0 0 (AX 7 ad sz) := by
  refine Met.ofW (cc := cX11_said) (maxL := 4) (ret := (some .int)) (by decide) rfl ?_
  intro p e s m args below meth c s₁ B hml hv
  obtain ⟨rfl, hsz, hP, hK, hD0⟩ := hv
  have hx := B.exec
  have hb := B.bytes
  have hr := B.returns
  have hts := atoms_spec (ws := wsX11_said) B.pre
  have hown : s.vm.findClass RX11 = some m.cls := findClass_of_methodNamed B.named
  have hlocks := B.notSynchronized
  subst hsz
  have hD := wM_DA hD0 s.heap.size
  have hS : va_S (AX 7 ad s.heap.size) s.heap s.heap [] := va_S.rf
  have hl := lv_entry ([.ref (ad 0), .int p1, .int p2, .int p3]) (n := 4) (Nat.le_of_ble_eq_true rfl)
  rw [lg_entry_eq]
  generalize (lg_sl ([.ref (ad 0), .int p1, .int p2, .int p3]) ++ List.replicate (4 - (lg_sl ([.ref (ad 0), .int p1, .int p2, .int p3])).length) Slot.unset).toArray = ls at hl ⊢
  have hl : lv_has ls 4 [(0, .ref (ad 0)), (1, .int p1), (2, .int p2), (3, .int p3)] := hl
  rw [sX11_said] at h
  refine lv_aload_n hx hb dX11_said_0 rfl (lv_at hl 0 rfl) ?_
  refine lv_iload_n hx hb dX11_said_1 rfl (lv_at hl 1 rfl) ?_
  refine lv_iload_n hx hb dX11_said_2 rfl (lv_at hl 2 rfl) ?_
  refine lv_iload_n hx hb dX11_said_3 rfl (lv_at hl 3 rfl) ?_
  obtain ⟨r2, k1, h⟩ := ob_elim h
  refine vp_callSi (W.runV (As := [.int p1, .int p2, .int p3]) (rest := []) ⟨hx, hb, hml, hown, hts⟩ (mX11_isAsked l dC dI cI cZ ad p1 p2 p3 S k1) (cwV 3 hts gX11_said_X11_isAsked rfl rfl rfl (by decide +kernel) ⟨Nat.le_of_ble_eq_true rfl, Nat.le_of_ble_eq_true rfl⟩) ⟨QM_blind, va_recv hK hP (ci := 11) (q0 := 0) rfl rfl, fun U hU hW => ⟨rfl, QM_at hP hK hD hU hW⟩⟩ rfl rfl hl.1 rfl (lv_room (Nat.le_of_ble_eq_true rfl)) dX11_said_4 ⟨Nat.zero_le _, Nat.zero_le _⟩) (fun r9 er9 => ?_)
  replace er9 := er9.symm
  subst er9
  refine lv_if_ne (tgt := 13) hx hb dX11_said_7 (by decide) (fun c3 => ?_) (fun c3 => ?_)
  · replace h := it_f c3 h
    refine lv_aload_n hx hb dX11_said_13 rfl (lv_at hl 0 rfl) ?_
    refine lv_iload_n hx hb dX11_said_14 rfl (lv_at hl 2 rfl) ?_
    obtain ⟨S5, k4, h⟩ := ob_elim h
    refine va_callv (va_runV (As := [.int p2]) (rest := []) ⟨hx, hb, hml, hown, hts⟩ (mX11_looksAt l dC dI cI cZ ad p2 S s.heap.size k4) (cwV 1 hts gX11_said_X11_looksAt rfl rfl rfl (by decide +kernel) ⟨Nat.le_of_ble_eq_true rfl, Nat.le_of_ble_eq_true rfl⟩) ⟨QMs_blind, va_recv hK hP (ci := 11) (q0 := 0) rfl rfl, fun U hU hW => ⟨rfl, congrArg Array.size hU, QM_at hP hK hD hU hW⟩⟩ rfl rfl hl.1 rfl (lv_room (Nat.le_of_ble_eq_true rfl)) dX11_said_15 ⟨Nat.zero_le _, Nat.zero_le _⟩) hS (fun q _ hq => AX_mono hS.1 hq) (fun q hq => AX_mono hS.1 hq) (fun u t H1 locs ht hvm hw hB hz1 hk1 hS => ?_)
    cases hw
    rw [ht] at hB
    have hP := hB
    clear hB hk1 hz1
    generalize H1 = H at hP hS ⊢
    have hD := wM_D hD S5
    refine lv_aload_n hx hb dX11_said_18 rfl (lv_at hl 0 rfl) ?_
    refine lv_iload_n hx hb dX11_said_19 rfl (lv_at hl 1 rfl) ?_
    refine lv_iload_n hx hb dX11_said_20 rfl (lv_at hl 3 rfl) ?_
    obtain ⟨r7, k6, h⟩ := ob_elim h
    refine vp_callSi (W.runV (As := [.int p1, .int p3]) (rest := []) ⟨hx, hb, hml, hown, hts⟩ (mX11_saying l dC dI cI cZ ad p1 p3 S5 k6) (cwV 2 hts gX11_said_X11_saying rfl rfl rfl (by decide +kernel) ⟨Nat.le_of_ble_eq_true rfl, Nat.le_of_ble_eq_true rfl⟩) ⟨QM_blind, va_recv hK hP (ci := 11) (q0 := 0) rfl rfl, fun U hU hW => ⟨rfl, QM_at hP hK hD hU hW⟩⟩ rfl rfl hl.1 rfl (lv_room (Nat.le_of_ble_eq_true rfl)) dX11_said_21 ⟨Nat.zero_le _, Nat.zero_le _⟩) (fun r9 er9 => ?_)
    replace er9 := er9.symm
    subst er9
    cases h
    exact W.iret hx hb hr (fun t ht hW => ⟨⟨_, _, rfl, rfl, by show va_P _ _ _ t.heap; rw [ht]; exact hP⟩, hS.F ht⟩) hS.2.2 dX11_said_24
  · replace h := it_t c3 h
    refine lv_bipush (v := (-2)) hx hb dX11_said_10 (by decide) ?_
    cases h
    exact W.iret hx hb hr (fun t ht hW => ⟨⟨_, _, rfl, rfl, by show va_P _ _ _ t.heap; rw [ht]; exact hP⟩, hS.F ht⟩) hS.2.2 dX11_said_12
set_option maxHeartbeats 4000000 in
set_option maxRecDepth 100000 in
theorem mX8_tells (l : Launch) (dC : Nat → ClassId) (dI : Nat → Nat → Nat) (cI cJ : ClassId) (ad : Nat → Nat) (p1 : Int32) (p2 : Int32) (S : Nat → Nat → Int32) (L : Nat → Nat → Int64) {z : Int32} (h : sX8_tells p1 p2 S L = some z) : Met l yX8_tells wsX8_tells ({ frames := 0, cells := 0, slots := 0, locals := 0 }) (va_Pc [.ref (ad 4), .int p1, .int p2, .ref (ad 35)] (QX dC dI cI cJ ad S L)) (vp_Si (fun r => r = z)) 0 0 (fun _ => False) := by
  refine Met.ofW (cc := cX8_tells) (maxL := 6) (ret := (some .int)) (by decide) rfl ?_
  intro p e s m args below meth c s₁ B hml hv
  obtain ⟨rfl, hP, hK, hD⟩ := hv
  have hx := B.exec
  have hb := B.bytes
  have hr := B.returns
  have hts := atoms_spec (ws := wsX8_tells) B.pre
  have hown : s.vm.findClass RX8 = some m.cls := findClass_of_methodNamed B.named
  have hlocks := B.notSynchronized
  have hl := lv_entry ([.ref (ad 4), .int p1, .int p2, .ref (ad 35)]) (n := 6) (Nat.le_of_ble_eq_true rfl)
  rw [lg_entry_eq]
  generalize (lg_sl ([.ref (ad 4), .int p1, .int p2, .ref (ad 35)]) ++ List.replicate (6 - (lg_sl ([.ref (ad 4), .int p1, .int p2, .ref (ad 35)])).length) Slot.unset).toArray = ls at hl ⊢
  have hl : lv_has ls 6 [(0, .ref (ad 4)), (1, .int p1), (2, .int p2), (3, .ref (ad 35))] := hl
  have hf21 := hts (.fieldLink RX8 21 "LawRings$Treaties" "size" "I") (by decide +kernel)
  have hiX8 : ∀ w ∈ u_ws RX8 TX8 4, w ∈ wsX8_tells := by decide +kernel
  have hf18 := hts (.fieldLink RX8 18 "LawRings$Treaties" "tie" "[I") (by decide +kernel)
  have hf9 := hts (.fieldLink RX8 9 "LawRings$Treaties" "kind" "[I") (by decide +kernel)
  have hf15 := hts (.fieldLink RX8 15 "LawRings$Treaties" "lands" "[I") (by decide +kernel)
  rw [sX8_tells] at h
  refine lv_iconst (v := 0) hx hb dX8_tells_0 (by decide) ?_
  refine lv_istore (lv' := [(4, .int 0), (0, .ref (ad 4)), (1, .int p1), (2, .int p2), (3, .ref (ad 35))]) hx hb dX8_tells_1 hl (by decide) rfl (fun ls hl => ?_)
  refine ww_r (fun WW3 hWW3 => ?_)
  have Lh3 : ∀ (n : Nat) (v1 : Int32) (z : ((Int32) ⊕ Unit)), lX8_tells_3 p1 p2 S L n v1 = some z → ∀ ls : Array Slot, lv_has ls 6 [(0, .ref (ad 4)), (1, .int p1), (2, .int p2), (3, .ref (ad 35)), (4, .int v1)] → (∀ (y0 : Int32), z = .inl y0 → ∀ ls : Array Slot, lv_has ls 6 [(5, .int y0)] → WW3  72 ls) → (z = .inr () → ∀ ls : Array Slot, lv_has ls 6 [] → WW3  81 ls) → WW3  3 ls := by
    intro n
    induction n with
    | zero => intro v1 z h ls hl K0 K1; rw [lX8_tells_3] at h; cases h
    | succ n ih =>
      intro v1 z h ls hl K0 K1
      rw [lX8_tells_3] at h
      refine wi_r hWW3 ?_
      refine lv_iload hx hb dX8_tells_3 (lv_at hl 4 rfl) ?_
      refine lv_aload_n hx hb dX8_tells_5 rfl (lv_at hl 0 rfl) ?_
      refine va_get (D := (dC, dI)) (ci := 8) (v := .int (S 4 0)) (C := RX8) (T := TX8) (N := 4) hx hb hts hiX8 hown hK hP 4 rfl rfl 0 (by decide) hf21 (fun _ h9 => h9) rfl dX8_tells_6 ?_
      refine lv_icmp_ge (tgt := 81) hx hb dX8_tells_9 (by decide) (fun c2 => ?_) (fun c2 => ?_)
      · replace h := it_t c2 h
        refine wu_r hWW3 ?_
        exact K1 (Option.some.inj h).symm ls (lv_sub hl [] rfl)
      · replace h := it_f c2 h
        refine lv_aload_n hx hb dX8_tells_12 rfl (lv_at hl 3 rfl) ?_
        refine lv_aload_n hx hb dX8_tells_13 rfl (lv_at hl 0 rfl) ?_
        refine va_get (D := (dC, dI)) (ci := 8) (v := .ref (ad 33)) (C := RX8) (T := TX8) (N := 4) hx hb hts hiX8 hown hK hP 4 rfl rfl 3 (by decide) hf18 (fun _ h9 => h9) rfl dX8_tells_14 ?_
        refine lv_iload hx hb dX8_tells_17 (lv_at hl 4 rfl) ?_
        obtain ⟨b3, h⟩ := ck_elim h
        refine va_iald hx hb hK hP 33 0 rfl rfl b3 dX8_tells_19 ?_
        obtain ⟨b4, h⟩ := ck_elim h
        refine va_iald hx hb hK hP 35 0 rfl rfl b4 dX8_tells_20 ?_
        obtain ⟨x5, ex5, h⟩ := bnd_elim h
        refine nm_i ex5 ?_
        refine lv_istore (lv' := [(5, .int x5), (0, .ref (ad 4)), (1, .int p1), (2, .int p2), (3, .ref (ad 35)), (4, .int v1)]) hx hb dX8_tells_21 hl (by decide) rfl (fun ls hl => ?_)
        refine lv_aload_n hx hb dX8_tells_23 rfl (lv_at hl 1 rfl) ?_
        refine va_get (D := (dC, dI)) (ci := 8) (v := .ref (ad 31)) (C := RX8) (T := TX8) (N := 4) hx hb hts hiX8 hown hK hP 4 rfl rfl 1 (by decide) hf9 (fun _ h9 => h9) rfl dX8_tells_24 ?_
        refine lv_iload hx hb dX8_tells_27 (lv_at hl 5 rfl) ?_
        obtain ⟨b6, h⟩ := ck_elim h
        refine va_iald hx hb hK hP 31 0 rfl rfl b6 dX8_tells_29 ?_
        refine lv_iload_n hx hb dX8_tells_30 rfl (lv_at hl 3 rfl) ?_
        refine lv_icmp_ne (tgt := 75) hx hb dX8_tells_31 (by decide) (fun c7 => ?_) (fun c7 => ?_)
        · replace h := it_f c7 h
          obtain ⟨x8, ex8, h⟩ := bnd_elim h
          refine lv_iinc (v := x8) (lv' := [(4, .int x8), (5, .int x5), (0, .ref (ad 4)), (1, .int p1), (2, .int p2), (3, .ref (ad 35))]) hx hb dX8_tells_75 hl (k := 5) rfl (by rw [ex8]; rfl) (by decide) rfl (fun ls hl => ?_)
          refine lv_goto (tgt := 3) hx hb dX8_tells_78 (by decide) ?_
          refine wu_r hWW3 ?_
          exact ih x8 z h ls (lv_sub hl [2, 3, 4, 5, 0] rfl) K0 K1
        · replace h := it_t c7 h
          refine lv_iload hx hb dX8_tells_34 (lv_at hl 0 rfl) ?_
          refine lv_iconst (v := (-1)) hx hb dX8_tells_36 (by decide) ?_
          refine lv_icmp_ne (tgt := 43) hx hb dX8_tells_37 (by decide) (fun c9 => ?_) (fun c9 => ?_)
          · replace h := it_f c9 h
            refine lv_aload_n hx hb dX8_tells_43 rfl (lv_at hl 1 rfl) ?_
            refine va_get (D := (dC, dI)) (ci := 8) (v := .ref (ad 32)) (C := RX8) (T := TX8) (N := 4) hx hb hts hiX8 hown hK hP 4 rfl rfl 2 (by decide) hf15 (fun _ h9 => h9) rfl dX8_tells_44 ?_
            refine lv_iload hx hb dX8_tells_47 (lv_at hl 5 rfl) ?_
            obtain ⟨b10, h⟩ := ck_elim h
            refine va_iald hx hb hK hP 32 0 rfl rfl b10 dX8_tells_49 ?_
            refine lv_iload_n hx hb dX8_tells_50 rfl (lv_at hl 2 rfl) ?_
            refine lv_iushr (v := iush (S 32 v1.toNatClampNeg) p1) hx hb dX8_tells_51 rfl ?_
            refine lv_iconst (v := 1) hx hb dX8_tells_52 (by decide) ?_
            refine lv_iand hx hb dX8_tells_53 ?_
            refine lv_if_eq (tgt := 75) hx hb dX8_tells_54 (by decide) (fun c11 => ?_) (fun c11 => ?_)
            · replace h := it_t c11 h
              obtain ⟨x12, ex12, h⟩ := bnd_elim h
              refine lv_iinc (v := x12) (lv' := [(4, .int x12), (5, .int x5), (0, .ref (ad 4)), (1, .int p1), (2, .int p2), (3, .ref (ad 35))]) hx hb dX8_tells_75 hl (k := 5) rfl (by rw [ex12]; rfl) (by decide) rfl (fun ls hl => ?_)
              refine lv_goto (tgt := 3) hx hb dX8_tells_78 (by decide) ?_
              refine wu_r hWW3 ?_
              exact ih x12 z h ls (lv_sub hl [2, 3, 4, 5, 0] rfl) K0 K1
            · replace h := it_f c11 h
              refine lv_aload_n hx hb dX8_tells_57 rfl (lv_at hl 1 rfl) ?_
              refine va_get (D := (dC, dI)) (ci := 8) (v := .ref (ad 32)) (C := RX8) (T := TX8) (N := 4) hx hb hts hiX8 hown hK hP 4 rfl rfl 2 (by decide) hf15 (fun _ h9 => h9) rfl dX8_tells_58 ?_
              refine lv_iload hx hb dX8_tells_61 (lv_at hl 5 rfl) ?_
              obtain ⟨b13, h⟩ := ck_elim h
              refine va_iald hx hb hK hP 32 0 rfl rfl b13 dX8_tells_63 ?_
              refine lv_iload hx hb dX8_tells_64 (lv_at hl 0 rfl) ?_
              refine lv_iushr (v := iush (S 32 v1.toNatClampNeg) x5) hx hb dX8_tells_66 rfl ?_
              refine lv_iconst (v := 1) hx hb dX8_tells_67 (by decide) ?_
              refine lv_iand hx hb dX8_tells_68 ?_
              refine lv_if_eq (tgt := 75) hx hb dX8_tells_69 (by decide) (fun c14 => ?_) (fun c14 => ?_)
              · replace h := it_t c14 h
                obtain ⟨x15, ex15, h⟩ := bnd_elim h
                refine lv_iinc (v := x15) (lv' := [(4, .int x15), (5, .int x5), (0, .ref (ad 4)), (1, .int p1), (2, .int p2), (3, .ref (ad 35))]) hx hb dX8_tells_75 hl (k := 5) rfl (by rw [ex15]; rfl) (by decide) rfl (fun ls hl => ?_)
                refine lv_goto (tgt := 3) hx hb dX8_tells_78 (by decide) ?_
                refine wu_r hWW3 ?_
                exact ih x15 z h ls (lv_sub hl [2, 3, 4, 5, 0] rfl) K0 K1
              · replace h := it_f c14 h
                refine wu_r hWW3 ?_
                exact K0 x5 (Option.some.inj h).symm ls (lv_sub hl [0] rfl)
          · replace h := it_t c9 h
            refine lv_goto (tgt := 75) hx hb dX8_tells_40 (by decide) ?_
            obtain ⟨x16, ex16, h⟩ := bnd_elim h
            refine lv_iinc (v := x16) (lv' := [(4, .int x16), (5, .int x5), (0, .ref (ad 4)), (1, .int p1), (2, .int p2), (3, .ref (ad 35))]) hx hb dX8_tells_75 hl (k := 5) rfl (by rw [ex16]; rfl) (by decide) rfl (fun ls hl => ?_)
            refine lv_goto (tgt := 3) hx hb dX8_tells_78 (by decide) ?_
            refine wu_r hWW3 ?_
            exact ih x16 z h ls (lv_sub hl [2, 3, 4, 5, 0] rfl) K0 K1
  obtain ⟨q9, k17, h⟩ | ⟨q9, k17, h⟩ := os2_elim h
  · obtain ⟨w18, rfl⟩ : ∃ y, y = q9 := ⟨_, rfl⟩
    refine wu_r hWW3 ?_
    refine Lh3 FU 0 _ k17 ls (lv_sub hl [1, 2, 3, 4, 0] rfl) ?_ (fun hy => by cases hy)
    intro y0 hy ls hl
    cases hy
    refine wi_r hWW3 ?_
    refine lv_iload hx hb dX8_tells_72 (lv_at hl 0 rfl) ?_
    cases h
    exact W.iret hx hb hr (fun t ht hW => ⟨_, rfl, rfl, ht⟩) (fun q hq => absurd hq List.not_mem_nil) dX8_tells_74
  · refine wu_r hWW3 ?_
    refine Lh3 FU 0 _ k17 ls (lv_sub hl [1, 2, 3, 4, 0] rfl) (fun _ hy => by cases hy) ?_
    intro hy ls hl
    cases hy
    refine wi_r hWW3 ?_
    refine lv_iconst (v := (-1)) hx hb dX8_tells_81 (by decide) ?_
    cases h
    exact W.iret hx hb hr (fun t ht hW => ⟨_, rfl, rfl, ht⟩) (fun q hq => absurd hq List.not_mem_nil) dX8_tells_82
