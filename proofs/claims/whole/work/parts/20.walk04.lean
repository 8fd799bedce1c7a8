set_option maxHeartbeats 4000000 in
set_option maxRecDepth 100000 in
theorem mX10_holds (l : Launch) (dC : Nat → ClassId) (dI : Nat → Nat → Nat) (cI cJ : ClassId) (ad : Nat → Nat) (p1 : Int32) (p2 : Int32) (S : Nat → Nat → Int32) (L : Nat → Nat → Int64) (sz : Nat) {z : Int32 × (Nat → Nat → Int32) × (Nat → Nat → Int64)} (h : sX10_holds p1 p2 S L = some z) : Met l yX10_holds wsX10_holds ({ frames := 3, cells := 0, slots := 0, locals := 69 }) (va_Pc [.ref (ad 0), .int p1, .int p2] (QXs sz dC dI cI cJ ad S L)) (va_Qi (fun (r : Int32) (u : (Nat → Nat → Int32) × (Nat → Nat → Int64)) => (r, u) = z) (fun (u : (Nat → Nat → Int32) × (Nat → Nat → Int64)) t => va_P (dC, dI) vwCl (wX cI cJ ad u.1 u.2) t.heap) (AX 43 ad sz)) 0 0 (AX 43 ad sz) := by
  refine Met.ofW (cc := cX10_holds) (maxL := 3) (ret := (some .int)) (by decide) rfl ?_
  intro p e s m args below meth c s₁ B hml hv
  obtain ⟨rfl, hsz, hP, hK, hD0⟩ := hv
  have hx := B.exec
  have hb := B.bytes
  have hr := B.returns
  have hts := atoms_spec (ws := wsX10_holds) B.pre
  have hown : s.vm.findClass RX10 = some m.cls := findClass_of_methodNamed B.named
  have hlocks := B.notSynchronized
  subst hsz
  have hD := wX_DA hD0 s.heap.size
  have hS : va_S (AX 43 ad s.heap.size) s.heap s.heap [] := va_S.rf
  have hl := lv_entry ([.ref (ad 0), .int p1, .int p2]) (n := 3) (Nat.le_of_ble_eq_true rfl)
  rw [lg_entry_eq]
  generalize (lg_sl ([.ref (ad 0), .int p1, .int p2]) ++ List.replicate (3 - (lg_sl ([.ref (ad 0), .int p1, .int p2])).length) Slot.unset).toArray = ls at hl ⊢
  have hl : lv_has ls 3 [(0, .ref (ad 0)), (1, .int p1), (2, .int p2)] := hl
  have hf49 := hts (.fieldLink RX10 49 "LawRings" "hearing" "LLawRings$Hearing;") (by decide +kernel)
  have hiX10 : ∀ w ∈ u_ws RX10 TX10 11, w ∈ wsX10_holds := by decide +kernel
  have hf12 := hts (.fieldLink RX10 12 "LawRings" "cases" "LLawRings$Cases;") (by decide +kernel)
  have hf163 := hts (.fieldLink RX10 163 "LawRings$Hearing" "held" "J") (by decide +kernel)
  have hiX4 : ∀ w ∈ u_ws RX4 TX4 9, w ∈ wsX10_holds := by decide +kernel
  rw [sX10_holds] at h
  refine lv_aload_n hx hb dX10_holds_0 rfl (lv_at hl 0 rfl) ?_
  refine lv_iload_n hx hb dX10_holds_1 rfl (lv_at hl 1 rfl) ?_
  obtain ⟨r2, k1, h⟩ := ob_elim h
  refine vp_callSi (W.runV (As := [.int p1]) (rest := []) ⟨hx, hb, hml, hown, hts⟩ (mX10_isRule l dC dI cI cJ ad p1 S L k1) (cwV 1 hts gX10_holds_X10_isRule rfl rfl rfl (by decide +kernel) ⟨Nat.le_of_ble_eq_true rfl, Nat.le_of_ble_eq_true rfl⟩) ⟨QX_blind, va_recv hK hP (ci := 10) (q0 := 0) rfl rfl, fun U hU hW => ⟨rfl, QX_at hP hK hD hU hW⟩⟩ rfl rfl hl.1 rfl (lv_room (Nat.le_of_ble_eq_true rfl)) dX10_holds_2 ⟨Nat.zero_le _, Nat.zero_le _⟩) (fun r9 er9 => ?_)
  replace er9 := er9.symm
  subst er9
  refine lv_if_eq (tgt := 16) hx hb dX10_holds_5 (by decide) (fun c3 => ?_) (fun c3 => ?_)
  · replace h := it_t c3 h
    refine lv_bipush (v := (-2)) hx hb dX10_holds_16 (by decide) ?_
    cases h
    exact W.iret hx hb hr (fun t ht hW => ⟨⟨_, _, rfl, rfl, by show va_P _ _ _ t.heap; rw [ht]; exact hP⟩, hS.F ht⟩) hS.2.2 dX10_holds_18
  · replace h := it_f c3 h
    refine lv_aload_n hx hb dX10_holds_8 rfl (lv_at hl 0 rfl) ?_
    refine lv_iload_n hx hb dX10_holds_9 rfl (lv_at hl 2 rfl) ?_
    obtain ⟨r5, k4, h⟩ := ob_elim h
    refine vp_callSi (W.runV (As := [.int p2]) (rest := []) ⟨hx, hb, hml, hown, hts⟩ (mX10_isCase l dC dI cI cJ ad p2 S L k4) (cwV 1 hts gX10_holds_X10_isCase rfl rfl rfl (by decide +kernel) ⟨Nat.le_of_ble_eq_true rfl, Nat.le_of_ble_eq_true rfl⟩) ⟨QX_blind, va_recv hK hP (ci := 10) (q0 := 0) rfl rfl, fun U hU hW => ⟨rfl, QX_at hP hK hD hU hW⟩⟩ rfl rfl hl.1 rfl (lv_room (Nat.le_of_ble_eq_true rfl)) dX10_holds_10 ⟨Nat.zero_le _, Nat.zero_le _⟩) (fun r9 er9 => ?_)
    replace er9 := er9.symm
    subst er9
    refine lv_if_ne (tgt := 19) hx hb dX10_holds_13 (by decide) (fun c6 => ?_) (fun c6 => ?_)
    · replace h := it_f c6 h
      refine lv_aload_n hx hb dX10_holds_19 rfl (lv_at hl 0 rfl) ?_
      refine va_get (D := (dC, dI)) (ci := 10) (v := .ref (ad 6)) (C := RX10) (T := TX10) (N := 11) hx hb hts hiX10 hown hK hP 0 rfl rfl 5 (by decide) hf49 (fun _ h9 => h9) rfl dX10_holds_20 ?_
      refine lv_aload_n hx hb dX10_holds_23 rfl (lv_at hl 0 rfl) ?_
      refine va_get (D := (dC, dI)) (ci := 10) (v := .ref (ad 1)) (C := RX10) (T := TX10) (N := 11) hx hb hts hiX10 hown hK hP 0 rfl rfl 0 (by decide) hf12 (fun _ h9 => h9) rfl dX10_holds_24 ?_
      refine lv_iload_n hx hb dX10_holds_27 rfl (lv_at hl 2 rfl) ?_
      obtain ⟨S8, L9, k7, h⟩ := ob2_elim h
      refine va_callv (va_runV (As := [.ref (ad 1), .int p2]) (rest := []) ⟨hx, hb, hml, hown, hts⟩ (mX4_open l dC dI cI cJ ad p2 S L s.heap.size k7) (cwV 2 hts gX10_holds_X4_open rfl rfl rfl (by decide +kernel) ⟨Nat.le_of_ble_eq_true rfl, Nat.le_of_ble_eq_true rfl⟩) ⟨QXs_blind, va_recv hK hP (ci := 4) (q0 := 6) rfl rfl, fun U hU hW => ⟨rfl, congrArg Array.size hU, QX_at hP hK hD hU hW⟩⟩ rfl rfl hl.1 rfl (lv_room (Nat.le_of_ble_eq_true rfl)) dX10_holds_28 ⟨Nat.zero_le _, Nat.zero_le _⟩) hS (fun q _ hq => AX_mono hS.1 hq) (fun q hq => AX_mono hS.1 hq) (fun u t H1 locs ht hvm hw hB hz1 hk1 hS => ?_)
      cases hw
      rw [ht] at hB
      have hP := hB
      clear hB hk1 hz1
      generalize H1 = H at hP hS ⊢
      have hD := wX_D hD S8 L9
      refine lv_aload_n hx hb dX10_holds_31 rfl (lv_at hl 0 rfl) ?_
      refine va_get (D := (dC, dI)) (ci := 10) (v := .ref (ad 6)) (C := RX10) (T := TX10) (N := 11) hx hb hts hiX10 hown hK hP 0 rfl rfl 5 (by decide) hf49 (fun _ h9 => h9) rfl dX10_holds_32 ?_
      refine va_get (D := (dC, dI)) (ci := 4) (v := .long (L9 6 4)) (C := RX4) (T := TX4) (N := 9) hx hb hts hiX4 hown hK hP 6 rfl rfl 4 (by decide) hf163 (fun _ h9 => h9) rfl dX10_holds_35 ?_
      refine lv_iload_n hx hb dX10_holds_38 rfl (lv_at hl 1 rfl) ?_
      refine lv_lushr (v := lush (L9 6 4) p1) hx hb dX10_holds_39 rfl ?_
      refine lv_lconst (v := 1) hx hb dX10_holds_40 (by decide) ?_
      refine lv_land hx hb dX10_holds_41 ?_
      refine lv_lconst (v := 0) hx hb dX10_holds_42 (by decide) ?_
      refine W.lcmp hx hb dX10_holds_43 ?_
      refine lv_if_eq (tgt := 51) hx hb dX10_holds_44 (by decide) (fun c10 => ?_) (fun c10 => ?_)
      · replace h := it_t c10 h
        refine lv_iconst (v := 0) hx hb dX10_holds_51 (by decide) ?_
        cases h
        exact W.iret hx hb hr (fun t ht hW => ⟨⟨_, _, rfl, rfl, by show va_P _ _ _ t.heap; rw [ht]; exact hP⟩, hS.F ht⟩) hS.2.2 dX10_holds_52
      · replace h := it_f c10 h
        refine lv_iconst (v := 1) hx hb dX10_holds_47 (by decide) ?_
        refine lv_goto (tgt := 52) hx hb dX10_holds_48 (by decide) ?_
        cases h
        exact W.iret hx hb hr (fun t ht hW => ⟨⟨_, _, rfl, rfl, by show va_P _ _ _ t.heap; rw [ht]; exact hP⟩, hS.F ht⟩) hS.2.2 dX10_holds_52
    · replace h := it_t c6 h
      refine lv_bipush (v := (-2)) hx hb dX10_holds_16 (by decide) ?_
      cases h
      exact W.iret hx hb hr (fun t ht hW => ⟨⟨_, _, rfl, rfl, by show va_P _ _ _ t.heap; rw [ht]; exact hP⟩, hS.F ht⟩) hS.2.2 dX10_holds_18
set_option maxHeartbeats 4000000 in
set_option maxRecDepth 100000 in
theorem mX11_stands (l : Launch) (dC : Nat → ClassId) (dI : Nat → Nat → Nat) (cI cZ : ClassId) (ad : Nat → Nat) (p1 : Int32) (S : Nat → Nat → Int32) {z : Int32} (h : sX11_stands p1 S = some z) : Met l yX11_stands wsX11_stands ({ frames := 1, cells := 0, slots := 0, locals := 22 }) (va_Pc [.ref (ad 0), .int p1] (QM dC dI cI cZ ad S)) (vp_Si (fun r => r = z)) 0 0 (fun _ => False) := by
  refine Met.ofW (cc := cX11_stands) (maxL := 2) (ret := (some .boolean)) (by decide) rfl ?_
  intro p e s m args below meth c s₁ B hml hv
  obtain ⟨rfl, hP, hK, hD⟩ := hv
  have hx := B.exec
  have hb := B.bytes
  have hr := B.returns
  have hts := atoms_spec (ws := wsX11_stands) B.pre
  have hown : s.vm.findClass RX11 = some m.cls := findClass_of_methodNamed B.named
  have hlocks := B.notSynchronized
  have hl := lv_entry ([.ref (ad 0), .int p1]) (n := 2) (Nat.le_of_ble_eq_true rfl)
  rw [lg_entry_eq]
  generalize (lg_sl ([.ref (ad 0), .int p1]) ++ List.replicate (2 - (lg_sl ([.ref (ad 0), .int p1])).length) Slot.unset).toArray = ls at hl ⊢
  have hl : lv_has ls 2 [(0, .ref (ad 0)), (1, .int p1)] := hl
  have hf48 := hts (.fieldLink RX11 48 "LawRingsModel" "day" "I") (by decide +kernel)
  have hiX11 : ∀ w ∈ u_ws RX11 TX11 8, w ∈ wsX11_stands := by decide +kernel
  rw [sX11_stands] at h
  refine lv_aload_n hx hb dX11_stands_0 rfl (lv_at hl 0 rfl) ?_
  refine lv_iload_n hx hb dX11_stands_1 rfl (lv_at hl 1 rfl) ?_
  refine lv_iconst (v := 4) hx hb dX11_stands_2 (by decide) ?_
  obtain ⟨r2, k1, h⟩ := ob_elim h
  refine vp_callSi (W.runV (As := [.int p1, .int 4]) (rest := []) ⟨hx, hb, hml, hown, hts⟩ (mX11_ruleOf l dC dI cI cZ ad p1 4 S k1) (cwV 2 hts gX11_stands_X11_ruleOf rfl rfl rfl (by decide +kernel) ⟨Nat.le_of_ble_eq_true rfl, Nat.le_of_ble_eq_true rfl⟩) ⟨QM_blind, va_recv hK hP (ci := 11) (q0 := 0) rfl rfl, fun U hU hW => ⟨rfl, QM_at hP hK hD hU hW⟩⟩ rfl rfl hl.1 rfl (lv_room (Nat.le_of_ble_eq_true rfl)) dX11_stands_3 ⟨Nat.zero_le _, Nat.zero_le _⟩) (fun r9 er9 => ?_)
  replace er9 := er9.symm
  subst er9
  refine lv_aload_n hx hb dX11_stands_6 rfl (lv_at hl 0 rfl) ?_
  refine va_get (D := (dC, dI)) (ci := 11) (v := .int (S 0 2)) (C := RX11) (T := TX11) (N := 8) hx hb hts hiX11 hown hK hP 0 rfl rfl 2 (by decide) hf48 (fun _ h9 => h9) rfl dX11_stands_7 ?_
  refine lv_icmp_gt (tgt := 40) hx hb dX11_stands_10 (by decide) (fun c3 => ?_) (fun c3 => ?_)
  · replace h := it_t c3 h
    refine lv_iconst (v := 0) hx hb dX11_stands_40 (by decide) ?_
    cases h
    exact W.zret hx hb hr rfl (fun t ht hW => ⟨_, rfl, rfl, ht⟩) (fun q hq => absurd hq List.not_mem_nil) dX11_stands_41
  · replace h := it_f c3 h
    refine lv_aload_n hx hb dX11_stands_13 rfl (lv_at hl 0 rfl) ?_
    refine lv_iload_n hx hb dX11_stands_14 rfl (lv_at hl 1 rfl) ?_
    refine lv_iconst (v := 5) hx hb dX11_stands_15 (by decide) ?_
    obtain ⟨r5, k4, h⟩ := ob_elim h
    refine vp_callSi (W.runV (As := [.int p1, .int 5]) (rest := []) ⟨hx, hb, hml, hown, hts⟩ (mX11_ruleOf l dC dI cI cZ ad p1 5 S k4) (cwV 2 hts gX11_stands_X11_ruleOf rfl rfl rfl (by decide +kernel) ⟨Nat.le_of_ble_eq_true rfl, Nat.le_of_ble_eq_true rfl⟩) ⟨QM_blind, va_recv hK hP (ci := 11) (q0 := 0) rfl rfl, fun U hU hW => ⟨rfl, QM_at hP hK hD hU hW⟩⟩ rfl rfl hl.1 rfl (lv_room (Nat.le_of_ble_eq_true rfl)) dX11_stands_16 ⟨Nat.zero_le _, Nat.zero_le _⟩) (fun r9 er9 => ?_)
    replace er9 := er9.symm
    subst er9
    refine lv_iconst (v := (-1)) hx hb dX11_stands_19 (by decide) ?_
    refine lv_icmp_eq (tgt := 36) hx hb dX11_stands_20 (by decide) (fun c6 => ?_) (fun c6 => ?_)
    · replace h := it_t c6 h
      refine lv_iconst (v := 1) hx hb dX11_stands_36 (by decide) ?_
      refine lv_goto (tgt := 41) hx hb dX11_stands_37 (by decide) ?_
      cases h
      exact W.zret hx hb hr rfl (fun t ht hW => ⟨_, rfl, rfl, ht⟩) (fun q hq => absurd hq List.not_mem_nil) dX11_stands_41
    · replace h := it_f c6 h
      refine lv_aload_n hx hb dX11_stands_23 rfl (lv_at hl 0 rfl) ?_
      refine va_get (D := (dC, dI)) (ci := 11) (v := .int (S 0 2)) (C := RX11) (T := TX11) (N := 8) hx hb hts hiX11 hown hK hP 0 rfl rfl 2 (by decide) hf48 (fun _ h9 => h9) rfl dX11_stands_24 ?_
      refine lv_aload_n hx hb dX11_stands_27 rfl (lv_at hl 0 rfl) ?_
      refine lv_iload_n hx hb dX11_stands_28 rfl (lv_at hl 1 rfl) ?_
      refine lv_iconst (v := 5) hx hb dX11_stands_29 (by decide) ?_
      obtain ⟨r8, k7, h⟩ := ob_elim h
      refine vp_callSi (W.runV (As := [.int p1, .int 5]) (rest := [.int (S 0 2)]) ⟨hx, hb, hml, hown, hts⟩ (mX11_ruleOf l dC dI cI cZ ad p1 5 S k7) (cwV 2 hts gX11_stands_X11_ruleOf rfl rfl rfl (by decide +kernel) ⟨Nat.le_of_ble_eq_true rfl, Nat.le_of_ble_eq_true rfl⟩) ⟨QM_blind, va_recv hK hP (ci := 11) (q0 := 0) rfl rfl, fun U hU hW => ⟨rfl, QM_at hP hK hD hU hW⟩⟩ rfl rfl hl.1 rfl (lv_room (Nat.le_of_ble_eq_true rfl)) dX11_stands_30 ⟨Nat.zero_le _, Nat.zero_le _⟩) (fun r9 er9 => ?_)
      replace er9 := er9.symm
      subst er9
      refine lv_icmp_ge (tgt := 40) hx hb dX11_stands_33 (by decide) (fun c9 => ?_) (fun c9 => ?_)
      · replace h := it_t c9 h
        refine lv_iconst (v := 0) hx hb dX11_stands_40 (by decide) ?_
        cases h
        exact W.zret hx hb hr rfl (fun t ht hW => ⟨_, rfl, rfl, ht⟩) (fun q hq => absurd hq List.not_mem_nil) dX11_stands_41
      · replace h := it_f c9 h
        refine lv_iconst (v := 1) hx hb dX11_stands_36 (by decide) ?_
        refine lv_goto (tgt := 41) hx hb dX11_stands_37 (by decide) ?_
        cases h
        exact W.zret hx hb hr rfl (fun t ht hW => ⟨_, rfl, rfl, ht⟩) (fun q hq => absurd hq List.not_mem_nil) dX11_stands_41
set_option maxHeartbeats 4000000 in
set_option maxRecDepth 100000 in
theorem mX11_isSo (l : Launch) (dC : Nat → ClassId) (dI : Nat → Nat → Nat) (cI cZ : ClassId) (ad : Nat → Nat) (p1 : Int32) (p2 : Int32) (p3 : Int32) (S : Nat → Nat → Int32) {z : Int32} (h : sX11_isSo p1 p2 p3 S = some z) : Met l yX11_isSo wsX11_isSo ({ frames := 0, cells := 0, slots := 0, locals := 0 }) (va_Pc [.ref (ad 0), .int p1, .int p2, .int p3] (QM dC dI cI cZ ad S)) (vp_Si (fun r => r = z)) 0 0 (fun _ => False) := by
  refine Met.ofW (cc := cX11_isSo) (maxL := 5) (ret := (some .boolean)) (by decide) rfl ?_
  intro p e s m args below meth c s₁ B hml hv
  obtain ⟨rfl, hP, hK, hD⟩ := hv
  have hx := B.exec
  have hb := B.bytes
  have hr := B.returns
  have hts := atoms_spec (ws := wsX11_isSo) B.pre
  have hown : s.vm.findClass RX11 = some m.cls := findClass_of_methodNamed B.named
  have hlocks := B.notSynchronized
  have hl := lv_entry ([.ref (ad 0), .int p1, .int p2, .int p3]) (n := 5) (Nat.le_of_ble_eq_true rfl)
  rw [lg_entry_eq]
  generalize (lg_sl ([.ref (ad 0), .int p1, .int p2, .int p3]) ++ List.replicate (5 - (lg_sl ([.ref (ad 0), .int p1, .int p2, .int p3])).length) Slot.unset).toArray = ls at hl ⊢
  have hl : lv_has ls 5 [(0, .ref (ad 0)), (1, .int p1), (2, .int p2), (3, .int p3)] := hl
  have hf13 := hts (.fieldLink RX11 13 "LawRingsModel" "ties" "[I") (by decide +kernel)
  have hiX11 : ∀ w ∈ u_ws RX11 TX11 8, w ∈ wsX11_isSo := by decide +kernel
  rw [sX11_isSo] at h
  refine lv_aload_n hx hb dX11_isSo_0 rfl (lv_at hl 0 rfl) ?_
  refine va_get (D := (dC, dI)) (ci := 11) (v := .ref (ad 2)) (C := RX11) (T := TX11) (N := 8) hx hb hts hiX11 hown hK hP 0 rfl rfl 1 (by decide) hf13 (fun _ h9 => h9) rfl dX11_isSo_1 ?_
  refine lv_iload_n hx hb dX11_isSo_4 rfl (lv_at hl 2 rfl) ?_
  obtain ⟨b1, h⟩ := ck_elim h
  refine va_iald hx hb hK hP 2 0 rfl rfl b1 dX11_isSo_5 ?_
  obtain ⟨x2, ex2, h⟩ := bnd_elim h
  refine nm_i ex2 ?_
  refine lv_istore (lv' := [(4, .int x2), (0, .ref (ad 0)), (1, .int p1), (2, .int p2), (3, .int p3)]) hx hb dX11_isSo_6 hl (by decide) rfl (fun ls hl => ?_)
  refine lv_iload_n hx hb dX11_isSo_8 rfl (lv_at hl 4 rfl) ?_
  refine lv_iconst (v := 4) hx hb dX11_isSo_9 (by decide) ?_
  refine lv_icmp_ge (tgt := 87) hx hb dX11_isSo_10 (by decide) (fun c3 => ?_) (fun c3 => ?_)
  · replace h := it_t c3 h
    refine lv_iload_n hx hb dX11_isSo_87 rfl (lv_at hl 4 rfl) ?_
    refine lv_bipush (v := 8) hx hb dX11_isSo_88 (by decide) ?_
    refine lv_icmp_ge (tgt := 109) hx hb dX11_isSo_90 (by decide) (fun c4 => ?_) (fun c4 => ?_)
    · replace h := it_t c4 h
      refine lv_iload hx hb dX11_isSo_109 (lv_at hl 0 rfl) ?_
      refine lv_iconst (v := (-1)) hx hb dX11_isSo_111 (by decide) ?_
      refine lv_icmp_eq (tgt := 133) hx hb dX11_isSo_112 (by decide) (fun c5 => ?_) (fun c5 => ?_)
      · replace h := it_t c5 h
        refine lv_iconst (v := 0) hx hb dX11_isSo_133 (by decide) ?_
        cases h
        exact W.zret hx hb hr rfl (fun t ht hW => ⟨_, rfl, rfl, ht⟩) (fun q hq => absurd hq List.not_mem_nil) dX11_isSo_134
      · replace h := it_f c5 h
        refine lv_iload hx hb dX11_isSo_115 (lv_at hl 0 rfl) ?_
        refine lv_aload_n hx hb dX11_isSo_117 rfl (lv_at hl 1 rfl) ?_
        refine va_get (D := (dC, dI)) (ci := 11) (v := .ref (ad 2)) (C := RX11) (T := TX11) (N := 8) hx hb hts hiX11 hown hK hP 0 rfl rfl 1 (by decide) hf13 (fun _ h9 => h9) rfl dX11_isSo_118 ?_
        refine lv_iload_n hx hb dX11_isSo_121 rfl (lv_at hl 4 rfl) ?_
        refine lv_bipush (v := 8) hx hb dX11_isSo_122 (by decide) ?_
        refine lv_isub hx hb dX11_isSo_124 ?_
        obtain ⟨b6, h⟩ := ck_elim h
        refine va_iald hx hb hK hP 2 0 rfl rfl b6 dX11_isSo_125 ?_
        refine lv_icmp_ne (tgt := 133) hx hb dX11_isSo_126 (by decide) (fun c7 => ?_) (fun c7 => ?_)
        · replace h := it_f c7 h
          refine lv_iconst (v := 0) hx hb dX11_isSo_133 (by decide) ?_
          cases h
          exact W.zret hx hb hr rfl (fun t ht hW => ⟨_, rfl, rfl, ht⟩) (fun q hq => absurd hq List.not_mem_nil) dX11_isSo_134
        · replace h := it_t c7 h
          refine lv_iconst (v := 1) hx hb dX11_isSo_129 (by decide) ?_
          refine lv_goto (tgt := 134) hx hb dX11_isSo_130 (by decide) ?_
          cases h
          exact W.zret hx hb hr rfl (fun t ht hW => ⟨_, rfl, rfl, ht⟩) (fun q hq => absurd hq List.not_mem_nil) dX11_isSo_134
    · replace h := it_f c4 h
      refine lv_iload hx hb dX11_isSo_93 (lv_at hl 0 rfl) ?_
      refine lv_iload_n hx hb dX11_isSo_95 rfl (lv_at hl 4 rfl) ?_
      refine lv_iconst (v := 4) hx hb dX11_isSo_96 (by decide) ?_
      refine lv_isub hx hb dX11_isSo_97 ?_
      refine lv_icmp_ne (tgt := 105) hx hb dX11_isSo_98 (by decide) (fun c8 => ?_) (fun c8 => ?_)
      · replace h := it_f c8 h
        refine lv_iconst (v := 0) hx hb dX11_isSo_105 (by decide) ?_
        refine lv_goto (tgt := 134) hx hb dX11_isSo_106 (by decide) ?_
        cases h
        exact W.zret hx hb hr rfl (fun t ht hW => ⟨_, rfl, rfl, ht⟩) (fun q hq => absurd hq List.not_mem_nil) dX11_isSo_134
      · replace h := it_t c8 h
        refine lv_iconst (v := 1) hx hb dX11_isSo_101 (by decide) ?_
        refine lv_goto (tgt := 134) hx hb dX11_isSo_102 (by decide) ?_
        cases h
        exact W.zret hx hb hr rfl (fun t ht hW => ⟨_, rfl, rfl, ht⟩) (fun q hq => absurd hq List.not_mem_nil) dX11_isSo_134
  · replace h := it_f c3 h
    refine lv_iload_n hx hb dX11_isSo_13 rfl (lv_at hl 4 rfl) ?_
    refine lv_if_ne (tgt := 31) hx hb dX11_isSo_14 (by decide) (fun c9 => ?_) (fun c9 => ?_)
    · replace h := it_f c9 h
      refine lv_iload_n hx hb dX11_isSo_31 rfl (lv_at hl 4 rfl) ?_
      refine lv_iconst (v := 1) hx hb dX11_isSo_32 (by decide) ?_
      refine lv_icmp_ne (tgt := 50) hx hb dX11_isSo_33 (by decide) (fun c10 => ?_) (fun c10 => ?_)
      · replace h := it_f c10 h
        refine lv_iload_n hx hb dX11_isSo_50 rfl (lv_at hl 4 rfl) ?_
        refine lv_iconst (v := 2) hx hb dX11_isSo_51 (by decide) ?_
        refine lv_icmp_ne (tgt := 69) hx hb dX11_isSo_52 (by decide) (fun c11 => ?_) (fun c11 => ?_)
        · replace h := it_f c11 h
          refine lv_iload hx hb dX11_isSo_69 (lv_at hl 0 rfl) ?_
          refine lv_iconst (v := (-1)) hx hb dX11_isSo_71 (by decide) ?_
          refine lv_icmp_eq (tgt := 85) hx hb dX11_isSo_72 (by decide) (fun c12 => ?_) (fun c12 => ?_)
          · replace h := it_t c12 h
            refine lv_iconst (v := 0) hx hb dX11_isSo_85 (by decide) ?_
            cases h
            exact W.zret hx hb hr rfl (fun t ht hW => ⟨_, rfl, rfl, ht⟩) (fun q hq => absurd hq List.not_mem_nil) dX11_isSo_86
          · replace h := it_f c12 h
            refine lv_iload hx hb dX11_isSo_75 (lv_at hl 0 rfl) ?_
            refine lv_iload_n hx hb dX11_isSo_77 rfl (lv_at hl 2 rfl) ?_
            refine lv_icmp_eq (tgt := 85) hx hb dX11_isSo_78 (by decide) (fun c13 => ?_) (fun c13 => ?_)
            · replace h := it_t c13 h
              refine lv_iconst (v := 0) hx hb dX11_isSo_85 (by decide) ?_
              cases h
              exact W.zret hx hb hr rfl (fun t ht hW => ⟨_, rfl, rfl, ht⟩) (fun q hq => absurd hq List.not_mem_nil) dX11_isSo_86
            · replace h := it_f c13 h
              refine lv_iconst (v := 1) hx hb dX11_isSo_81 (by decide) ?_
              refine lv_goto (tgt := 86) hx hb dX11_isSo_82 (by decide) ?_
              cases h
              exact W.zret hx hb hr rfl (fun t ht hW => ⟨_, rfl, rfl, ht⟩) (fun q hq => absurd hq List.not_mem_nil) dX11_isSo_86
        · replace h := it_t c11 h
          refine lv_iload hx hb dX11_isSo_55 (lv_at hl 0 rfl) ?_
          refine lv_iload_n hx hb dX11_isSo_57 rfl (lv_at hl 2 rfl) ?_
          refine lv_icmp_ne (tgt := 65) hx hb dX11_isSo_58 (by decide) (fun c14 => ?_) (fun c14 => ?_)
          · replace h := it_f c14 h
            refine lv_iconst (v := 0) hx hb dX11_isSo_65 (by decide) ?_
            refine lv_goto (tgt := 86) hx hb dX11_isSo_66 (by decide) ?_
            cases h
            exact W.zret hx hb hr rfl (fun t ht hW => ⟨_, rfl, rfl, ht⟩) (fun q hq => absurd hq List.not_mem_nil) dX11_isSo_86
          · replace h := it_t c14 h
            refine lv_iconst (v := 1) hx hb dX11_isSo_61 (by decide) ?_
            refine lv_goto (tgt := 86) hx hb dX11_isSo_62 (by decide) ?_
            cases h
            exact W.zret hx hb hr rfl (fun t ht hW => ⟨_, rfl, rfl, ht⟩) (fun q hq => absurd hq List.not_mem_nil) dX11_isSo_86
      · replace h := it_t c10 h
        refine lv_iload hx hb dX11_isSo_36 (lv_at hl 0 rfl) ?_
        refine lv_iconst (v := (-1)) hx hb dX11_isSo_38 (by decide) ?_
        refine lv_icmp_ne (tgt := 46) hx hb dX11_isSo_39 (by decide) (fun c15 => ?_) (fun c15 => ?_)
        · replace h := it_f c15 h
          refine lv_iconst (v := 0) hx hb dX11_isSo_46 (by decide) ?_
          refine lv_goto (tgt := 86) hx hb dX11_isSo_47 (by decide) ?_
          cases h
          exact W.zret hx hb hr rfl (fun t ht hW => ⟨_, rfl, rfl, ht⟩) (fun q hq => absurd hq List.not_mem_nil) dX11_isSo_86
        · replace h := it_t c15 h
          refine lv_iconst (v := 1) hx hb dX11_isSo_42 (by decide) ?_
          refine lv_goto (tgt := 86) hx hb dX11_isSo_43 (by decide) ?_
          cases h
          exact W.zret hx hb hr rfl (fun t ht hW => ⟨_, rfl, rfl, ht⟩) (fun q hq => absurd hq List.not_mem_nil) dX11_isSo_86
    · replace h := it_t c9 h
      refine lv_iload hx hb dX11_isSo_17 (lv_at hl 0 rfl) ?_
      refine lv_iconst (v := (-1)) hx hb dX11_isSo_19 (by decide) ?_
      refine lv_icmp_eq (tgt := 27) hx hb dX11_isSo_20 (by decide) (fun c16 => ?_) (fun c16 => ?_)
      · replace h := it_t c16 h
        refine lv_iconst (v := 0) hx hb dX11_isSo_27 (by decide) ?_
        refine lv_goto (tgt := 86) hx hb dX11_isSo_28 (by decide) ?_
        cases h
        exact W.zret hx hb hr rfl (fun t ht hW => ⟨_, rfl, rfl, ht⟩) (fun q hq => absurd hq List.not_mem_nil) dX11_isSo_86
      · replace h := it_f c16 h
        refine lv_iconst (v := 1) hx hb dX11_isSo_23 (by decide) ?_
        refine lv_goto (tgt := 86) hx hb dX11_isSo_24 (by decide) ?_
        cases h
        exact W.zret hx hb hr rfl (fun t ht hW => ⟨_, rfl, rfl, ht⟩) (fun q hq => absurd hq List.not_mem_nil) dX11_isSo_86
set_option maxHeartbeats 4000000 in
set_option maxRecDepth 100000 in
theorem mX11_endOf (l : Launch) (dC : Nat → ClassId) (dI : Nat → Nat → Nat) (cI cZ : ClassId) (ad : Nat → Nat) (p1 : Int32) (S : Nat → Nat → Int32) {z : Int32} (h : sX11_endOf p1 S = some z) : Met l yX11_endOf wsX11_endOf ({ frames := 1, cells := 0, slots := 0, locals := 22 }) (va_Pc [.ref (ad 0), .int p1] (QM dC dI cI cZ ad S)) (vp_Si (fun r => r = z)) 0 0 (fun _ => False) := by
  refine Met.ofW (cc := cX11_endOf) (maxL := 3) (ret := (some .int)) (by decide) rfl ?_
  intro p e s m args below meth c s₁ B hml hv
  obtain ⟨rfl, hP, hK, hD⟩ := hv
  have hx := B.exec
  have hb := B.bytes
  have hr := B.returns
  have hts := atoms_spec (ws := wsX11_endOf) B.pre
  have hown : s.vm.findClass RX11 = some m.cls := findClass_of_methodNamed B.named
  have hlocks := B.notSynchronized
  have hl := lv_entry ([.ref (ad 0), .int p1]) (n := 3) (Nat.le_of_ble_eq_true rfl)
  rw [lg_entry_eq]
  generalize (lg_sl ([.ref (ad 0), .int p1]) ++ List.replicate (3 - (lg_sl ([.ref (ad 0), .int p1])).length) Slot.unset).toArray = ls at hl ⊢
  have hl : lv_has ls 3 [(0, .ref (ad 0)), (1, .int p1)] := hl
  have hf13 := hts (.fieldLink RX11 13 "LawRingsModel" "ties" "[I") (by decide +kernel)
  have hiX11 : ∀ w ∈ u_ws RX11 TX11 8, w ∈ wsX11_endOf := by decide +kernel
  rw [sX11_endOf] at h
  refine lv_aload_n hx hb dX11_endOf_0 rfl (lv_at hl 0 rfl) ?_
  refine lv_iload_n hx hb dX11_endOf_1 rfl (lv_at hl 1 rfl) ?_
  refine lv_iconst (v := 3) hx hb dX11_endOf_2 (by decide) ?_
  obtain ⟨r2, k1, h⟩ := ob_elim h
  refine vp_callSi (W.runV (As := [.int p1, .int 3]) (rest := []) ⟨hx, hb, hml, hown, hts⟩ (mX11_ruleOf l dC dI cI cZ ad p1 3 S k1) (cwV 2 hts gX11_endOf_X11_ruleOf rfl rfl rfl (by decide +kernel) ⟨Nat.le_of_ble_eq_true rfl, Nat.le_of_ble_eq_true rfl⟩) ⟨QM_blind, va_recv hK hP (ci := 11) (q0 := 0) rfl rfl, fun U hU hW => ⟨rfl, QM_at hP hK hD hU hW⟩⟩ rfl rfl hl.1 rfl (lv_room (Nat.le_of_ble_eq_true rfl)) dX11_endOf_3 ⟨Nat.zero_le _, Nat.zero_le _⟩) (fun r9 er9 => ?_)
  replace er9 := er9.symm
  subst er9
  refine lv_istore_n (lv' := [(2, .int r2), (0, .ref (ad 0)), (1, .int p1)]) hx hb dX11_endOf_6 rfl hl (by decide) rfl (fun ls hl => ?_)
  refine lv_iload_n hx hb dX11_endOf_7 rfl (lv_at hl 0 rfl) ?_
  refine lv_if_ne (tgt := 20) hx hb dX11_endOf_8 (by decide) (fun c3 => ?_) (fun c3 => ?_)
  · replace h := it_f c3 h
    refine lv_iload_n hx hb dX11_endOf_20 rfl (lv_at hl 0 rfl) ?_
    refine lv_iconst (v := 5) hx hb dX11_endOf_21 (by decide) ?_
    refine lv_icmp_ge (tgt := 31) hx hb dX11_endOf_22 (by decide) (fun c4 => ?_) (fun c4 => ?_)
    · replace h := it_t c4 h
      refine lv_aload_n hx hb dX11_endOf_31 rfl (lv_at hl 1 rfl) ?_
      refine va_get (D := (dC, dI)) (ci := 11) (v := .ref (ad 2)) (C := RX11) (T := TX11) (N := 8) hx hb hts hiX11 hown hK hP 0 rfl rfl 1 (by decide) hf13 (fun _ h9 => h9) rfl dX11_endOf_32 ?_
      refine lv_iload_n hx hb dX11_endOf_35 rfl (lv_at hl 0 rfl) ?_
      refine lv_iconst (v := 5) hx hb dX11_endOf_36 (by decide) ?_
      refine lv_isub hx hb dX11_endOf_37 ?_
      obtain ⟨b5, h⟩ := ck_elim h
      refine va_iald hx hb hK hP 2 0 rfl rfl b5 dX11_endOf_38 ?_
      cases h
      exact W.iret hx hb hr (fun t ht hW => ⟨_, rfl, rfl, ht⟩) (fun q hq => absurd hq List.not_mem_nil) dX11_endOf_39
    · replace h := it_f c4 h
      refine lv_iload_n hx hb dX11_endOf_25 rfl (lv_at hl 0 rfl) ?_
      refine lv_iconst (v := 1) hx hb dX11_endOf_26 (by decide) ?_
      refine lv_isub hx hb dX11_endOf_27 ?_
      refine lv_goto (tgt := 39) hx hb dX11_endOf_28 (by decide) ?_
      cases h
      exact W.iret hx hb hr (fun t ht hW => ⟨_, rfl, rfl, ht⟩) (fun q hq => absurd hq List.not_mem_nil) dX11_endOf_39
  · replace h := it_t c3 h
    refine lv_aload_n hx hb dX11_endOf_11 rfl (lv_at hl 1 rfl) ?_
    refine lv_iload_n hx hb dX11_endOf_12 rfl (lv_at hl 2 rfl) ?_
    refine lv_iconst (v := 0) hx hb dX11_endOf_13 (by decide) ?_
    obtain ⟨r7, k6, h⟩ := ob_elim h
    refine vp_callSi (W.runV (As := [.int p1, .int 0]) (rest := []) ⟨hx, hb, hml, hown, hts⟩ (mX11_ruleOf l dC dI cI cZ ad p1 0 S k6) (cwV 2 hts gX11_endOf_X11_ruleOf rfl rfl rfl (by decide +kernel) ⟨Nat.le_of_ble_eq_true rfl, Nat.le_of_ble_eq_true rfl⟩) ⟨QM_blind, va_recv hK hP (ci := 11) (q0 := 0) rfl rfl, fun U hU hW => ⟨rfl, QM_at hP hK hD hU hW⟩⟩ rfl rfl hl.1 rfl (lv_room (Nat.le_of_ble_eq_true rfl)) dX11_endOf_14 ⟨Nat.zero_le _, Nat.zero_le _⟩) (fun r9 er9 => ?_)
    replace er9 := er9.symm
    subst er9
    refine lv_goto (tgt := 39) hx hb dX11_endOf_17 (by decide) ?_
    cases h
    exact W.iret hx hb hr (fun t ht hW => ⟨_, rfl, rfl, ht⟩) (fun q hq => absurd hq List.not_mem_nil) dX11_endOf_39
set_option maxHeartbeats 4000000 in
set_option maxRecDepth 100000 in
theorem mX11_holdsNow (l : Launch) (dC : Nat → ClassId) (dI : Nat → Nat → Nat) (cI cZ : ClassId) (ad : Nat → Nat) (p1 : Int32) (S : Nat → Nat → Int32) {z : Int32} (h : sX11_holdsNow p1 S = some z) : Met l yX11_holdsNow wsX11_holdsNow ({ frames := 2, cells := 0, slots := 0, locals := 44 }) (va_Pc [.ref (ad 0), .int p1] (QM dC dI cI cZ ad S)) (vp_Si (fun r => r = z)) 0 0 (fun _ => False) := by
  refine Met.ofW (cc := cX11_holdsNow) (maxL := 4) (ret := (some .boolean)) (by decide) rfl ?_
  intro p e s m args below meth c s₁ B hml hv
  obtain ⟨rfl, hP, hK, hD⟩ := hv
  have hx := B.exec
  have hb := B.bytes
  have hr := B.returns
  have hts := atoms_spec (ws := wsX11_holdsNow) B.pre
  have hown : s.vm.findClass RX11 = some m.cls := findClass_of_methodNamed B.named
  have hlocks := B.notSynchronized
  have hl := lv_entry ([.ref (ad 0), .int p1]) (n := 4) (Nat.le_of_ble_eq_true rfl)
  rw [lg_entry_eq]
  generalize (lg_sl ([.ref (ad 0), .int p1]) ++ List.replicate (4 - (lg_sl ([.ref (ad 0), .int p1])).length) Slot.unset).toArray = ls at hl ⊢
  have hl : lv_has ls 4 [(0, .ref (ad 0)), (1, .int p1)] := hl
  rw [sX11_holdsNow] at h
  refine lv_aload_n hx hb dX11_holdsNow_0 rfl (lv_at hl 0 rfl) ?_
  refine lv_iload_n hx hb dX11_holdsNow_1 rfl (lv_at hl 1 rfl) ?_
  obtain ⟨r2, k1, h⟩ := ob_elim h
  refine vp_callSi (W.runV (As := [.int p1]) (rest := []) ⟨hx, hb, hml, hown, hts⟩ (mX11_stands l dC dI cI cZ ad p1 S k1) (cwV 1 hts gX11_holdsNow_X11_stands rfl rfl rfl (by decide +kernel) ⟨Nat.le_of_ble_eq_true rfl, Nat.le_of_ble_eq_true rfl⟩) ⟨QM_blind, va_recv hK hP (ci := 11) (q0 := 0) rfl rfl, fun U hU hW => ⟨rfl, QM_at hP hK hD hU hW⟩⟩ rfl rfl hl.1 rfl (lv_room (Nat.le_of_ble_eq_true rfl)) dX11_holdsNow_2 ⟨Nat.zero_le _, Nat.zero_le _⟩) (fun r9 er9 => ?_)
  replace er9 := er9.symm
  subst er9
  refine lv_if_eq (tgt := 21) hx hb dX11_holdsNow_5 (by decide) (fun c3 => ?_) (fun c3 => ?_)
  · replace h := it_t c3 h
    refine lv_iconst (v := 0) hx hb dX11_holdsNow_21 (by decide) ?_
    refine lv_istore_n (lv' := [(2, .int 0), (0, .ref (ad 0)), (1, .int p1)]) hx hb dX11_holdsNow_22 rfl hl (by decide) rfl (fun ls hl => ?_)
    refine lv_iconst (v := 0) hx hb dX11_holdsNow_23 (by decide) ?_
    refine lv_istore_n (lv' := [(3, .int 0), (2, .int 0), (0, .ref (ad 0)), (1, .int p1)]) hx hb dX11_holdsNow_24 rfl hl (by decide) rfl (fun ls hl => ?_)
    refine ww_r (fun WW25 hWW25 => ?_)
    have Lh25 : ∀ (n : Nat) (v4 : Int32) (v5 : Int32) (z : (Int32)), lX11_holdsNow_25 p1 S n v4 v5 = some z → ∀ ls : Array Slot, lv_has ls 4 [(0, .ref (ad 0)), (1, .int p1), (2, .int v4), (3, .int v5)] → (∀ (y0 : Int32), z = y0 → ∀ ls : Array Slot, lv_has ls 4 [(2, .int y0)] → WW25  87 ls) → WW25  25 ls := by
      intro n
      induction n with
      | zero => intro v4 v5 z h ls hl K0; rw [lX11_holdsNow_25] at h; cases h
      | succ n ih =>
        intro v4 v5 z h ls hl K0
        rw [lX11_holdsNow_25] at h
        refine wi_r hWW25 ?_
        refine lv_iload_n hx hb dX11_holdsNow_25 rfl (lv_at hl 3 rfl) ?_
        refine lv_aload_n hx hb dX11_holdsNow_26 rfl (lv_at hl 0 rfl) ?_
        refine lv_iload_n hx hb dX11_holdsNow_27 rfl (lv_at hl 1 rfl) ?_
        refine lv_bipush (v := 6) hx hb dX11_holdsNow_28 (by decide) ?_
        obtain ⟨r7, k6, h⟩ := ob_elim h
        refine vp_callSi (W.runV (As := [.int p1, .int 6]) (rest := [.int v5]) ⟨hx, hb, hml, hown, hts⟩ (mX11_ruleOf l dC dI cI cZ ad p1 6 S k6) (cwV 2 hts gX11_holdsNow_X11_ruleOf rfl rfl rfl (by decide +kernel) ⟨Nat.le_of_ble_eq_true rfl, Nat.le_of_ble_eq_true rfl⟩) ⟨QM_blind, va_recv hK hP (ci := 11) (q0 := 0) rfl rfl, fun U hU hW => ⟨rfl, QM_at hP hK hD hU hW⟩⟩ rfl rfl hl.1 rfl (lv_room (Nat.le_of_ble_eq_true rfl)) dX11_holdsNow_30 ⟨Nat.zero_le _, Nat.zero_le _⟩) (fun r9 er9 => ?_)
        replace er9 := er9.symm
        subst er9
        refine lv_icmp_ge (tgt := 87) hx hb dX11_holdsNow_33 (by decide) (fun c8 => ?_) (fun c8 => ?_)
        · replace h := it_t c8 h
          refine wu_r hWW25 ?_
          exact K0 v4 (Option.some.inj h).symm ls (lv_sub hl [2] rfl)
        · replace h := it_f c8 h
          refine lv_iload_n hx hb dX11_holdsNow_36 rfl (lv_at hl 2 rfl) ?_
          refine lv_if_eq (tgt := 79) hx hb dX11_holdsNow_37 (by decide) (fun c9 => ?_) (fun c9 => ?_)
          · replace h := it_t c9 h
            refine lv_iconst (v := 0) hx hb dX11_holdsNow_79 (by decide) ?_
            refine lv_istore_n (lv' := [(2, .int 0), (0, .ref (ad 0)), (1, .int p1), (3, .int v5)]) hx hb dX11_holdsNow_80 rfl hl (by decide) rfl (fun ls hl => ?_)
            obtain ⟨x10, ex10, h⟩ := bnd_elim h
            refine lv_iinc (v := x10) (lv' := [(3, .int x10), (2, .int 0), (0, .ref (ad 0)), (1, .int p1)]) hx hb dX11_holdsNow_81 hl (k := 3) rfl (by rw [ex10]; rfl) (by decide) rfl (fun ls hl => ?_)
            refine lv_goto (tgt := 25) hx hb dX11_holdsNow_84 (by decide) ?_
            refine wu_r hWW25 ?_
            exact ih 0 x10 z h ls (lv_sub hl [2, 3, 1, 0] rfl) K0
          · replace h := it_f c9 h
            refine lv_aload_n hx hb dX11_holdsNow_40 rfl (lv_at hl 0 rfl) ?_
            refine lv_aload_n hx hb dX11_holdsNow_41 rfl (lv_at hl 0 rfl) ?_
            refine lv_iload_n hx hb dX11_holdsNow_42 rfl (lv_at hl 1 rfl) ?_
            refine lv_iconst (v := 0) hx hb dX11_holdsNow_43 (by decide) ?_
            obtain ⟨r12, k11, h⟩ := ob_elim h
            refine vp_callSi (W.runV (As := [.int p1, .int 0]) (rest := [.ref (ad 0)]) ⟨hx, hb, hml, hown, hts⟩ (mX11_ruleOf l dC dI cI cZ ad p1 0 S k11) (cwV 2 hts gX11_holdsNow_X11_ruleOf rfl rfl rfl (by decide +kernel) ⟨Nat.le_of_ble_eq_true rfl, Nat.le_of_ble_eq_true rfl⟩) ⟨QM_blind, va_recv hK hP (ci := 11) (q0 := 0) rfl rfl, fun U hU hW => ⟨rfl, QM_at hP hK hD hU hW⟩⟩ rfl rfl hl.1 rfl (lv_room (Nat.le_of_ble_eq_true rfl)) dX11_holdsNow_44 ⟨Nat.zero_le _, Nat.zero_le _⟩) (fun r9 er9 => ?_)
            replace er9 := er9.symm
            subst er9
            refine lv_aload_n hx hb dX11_holdsNow_47 rfl (lv_at hl 0 rfl) ?_
            refine lv_iload_n hx hb dX11_holdsNow_48 rfl (lv_at hl 1 rfl) ?_
            refine lv_bipush (v := 7) hx hb dX11_holdsNow_49 (by decide) ?_
            refine lv_iconst (v := 2) hx hb dX11_holdsNow_51 (by decide) ?_
            refine lv_iload_n hx hb dX11_holdsNow_52 rfl (lv_at hl 3 rfl) ?_
            refine lv_imul hx hb dX11_holdsNow_53 ?_
            refine lv_iadd hx hb dX11_holdsNow_54 ?_
            obtain ⟨r14, k13, h⟩ := ob_elim h
            refine vp_callSi (W.runV (As := [.int p1, .int (7 + (2 * v5))]) (rest := [.int r12, .ref (ad 0)]) ⟨hx, hb, hml, hown, hts⟩ (mX11_ruleOf l dC dI cI cZ ad p1 (7 + (2 * v5)) S k13) (cwV 2 hts gX11_holdsNow_X11_ruleOf rfl rfl rfl (by decide +kernel) ⟨Nat.le_of_ble_eq_true rfl, Nat.le_of_ble_eq_true rfl⟩) ⟨QM_blind, va_recv hK hP (ci := 11) (q0 := 0) rfl rfl, fun U hU hW => ⟨rfl, QM_at hP hK hD hU hW⟩⟩ rfl rfl hl.1 rfl (lv_room (Nat.le_of_ble_eq_true rfl)) dX11_holdsNow_55 ⟨Nat.zero_le _, Nat.zero_le _⟩) (fun r9 er9 => ?_)
            replace er9 := er9.symm
            subst er9
            refine lv_aload_n hx hb dX11_holdsNow_58 rfl (lv_at hl 0 rfl) ?_
            refine lv_iload_n hx hb dX11_holdsNow_59 rfl (lv_at hl 1 rfl) ?_
            refine lv_bipush (v := 8) hx hb dX11_holdsNow_60 (by decide) ?_
            refine lv_iconst (v := 2) hx hb dX11_holdsNow_62 (by decide) ?_
            refine lv_iload_n hx hb dX11_holdsNow_63 rfl (lv_at hl 3 rfl) ?_
            refine lv_imul hx hb dX11_holdsNow_64 ?_
            refine lv_iadd hx hb dX11_holdsNow_65 ?_
            obtain ⟨r16, k15, h⟩ := ob_elim h
            refine vp_callSi (W.runV (As := [.int p1, .int (8 + (2 * v5))]) (rest := [.int r14, .int r12, .ref (ad 0)]) ⟨hx, hb, hml, hown, hts⟩ (mX11_ruleOf l dC dI cI cZ ad p1 (8 + (2 * v5)) S k15) (cwV 2 hts gX11_holdsNow_X11_ruleOf rfl rfl rfl (by decide +kernel) ⟨Nat.le_of_ble_eq_true rfl, Nat.le_of_ble_eq_true rfl⟩) ⟨QM_blind, va_recv hK hP (ci := 11) (q0 := 0) rfl rfl, fun U hU hW => ⟨rfl, QM_at hP hK hD hU hW⟩⟩ rfl rfl hl.1 rfl (lv_room (Nat.le_of_ble_eq_true rfl)) dX11_holdsNow_66 ⟨Nat.zero_le _, Nat.zero_le _⟩) (fun r9 er9 => ?_)
            replace er9 := er9.symm
            subst er9
            obtain ⟨r18, k17, h⟩ := ob_elim h
            refine vp_callSi (W.runV (As := [.int r12, .int r14, .int r16]) (rest := []) ⟨hx, hb, hml, hown, hts⟩ (mX11_isSo l dC dI cI cZ ad r12 r14 r16 S k17) (cwV 3 hts gX11_holdsNow_X11_isSo rfl rfl rfl (by decide +kernel) ⟨Nat.le_of_ble_eq_true rfl, Nat.le_of_ble_eq_true rfl⟩) ⟨QM_blind, va_recv hK hP (ci := 11) (q0 := 0) rfl rfl, fun U hU hW => ⟨rfl, QM_at hP hK hD hU hW⟩⟩ rfl rfl hl.1 rfl (lv_room (Nat.le_of_ble_eq_true rfl)) dX11_holdsNow_69 ⟨Nat.zero_le _, Nat.zero_le _⟩) (fun r9 er9 => ?_)
            replace er9 := er9.symm
            subst er9
            refine lv_if_eq (tgt := 79) hx hb dX11_holdsNow_72 (by decide) (fun c19 => ?_) (fun c19 => ?_)
            · replace h := it_t c19 h
              refine lv_iconst (v := 0) hx hb dX11_holdsNow_79 (by decide) ?_
              refine lv_istore_n (lv' := [(2, .int 0), (0, .ref (ad 0)), (1, .int p1), (3, .int v5)]) hx hb dX11_holdsNow_80 rfl hl (by decide) rfl (fun ls hl => ?_)
              obtain ⟨x20, ex20, h⟩ := bnd_elim h
              refine lv_iinc (v := x20) (lv' := [(3, .int x20), (2, .int 0), (0, .ref (ad 0)), (1, .int p1)]) hx hb dX11_holdsNow_81 hl (k := 3) rfl (by rw [ex20]; rfl) (by decide) rfl (fun ls hl => ?_)
              refine lv_goto (tgt := 25) hx hb dX11_holdsNow_84 (by decide) ?_
              refine wu_r hWW25 ?_
              exact ih 0 x20 z h ls (lv_sub hl [2, 3, 1, 0] rfl) K0
            · replace h := it_f c19 h
              refine lv_iconst (v := 1) hx hb dX11_holdsNow_75 (by decide) ?_
              refine lv_goto (tgt := 80) hx hb dX11_holdsNow_76 (by decide) ?_
              refine lv_istore_n (lv' := [(2, .int 1), (0, .ref (ad 0)), (1, .int p1), (3, .int v5)]) hx hb dX11_holdsNow_80 rfl hl (by decide) rfl (fun ls hl => ?_)
              obtain ⟨x21, ex21, h⟩ := bnd_elim h
              refine lv_iinc (v := x21) (lv' := [(3, .int x21), (2, .int 1), (0, .ref (ad 0)), (1, .int p1)]) hx hb dX11_holdsNow_81 hl (k := 3) rfl (by rw [ex21]; rfl) (by decide) rfl (fun ls hl => ?_)
              refine lv_goto (tgt := 25) hx hb dX11_holdsNow_84 (by decide) ?_
              refine wu_r hWW25 ?_
              exact ih 1 x21 z h ls (lv_sub hl [2, 3, 1, 0] rfl) K0
    obtain ⟨w23, k22, h⟩ := ob_elim h
    refine wu_r hWW25 ?_
    refine Lh25 FU 0 0 _ k22 ls (lv_sub hl [2, 3, 1, 0] rfl) ?_
    intro y0 hy ls hl
    cases hy
    refine wi_r hWW25 ?_
    refine lv_iload_n hx hb dX11_holdsNow_87 rfl (lv_at hl 0 rfl) ?_
    obtain ⟨b24, h⟩ := zk_elim h
    cases h
    exact W.zret hx hb hr b24 (fun t ht hW => ⟨_, rfl, rfl, ht⟩) (fun q hq => absurd hq List.not_mem_nil) dX11_holdsNow_88
  · replace h := it_f c3 h
    refine lv_aload_n hx hb dX11_holdsNow_8 rfl (lv_at hl 0 rfl) ?_
    refine lv_iload_n hx hb dX11_holdsNow_9 rfl (lv_at hl 1 rfl) ?_
    obtain ⟨r26, k25, h⟩ := ob_elim h
    refine vp_callSi (W.runV (As := [.int p1]) (rest := []) ⟨hx, hb, hml, hown, hts⟩ (mX11_endOf l dC dI cI cZ ad p1 S k25) (cwV 1 hts gX11_holdsNow_X11_endOf rfl rfl rfl (by decide +kernel) ⟨Nat.le_of_ble_eq_true rfl, Nat.le_of_ble_eq_true rfl⟩) ⟨QM_blind, va_recv hK hP (ci := 11) (q0 := 0) rfl rfl, fun U hU hW => ⟨rfl, QM_at hP hK hD hU hW⟩⟩ rfl rfl hl.1 rfl (lv_room (Nat.le_of_ble_eq_true rfl)) dX11_holdsNow_10 ⟨Nat.zero_le _, Nat.zero_le _⟩) (fun r9 er9 => ?_)
    replace er9 := er9.symm
    subst er9
    refine lv_iconst (v := (-1)) hx hb dX11_holdsNow_13 (by decide) ?_
    refine lv_icmp_eq (tgt := 21) hx hb dX11_holdsNow_14 (by decide) (fun c27 => ?_) (fun c27 => ?_)
    · replace h := it_t c27 h
      refine lv_iconst (v := 0) hx hb dX11_holdsNow_21 (by decide) ?_
      refine lv_istore_n (lv' := [(2, .int 0), (0, .ref (ad 0)), (1, .int p1)]) hx hb dX11_holdsNow_22 rfl hl (by decide) rfl (fun ls hl => ?_)
      refine lv_iconst (v := 0) hx hb dX11_holdsNow_23 (by decide) ?_
      refine lv_istore_n (lv' := [(3, .int 0), (2, .int 0), (0, .ref (ad 0)), (1, .int p1)]) hx hb dX11_holdsNow_24 rfl hl (by decide) rfl (fun ls hl => ?_)
      refine ww_r (fun WW25 hWW25 => ?_)
      have Lh25 : ∀ (n : Nat) (v28 : Int32) (v29 : Int32) (z : (Int32)), lX11_holdsNow_25 p1 S n v28 v29 = some z → ∀ ls : Array Slot, lv_has ls 4 [(0, .ref (ad 0)), (1, .int p1), (2, .int v28), (3, .int v29)] → (∀ (y0 : Int32), z = y0 → ∀ ls : Array Slot, lv_has ls 4 [(2, .int y0)] → WW25  87 ls) → WW25  25 ls := by
        intro n
        induction n with
        | zero => intro v28 v29 z h ls hl K0; rw [lX11_holdsNow_25] at h; cases h
        | succ n ih =>
          intro v28 v29 z h ls hl K0
          rw [lX11_holdsNow_25] at h
          refine wi_r hWW25 ?_
          refine lv_iload_n hx hb dX11_holdsNow_25 rfl (lv_at hl 3 rfl) ?_
          refine lv_aload_n hx hb dX11_holdsNow_26 rfl (lv_at hl 0 rfl) ?_
          refine lv_iload_n hx hb dX11_holdsNow_27 rfl (lv_at hl 1 rfl) ?_
          refine lv_bipush (v := 6) hx hb dX11_holdsNow_28 (by decide) ?_
          obtain ⟨r31, k30, h⟩ := ob_elim h
          refine vp_callSi (W.runV (As := [.int p1, .int 6]) (rest := [.int v29]) ⟨hx, hb, hml, hown, hts⟩ (mX11_ruleOf l dC dI cI cZ ad p1 6 S k30) (cwV 2 hts gX11_holdsNow_X11_ruleOf rfl rfl rfl (by decide +kernel) ⟨Nat.le_of_ble_eq_true rfl, Nat.le_of_ble_eq_true rfl⟩) ⟨QM_blind, va_recv hK hP (ci := 11) (q0 := 0) rfl rfl, fun U hU hW => ⟨rfl, QM_at hP hK hD hU hW⟩⟩ rfl rfl hl.1 rfl (lv_room (Nat.le_of_ble_eq_true rfl)) dX11_holdsNow_30 ⟨Nat.zero_le _, Nat.zero_le _⟩) (fun r9 er9 => ?_)
          replace er9 := er9.symm
          subst er9
          refine lv_icmp_ge (tgt := 87) hx hb dX11_holdsNow_33 (by decide) (fun c32 => ?_) (fun c32 => ?_)
          · replace h := it_t c32 h
            refine wu_r hWW25 ?_
            exact K0 v28 (Option.some.inj h).symm ls (lv_sub hl [2] rfl)
          · replace h := it_f c32 h
            refine lv_iload_n hx hb dX11_holdsNow_36 rfl (lv_at hl 2 rfl) ?_
            refine lv_if_eq (tgt := 79) hx hb dX11_holdsNow_37 (by decide) (fun c33 => ?_) (fun c33 => ?_)
            · replace h := it_t c33 h
              refine lv_iconst (v := 0) hx hb dX11_holdsNow_79 (by decide) ?_
              refine lv_istore_n (lv' := [(2, .int 0), (0, .ref (ad 0)), (1, .int p1), (3, .int v29)]) hx hb dX11_holdsNow_80 rfl hl (by decide) rfl (fun ls hl => ?_)
              obtain ⟨x34, ex34, h⟩ := bnd_elim h
              refine lv_iinc (v := x34) (lv' := [(3, .int x34), (2, .int 0), (0, .ref (ad 0)), (1, .int p1)]) hx hb dX11_holdsNow_81 hl (k := 3) rfl (by rw [ex34]; rfl) (by decide) rfl (fun ls hl => ?_)
              refine lv_goto (tgt := 25) hx hb dX11_holdsNow_84 (by decide) ?_
              refine wu_r hWW25 ?_
              exact ih 0 x34 z h ls (lv_sub hl [2, 3, 1, 0] rfl) K0
            · replace h := it_f c33 h
              refine lv_aload_n hx hb dX11_holdsNow_40 rfl (lv_at hl 0 rfl) ?_
              refine lv_aload_n hx hb dX11_holdsNow_41 rfl (lv_at hl 0 rfl) ?_
              refine lv_iload_n hx hb dX11_holdsNow_42 rfl (lv_at hl 1 rfl) ?_
              refine lv_iconst (v := 0) hx hb dX11_holdsNow_43 (by decide) ?_
              obtain ⟨r36, k35, h⟩ := ob_elim h
              refine vp_callSi (W.runV (As := [.int p1, .int 0]) (rest := [.ref (ad 0)]) ⟨hx, hb, hml, hown, hts⟩ (mX11_ruleOf l dC dI cI cZ ad p1 0 S k35) (cwV 2 hts gX11_holdsNow_X11_ruleOf rfl rfl rfl (by decide +kernel) ⟨Nat.le_of_ble_eq_true rfl, Nat.le_of_ble_eq_true rfl⟩) ⟨QM_blind, va_recv hK hP (ci := 11) (q0 := 0) rfl rfl, fun U hU hW => ⟨rfl, QM_at hP hK hD hU hW⟩⟩ rfl rfl hl.1 rfl (lv_room (Nat.le_of_ble_eq_true rfl)) dX11_holdsNow_44 ⟨Nat.zero_le _, Nat.zero_le _⟩) (fun r9 er9 => ?_)
              replace er9 := er9.symm
              subst er9
              refine lv_aload_n hx hb dX11_holdsNow_47 rfl (lv_at hl 0 rfl) ?_
              refine lv_iload_n hx hb dX11_holdsNow_48 rfl (lv_at hl 1 rfl) ?_
              refine lv_bipush (v := 7) hx hb dX11_holdsNow_49 (by decide) ?_
              refine lv_iconst (v := 2) hx hb dX11_holdsNow_51 (by decide) ?_
              refine lv_iload_n hx hb dX11_holdsNow_52 rfl (lv_at hl 3 rfl) ?_
              refine lv_imul hx hb dX11_holdsNow_53 ?_
              refine lv_iadd hx hb dX11_holdsNow_54 ?_
              obtain ⟨r38, k37, h⟩ := ob_elim h
              refine vp_callSi (W.runV (As := [.int p1, .int (7 + (2 * v29))]) (rest := [.int r36, .ref (ad 0)]) ⟨hx, hb, hml, hown, hts⟩ (mX11_ruleOf l dC dI cI cZ ad p1 (7 + (2 * v29)) S k37) (cwV 2 hts gX11_holdsNow_X11_ruleOf rfl rfl rfl (by decide +kernel) ⟨Nat.le_of_ble_eq_true rfl, Nat.le_of_ble_eq_true rfl⟩) ⟨QM_blind, va_recv hK hP (ci := 11) (q0 := 0) rfl rfl, fun U hU hW => ⟨rfl, QM_at hP hK hD hU hW⟩⟩ rfl rfl hl.1 rfl (lv_room (Nat.le_of_ble_eq_true rfl)) dX11_holdsNow_55 ⟨Nat.zero_le _, Nat.zero_le _⟩) (fun r9 er9 => ?_)
              replace er9 := er9.symm
              subst er9
              refine lv_aload_n hx hb dX11_holdsNow_58 rfl (lv_at hl 0 rfl) ?_
              refine lv_iload_n hx hb dX11_holdsNow_59 rfl (lv_at hl 1 rfl) ?_
              refine lv_bipush (v := 8) hx hb dX11_holdsNow_60 (by decide) ?_
              refine lv_iconst (v := 2) hx hb dX11_holdsNow_62 (by decide) ?_
              refine lv_iload_n hx hb dX11_holdsNow_63 rfl (lv_at hl 3 rfl) ?_
              refine lv_imul hx hb dX11_holdsNow_64 ?_
              refine lv_iadd hx hb dX11_holdsNow_65 ?_
              obtain ⟨r40, k39, h⟩ := ob_elim h
              refine vp_callSi (W.runV (As := [.int p1, .int (8 + (2 * v29))]) (rest := [.int r38, .int r36, .ref (ad 0)]) ⟨hx, hb, hml, hown, hts⟩ (mX11_ruleOf l dC dI cI cZ ad p1 (8 + (2 * v29)) S k39) (cwV 2 hts gX11_holdsNow_X11_ruleOf rfl rfl rfl (by decide +kernel) ⟨Nat.le_of_ble_eq_true rfl, Nat.le_of_ble_eq_true rfl⟩) ⟨QM_blind, va_recv hK hP (ci := 11) (q0 := 0) rfl rfl, fun U hU hW => ⟨rfl, QM_at hP hK hD hU hW⟩⟩ rfl rfl hl.1 rfl (lv_room (Nat.le_of_ble_eq_true rfl)) dX11_holdsNow_66 ⟨Nat.zero_le _, Nat.zero_le _⟩) (fun r9 er9 => ?_)
              replace er9 := er9.symm
              subst er9
              obtain ⟨r42, k41, h⟩ := ob_elim h
              refine vp_callSi (W.runV (As := [.int r36, .int r38, .int r40]) (rest := []) ⟨hx, hb, hml, hown, hts⟩ (mX11_isSo l dC dI cI cZ ad r36 r38 r40 S k41) (cwV 3 hts gX11_holdsNow_X11_isSo rfl rfl rfl (by decide +kernel) ⟨Nat.le_of_ble_eq_true rfl, Nat.le_of_ble_eq_true rfl⟩) ⟨QM_blind, va_recv hK hP (ci := 11) (q0 := 0) rfl rfl, fun U hU hW => ⟨rfl, QM_at hP hK hD hU hW⟩⟩ rfl rfl hl.1 rfl (lv_room (Nat.le_of_ble_eq_true rfl)) dX11_holdsNow_69 ⟨Nat.zero_le _, Nat.zero_le _⟩) (fun r9 er9 => ?_)
              replace er9 := er9.symm
              subst er9
              refine lv_if_eq (tgt := 79) hx hb dX11_holdsNow_72 (by decide) (fun c43 => ?_) (fun c43 => ?_)
              · replace h := it_t c43 h
                refine lv_iconst (v := 0) hx hb dX11_holdsNow_79 (by decide) ?_
                refine lv_istore_n (lv' := [(2, .int 0), (0, .ref (ad 0)), (1, .int p1), (3, .int v29)]) hx hb dX11_holdsNow_80 rfl hl (by decide) rfl (fun ls hl => ?_)
                obtain ⟨x44, ex44, h⟩ := bnd_elim h
                refine lv_iinc (v := x44) (lv' := [(3, .int x44), (2, .int 0), (0, .ref (ad 0)), (1, .int p1)]) hx hb dX11_holdsNow_81 hl (k := 3) rfl (by rw [ex44]; rfl) (by decide) rfl (fun ls hl => ?_)
                refine lv_goto (tgt := 25) hx hb dX11_holdsNow_84 (by decide) ?_
                refine wu_r hWW25 ?_
                exact ih 0 x44 z h ls (lv_sub hl [2, 3, 1, 0] rfl) K0
              · replace h := it_f c43 h
                refine lv_iconst (v := 1) hx hb dX11_holdsNow_75 (by decide) ?_
                refine lv_goto (tgt := 80) hx hb dX11_holdsNow_76 (by decide) ?_
                refine lv_istore_n (lv' := [(2, .int 1), (0, .ref (ad 0)), (1, .int p1), (3, .int v29)]) hx hb dX11_holdsNow_80 rfl hl (by decide) rfl (fun ls hl => ?_)
                obtain ⟨x45, ex45, h⟩ := bnd_elim h
                refine lv_iinc (v := x45) (lv' := [(3, .int x45), (2, .int 1), (0, .ref (ad 0)), (1, .int p1)]) hx hb dX11_holdsNow_81 hl (k := 3) rfl (by rw [ex45]; rfl) (by decide) rfl (fun ls hl => ?_)
                refine lv_goto (tgt := 25) hx hb dX11_holdsNow_84 (by decide) ?_
                refine wu_r hWW25 ?_
                exact ih 1 x45 z h ls (lv_sub hl [2, 3, 1, 0] rfl) K0
      obtain ⟨w47, k46, h⟩ := ob_elim h
      refine wu_r hWW25 ?_
      refine Lh25 FU 0 0 _ k46 ls (lv_sub hl [2, 3, 1, 0] rfl) ?_
      intro y0 hy ls hl
      cases hy
      refine wi_r hWW25 ?_
      refine lv_iload_n hx hb dX11_holdsNow_87 rfl (lv_at hl 0 rfl) ?_
      obtain ⟨b48, h⟩ := zk_elim h
      cases h
      exact W.zret hx hb hr b48 (fun t ht hW => ⟨_, rfl, rfl, ht⟩) (fun q hq => absurd hq List.not_mem_nil) dX11_holdsNow_88
    · replace h := it_f c27 h
      refine lv_iconst (v := 1) hx hb dX11_holdsNow_17 (by decide) ?_
      refine lv_goto (tgt := 22) hx hb dX11_holdsNow_18 (by decide) ?_
      refine lv_istore_n (lv' := [(2, .int 1), (0, .ref (ad 0)), (1, .int p1)]) hx hb dX11_holdsNow_22 rfl hl (by decide) rfl (fun ls hl => ?_)
      refine lv_iconst (v := 0) hx hb dX11_holdsNow_23 (by decide) ?_
      refine lv_istore_n (lv' := [(3, .int 0), (2, .int 1), (0, .ref (ad 0)), (1, .int p1)]) hx hb dX11_holdsNow_24 rfl hl (by decide) rfl (fun ls hl => ?_)
      refine ww_r (fun WW25 hWW25 => ?_)
      have Lh25 : ∀ (n : Nat) (v49 : Int32) (v50 : Int32) (z : (Int32)), lX11_holdsNow_25 p1 S n v49 v50 = some z → ∀ ls : Array Slot, lv_has ls 4 [(0, .ref (ad 0)), (1, .int p1), (2, .int v49), (3, .int v50)] → (∀ (y0 : Int32), z = y0 → ∀ ls : Array Slot, lv_has ls 4 [(2, .int y0)] → WW25  87 ls) → WW25  25 ls := by
        intro n
        induction n with
        | zero => intro v49 v50 z h ls hl K0; rw [lX11_holdsNow_25] at h; cases h
        | succ n ih =>
          intro v49 v50 z h ls hl K0
          rw [lX11_holdsNow_25] at h
          refine wi_r hWW25 ?_
          refine lv_iload_n hx hb dX11_holdsNow_25 rfl (lv_at hl 3 rfl) ?_
          refine lv_aload_n hx hb dX11_holdsNow_26 rfl (lv_at hl 0 rfl) ?_
          refine lv_iload_n hx hb dX11_holdsNow_27 rfl (lv_at hl 1 rfl) ?_
          refine lv_bipush (v := 6) hx hb dX11_holdsNow_28 (by decide) ?_
          obtain ⟨r52, k51, h⟩ := ob_elim h
          refine vp_callSi (W.runV (As := [.int p1, .int 6]) (rest := [.int v50]) ⟨hx, hb, hml, hown, hts⟩ (mX11_ruleOf l dC dI cI cZ ad p1 6 S k51) (cwV 2 hts gX11_holdsNow_X11_ruleOf rfl rfl rfl (by decide +kernel) ⟨Nat.le_of_ble_eq_true rfl, Nat.le_of_ble_eq_true rfl⟩) ⟨QM_blind, va_recv hK hP (ci := 11) (q0 := 0) rfl rfl, fun U hU hW => ⟨rfl, QM_at hP hK hD hU hW⟩⟩ rfl rfl hl.1 rfl (lv_room (Nat.le_of_ble_eq_true rfl)) dX11_holdsNow_30 ⟨Nat.zero_le _, Nat.zero_le _⟩) (fun r9 er9 => ?_)
          replace er9 := er9.symm
          subst er9
          refine lv_icmp_ge (tgt := 87) hx hb dX11_holdsNow_33 (by decide) (fun c53 => ?_) (fun c53 => ?_)
          · replace h := it_t c53 h
            refine wu_r hWW25 ?_
            exact K0 v49 (Option.some.inj h).symm ls (lv_sub hl [2] rfl)
          · replace h := it_f c53 h
            refine lv_iload_n hx hb dX11_holdsNow_36 rfl (lv_at hl 2 rfl) ?_
            refine lv_if_eq (tgt := 79) hx hb dX11_holdsNow_37 (by decide) (fun c54 => ?_) (fun c54 => ?_)
            · replace h := it_t c54 h
              refine lv_iconst (v := 0) hx hb dX11_holdsNow_79 (by decide) ?_
              refine lv_istore_n (lv' := [(2, .int 0), (0, .ref (ad 0)), (1, .int p1), (3, .int v50)]) hx hb dX11_holdsNow_80 rfl hl (by decide) rfl (fun ls hl => ?_)
              obtain ⟨x55, ex55, h⟩ := bnd_elim h
              refine lv_iinc (v := x55) (lv' := [(3, .int x55), (2, .int 0), (0, .ref (ad 0)), (1, .int p1)]) hx hb dX11_holdsNow_81 hl (k := 3) rfl (by rw [ex55]; rfl) (by decide) rfl (fun ls hl => ?_)
              refine lv_goto (tgt := 25) hx hb dX11_holdsNow_84 (by decide) ?_
              refine wu_r hWW25 ?_
              exact ih 0 x55 z h ls (lv_sub hl [2, 3, 1, 0] rfl) K0
            · replace h := it_f c54 h
              refine lv_aload_n hx hb dX11_holdsNow_40 rfl (lv_at hl 0 rfl) ?_
              refine lv_aload_n hx hb dX11_holdsNow_41 rfl (lv_at hl 0 rfl) ?_
              refine lv_iload_n hx hb dX11_holdsNow_42 rfl (lv_at hl 1 rfl) ?_
              refine lv_iconst (v := 0) hx hb dX11_holdsNow_43 (by decide) ?_
              obtain ⟨r57, k56, h⟩ := ob_elim h
              refine vp_callSi (W.runV (As := [.int p1, .int 0]) (rest := [.ref (ad 0)]) ⟨hx, hb, hml, hown, hts⟩ (mX11_ruleOf l dC dI cI cZ ad p1 0 S k56) (cwV 2 hts gX11_holdsNow_X11_ruleOf rfl rfl rfl (by decide +kernel) ⟨Nat.le_of_ble_eq_true rfl, Nat.le_of_ble_eq_true rfl⟩) ⟨QM_blind, va_recv hK hP (ci := 11) (q0 := 0) rfl rfl, fun U hU hW => ⟨rfl, QM_at hP hK hD hU hW⟩⟩ rfl rfl hl.1 rfl (lv_room (Nat.le_of_ble_eq_true rfl)) dX11_holdsNow_44 ⟨Nat.zero_le _, Nat.zero_le _⟩) (fun r9 er9 => ?_)
              replace er9 := er9.symm
              subst er9
              refine lv_aload_n hx hb dX11_holdsNow_47 rfl (lv_at hl 0 rfl) ?_
              refine lv_iload_n hx hb dX11_holdsNow_48 rfl (lv_at hl 1 rfl) ?_
              refine lv_bipush (v := 7) hx hb dX11_holdsNow_49 (by decide) ?_
              refine lv_iconst (v := 2) hx hb dX11_holdsNow_51 (by decide) ?_
              refine lv_iload_n hx hb dX11_holdsNow_52 rfl (lv_at hl 3 rfl) ?_
              refine lv_imul hx hb dX11_holdsNow_53 ?_
              refine lv_iadd hx hb dX11_holdsNow_54 ?_
              obtain ⟨r59, k58, h⟩ := ob_elim h
              refine vp_callSi (W.runV (As := [.int p1, .int (7 + (2 * v50))]) (rest := [.int r57, .ref (ad 0)]) ⟨hx, hb, hml, hown, hts⟩ (mX11_ruleOf l dC dI cI cZ ad p1 (7 + (2 * v50)) S k58) (cwV 2 hts gX11_holdsNow_X11_ruleOf rfl rfl rfl (by decide +kernel) ⟨Nat.le_of_ble_eq_true rfl, Nat.le_of_ble_eq_true rfl⟩) ⟨QM_blind, va_recv hK hP (ci := 11) (q0 := 0) rfl rfl, fun U hU hW => ⟨rfl, QM_at hP hK hD hU hW⟩⟩ rfl rfl hl.1 rfl (lv_room (Nat.le_of_ble_eq_true rfl)) dX11_holdsNow_55 ⟨Nat.zero_le _, Nat.zero_le _⟩) (fun r9 er9 => ?_)
              replace er9 := er9.symm
              subst er9
              refine lv_aload_n hx hb dX11_holdsNow_58 rfl (lv_at hl 0 rfl) ?_
              refine lv_iload_n hx hb dX11_holdsNow_59 rfl (lv_at hl 1 rfl) ?_
              refine lv_bipush (v := 8) hx hb dX11_holdsNow_60 (by decide) ?_
              refine lv_iconst (v := 2) hx hb dX11_holdsNow_62 (by decide) ?_
              refine lv_iload_n hx hb dX11_holdsNow_63 rfl (lv_at hl 3 rfl) ?_
              refine lv_imul hx hb dX11_holdsNow_64 ?_
              refine lv_iadd hx hb dX11_holdsNow_65 ?_
              obtain ⟨r61, k60, h⟩ := ob_elim h
              refine vp_callSi (W.runV (As := [.int p1, .int (8 + (2 * v50))]) (rest := [.int r59, .int r57, .ref (ad 0)]) ⟨hx, hb, hml, hown, hts⟩ (mX11_ruleOf l dC dI cI cZ ad p1 (8 + (2 * v50)) S k60) (cwV 2 hts gX11_holdsNow_X11_ruleOf rfl rfl rfl (by decide +kernel) ⟨Nat.le_of_ble_eq_true rfl, Nat.le_of_ble_eq_true rfl⟩) ⟨QM_blind, va_recv hK hP (ci := 11) (q0 := 0) rfl rfl, fun U hU hW => ⟨rfl, QM_at hP hK hD hU hW⟩⟩ rfl rfl hl.1 rfl (lv_room (Nat.le_of_ble_eq_true rfl)) dX11_holdsNow_66 ⟨Nat.zero_le _, Nat.zero_le _⟩) (fun r9 er9 => ?_)
              replace er9 := er9.symm
              subst er9
              obtain ⟨r63, k62, h⟩ := ob_elim h
              refine vp_callSi (W.runV (As := [.int r57, .int r59, .int r61]) (rest := []) ⟨hx, hb, hml, hown, hts⟩ (mX11_isSo l dC dI cI cZ ad r57 r59 r61 S k62) (cwV 3 hts gX11_holdsNow_X11_isSo rfl rfl rfl (by decide +kernel) ⟨Nat.le_of_ble_eq_true rfl, Nat.le_of_ble_eq_true rfl⟩) ⟨QM_blind, va_recv hK hP (ci := 11) (q0 := 0) rfl rfl, fun U hU hW => ⟨rfl, QM_at hP hK hD hU hW⟩⟩ rfl rfl hl.1 rfl (lv_room (Nat.le_of_ble_eq_true rfl)) dX11_holdsNow_69 ⟨Nat.zero_le _, Nat.zero_le _⟩) (fun r9 er9 => ?_)
              replace er9 := er9.symm
              subst er9
              refine lv_if_eq (tgt := 79) hx hb dX11_holdsNow_72 (by decide) (fun c64 => ?_) (fun c64 => ?_)
              · replace h := it_t c64 h
                refine lv_iconst (v := 0) hx hb dX11_holdsNow_79 (by decide) ?_
                refine lv_istore_n (lv' := [(2, .int 0), (0, .ref (ad 0)), (1, .int p1), (3, .int v50)]) hx hb dX11_holdsNow_80 rfl hl (by decide) rfl (fun ls hl => ?_)
                obtain ⟨x65, ex65, h⟩ := bnd_elim h
                refine lv_iinc (v := x65) (lv' := [(3, .int x65), (2, .int 0), (0, .ref (ad 0)), (1, .int p1)]) hx hb dX11_holdsNow_81 hl (k := 3) rfl (by rw [ex65]; rfl) (by decide) rfl (fun ls hl => ?_)
                refine lv_goto (tgt := 25) hx hb dX11_holdsNow_84 (by decide) ?_
                refine wu_r hWW25 ?_
                exact ih 0 x65 z h ls (lv_sub hl [2, 3, 1, 0] rfl) K0
              · replace h := it_f c64 h
                refine lv_iconst (v := 1) hx hb dX11_holdsNow_75 (by decide) ?_
                refine lv_goto (tgt := 80) hx hb dX11_holdsNow_76 (by decide) ?_
                refine lv_istore_n (lv' := [(2, .int 1), (0, .ref (ad 0)), (1, .int p1), (3, .int v50)]) hx hb dX11_holdsNow_80 rfl hl (by decide) rfl (fun ls hl => ?_)
                obtain ⟨x66, ex66, h⟩ := bnd_elim h
                refine lv_iinc (v := x66) (lv' := [(3, .int x66), (2, .int 1), (0, .ref (ad 0)), (1, .int p1)]) hx hb dX11_holdsNow_81 hl (k := 3) rfl (by rw [ex66]; rfl) (by decide) rfl (fun ls hl => ?_)
                refine lv_goto (tgt := 25) hx hb dX11_holdsNow_84 (by decide) ?_
                refine wu_r hWW25 ?_
                exact ih 1 x66 z h ls (lv_sub hl [2, 3, 1, 0] rfl) K0
      obtain ⟨w68, k67, h⟩ := ob_elim h
      refine wu_r hWW25 ?_
      refine Lh25 FU 1 0 _ k67 ls (lv_sub hl [2, 3, 1, 0] rfl) ?_
      intro y0 hy ls hl
      cases hy
      refine wi_r hWW25 ?_
      refine lv_iload_n hx hb dX11_holdsNow_87 rfl (lv_at hl 0 rfl) ?_
      obtain ⟨b69, h⟩ := zk_elim h
      cases h
      exact W.zret hx hb hr b69 (fun t ht hW => ⟨_, rfl, rfl, ht⟩) (fun q hq => absurd hq List.not_mem_nil) dX11_holdsNow_88
set_option maxHeartbeats 4000000 in
set_option maxRecDepth 100000 in
theorem mX11_holds (l : Launch) (dC : Nat → ClassId) (dI : Nat → Nat → Nat) (cI cZ : ClassId) (ad : Nat → Nat) (p1 : Int32) (p2 : Int32) (S : Nat → Nat → Int32) (sz : Nat) {z : Int32 × (Nat → Nat → Int32)} (h : sX11_holds p1 p2 S = some z) : Met l yX11_holds wsX11_holds ({ frames := 3, cells := 0, slots := 0, locals := 67 }) (va_Pc [.ref (ad 0), .int p1, .int p2] (QMs sz dC dI cI cZ ad S)) (va_Qi (fun (r : Int32) (u : (Nat → Nat → Int32)) => (r, u) = z) (fun (u : (Nat → Nat → Int32)) t => va_P (dC, dI) vwCl (wM cI cZ ad u) t.heap) (AX 7 ad sz)) 0 0 (AX 7 ad sz) := by
  refine Met.ofW (cc := cX11_holds) (maxL := 3) (ret := (some .int)) (by decide) rfl ?_
  intro p e s m args below meth c s₁ B hml hv
  obtain ⟨rfl, hsz, hP, hK, hD0⟩ := hv
  have hx := B.exec
  have hb := B.bytes
  have hr := B.returns
  have hts := atoms_spec (ws := wsX11_holds) B.pre
  have hown : s.vm.findClass RX11 = some m.cls := findClass_of_methodNamed B.named
  have hlocks := B.notSynchronized
  subst hsz
  have hD := wM_DA hD0 s.heap.size
  have hS : va_S (AX 7 ad s.heap.size) s.heap s.heap [] := va_S.rf
  have hl := lv_entry ([.ref (ad 0), .int p1, .int p2]) (n := 3) (Nat.le_of_ble_eq_true rfl)
  rw [lg_entry_eq]
  generalize (lg_sl ([.ref (ad 0), .int p1, .int p2]) ++ List.replicate (3 - (lg_sl ([.ref (ad 0), .int p1, .int p2])).length) Slot.unset).toArray = ls at hl ⊢
  have hl : lv_has ls 3 [(0, .ref (ad 0)), (1, .int p1), (2, .int p2)] := hl
  rw [sX11_holds] at h
  refine lv_aload_n hx hb dX11_holds_0 rfl (lv_at hl 0 rfl) ?_
  refine lv_iconst (v := 2) hx hb dX11_holds_1 (by decide) ?_
  refine lv_iload_n hx hb dX11_holds_2 rfl (lv_at hl 1 rfl) ?_
  obtain ⟨r2, k1, h⟩ := ob_elim h
  refine vp_callSi (W.runV (As := [.int 2, .int p1]) (rest := []) ⟨hx, hb, hml, hown, hts⟩ (mX11_is l dC dI cI cZ ad 2 p1 S k1) (cwV 2 hts gX11_holds_X11_is rfl rfl rfl (by decide +kernel) ⟨Nat.le_of_ble_eq_true rfl, Nat.le_of_ble_eq_true rfl⟩) ⟨QM_blind, va_recv hK hP (ci := 11) (q0 := 0) rfl rfl, fun U hU hW => ⟨rfl, QM_at hP hK hD hU hW⟩⟩ rfl rfl hl.1 rfl (lv_room (Nat.le_of_ble_eq_true rfl)) dX11_holds_3 ⟨Nat.zero_le _, Nat.zero_le _⟩) (fun r9 er9 => ?_)
  replace er9 := er9.symm
  subst er9
  refine lv_if_eq (tgt := 18) hx hb dX11_holds_6 (by decide) (fun c3 => ?_) (fun c3 => ?_)
  · replace h := it_t c3 h
    refine lv_bipush (v := (-2)) hx hb dX11_holds_18 (by decide) ?_
    cases h
    exact W.iret hx hb hr (fun t ht hW => ⟨⟨_, _, rfl, rfl, by show va_P _ _ _ t.heap; rw [ht]; exact hP⟩, hS.F ht⟩) hS.2.2 dX11_holds_20
  · replace h := it_f c3 h
    refine lv_aload_n hx hb dX11_holds_9 rfl (lv_at hl 0 rfl) ?_
    refine lv_iconst (v := 0) hx hb dX11_holds_10 (by decide) ?_
    refine lv_iload_n hx hb dX11_holds_11 rfl (lv_at hl 2 rfl) ?_
    obtain ⟨r5, k4, h⟩ := ob_elim h
    refine vp_callSi (W.runV (As := [.int 0, .int p2]) (rest := []) ⟨hx, hb, hml, hown, hts⟩ (mX11_is l dC dI cI cZ ad 0 p2 S k4) (cwV 2 hts gX11_holds_X11_is rfl rfl rfl (by decide +kernel) ⟨Nat.le_of_ble_eq_true rfl, Nat.le_of_ble_eq_true rfl⟩) ⟨QM_blind, va_recv hK hP (ci := 11) (q0 := 0) rfl rfl, fun U hU hW => ⟨rfl, QM_at hP hK hD hU hW⟩⟩ rfl rfl hl.1 rfl (lv_room (Nat.le_of_ble_eq_true rfl)) dX11_holds_12 ⟨Nat.zero_le _, Nat.zero_le _⟩) (fun r9 er9 => ?_)
    replace er9 := er9.symm
    subst er9
    refine lv_if_ne (tgt := 21) hx hb dX11_holds_15 (by decide) (fun c6 => ?_) (fun c6 => ?_)
    · replace h := it_f c6 h
      refine lv_aload_n hx hb dX11_holds_21 rfl (lv_at hl 0 rfl) ?_
      refine lv_iload_n hx hb dX11_holds_22 rfl (lv_at hl 2 rfl) ?_
      obtain ⟨S8, k7, h⟩ := ob_elim h
      refine va_callv (va_runV (As := [.int p2]) (rest := []) ⟨hx, hb, hml, hown, hts⟩ (mX11_looksAt l dC dI cI cZ ad p2 S s.heap.size k7) (cwV 1 hts gX11_holds_X11_looksAt rfl rfl rfl (by decide +kernel) ⟨Nat.le_of_ble_eq_true rfl, Nat.le_of_ble_eq_true rfl⟩) ⟨QMs_blind, va_recv hK hP (ci := 11) (q0 := 0) rfl rfl, fun U hU hW => ⟨rfl, congrArg Array.size hU, QM_at hP hK hD hU hW⟩⟩ rfl rfl hl.1 rfl (lv_room (Nat.le_of_ble_eq_true rfl)) dX11_holds_23 ⟨Nat.zero_le _, Nat.zero_le _⟩) hS (fun q _ hq => AX_mono hS.1 hq) (fun q hq => AX_mono hS.1 hq) (fun u t H1 locs ht hvm hw hB hz1 hk1 hS => ?_)
      cases hw
      rw [ht] at hB
      have hP := hB
      clear hB hk1 hz1
      generalize H1 = H at hP hS ⊢
      have hD := wM_D hD S8
      refine lv_aload_n hx hb dX11_holds_26 rfl (lv_at hl 0 rfl) ?_
      refine lv_iload_n hx hb dX11_holds_27 rfl (lv_at hl 1 rfl) ?_
      obtain ⟨r10, k9, h⟩ := ob_elim h
      refine vp_callSi (W.runV (As := [.int p1]) (rest := []) ⟨hx, hb, hml, hown, hts⟩ (mX11_holdsNow l dC dI cI cZ ad p1 S8 k9) (cwV 1 hts gX11_holds_X11_holdsNow rfl rfl rfl (by decide +kernel) ⟨Nat.le_of_ble_eq_true rfl, Nat.le_of_ble_eq_true rfl⟩) ⟨QM_blind, va_recv hK hP (ci := 11) (q0 := 0) rfl rfl, fun U hU hW => ⟨rfl, QM_at hP hK hD hU hW⟩⟩ rfl rfl hl.1 rfl (lv_room (Nat.le_of_ble_eq_true rfl)) dX11_holds_28 ⟨Nat.zero_le _, Nat.zero_le _⟩) (fun r9 er9 => ?_)
      replace er9 := er9.symm
      subst er9
      refine lv_if_eq (tgt := 38) hx hb dX11_holds_31 (by decide) (fun c11 => ?_) (fun c11 => ?_)
      · replace h := it_t c11 h
        refine lv_iconst (v := 0) hx hb dX11_holds_38 (by decide) ?_
        cases h
        exact W.iret hx hb hr (fun t ht hW => ⟨⟨_, _, rfl, rfl, by show va_P _ _ _ t.heap; rw [ht]; exact hP⟩, hS.F ht⟩) hS.2.2 dX11_holds_39
      · replace h := it_f c11 h
        refine lv_iconst (v := 1) hx hb dX11_holds_34 (by decide) ?_
        refine lv_goto (tgt := 39) hx hb dX11_holds_35 (by decide) ?_
        cases h
        exact W.iret hx hb hr (fun t ht hW => ⟨⟨_, _, rfl, rfl, by show va_P _ _ _ t.heap; rw [ht]; exact hP⟩, hS.F ht⟩) hS.2.2 dX11_holds_39
    · replace h := it_t c6 h
      refine lv_bipush (v := (-2)) hx hb dX11_holds_18 (by decide) ?_
      cases h
      exact W.iret hx hb hr (fun t ht hW => ⟨⟨_, _, rfl, rfl, by show va_P _ _ _ t.heap; rw [ht]; exact hP⟩, hS.F ht⟩) hS.2.2 dX11_holds_20
set_option maxHeartbeats 4000000 in
set_option maxRecDepth 100000 in
theorem mX10_isQuestion (l : Launch) (dC : Nat → ClassId) (dI : Nat → Nat → Nat) (cI cJ : ClassId) (ad : Nat → Nat) (p1 : Int32) (p2 : Int32) (p3 : Int32) (S : Nat → Nat → Int32) (L : Nat → Nat → Int64) {z : Int32} (h : sX10_isQuestion p1 p2 p3 S L = some z) : Met l yX10_isQuestion wsX10_isQuestion ({ frames := 2, cells := 0, slots := 0, locals := 42 }) (va_Pc [.ref (ad 0), .int p1, .int p2, .int p3] (QX dC dI cI cJ ad S L)) (vp_Si (fun r => r = z)) 0 0 (fun _ => False) := by
  refine Met.ofW (cc := cX10_isQuestion) (maxL := 4) (ret := (some .boolean)) (by decide) rfl ?_
  intro p e s m args below meth c s₁ B hml hv
  obtain ⟨rfl, hP, hK, hD⟩ := hv
  have hx := B.exec
  have hb := B.bytes
  have hr := B.returns
  have hts := atoms_spec (ws := wsX10_isQuestion) B.pre
  have hown : s.vm.findClass RX10 = some m.cls := findClass_of_methodNamed B.named
  have hlocks := B.notSynchronized
  have hl := lv_entry ([.ref (ad 0), .int p1, .int p2, .int p3]) (n := 4) (Nat.le_of_ble_eq_true rfl)
  rw [lg_entry_eq]
  generalize (lg_sl ([.ref (ad 0), .int p1, .int p2, .int p3]) ++ List.replicate (4 - (lg_sl ([.ref (ad 0), .int p1, .int p2, .int p3])).length) Slot.unset).toArray = ls at hl ⊢
  have hl : lv_has ls 4 [(0, .ref (ad 0)), (1, .int p1), (2, .int p2), (3, .int p3)] := hl
  rw [sX10_isQuestion] at h
  refine lv_iload_n hx hb dX10_isQuestion_0 rfl (lv_at hl 1 rfl) ?_
  obtain ⟨r2, k1, h⟩ := ob_elim h
  refine vp_callSi (W.runS (As := [.int p1]) (rest := []) ⟨hx, hb, hml, hown, hts⟩ (mX10_isLand l p1 k1) (va_cwS 1 hts gX10_isQuestion_X10_isLand rfl rfl rfl (by decide +kernel) ⟨Nat.le_of_ble_eq_true rfl, Nat.le_of_ble_eq_true rfl⟩) ⟨fun _ _ _ _ q => q, fun U hU hW => ⟨rfl, trivial⟩⟩ rfl rfl hl.1 rfl (lv_room (Nat.le_of_ble_eq_true rfl)) dX10_isQuestion_1 ⟨Nat.zero_le _, Nat.zero_le _⟩) (fun r9 er9 => ?_)
  replace er9 := er9.symm
  subst er9
  refine lv_if_eq (tgt := 26) hx hb dX10_isQuestion_4 (by decide) (fun c3 => ?_) (fun c3 => ?_)
  · replace h := it_t c3 h
    refine lv_iconst (v := 0) hx hb dX10_isQuestion_26 (by decide) ?_
    cases h
    exact W.zret hx hb hr rfl (fun t ht hW => ⟨_, rfl, rfl, ht⟩) (fun q hq => absurd hq List.not_mem_nil) dX10_isQuestion_27
  · replace h := it_f c3 h
    refine lv_aload_n hx hb dX10_isQuestion_7 rfl (lv_at hl 0 rfl) ?_
    refine lv_iload_n hx hb dX10_isQuestion_8 rfl (lv_at hl 2 rfl) ?_
    obtain ⟨r5, k4, h⟩ := ob_elim h
    refine vp_callSi (W.runV (As := [.int p2]) (rest := []) ⟨hx, hb, hml, hown, hts⟩ (mX10_isCase l dC dI cI cJ ad p2 S L k4) (cwV 1 hts gX10_isQuestion_X10_isCase rfl rfl rfl (by decide +kernel) ⟨Nat.le_of_ble_eq_true rfl, Nat.le_of_ble_eq_true rfl⟩) ⟨QX_blind, va_recv hK hP (ci := 10) (q0 := 0) rfl rfl, fun U hU hW => ⟨rfl, QX_at hP hK hD hU hW⟩⟩ rfl rfl hl.1 rfl (lv_room (Nat.le_of_ble_eq_true rfl)) dX10_isQuestion_9 ⟨Nat.zero_le _, Nat.zero_le _⟩) (fun r9 er9 => ?_)
    replace er9 := er9.symm
    subst er9
    refine lv_if_eq (tgt := 26) hx hb dX10_isQuestion_12 (by decide) (fun c6 => ?_) (fun c6 => ?_)
    · replace h := it_t c6 h
      refine lv_iconst (v := 0) hx hb dX10_isQuestion_26 (by decide) ?_
      cases h
      exact W.zret hx hb hr rfl (fun t ht hW => ⟨_, rfl, rfl, ht⟩) (fun q hq => absurd hq List.not_mem_nil) dX10_isQuestion_27
    · replace h := it_f c6 h
      refine lv_iload_n hx hb dX10_isQuestion_15 rfl (lv_at hl 3 rfl) ?_
      obtain ⟨r8, k7, h⟩ := ob_elim h
      refine vp_callSi (W.runS (As := [.int p3]) (rest := []) ⟨hx, hb, hml, hown, hts⟩ (mX10_isKind l p3 k7) (va_cwS 1 hts gX10_isQuestion_X10_isKind rfl rfl rfl (by decide +kernel) ⟨Nat.le_of_ble_eq_true rfl, Nat.le_of_ble_eq_true rfl⟩) ⟨fun _ _ _ _ q => q, fun U hU hW => ⟨rfl, trivial⟩⟩ rfl rfl hl.1 rfl (lv_room (Nat.le_of_ble_eq_true rfl)) dX10_isQuestion_16 ⟨Nat.zero_le _, Nat.zero_le _⟩) (fun r9 er9 => ?_)
      replace er9 := er9.symm
      subst er9
      refine lv_if_eq (tgt := 26) hx hb dX10_isQuestion_19 (by decide) (fun c9 => ?_) (fun c9 => ?_)
      · replace h := it_t c9 h
        refine lv_iconst (v := 0) hx hb dX10_isQuestion_26 (by decide) ?_
        cases h
        exact W.zret hx hb hr rfl (fun t ht hW => ⟨_, rfl, rfl, ht⟩) (fun q hq => absurd hq List.not_mem_nil) dX10_isQuestion_27
      · replace h := it_f c9 h
        refine lv_iconst (v := 1) hx hb dX10_isQuestion_22 (by decide) ?_
        refine lv_goto (tgt := 27) hx hb dX10_isQuestion_23 (by decide) ?_
        cases h
        exact W.zret hx hb hr rfl (fun t ht hW => ⟨_, rfl, rfl, ht⟩) (fun q hq => absurd hq List.not_mem_nil) dX10_isQuestion_27
set_option maxHeartbeats 4000000 in
set_option maxRecDepth 100000 in
theorem mJ13_bitCount_95d88 (l : Launch) (p0 : Int64) {z : Int32} (h : sJ13_bitCount_95d88 p0 = some z) : Met l yJ13_bitCount_95d88 wsJ13_bitCount_95d88 ({ frames := 0, cells := 0, slots := 0, locals := 0 }) (va_Pc [.long p0] (fun _ => True)) (vp_Si (fun r => r = z)) 0 0 (fun _ => False) := by
  refine Met.ofW (cc := cJ13_bitCount_95d88) (maxL := 2) (ret := (some .int)) (by decide) rfl ?_
  intro p e s m args below meth c s₁ B hml hv
  obtain ⟨rfl, -⟩ := hv
  have hx := B.exec
  have hb := B.bytes
  have hr := B.returns
  have hts := atoms_spec (ws := wsJ13_bitCount_95d88) B.pre
  have hown : s.vm.findClass RJ13 = some m.cls := findClass_of_methodNamed B.named
  have hlocks := B.notSynchronized
  have hl := lv_entry ([.long p0]) (n := 2) (Nat.le_of_ble_eq_true rfl)
  rw [lg_entry_eq]
  generalize (lg_sl ([.long p0]) ++ List.replicate (2 - (lg_sl ([.long p0])).length) Slot.unset).toArray = ls at hl ⊢
  have hl : lv_has ls 2 [(0, .long p0)] := hl
  have hk314 := hts (.constantLong RJ13 314 (6148914691236517205)) (by decide +kernel)
  have hk316 := hts (.constantLong RJ13 316 (3689348814741910323)) (by decide +kernel)
  have hk318 := hts (.constantLong RJ13 318 (1085102592571150095)) (by decide +kernel)
  rw [sJ13_bitCount_95d88] at h
  refine lv_lload_n hx hb dJ13_bitCount_95d88_0 rfl (lv_at hl 0 rfl) ?_
  refine lv_lload_n hx hb dJ13_bitCount_95d88_1 rfl (lv_at hl 0 rfl) ?_
  refine lv_iconst (v := 1) hx hb dJ13_bitCount_95d88_2 (by decide) ?_
  refine lv_lushr (v := lush p0 1) hx hb dJ13_bitCount_95d88_3 rfl ?_
  refine lv_ldc2 (v := 6148914691236517205) hx hb hown hk314 dJ13_bitCount_95d88_4 ?_
  refine lv_land hx hb dJ13_bitCount_95d88_7 ?_
  refine lv_lsub hx hb dJ13_bitCount_95d88_8 ?_
  obtain ⟨x1, ex1, h⟩ := bnd_elim h
  refine nm_l ex1 ?_
  refine lv_lstore_n (lv' := [(0, .long x1)]) hx hb dJ13_bitCount_95d88_9 rfl hl (by decide) rfl (fun ls hl => ?_)
  refine lv_lload_n hx hb dJ13_bitCount_95d88_10 rfl (lv_at hl 0 rfl) ?_
  refine lv_ldc2 (v := 3689348814741910323) hx hb hown hk316 dJ13_bitCount_95d88_11 ?_
  refine lv_land hx hb dJ13_bitCount_95d88_14 ?_
  refine lv_lload_n hx hb dJ13_bitCount_95d88_15 rfl (lv_at hl 0 rfl) ?_
  refine lv_iconst (v := 2) hx hb dJ13_bitCount_95d88_16 (by decide) ?_
  refine lv_lushr (v := lush x1 2) hx hb dJ13_bitCount_95d88_17 rfl ?_
  refine lv_ldc2 (v := 3689348814741910323) hx hb hown hk316 dJ13_bitCount_95d88_18 ?_
  refine lv_land hx hb dJ13_bitCount_95d88_21 ?_
  refine lv_ladd hx hb dJ13_bitCount_95d88_22 ?_
  obtain ⟨x2, ex2, h⟩ := bnd_elim h
  refine nm_l ex2 ?_
  refine lv_lstore_n (lv' := [(0, .long x2)]) hx hb dJ13_bitCount_95d88_23 rfl hl (by decide) rfl (fun ls hl => ?_)
  refine lv_lload_n hx hb dJ13_bitCount_95d88_24 rfl (lv_at hl 0 rfl) ?_
  refine lv_lload_n hx hb dJ13_bitCount_95d88_25 rfl (lv_at hl 0 rfl) ?_
  refine lv_iconst (v := 4) hx hb dJ13_bitCount_95d88_26 (by decide) ?_
  refine lv_lushr (v := lush x2 4) hx hb dJ13_bitCount_95d88_27 rfl ?_
  refine lv_ladd hx hb dJ13_bitCount_95d88_28 ?_
  refine lv_ldc2 (v := 1085102592571150095) hx hb hown hk318 dJ13_bitCount_95d88_29 ?_
  refine lv_land hx hb dJ13_bitCount_95d88_32 ?_
  obtain ⟨x3, ex3, h⟩ := bnd_elim h
  refine nm_l ex3 ?_
  refine lv_lstore_n (lv' := [(0, .long x3)]) hx hb dJ13_bitCount_95d88_33 rfl hl (by decide) rfl (fun ls hl => ?_)
  refine lv_lload_n hx hb dJ13_bitCount_95d88_34 rfl (lv_at hl 0 rfl) ?_
  refine lv_lload_n hx hb dJ13_bitCount_95d88_35 rfl (lv_at hl 0 rfl) ?_
  refine lv_bipush (v := 8) hx hb dJ13_bitCount_95d88_36 (by decide) ?_
  refine lv_lushr (v := lush x3 8) hx hb dJ13_bitCount_95d88_38 rfl ?_
  refine lv_ladd hx hb dJ13_bitCount_95d88_39 ?_
  obtain ⟨x4, ex4, h⟩ := bnd_elim h
  refine nm_l ex4 ?_
  refine lv_lstore_n (lv' := [(0, .long x4)]) hx hb dJ13_bitCount_95d88_40 rfl hl (by decide) rfl (fun ls hl => ?_)
  refine lv_lload_n hx hb dJ13_bitCount_95d88_41 rfl (lv_at hl 0 rfl) ?_
  refine lv_lload_n hx hb dJ13_bitCount_95d88_42 rfl (lv_at hl 0 rfl) ?_
  refine lv_bipush (v := 16) hx hb dJ13_bitCount_95d88_43 (by decide) ?_
  refine lv_lushr (v := lush x4 16) hx hb dJ13_bitCount_95d88_45 rfl ?_
  refine lv_ladd hx hb dJ13_bitCount_95d88_46 ?_
  obtain ⟨x5, ex5, h⟩ := bnd_elim h
  refine nm_l ex5 ?_
  refine lv_lstore_n (lv' := [(0, .long x5)]) hx hb dJ13_bitCount_95d88_47 rfl hl (by decide) rfl (fun ls hl => ?_)
  refine lv_lload_n hx hb dJ13_bitCount_95d88_48 rfl (lv_at hl 0 rfl) ?_
  refine lv_lload_n hx hb dJ13_bitCount_95d88_49 rfl (lv_at hl 0 rfl) ?_
  refine lv_bipush (v := 32) hx hb dJ13_bitCount_95d88_50 (by decide) ?_
  refine lv_lushr (v := lush x5 32) hx hb dJ13_bitCount_95d88_52 rfl ?_
  refine lv_ladd hx hb dJ13_bitCount_95d88_53 ?_
  obtain ⟨x6, ex6, h⟩ := bnd_elim h
  refine nm_l ex6 ?_
  refine lv_lstore_n (lv' := [(0, .long x6)]) hx hb dJ13_bitCount_95d88_54 rfl hl (by decide) rfl (fun ls hl => ?_)
  refine lv_lload_n hx hb dJ13_bitCount_95d88_55 rfl (lv_at hl 0 rfl) ?_
  refine lv_l2i (v := x6.toInt32) hx hb dJ13_bitCount_95d88_56 rfl ?_
  refine lv_bipush (v := 127) hx hb dJ13_bitCount_95d88_57 (by decide) ?_
  refine lv_iand hx hb dJ13_bitCount_95d88_59 ?_
  cases h
  exact W.iret hx hb hr (fun t ht hW => ⟨_, rfl, rfl, ht⟩) (fun q hq => absurd hq List.not_mem_nil) dJ13_bitCount_95d88_60
