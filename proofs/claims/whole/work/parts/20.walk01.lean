set_option maxHeartbeats 4000000 in
set_option maxRecDepth 100000 in
theorem mX2_landOf (l : Launch) (dC : Nat → ClassId) (dI : Nat → Nat → Nat) (cI cJ : ClassId) (ad : Nat → Nat) (p1 : Int32) (p2 : Int32) (S : Nat → Nat → Int32) (L : Nat → Nat → Int64) {z : Int32} (h : sX2_landOf p1 p2 S L = some z) : Met l yX2_landOf wsX2_landOf ({ frames := 0, cells := 0, slots := 0, locals := 0 }) (va_Pc [.ref (ad 1), .int p1, .int p2] (QX dC dI cI cJ ad S L)) (vp_Si (fun r => r = z)) 0 0 (fun _ => False) := by
  refine Met.ofW (cc := cX2_landOf) (maxL := 3) (ret := (some .int)) (by decide) rfl ?_
  intro p e s m args below meth c s₁ B hml hv
  obtain ⟨rfl, hP, hK, hD⟩ := hv
  have hx := B.exec
  have hb := B.bytes
  have hr := B.returns
  have hts := atoms_spec (ws := wsX2_landOf) B.pre
  have hown : s.vm.findClass RX2 = some m.cls := findClass_of_methodNamed B.named
  have hlocks := B.notSynchronized
  have hl := lv_entry ([.ref (ad 1), .int p1, .int p2]) (n := 3) (Nat.le_of_ble_eq_true rfl)
  rw [lg_entry_eq]
  generalize (lg_sl ([.ref (ad 1), .int p1, .int p2]) ++ List.replicate (3 - (lg_sl ([.ref (ad 1), .int p1, .int p2])).length) Slot.unset).toArray = ls at hl ⊢
  have hl : lv_has ls 3 [(0, .ref (ad 1)), (1, .int p1), (2, .int p2)] := hl
  have hf18 := hts (.fieldLink RX2 18 "LawRings$Cases" "land" "[I") (by decide +kernel)
  have hiX2 : ∀ w ∈ u_ws RX2 TX2 6, w ∈ wsX2_landOf := by decide +kernel
  rw [sX2_landOf] at h
  refine lv_aload_n hx hb dX2_landOf_0 rfl (lv_at hl 0 rfl) ?_
  refine va_get (D := (dC, dI)) (ci := 2) (v := .ref (ad 15)) (C := RX2) (T := TX2) (N := 6) hx hb hts hiX2 hown hK hP 1 rfl rfl 4 (by decide) hf18 (fun _ h9 => h9) rfl dX2_landOf_1 ?_
  refine lv_iload_n hx hb dX2_landOf_4 rfl (lv_at hl 1 rfl) ?_
  refine lv_bipush (v := 6) hx hb dX2_landOf_5 (by decide) ?_
  refine lv_imul hx hb dX2_landOf_7 ?_
  refine lv_iload_n hx hb dX2_landOf_8 rfl (lv_at hl 2 rfl) ?_
  refine lv_iadd hx hb dX2_landOf_9 ?_
  obtain ⟨b1, h⟩ := ck_elim h
  refine va_iald hx hb hK hP 15 0 rfl rfl b1 dX2_landOf_10 ?_
  cases h
  exact W.iret hx hb hr (fun t ht hW => ⟨_, rfl, rfl, ht⟩) (fun q hq => absurd hq List.not_mem_nil) dX2_landOf_11
set_option maxHeartbeats 4000000 in
set_option maxRecDepth 100000 in
theorem mX10_which (l : Launch) (dC : Nat → ClassId) (dI : Nat → Nat → Nat) (cI cJ : ClassId) (ad : Nat → Nat) (p1 : Int32) (p2 : Int32) (S : Nat → Nat → Int32) (L : Nat → Nat → Int64) {z : Int32} (h : sX10_which p1 p2 S L = some z) : Met l yX10_which wsX10_which ({ frames := 2, cells := 0, slots := 0, locals := 42 }) (va_Pc [.ref (ad 0), .int p1, .int p2] (QX dC dI cI cJ ad S L)) (vp_Si (fun r => r = z)) 0 0 (fun _ => False) := by
  refine Met.ofW (cc := cX10_which) (maxL := 3) (ret := (some .int)) (by decide) rfl ?_
  intro p e s m args below meth c s₁ B hml hv
  obtain ⟨rfl, hP, hK, hD⟩ := hv
  have hx := B.exec
  have hb := B.bytes
  have hr := B.returns
  have hts := atoms_spec (ws := wsX10_which) B.pre
  have hown : s.vm.findClass RX10 = some m.cls := findClass_of_methodNamed B.named
  have hlocks := B.notSynchronized
  have hl := lv_entry ([.ref (ad 0), .int p1, .int p2]) (n := 3) (Nat.le_of_ble_eq_true rfl)
  rw [lg_entry_eq]
  generalize (lg_sl ([.ref (ad 0), .int p1, .int p2]) ++ List.replicate (3 - (lg_sl ([.ref (ad 0), .int p1, .int p2])).length) Slot.unset).toArray = ls at hl ⊢
  have hl : lv_has ls 3 [(0, .ref (ad 0)), (1, .int p1), (2, .int p2)] := hl
  have hf12 := hts (.fieldLink RX10 12 "LawRings" "cases" "LLawRings$Cases;") (by decide +kernel)
  have hiX10 : ∀ w ∈ u_ws RX10 TX10 11, w ∈ wsX10_which := by decide +kernel
  rw [sX10_which] at h
  refine lv_aload_n hx hb dX10_which_0 rfl (lv_at hl 0 rfl) ?_
  refine lv_iload_n hx hb dX10_which_1 rfl (lv_at hl 1 rfl) ?_
  obtain ⟨r2, k1, h⟩ := ob_elim h
  refine vp_callSi (W.runV (As := [.int p1]) (rest := []) ⟨hx, hb, hml, hown, hts⟩ (mX10_isCase l dC dI cI cJ ad p1 S L k1) (cwV 1 hts gX10_which_X10_isCase rfl rfl rfl (by decide +kernel) ⟨Nat.le_of_ble_eq_true rfl, Nat.le_of_ble_eq_true rfl⟩) ⟨QX_blind, va_recv hK hP (ci := 10) (q0 := 0) rfl rfl, fun U hU hW => ⟨rfl, QX_at hP hK hD hU hW⟩⟩ rfl rfl hl.1 rfl (lv_room (Nat.le_of_ble_eq_true rfl)) dX10_which_2 ⟨Nat.zero_le _, Nat.zero_le _⟩) (fun r9 er9 => ?_)
  replace er9 := er9.symm
  subst er9
  refine lv_if_eq (tgt := 15) hx hb dX10_which_5 (by decide) (fun c3 => ?_) (fun c3 => ?_)
  · replace h := it_t c3 h
    refine lv_bipush (v := (-10)) hx hb dX10_which_15 (by decide) ?_
    cases h
    exact W.iret hx hb hr (fun t ht hW => ⟨_, rfl, rfl, ht⟩) (fun q hq => absurd hq List.not_mem_nil) dX10_which_17
  · replace h := it_f c3 h
    refine lv_iload_n hx hb dX10_which_8 rfl (lv_at hl 2 rfl) ?_
    obtain ⟨r5, k4, h⟩ := ob_elim h
    refine vp_callSi (W.runS (As := [.int p2]) (rest := []) ⟨hx, hb, hml, hown, hts⟩ (mX10_isTie l p2 k4) (va_cwS 1 hts gX10_which_X10_isTie rfl rfl rfl (by decide +kernel) ⟨Nat.le_of_ble_eq_true rfl, Nat.le_of_ble_eq_true rfl⟩) ⟨fun _ _ _ _ q => q, fun U hU hW => ⟨rfl, trivial⟩⟩ rfl rfl hl.1 rfl (lv_room (Nat.le_of_ble_eq_true rfl)) dX10_which_9 ⟨Nat.zero_le _, Nat.zero_le _⟩) (fun r9 er9 => ?_)
    replace er9 := er9.symm
    subst er9
    refine lv_if_ne (tgt := 18) hx hb dX10_which_12 (by decide) (fun c6 => ?_) (fun c6 => ?_)
    · replace h := it_f c6 h
      refine lv_aload_n hx hb dX10_which_18 rfl (lv_at hl 0 rfl) ?_
      refine va_get (D := (dC, dI)) (ci := 10) (v := .ref (ad 1)) (C := RX10) (T := TX10) (N := 11) hx hb hts hiX10 hown hK hP 0 rfl rfl 0 (by decide) hf12 (fun _ h9 => h9) rfl dX10_which_19 ?_
      refine lv_iload_n hx hb dX10_which_22 rfl (lv_at hl 1 rfl) ?_
      refine lv_iload_n hx hb dX10_which_23 rfl (lv_at hl 2 rfl) ?_
      obtain ⟨r8, k7, h⟩ := ob_elim h
      refine vp_callSi (W.runV (As := [.int p1, .int p2]) (rest := []) ⟨hx, hb, hml, hown, hts⟩ (mX2_landOf l dC dI cI cJ ad p1 p2 S L k7) (cwV 2 hts gX10_which_X2_landOf rfl rfl rfl (by decide +kernel) ⟨Nat.le_of_ble_eq_true rfl, Nat.le_of_ble_eq_true rfl⟩) ⟨QX_blind, va_recv hK hP (ci := 2) (q0 := 1) rfl rfl, fun U hU hW => ⟨rfl, QX_at hP hK hD hU hW⟩⟩ rfl rfl hl.1 rfl (lv_room (Nat.le_of_ble_eq_true rfl)) dX10_which_24 ⟨Nat.zero_le _, Nat.zero_le _⟩) (fun r9 er9 => ?_)
      replace er9 := er9.symm
      subst er9
      cases h
      exact W.iret hx hb hr (fun t ht hW => ⟨_, rfl, rfl, ht⟩) (fun q hq => absurd hq List.not_mem_nil) dX10_which_27
    · replace h := it_t c6 h
      refine lv_bipush (v := (-10)) hx hb dX10_which_15 (by decide) ?_
      cases h
      exact W.iret hx hb hr (fun t ht hW => ⟨_, rfl, rfl, ht⟩) (fun q hq => absurd hq List.not_mem_nil) dX10_which_17
set_option maxHeartbeats 4000000 in
set_option maxRecDepth 100000 in
theorem mX11_looksAt (l : Launch) (dC : Nat → ClassId) (dI : Nat → Nat → Nat) (cI cZ : ClassId) (ad : Nat → Nat) (p1 : Int32) (S : Nat → Nat → Int32) (sz : Nat) {z : (Nat → Nat → Int32)} (h : sX11_looksAt p1 S = some z) : Met l yX11_looksAt wsX11_looksAt ({ frames := 0, cells := 0, slots := 0, locals := 0 }) (va_Pc [.ref (ad 0), .int p1] (QMs sz dC dI cI cZ ad S)) (va_Qv (fun (u : (Nat → Nat → Int32)) => u = z) (fun (u : (Nat → Nat → Int32)) t => va_P (dC, dI) vwCl (wM cI cZ ad u) t.heap) (AX 7 ad sz)) 0 0 (AX 7 ad sz) := by
  refine Met.ofW (cc := cX11_looksAt) (maxL := 6) (ret := none) (by decide) rfl ?_
  intro p e s m args below meth c s₁ B hml hv
  obtain ⟨rfl, hsz, hP, hK, hD0⟩ := hv
  have hx := B.exec
  have hb := B.bytes
  have hr := B.returns
  have hts := atoms_spec (ws := wsX11_looksAt) B.pre
  have hown : s.vm.findClass RX11 = some m.cls := findClass_of_methodNamed B.named
  have hlocks := B.notSynchronized
  subst hsz
  have hD := wM_DA hD0 s.heap.size
  have hS : va_S (AX 7 ad s.heap.size) s.heap s.heap [] := va_S.rf
  have hl := lv_entry ([.ref (ad 0), .int p1]) (n := 6) (Nat.le_of_ble_eq_true rfl)
  rw [lg_entry_eq]
  generalize (lg_sl ([.ref (ad 0), .int p1]) ++ List.replicate (6 - (lg_sl ([.ref (ad 0), .int p1])).length) Slot.unset).toArray = ls at hl ⊢
  have hl : lv_has ls 6 [(0, .ref (ad 0)), (1, .int p1)] := hl
  have hf7 := hts (.fieldLink RX11 7 "LawRingsModel" "st" "[I") (by decide +kernel)
  have hiX11 : ∀ w ∈ u_ws RX11 TX11 8, w ∈ wsX11_looksAt := by decide +kernel
  have hf48 := hts (.fieldLink RX11 48 "LawRingsModel" "day" "I") (by decide +kernel)
  have hf13 := hts (.fieldLink RX11 13 "LawRingsModel" "ties" "[I") (by decide +kernel)
  rw [sX11_looksAt] at h
  refine lv_aload_n hx hb dX11_looksAt_0 rfl (lv_at hl 0 rfl) ?_
  refine lv_aload_n hx hb dX11_looksAt_1 rfl (lv_at hl 0 rfl) ?_
  refine va_get (D := (dC, dI)) (ci := 11) (v := .ref (ad 1)) (C := RX11) (T := TX11) (N := 8) hx hb hts hiX11 hown hK hP 0 rfl rfl 0 (by decide) hf7 (fun _ h9 => h9) rfl dX11_looksAt_2 ?_
  refine lv_bipush (v := 10) hx hb dX11_looksAt_5 (by decide) ?_
  refine lv_iconst (v := 2) hx hb dX11_looksAt_7 (by decide) ?_
  refine lv_iload_n hx hb dX11_looksAt_8 rfl (lv_at hl 1 rfl) ?_
  refine lv_imul hx hb dX11_looksAt_9 ?_
  refine lv_iadd hx hb dX11_looksAt_10 ?_
  obtain ⟨b1, h⟩ := ck_elim h
  refine va_iald hx hb hK hP 1 0 rfl rfl b1 dX11_looksAt_11 ?_
  obtain ⟨S2, eS2, h⟩ := bnd_elim h
  refine va_put (D := (dC, dI)) (ci := 11) (v := .int (S 1 (10 + (2 * p1)).toNatClampNeg)) (ty := .int) (C := RX11) (T := TX11) (N := 8) hx hb hts hiX11 tyX11 tyX11_ok nmX11 hown hK hP hD hS 0 rfl rfl 2 (by decide) hf48 (fun _ h9 => h9) rfl (by decide +kernel) rfl rfl (Nat.le_of_ble_eq_true rfl) dX11_looksAt_12 (fun H locs hP9 _ hS => ?_)
  have hP := swM_0_2 hP9
  rw [← eS2] at hP
  have hD := wM_D hD S2
  refine lv_iconst (v := 0) hx hb dX11_looksAt_15 (by decide) ?_
  refine lv_istore_n (lv' := [(2, .int 0), (0, .ref (ad 0)), (1, .int p1)]) hx hb dX11_looksAt_16 rfl hl (by decide) rfl (fun ls hl => ?_)
  refine ww_w (fun WW17 hWW17 => ?_)
  have Lh17 : ∀ (n : Nat) (v3 : Int32) (S4 : (Nat → Nat → Int32)) (z : ((Nat → Nat → Int32))), lX11_looksAt_17 p1 n v3 S4 = some z → ∀ (H : Heap) (locs : List Loc), va_P (dC, dI) vwCl (wM cI cZ ad S4) H → va_S (AX 7 ad s.heap.size) s.heap H locs → ∀ ls : Array Slot, lv_has ls 6 [(0, .ref (ad 0)), (1, .int p1), (2, .int v3)] → (∀ (YS : (Nat → Nat → Int32)), z = YS → ∀ (H : Heap) (locs : List Loc), va_P (dC, dI) vwCl (wM cI cZ ad YS) H → va_S (AX 7 ad s.heap.size) s.heap H locs → ∀ ls : Array Slot, lv_has ls 6 [] → WW17 H locs 145 ls) → WW17 H locs 17 ls := by
    intro n
    induction n with
    | zero => intro v3 S4 z h H locs hP hS ls hl K0; rw [lX11_looksAt_17] at h; cases h
    | succ n ih =>
      intro v3 S4 z h H locs hP hS ls hl K0
      have hD := wM_D hD S4
      rw [lX11_looksAt_17] at h
      refine wi_w hWW17 ?_
      refine lv_iload_n hx hb dX11_looksAt_17 rfl (lv_at hl 2 rfl) ?_
      refine lv_bipush (v := 6) hx hb dX11_looksAt_18 (by decide) ?_
      refine lv_icmp_ge (tgt := 145) hx hb dX11_looksAt_20 (by decide) (fun c5 => ?_) (fun c5 => ?_)
      · replace h := it_t c5 h
        refine wu_w hWW17 ?_
        exact K0 S4 (Option.some.inj h).symm H locs hP hS ls (lv_sub hl [] rfl)
      · replace h := it_f c5 h
        refine lv_aload_n hx hb dX11_looksAt_23 rfl (lv_at hl 0 rfl) ?_
        refine va_get (D := (dC, dI)) (ci := 11) (v := .ref (ad 2)) (C := RX11) (T := TX11) (N := 8) hx hb hts hiX11 hown hK hP 0 rfl rfl 1 (by decide) hf13 (fun _ h9 => h9) rfl dX11_looksAt_24 ?_
        refine lv_iload_n hx hb dX11_looksAt_27 rfl (lv_at hl 2 rfl) ?_
        refine lv_iconst (v := (-1)) hx hb dX11_looksAt_28 (by decide) ?_
        obtain ⟨b6, h⟩ := ck_elim h
        obtain ⟨S7, eS7, h⟩ := bnd_elim h
        refine va_iast hx hb hK hP hD hS 2 0 rfl rfl b6 dX11_looksAt_29 (fun H locs hP9 _ hS => ?_)
        have hP := swM_2 hP9
        rw [← eS7] at hP
        have hD := wM_D hD S7
        refine lv_iconst (v := (-1)) hx hb dX11_looksAt_30 (by decide) ?_
        refine lv_istore_n (lv' := [(3, .int (-1)), (0, .ref (ad 0)), (1, .int p1), (2, .int v3)]) hx hb dX11_looksAt_31 rfl hl (by decide) rfl (fun ls hl => ?_)
        refine lv_iconst (v := 0) hx hb dX11_looksAt_32 (by decide) ?_
        refine lv_istore (lv' := [(4, .int 0), (3, .int (-1)), (0, .ref (ad 0)), (1, .int p1), (2, .int v3)]) hx hb dX11_looksAt_33 hl (by decide) rfl (fun ls hl => ?_)
        refine ww_w (fun WW35 hWW35 => ?_)
        have Lh35 : ∀ (n : Nat) (v8 : Int32) (v9 : Int32) (S10 : (Nat → Nat → Int32)) (z : ((Nat → Nat → Int32))), lX11_looksAt_35 p1 v3 n v8 v9 S10 = some z → ∀ (H : Heap) (locs : List Loc), va_P (dC, dI) vwCl (wM cI cZ ad S10) H → va_S (AX 7 ad s.heap.size) s.heap H locs → ∀ ls : Array Slot, lv_has ls 6 [(0, .ref (ad 0)), (1, .int p1), (2, .int v3), (3, .int v8), (4, .int v9)] → (∀ (YS : (Nat → Nat → Int32)), z = YS → ∀ (H : Heap) (locs : List Loc), va_P (dC, dI) vwCl (wM cI cZ ad YS) H → va_S (AX 7 ad s.heap.size) s.heap H locs → ∀ ls : Array Slot, lv_has ls 6 [(0, .ref (ad 0)), (1, .int p1), (2, .int v3)] → WW35 H locs 139 ls) → WW35 H locs 35 ls := by
          intro n
          induction n with
          | zero => intro v8 v9 S10 z h H locs hP hS ls hl K0; rw [lX11_looksAt_35] at h; cases h
          | succ n ih =>
            intro v8 v9 S10 z h H locs hP hS ls hl K0
            have hD := wM_D hD S10
            rw [lX11_looksAt_35] at h
            refine wi_w hWW35 ?_
            refine lv_iload hx hb dX11_looksAt_35 (lv_at hl 4 rfl) ?_
            refine lv_aload_n hx hb dX11_looksAt_37 rfl (lv_at hl 0 rfl) ?_
            refine va_get (D := (dC, dI)) (ci := 11) (v := .ref (ad 1)) (C := RX11) (T := TX11) (N := 8) hx hb hts hiX11 hown hK hP 0 rfl rfl 0 (by decide) hf7 (fun _ h9 => h9) rfl dX11_looksAt_38 ?_
            refine lv_iconst (v := 1) hx hb dX11_looksAt_41 (by decide) ?_
            obtain ⟨b11, h⟩ := ck_elim h
            refine va_iald hx hb hK hP 1 0 rfl rfl b11 dX11_looksAt_42 ?_
            refine lv_icmp_ge (tgt := 139) hx hb dX11_looksAt_43 (by decide) (fun c12 => ?_) (fun c12 => ?_)
            · replace h := it_t c12 h
              refine wu_w hWW35 ?_
              exact K0 S10 (Option.some.inj h).symm H locs hP hS ls (lv_sub hl [0, 1, 2] rfl)
            · replace h := it_f c12 h
              refine lv_bipush (v := 42) hx hb dX11_looksAt_46 (by decide) ?_
              refine lv_iconst (v := 4) hx hb dX11_looksAt_48 (by decide) ?_
              refine lv_iload hx hb dX11_looksAt_49 (lv_at hl 4 rfl) ?_
              refine lv_imul hx hb dX11_looksAt_51 ?_
              refine lv_iadd hx hb dX11_looksAt_52 ?_
              obtain ⟨x13, ex13, h⟩ := bnd_elim h
              refine nm_i ex13 ?_
              refine lv_istore (lv' := [(5, .int x13), (0, .ref (ad 0)), (1, .int p1), (2, .int v3), (3, .int v8), (4, .int v9)]) hx hb dX11_looksAt_53 hl (by decide) rfl (fun ls hl => ?_)
              refine lv_aload_n hx hb dX11_looksAt_55 rfl (lv_at hl 1 rfl) ?_
              refine va_get (D := (dC, dI)) (ci := 11) (v := .ref (ad 1)) (C := RX11) (T := TX11) (N := 8) hx hb hts hiX11 hown hK hP 0 rfl rfl 0 (by decide) hf7 (fun _ h9 => h9) rfl dX11_looksAt_56 ?_
              refine lv_iload hx hb dX11_looksAt_59 (lv_at hl 0 rfl) ?_
              obtain ⟨b14, h⟩ := ck_elim h
              refine va_iald hx hb hK hP 1 0 rfl rfl b14 dX11_looksAt_61 ?_
              refine lv_iload_n hx hb dX11_looksAt_62 rfl (lv_at hl 2 rfl) ?_
              refine lv_icmp_ne (tgt := 133) hx hb dX11_looksAt_63 (by decide) (fun c15 => ?_) (fun c15 => ?_)
              · replace h := it_f c15 h
                obtain ⟨x16, ex16, h⟩ := bnd_elim h
                refine lv_iinc (v := x16) (lv' := [(4, .int x16), (5, .int x13), (0, .ref (ad 0)), (1, .int p1), (2, .int v3), (3, .int v8)]) hx hb dX11_looksAt_133 hl (k := 5) rfl (by rw [ex16]; rfl) (by decide) rfl (fun ls hl => ?_)
                refine lv_goto (tgt := 35) hx hb dX11_looksAt_136 (by decide) ?_
                refine wu_w hWW35 ?_
                exact ih v8 x16 S10 z h H locs hP hS ls (lv_sub hl [2, 3, 4, 5, 0] rfl) K0
              · replace h := it_t c15 h
                refine lv_aload_n hx hb dX11_looksAt_66 rfl (lv_at hl 1 rfl) ?_
                refine va_get (D := (dC, dI)) (ci := 11) (v := .ref (ad 1)) (C := RX11) (T := TX11) (N := 8) hx hb hts hiX11 hown hK hP 0 rfl rfl 0 (by decide) hf7 (fun _ h9 => h9) rfl dX11_looksAt_67 ?_
                refine lv_iload hx hb dX11_looksAt_70 (lv_at hl 0 rfl) ?_
                refine lv_iconst (v := 1) hx hb dX11_looksAt_72 (by decide) ?_
                refine lv_iadd hx hb dX11_looksAt_73 ?_
                obtain ⟨b17, h⟩ := ck_elim h
                refine va_iald hx hb hK hP 1 0 rfl rfl b17 dX11_looksAt_74 ?_
                refine lv_iload_n hx hb dX11_looksAt_75 rfl (lv_at hl 3 rfl) ?_
                refine lv_icmp_ne (tgt := 133) hx hb dX11_looksAt_76 (by decide) (fun c18 => ?_) (fun c18 => ?_)
                · replace h := it_f c18 h
                  obtain ⟨x19, ex19, h⟩ := bnd_elim h
                  refine lv_iinc (v := x19) (lv' := [(4, .int x19), (5, .int x13), (0, .ref (ad 0)), (1, .int p1), (2, .int v3), (3, .int v8)]) hx hb dX11_looksAt_133 hl (k := 5) rfl (by rw [ex19]; rfl) (by decide) rfl (fun ls hl => ?_)
                  refine lv_goto (tgt := 35) hx hb dX11_looksAt_136 (by decide) ?_
                  refine wu_w hWW35 ?_
                  exact ih v8 x19 S10 z h H locs hP hS ls (lv_sub hl [2, 3, 4, 5, 0] rfl) K0
                · replace h := it_t c18 h
                  refine lv_aload_n hx hb dX11_looksAt_79 rfl (lv_at hl 1 rfl) ?_
                  refine va_get (D := (dC, dI)) (ci := 11) (v := .ref (ad 1)) (C := RX11) (T := TX11) (N := 8) hx hb hts hiX11 hown hK hP 0 rfl rfl 0 (by decide) hf7 (fun _ h9 => h9) rfl dX11_looksAt_80 ?_
                  refine lv_iload hx hb dX11_looksAt_83 (lv_at hl 0 rfl) ?_
                  refine lv_iconst (v := 3) hx hb dX11_looksAt_85 (by decide) ?_
                  refine lv_iadd hx hb dX11_looksAt_86 ?_
                  obtain ⟨b20, h⟩ := ck_elim h
                  refine va_iald hx hb hK hP 1 0 rfl rfl b20 dX11_looksAt_87 ?_
                  refine lv_aload_n hx hb dX11_looksAt_88 rfl (lv_at hl 1 rfl) ?_
                  refine va_get (D := (dC, dI)) (ci := 11) (v := .int (S10 0 2)) (C := RX11) (T := TX11) (N := 8) hx hb hts hiX11 hown hK hP 0 rfl rfl 2 (by decide) hf48 (fun _ h9 => h9) rfl dX11_looksAt_89 ?_
                  refine lv_icmp_gt (tgt := 133) hx hb dX11_looksAt_92 (by decide) (fun c21 => ?_) (fun c21 => ?_)
                  · replace h := it_t c21 h
                    obtain ⟨x22, ex22, h⟩ := bnd_elim h
                    refine lv_iinc (v := x22) (lv' := [(4, .int x22), (5, .int x13), (0, .ref (ad 0)), (1, .int p1), (2, .int v3), (3, .int v8)]) hx hb dX11_looksAt_133 hl (k := 5) rfl (by rw [ex22]; rfl) (by decide) rfl (fun ls hl => ?_)
                    refine lv_goto (tgt := 35) hx hb dX11_looksAt_136 (by decide) ?_
                    refine wu_w hWW35 ?_
                    exact ih v8 x22 S10 z h H locs hP hS ls (lv_sub hl [2, 3, 4, 5, 0] rfl) K0
                  · replace h := it_f c21 h
                    refine lv_aload_n hx hb dX11_looksAt_95 rfl (lv_at hl 1 rfl) ?_
                    refine va_get (D := (dC, dI)) (ci := 11) (v := .ref (ad 1)) (C := RX11) (T := TX11) (N := 8) hx hb hts hiX11 hown hK hP 0 rfl rfl 0 (by decide) hf7 (fun _ h9 => h9) rfl dX11_looksAt_96 ?_
                    refine lv_iload hx hb dX11_looksAt_99 (lv_at hl 0 rfl) ?_
                    refine lv_iconst (v := 3) hx hb dX11_looksAt_101 (by decide) ?_
                    refine lv_iadd hx hb dX11_looksAt_102 ?_
                    obtain ⟨b23, h⟩ := ck_elim h
                    refine va_iald hx hb hK hP 1 0 rfl rfl b23 dX11_looksAt_103 ?_
                    refine lv_iload_n hx hb dX11_looksAt_104 rfl (lv_at hl 4 rfl) ?_
                    refine lv_icmp_lt (tgt := 133) hx hb dX11_looksAt_105 (by decide) (fun c24 => ?_) (fun c24 => ?_)
                    · replace h := it_t c24 h
                      obtain ⟨x25, ex25, h⟩ := bnd_elim h
                      refine lv_iinc (v := x25) (lv' := [(4, .int x25), (5, .int x13), (0, .ref (ad 0)), (1, .int p1), (2, .int v3), (3, .int v8)]) hx hb dX11_looksAt_133 hl (k := 5) rfl (by rw [ex25]; rfl) (by decide) rfl (fun ls hl => ?_)
                      refine lv_goto (tgt := 35) hx hb dX11_looksAt_136 (by decide) ?_
                      refine wu_w hWW35 ?_
                      exact ih v8 x25 S10 z h H locs hP hS ls (lv_sub hl [2, 3, 4, 5, 0] rfl) K0
                    · replace h := it_f c24 h
                      refine lv_aload_n hx hb dX11_looksAt_108 rfl (lv_at hl 1 rfl) ?_
                      refine va_get (D := (dC, dI)) (ci := 11) (v := .ref (ad 2)) (C := RX11) (T := TX11) (N := 8) hx hb hts hiX11 hown hK hP 0 rfl rfl 1 (by decide) hf13 (fun _ h9 => h9) rfl dX11_looksAt_109 ?_
                      refine lv_iload_n hx hb dX11_looksAt_112 rfl (lv_at hl 3 rfl) ?_
                      refine lv_aload_n hx hb dX11_looksAt_113 rfl (lv_at hl 1 rfl) ?_
                      refine va_get (D := (dC, dI)) (ci := 11) (v := .ref (ad 1)) (C := RX11) (T := TX11) (N := 8) hx hb hts hiX11 hown hK hP 0 rfl rfl 0 (by decide) hf7 (fun _ h9 => h9) rfl dX11_looksAt_114 ?_
                      refine lv_iload hx hb dX11_looksAt_117 (lv_at hl 0 rfl) ?_
                      refine lv_iconst (v := 2) hx hb dX11_looksAt_119 (by decide) ?_
                      refine lv_iadd hx hb dX11_looksAt_120 ?_
                      obtain ⟨b26, h⟩ := ck_elim h
                      refine va_iald hx hb hK hP 1 0 rfl rfl b26 dX11_looksAt_121 ?_
                      obtain ⟨b27, h⟩ := ck_elim h
                      obtain ⟨S28, eS28, h⟩ := bnd_elim h
                      refine va_iast hx hb hK hP hD hS 2 0 rfl rfl b27 dX11_looksAt_122 (fun H locs hP9 _ hS => ?_)
                      have hP := swM_2 hP9
                      rw [← eS28] at hP
                      have hD := wM_D hD S28
                      refine lv_aload_n hx hb dX11_looksAt_123 rfl (lv_at hl 1 rfl) ?_
                      refine va_get (D := (dC, dI)) (ci := 11) (v := .ref (ad 1)) (C := RX11) (T := TX11) (N := 8) hx hb hts hiX11 hown hK hP 0 rfl rfl 0 (by decide) hf7 (fun _ h9 => h9) rfl dX11_looksAt_124 ?_
                      refine lv_iload hx hb dX11_looksAt_127 (lv_at hl 0 rfl) ?_
                      refine lv_iconst (v := 3) hx hb dX11_looksAt_129 (by decide) ?_
                      refine lv_iadd hx hb dX11_looksAt_130 ?_
                      obtain ⟨b29, h⟩ := ck_elim h
                      refine va_iald hx hb hK hP 1 0 rfl rfl b29 dX11_looksAt_131 ?_
                      obtain ⟨x30, ex30, h⟩ := bnd_elim h
                      refine nm_i ex30 ?_
                      refine lv_istore_n (lv' := [(3, .int x30), (5, .int x13), (0, .ref (ad 0)), (1, .int p1), (2, .int v3), (4, .int v9)]) hx hb dX11_looksAt_132 rfl hl (by decide) rfl (fun ls hl => ?_)
                      obtain ⟨x31, ex31, h⟩ := bnd_elim h
                      refine lv_iinc (v := x31) (lv' := [(4, .int x31), (3, .int x30), (5, .int x13), (0, .ref (ad 0)), (1, .int p1), (2, .int v3)]) hx hb dX11_looksAt_133 hl (k := 5) rfl (by rw [ex31]; rfl) (by decide) rfl (fun ls hl => ?_)
                      refine lv_goto (tgt := 35) hx hb dX11_looksAt_136 (by decide) ?_
                      refine wu_w hWW35 ?_
                      exact ih x30 x31 S28 z h H locs hP hS ls (lv_sub hl [3, 4, 5, 1, 0] rfl) K0
        obtain ⟨S33, k32, h⟩ := ob_elim h
        refine wu_w hWW35 ?_
        refine Lh35 FU (-1) 0 S7 _ k32 H locs hP hS ls (lv_sub hl [2, 3, 4, 1, 0] rfl) ?_
        intro y0 hy H locs hP hS ls hl
        cases hy
        have hD := wM_D hD S33
        refine wi_w hWW35 ?_
        obtain ⟨x34, ex34, h⟩ := bnd_elim h
        refine lv_iinc (v := x34) (lv' := [(2, .int x34), (0, .ref (ad 0)), (1, .int p1)]) hx hb dX11_looksAt_139 hl (k := 2) rfl (by rw [ex34]; rfl) (by decide) rfl (fun ls hl => ?_)
        refine lv_goto (tgt := 17) hx hb dX11_looksAt_142 (by decide) ?_
        refine wu_w hWW17 ?_
        exact ih x34 S33 z h H locs hP hS ls (lv_sub hl [1, 2, 0] rfl) K0
  obtain ⟨S36, k35, h⟩ := ob_elim h
  refine wu_w hWW17 ?_
  refine Lh17 FU 0 S2 _ k35 H locs hP hS ls (lv_sub hl [1, 2, 0] rfl) ?_
  intro y0 hy H locs hP hS ls hl
  cases hy
  have hD := wM_D hD S36
  refine wi_w hWW17 ?_
  cases h
  exact W.vret hx hb hr (fun t ht hW => ⟨⟨_, rfl, rfl, by show va_P _ _ _ t.heap; rw [ht]; exact hP⟩, hS.F ht⟩) hS.2.2 dX11_looksAt_145
set_option maxHeartbeats 4000000 in
set_option maxRecDepth 100000 in
theorem mX11_which (l : Launch) (dC : Nat → ClassId) (dI : Nat → Nat → Nat) (cI cZ : ClassId) (ad : Nat → Nat) (p1 : Int32) (p2 : Int32) (S : Nat → Nat → Int32) (sz : Nat) {z : Int32 × (Nat → Nat → Int32)} (h : sX11_which p1 p2 S = some z) : Met l yX11_which wsX11_which ({ frames := 2, cells := 0, slots := 0, locals := 44 }) (va_Pc [.ref (ad 0), .int p1, .int p2] (QMs sz dC dI cI cZ ad S)) (va_Qi (fun (r : Int32) (u : (Nat → Nat → Int32)) => (r, u) = z) (fun (u : (Nat → Nat → Int32)) t => va_P (dC, dI) vwCl (wM cI cZ ad u) t.heap) (AX 7 ad sz)) 0 0 (AX 7 ad sz) := by
  refine Met.ofW (cc := cX11_which) (maxL := 3) (ret := (some .int)) (by decide) rfl ?_
  intro p e s m args below meth c s₁ B hml hv
  obtain ⟨rfl, hsz, hP, hK, hD0⟩ := hv
  have hx := B.exec
  have hb := B.bytes
  have hr := B.returns
  have hts := atoms_spec (ws := wsX11_which) B.pre
  have hown : s.vm.findClass RX11 = some m.cls := findClass_of_methodNamed B.named
  have hlocks := B.notSynchronized
  subst hsz
  have hD := wM_DA hD0 s.heap.size
  have hS : va_S (AX 7 ad s.heap.size) s.heap s.heap [] := va_S.rf
  have hl := lv_entry ([.ref (ad 0), .int p1, .int p2]) (n := 3) (Nat.le_of_ble_eq_true rfl)
  rw [lg_entry_eq]
  generalize (lg_sl ([.ref (ad 0), .int p1, .int p2]) ++ List.replicate (3 - (lg_sl ([.ref (ad 0), .int p1, .int p2])).length) Slot.unset).toArray = ls at hl ⊢
  have hl : lv_has ls 3 [(0, .ref (ad 0)), (1, .int p1), (2, .int p2)] := hl
  have hf13 := hts (.fieldLink RX11 13 "LawRingsModel" "ties" "[I") (by decide +kernel)
  have hiX11 : ∀ w ∈ u_ws RX11 TX11 8, w ∈ wsX11_which := by decide +kernel
  rw [sX11_which] at h
  refine lv_aload_n hx hb dX11_which_0 rfl (lv_at hl 0 rfl) ?_
  refine lv_iconst (v := 0) hx hb dX11_which_1 (by decide) ?_
  refine lv_iload_n hx hb dX11_which_2 rfl (lv_at hl 1 rfl) ?_
  obtain ⟨r2, k1, h⟩ := ob_elim h
  refine vp_callSi (W.runV (As := [.int 0, .int p1]) (rest := []) ⟨hx, hb, hml, hown, hts⟩ (mX11_is l dC dI cI cZ ad 0 p1 S k1) (cwV 2 hts gX11_which_X11_is rfl rfl rfl (by decide +kernel) ⟨Nat.le_of_ble_eq_true rfl, Nat.le_of_ble_eq_true rfl⟩) ⟨QM_blind, va_recv hK hP (ci := 11) (q0 := 0) rfl rfl, fun U hU hW => ⟨rfl, QM_at hP hK hD hU hW⟩⟩ rfl rfl hl.1 rfl (lv_room (Nat.le_of_ble_eq_true rfl)) dX11_which_3 ⟨Nat.zero_le _, Nat.zero_le _⟩) (fun r9 er9 => ?_)
  replace er9 := er9.symm
  subst er9
  refine lv_if_eq (tgt := 16) hx hb dX11_which_6 (by decide) (fun c3 => ?_) (fun c3 => ?_)
  · replace h := it_t c3 h
    refine lv_bipush (v := (-10)) hx hb dX11_which_16 (by decide) ?_
    cases h
    exact W.iret hx hb hr (fun t ht hW => ⟨⟨_, _, rfl, rfl, by show va_P _ _ _ t.heap; rw [ht]; exact hP⟩, hS.F ht⟩) hS.2.2 dX11_which_18
  · replace h := it_f c3 h
    refine lv_iload_n hx hb dX11_which_9 rfl (lv_at hl 2 rfl) ?_
    obtain ⟨r5, k4, h⟩ := ob_elim h
    refine vp_callSi (W.runS (As := [.int p2]) (rest := []) ⟨hx, hb, hml, hown, hts⟩ (mX11_isTie l p2 k4) (va_cwS 1 hts gX11_which_X11_isTie rfl rfl rfl (by decide +kernel) ⟨Nat.le_of_ble_eq_true rfl, Nat.le_of_ble_eq_true rfl⟩) ⟨fun _ _ _ _ q => q, fun U hU hW => ⟨rfl, trivial⟩⟩ rfl rfl hl.1 rfl (lv_room (Nat.le_of_ble_eq_true rfl)) dX11_which_10 ⟨Nat.zero_le _, Nat.zero_le _⟩) (fun r9 er9 => ?_)
    replace er9 := er9.symm
    subst er9
    refine lv_if_ne (tgt := 19) hx hb dX11_which_13 (by decide) (fun c6 => ?_) (fun c6 => ?_)
    · replace h := it_f c6 h
      refine lv_aload_n hx hb dX11_which_19 rfl (lv_at hl 0 rfl) ?_
      refine lv_iload_n hx hb dX11_which_20 rfl (lv_at hl 1 rfl) ?_
      obtain ⟨S8, k7, h⟩ := ob_elim h
      refine va_callv (va_runV (As := [.int p1]) (rest := []) ⟨hx, hb, hml, hown, hts⟩ (mX11_looksAt l dC dI cI cZ ad p1 S s.heap.size k7) (cwV 1 hts gX11_which_X11_looksAt rfl rfl rfl (by decide +kernel) ⟨Nat.le_of_ble_eq_true rfl, Nat.le_of_ble_eq_true rfl⟩) ⟨QMs_blind, va_recv hK hP (ci := 11) (q0 := 0) rfl rfl, fun U hU hW => ⟨rfl, congrArg Array.size hU, QM_at hP hK hD hU hW⟩⟩ rfl rfl hl.1 rfl (lv_room (Nat.le_of_ble_eq_true rfl)) dX11_which_21 ⟨Nat.zero_le _, Nat.zero_le _⟩) hS (fun q _ hq => AX_mono hS.1 hq) (fun q hq => AX_mono hS.1 hq) (fun u t H1 locs ht hvm hw hB hz1 hk1 hS => ?_)
      cases hw
      rw [ht] at hB
      have hP := hB
      clear hB hk1 hz1
      generalize H1 = H at hP hS ⊢
      have hD := wM_D hD S8
      refine lv_aload_n hx hb dX11_which_24 rfl (lv_at hl 0 rfl) ?_
      refine va_get (D := (dC, dI)) (ci := 11) (v := .ref (ad 2)) (C := RX11) (T := TX11) (N := 8) hx hb hts hiX11 hown hK hP 0 rfl rfl 1 (by decide) hf13 (fun _ h9 => h9) rfl dX11_which_25 ?_
      refine lv_iload_n hx hb dX11_which_28 rfl (lv_at hl 2 rfl) ?_
      obtain ⟨b9, h⟩ := ck_elim h
      refine va_iald hx hb hK hP 2 0 rfl rfl b9 dX11_which_29 ?_
      cases h
      exact W.iret hx hb hr (fun t ht hW => ⟨⟨_, _, rfl, rfl, by show va_P _ _ _ t.heap; rw [ht]; exact hP⟩, hS.F ht⟩) hS.2.2 dX11_which_30
    · replace h := it_t c6 h
      refine lv_bipush (v := (-10)) hx hb dX11_which_16 (by decide) ?_
      cases h
      exact W.iret hx hb hr (fun t ht hW => ⟨⟨_, _, rfl, rfl, by show va_P _ _ _ t.heap; rw [ht]; exact hP⟩, hS.F ht⟩) hS.2.2 dX11_which_18
set_option maxHeartbeats 4000000 in
set_option maxRecDepth 100000 in
theorem mX10_isKind (l : Launch) (p0 : Int32) {z : Int32} (h : sX10_isKind p0 = some z) : Met l yX10_isKind wsX10_isKind ({ frames := 1, cells := 0, slots := 0, locals := 21 }) (va_Pc [.int p0] (fun _ => True)) (vp_Si (fun r => r = z)) 0 0 (fun _ => False) := by
  refine Met.ofW (cc := cX10_isKind) (maxL := 1) (ret := (some .boolean)) (by decide) rfl ?_
  intro p e s m args below meth c s₁ B hml hv
  obtain ⟨rfl, -⟩ := hv
  have hx := B.exec
  have hb := B.bytes
  have hr := B.returns
  have hts := atoms_spec (ws := wsX10_isKind) B.pre
  have hown : s.vm.findClass RX10 = some m.cls := findClass_of_methodNamed B.named
  have hlocks := B.notSynchronized
  have hl := lv_entry ([.int p0]) (n := 1) (Nat.le_of_ble_eq_true rfl)
  rw [lg_entry_eq]
  generalize (lg_sl ([.int p0]) ++ List.replicate (1 - (lg_sl ([.int p0])).length) Slot.unset).toArray = ls at hl ⊢
  have hl : lv_has ls 1 [(0, .int p0)] := hl
  rw [sX10_isKind] at h
  refine lv_iload_n hx hb dX10_isKind_0 rfl (lv_at hl 0 rfl) ?_
  refine lv_iconst (v := 3) hx hb dX10_isKind_1 (by decide) ?_
  obtain ⟨r2, k1, h⟩ := ob_elim h
  refine vp_callSi (W.runS (As := [.int p0, .int 3]) (rest := []) ⟨hx, hb, hml, hown, hts⟩ (mX10_isBelow l p0 3 k1) (va_cwS 2 hts gX10_isKind_X10_isBelow rfl rfl rfl (by decide +kernel) ⟨Nat.le_of_ble_eq_true rfl, Nat.le_of_ble_eq_true rfl⟩) ⟨fun _ _ _ _ q => q, fun U hU hW => ⟨rfl, trivial⟩⟩ rfl rfl hl.1 rfl (lv_room (Nat.le_of_ble_eq_true rfl)) dX10_isKind_2 ⟨Nat.zero_le _, Nat.zero_le _⟩) (fun r9 er9 => ?_)
  replace er9 := er9.symm
  subst er9
  obtain ⟨b3, h⟩ := zk_elim h
  cases h
  exact W.zret hx hb hr b3 (fun t ht hW => ⟨_, rfl, rfl, ht⟩) (fun q hq => absurd hq List.not_mem_nil) dX10_isKind_5
set_option maxHeartbeats 4000000 in
set_option maxRecDepth 100000 in
theorem mX6_add (l : Launch) (dC : Nat → ClassId) (dI : Nat → Nat → Nat) (cI cJ : ClassId) (ad : Nat → Nat) (p1 : Int32) (p2 : Int32) (p3 : Int32) (p4 : Int32) (p5 : Int32) (S : Nat → Nat → Int32) (L : Nat → Nat → Int64) (sz : Nat) {z : Int32 × (Nat → Nat → Int32) × (Nat → Nat → Int64)} (h : sX6_add p1 p2 p3 p4 p5 S L = some z) : Met l yX6_add wsX6_add ({ frames := 0, cells := 0, slots := 0, locals := 0 }) (va_Pc [.ref (ad 2), .int p1, .int p2, .int p3, .int p4, .int p5] (QXs sz dC dI cI cJ ad S L)) (va_Qi (fun (r : Int32) (u : (Nat → Nat → Int32) × (Nat → Nat → Int64)) => (r, u) = z) (fun (u : (Nat → Nat → Int32) × (Nat → Nat → Int64)) t => va_P (dC, dI) vwCl (wX cI cJ ad u.1 u.2) t.heap) (AX 43 ad sz)) 0 0 (AX 43 ad sz) := by
  refine Met.ofW (cc := cX6_add) (maxL := 7) (ret := (some .int)) (by decide) rfl ?_
  intro p e s m args below meth c s₁ B hml hv
  obtain ⟨rfl, hsz, hP, hK, hD0⟩ := hv
  have hx := B.exec
  have hb := B.bytes
  have hr := B.returns
  have hts := atoms_spec (ws := wsX6_add) B.pre
  have hown : s.vm.findClass RX6 = some m.cls := findClass_of_methodNamed B.named
  have hlocks := B.notSynchronized
  subst hsz
  have hD := wX_DA hD0 s.heap.size
  have hS : va_S (AX 43 ad s.heap.size) s.heap s.heap [] := va_S.rf
  have hl := lv_entry ([.ref (ad 2), .int p1, .int p2, .int p3, .int p4, .int p5]) (n := 7) (Nat.le_of_ble_eq_true rfl)
  rw [lg_entry_eq]
  generalize (lg_sl ([.ref (ad 2), .int p1, .int p2, .int p3, .int p4, .int p5]) ++ List.replicate (7 - (lg_sl ([.ref (ad 2), .int p1, .int p2, .int p3, .int p4, .int p5])).length) Slot.unset).toArray = ls at hl ⊢
  have hl : lv_has ls 7 [(0, .ref (ad 2)), (1, .int p1), (2, .int p2), (3, .int p3), (4, .int p4), (5, .int p5)] := hl
  have hf49 := hts (.fieldLink RX6 49 "LawRings$Rules" "size" "I") (by decide +kernel)
  have hiX6 : ∀ w ∈ u_ws RX6 TX6 13, w ∈ wsX6_add := by decide +kernel
  have hf9 := hts (.fieldLink RX6 9 "LawRings$Rules" "land" "[I") (by decide +kernel)
  have hf15 := hts (.fieldLink RX6 15 "LawRings$Rules" "kind" "[I") (by decide +kernel)
  have hf18 := hts (.fieldLink RX6 18 "LawRings$Rules" "end" "[I") (by decide +kernel)
  have hf21 := hts (.fieldLink RX6 21 "LawRings$Rules" "whom" "[I") (by decide +kernel)
  have hf24 := hts (.fieldLink RX6 24 "LawRings$Rules" "from" "[I") (by decide +kernel)
  have hf27 := hts (.fieldLink RX6 27 "LawRings$Rules" "struck" "[I") (by decide +kernel)
  have hf39 := hts (.fieldLink RX6 39 "LawRings$Rules" "book" "[J") (by decide +kernel)
  have hf43 := hts (.fieldLink RX6 43 "LawRings$Rules" "broken" "[J") (by decide +kernel)
  rw [sX6_add] at h
  refine lv_aload_n hx hb dX6_add_0 rfl (lv_at hl 0 rfl) ?_
  refine va_get (D := (dC, dI)) (ci := 6) (v := .int (S 2 0)) (C := RX6) (T := TX6) (N := 13) hx hb hts hiX6 hown hK hP 2 rfl rfl 0 (by decide) hf49 (fun _ h9 => h9) rfl dX6_add_1 ?_
  obtain ⟨x1, ex1, h⟩ := bnd_elim h
  refine nm_i ex1 ?_
  refine lv_istore (lv' := [(6, .int x1), (0, .ref (ad 2)), (1, .int p1), (2, .int p2), (3, .int p3), (4, .int p4), (5, .int p5)]) hx hb dX6_add_4 hl (by decide) rfl (fun ls hl => ?_)
  refine lv_aload_n hx hb dX6_add_6 rfl (lv_at hl 1 rfl) ?_
  refine va_get (D := (dC, dI)) (ci := 6) (v := .ref (ad 17)) (C := RX6) (T := TX6) (N := 13) hx hb hts hiX6 hown hK hP 2 rfl rfl 1 (by decide) hf9 (fun _ h9 => h9) rfl dX6_add_7 ?_
  refine lv_iload hx hb dX6_add_10 (lv_at hl 0 rfl) ?_
  refine lv_iload_n hx hb dX6_add_12 rfl (lv_at hl 2 rfl) ?_
  obtain ⟨b2, h⟩ := ck_elim h
  obtain ⟨S3, eS3, h⟩ := bnd_elim h
  refine va_iast hx hb hK hP hD hS 17 0 rfl rfl b2 dX6_add_13 (fun H locs hP9 _ hS => ?_)
  have hP := swX_17 hP9
  rw [← eS3] at hP
  have hD := wX_D hD S3 L
  refine lv_aload_n hx hb dX6_add_14 rfl (lv_at hl 1 rfl) ?_
  refine va_get (D := (dC, dI)) (ci := 6) (v := .ref (ad 18)) (C := RX6) (T := TX6) (N := 13) hx hb hts hiX6 hown hK hP 2 rfl rfl 2 (by decide) hf15 (fun _ h9 => h9) rfl dX6_add_15 ?_
  refine lv_iload hx hb dX6_add_18 (lv_at hl 0 rfl) ?_
  refine lv_iload_n hx hb dX6_add_20 rfl (lv_at hl 3 rfl) ?_
  obtain ⟨b4, h⟩ := ck_elim h
  obtain ⟨S5, eS5, h⟩ := bnd_elim h
  refine va_iast hx hb hK hP hD hS 18 0 rfl rfl b4 dX6_add_21 (fun H locs hP9 _ hS => ?_)
  have hP := swX_18 hP9
  rw [← eS5] at hP
  have hD := wX_D hD S5 L
  refine lv_aload_n hx hb dX6_add_22 rfl (lv_at hl 1 rfl) ?_
  refine va_get (D := (dC, dI)) (ci := 6) (v := .ref (ad 19)) (C := RX6) (T := TX6) (N := 13) hx hb hts hiX6 hown hK hP 2 rfl rfl 3 (by decide) hf18 (fun _ h9 => h9) rfl dX6_add_23 ?_
  refine lv_iload hx hb dX6_add_26 (lv_at hl 0 rfl) ?_
  refine lv_iload_n hx hb dX6_add_28 rfl (lv_at hl 4 rfl) ?_
  obtain ⟨b6, h⟩ := ck_elim h
  obtain ⟨S7, eS7, h⟩ := bnd_elim h
  refine va_iast hx hb hK hP hD hS 19 0 rfl rfl b6 dX6_add_29 (fun H locs hP9 _ hS => ?_)
  have hP := swX_19 hP9
  rw [← eS7] at hP
  have hD := wX_D hD S7 L
  refine lv_aload_n hx hb dX6_add_30 rfl (lv_at hl 1 rfl) ?_
  refine va_get (D := (dC, dI)) (ci := 6) (v := .ref (ad 20)) (C := RX6) (T := TX6) (N := 13) hx hb hts hiX6 hown hK hP 2 rfl rfl 4 (by decide) hf21 (fun _ h9 => h9) rfl dX6_add_31 ?_
  refine lv_iload hx hb dX6_add_34 (lv_at hl 0 rfl) ?_
  refine lv_iload hx hb dX6_add_36 (lv_at hl 5 rfl) ?_
  obtain ⟨b8, h⟩ := ck_elim h
  obtain ⟨S9, eS9, h⟩ := bnd_elim h
  refine va_iast hx hb hK hP hD hS 20 0 rfl rfl b8 dX6_add_38 (fun H locs hP9 _ hS => ?_)
  have hP := swX_20 hP9
  rw [← eS9] at hP
  have hD := wX_D hD S9 L
  refine lv_aload_n hx hb dX6_add_39 rfl (lv_at hl 1 rfl) ?_
  refine va_get (D := (dC, dI)) (ci := 6) (v := .ref (ad 21)) (C := RX6) (T := TX6) (N := 13) hx hb hts hiX6 hown hK hP 2 rfl rfl 5 (by decide) hf24 (fun _ h9 => h9) rfl dX6_add_40 ?_
  refine lv_iload hx hb dX6_add_43 (lv_at hl 0 rfl) ?_
  refine lv_iload hx hb dX6_add_45 (lv_at hl 6 rfl) ?_
  obtain ⟨b10, h⟩ := ck_elim h
  obtain ⟨S11, eS11, h⟩ := bnd_elim h
  refine va_iast hx hb hK hP hD hS 21 0 rfl rfl b10 dX6_add_47 (fun H locs hP9 _ hS => ?_)
  have hP := swX_21 hP9
  rw [← eS11] at hP
  have hD := wX_D hD S11 L
  refine lv_aload_n hx hb dX6_add_48 rfl (lv_at hl 1 rfl) ?_
  refine va_get (D := (dC, dI)) (ci := 6) (v := .ref (ad 22)) (C := RX6) (T := TX6) (N := 13) hx hb hts hiX6 hown hK hP 2 rfl rfl 6 (by decide) hf27 (fun _ h9 => h9) rfl dX6_add_49 ?_
  refine lv_iload hx hb dX6_add_52 (lv_at hl 0 rfl) ?_
  refine lv_iconst (v := (-1)) hx hb dX6_add_54 (by decide) ?_
  obtain ⟨b12, h⟩ := ck_elim h
  obtain ⟨S13, eS13, h⟩ := bnd_elim h
  refine va_iast hx hb hK hP hD hS 22 0 rfl rfl b12 dX6_add_55 (fun H locs hP9 _ hS => ?_)
  have hP := swX_22 hP9
  rw [← eS13] at hP
  have hD := wX_D hD S13 L
  refine lv_aload_n hx hb dX6_add_56 rfl (lv_at hl 1 rfl) ?_
  refine va_get (D := (dC, dI)) (ci := 6) (v := .ref (ad 26)) (C := RX6) (T := TX6) (N := 13) hx hb hts hiX6 hown hK hP 2 rfl rfl 10 (by decide) hf39 (fun _ h9 => h9) rfl dX6_add_57 ?_
  refine lv_iload_n hx hb dX6_add_60 rfl (lv_at hl 2 rfl) ?_
  refine lv_iconst (v := 3) hx hb dX6_add_61 (by decide) ?_
  refine lv_imul hx hb dX6_add_62 ?_
  refine lv_iload_n hx hb dX6_add_63 rfl (lv_at hl 3 rfl) ?_
  refine lv_iadd hx hb dX6_add_64 ?_
  obtain ⟨x14, ex14, h⟩ := bnd_elim h
  refine nm_i ex14 ?_
  refine lv_dup2_11 hx hb dX6_add_65 rfl rfl ?_
  obtain ⟨b15, h⟩ := ck_elim h
  refine va_lald hx hb hK hP 26 1 rfl rfl b15 dX6_add_66 ?_
  refine lv_lconst (v := 1) hx hb dX6_add_67 (by decide) ?_
  refine lv_iload hx hb dX6_add_68 (lv_at hl 0 rfl) ?_
  refine lv_lshl (v := lsh 1 x1) hx hb dX6_add_70 rfl ?_
  refine lv_lor hx hb dX6_add_71 ?_
  obtain ⟨b16, h⟩ := ck_elim h
  obtain ⟨L17, eL17, h⟩ := bnd_elim h
  refine va_last hx hb hK hP hD hS 26 1 rfl rfl b16 dX6_add_72 (fun H locs hP9 _ hS => ?_)
  have hP := swX_26 hP9
  rw [← eL17] at hP
  have hD := wX_D hD S13 L17
  refine lv_iload hx hb dX6_add_73 (lv_at hl 5 rfl) ?_
  refine lv_iconst (v := 5) hx hb dX6_add_75 (by decide) ?_
  refine lv_icmp_lt (tgt := 97) hx hb dX6_add_76 (by decide) (fun c18 => ?_) (fun c18 => ?_)
  · replace h := it_t c18 h
    refine lv_aload_n hx hb dX6_add_97 rfl (lv_at hl 1 rfl) ?_
    refine lv_dup hx hb dX6_add_98 rfl ?_
    refine va_get (D := (dC, dI)) (ci := 6) (v := .int (S13 2 0)) (C := RX6) (T := TX6) (N := 13) hx hb hts hiX6 hown hK hP 2 rfl rfl 0 (by decide) hf49 (fun _ h9 => h9) rfl dX6_add_99 ?_
    refine lv_iconst (v := 1) hx hb dX6_add_102 (by decide) ?_
    refine lv_iadd hx hb dX6_add_103 ?_
    obtain ⟨S19, eS19, h⟩ := bnd_elim h
    refine va_put (D := (dC, dI)) (ci := 6) (v := .int ((S13 2 0) + 1)) (ty := .int) (C := RX6) (T := TX6) (N := 13) hx hb hts hiX6 tyX6 tyX6_ok nmX6 hown hK hP hD hS 2 rfl rfl 0 (by decide) hf49 (fun _ h9 => h9) rfl (by decide +kernel) rfl rfl (Nat.le_of_ble_eq_true rfl) dX6_add_104 (fun H locs hP9 _ hS => ?_)
    have hP := swX_2_0 hP9
    rw [← eS19] at hP
    have hD := wX_D hD S19 L17
    refine lv_iload hx hb dX6_add_107 (lv_at hl 0 rfl) ?_
    cases h
    exact W.iret hx hb hr (fun t ht hW => ⟨⟨_, _, rfl, rfl, by show va_P _ _ _ t.heap; rw [ht]; exact hP⟩, hS.F ht⟩) hS.2.2 dX6_add_109
  · replace h := it_f c18 h
    refine lv_aload_n hx hb dX6_add_79 rfl (lv_at hl 1 rfl) ?_
    refine va_get (D := (dC, dI)) (ci := 6) (v := .ref (ad 27)) (C := RX6) (T := TX6) (N := 13) hx hb hts hiX6 hown hK hP 2 rfl rfl 11 (by decide) hf43 (fun _ h9 => h9) rfl dX6_add_80 ?_
    refine lv_iload hx hb dX6_add_83 (lv_at hl 5 rfl) ?_
    refine lv_iconst (v := 5) hx hb dX6_add_85 (by decide) ?_
    refine lv_isub hx hb dX6_add_86 ?_
    refine lv_iconst (v := 5) hx hb dX6_add_87 (by decide) ?_
    refine lv_imul hx hb dX6_add_88 ?_
    obtain ⟨x20, ex20, h⟩ := bnd_elim h
    refine nm_i ex20 ?_
    refine lv_dup2_11 hx hb dX6_add_89 rfl rfl ?_
    obtain ⟨b21, h⟩ := ck_elim h
    refine va_lald hx hb hK hP 27 1 rfl rfl b21 dX6_add_90 ?_
    refine lv_lconst (v := 1) hx hb dX6_add_91 (by decide) ?_
    refine lv_iload hx hb dX6_add_92 (lv_at hl 0 rfl) ?_
    refine lv_lshl (v := lsh 1 x1) hx hb dX6_add_94 rfl ?_
    refine lv_lor hx hb dX6_add_95 ?_
    obtain ⟨b22, h⟩ := ck_elim h
    obtain ⟨L23, eL23, h⟩ := bnd_elim h
    refine va_last hx hb hK hP hD hS 27 1 rfl rfl b22 dX6_add_96 (fun H locs hP9 _ hS => ?_)
    have hP := swX_27 hP9
    rw [← eL23] at hP
    have hD := wX_D hD S13 L23
    refine lv_aload_n hx hb dX6_add_97 rfl (lv_at hl 1 rfl) ?_
    refine lv_dup hx hb dX6_add_98 rfl ?_
    refine va_get (D := (dC, dI)) (ci := 6) (v := .int (S13 2 0)) (C := RX6) (T := TX6) (N := 13) hx hb hts hiX6 hown hK hP 2 rfl rfl 0 (by decide) hf49 (fun _ h9 => h9) rfl dX6_add_99 ?_
    refine lv_iconst (v := 1) hx hb dX6_add_102 (by decide) ?_
    refine lv_iadd hx hb dX6_add_103 ?_
    obtain ⟨S24, eS24, h⟩ := bnd_elim h
    refine va_put (D := (dC, dI)) (ci := 6) (v := .int ((S13 2 0) + 1)) (ty := .int) (C := RX6) (T := TX6) (N := 13) hx hb hts hiX6 tyX6 tyX6_ok nmX6 hown hK hP hD hS 2 rfl rfl 0 (by decide) hf49 (fun _ h9 => h9) rfl (by decide +kernel) rfl rfl (Nat.le_of_ble_eq_true rfl) dX6_add_104 (fun H locs hP9 _ hS => ?_)
    have hP := swX_2_0 hP9
    rw [← eS24] at hP
    have hD := wX_D hD S24 L23
    refine lv_iload hx hb dX6_add_107 (lv_at hl 0 rfl) ?_
    cases h
    exact W.iret hx hb hr (fun t ht hW => ⟨⟨_, _, rfl, rfl, by show va_P _ _ _ t.heap; rw [ht]; exact hP⟩, hS.F ht⟩) hS.2.2 dX6_add_109
set_option maxHeartbeats 4000000 in
set_option maxRecDepth 100000 in
theorem mX10_rule (l : Launch) (dC : Nat → ClassId) (dI : Nat → Nat → Nat) (cI cJ : ClassId) (ad : Nat → Nat) (p1 : Int32) (p2 : Int32) (p3 : Int32) (p4 : Int32) (p5 : Int32) (S : Nat → Nat → Int32) (L : Nat → Nat → Int64) (sz : Nat) {z : Int32 × (Nat → Nat → Int32) × (Nat → Nat → Int64)} (h : sX10_rule p1 p2 p3 p4 p5 S L = some z) : Met l yX10_rule wsX10_rule ({ frames := 2, cells := 0, slots := 0, locals := 41 }) (va_Pc [.ref (ad 0), .int p1, .int p2, .int p3, .int p4, .int p5] (QXs sz dC dI cI cJ ad S L)) (va_Qi (fun (r : Int32) (u : (Nat → Nat → Int32) × (Nat → Nat → Int64)) => (r, u) = z) (fun (u : (Nat → Nat → Int32) × (Nat → Nat → Int64)) t => va_P (dC, dI) vwCl (wX cI cJ ad u.1 u.2) t.heap) (AX 43 ad sz)) 0 0 (AX 43 ad sz) := by
  refine Met.ofW (cc := cX10_rule) (maxL := 6) (ret := (some .int)) (by decide) rfl ?_
  intro p e s m args below meth c s₁ B hml hv
  obtain ⟨rfl, hsz, hP, hK, hD0⟩ := hv
  have hx := B.exec
  have hb := B.bytes
  have hr := B.returns
  have hts := atoms_spec (ws := wsX10_rule) B.pre
  have hown : s.vm.findClass RX10 = some m.cls := findClass_of_methodNamed B.named
  have hlocks := B.notSynchronized
  subst hsz
  have hD := wX_DA hD0 s.heap.size
  have hS : va_S (AX 43 ad s.heap.size) s.heap s.heap [] := va_S.rf
  have hl := lv_entry ([.ref (ad 0), .int p1, .int p2, .int p3, .int p4, .int p5]) (n := 6) (Nat.le_of_ble_eq_true rfl)
  rw [lg_entry_eq]
  generalize (lg_sl ([.ref (ad 0), .int p1, .int p2, .int p3, .int p4, .int p5]) ++ List.replicate (6 - (lg_sl ([.ref (ad 0), .int p1, .int p2, .int p3, .int p4, .int p5])).length) Slot.unset).toArray = ls at hl ⊢
  have hl : lv_has ls 6 [(0, .ref (ad 0)), (1, .int p1), (2, .int p2), (3, .int p3), (4, .int p4), (5, .int p5)] := hl
  have hf19 := hts (.fieldLink RX10 19 "LawRings" "rules" "LLawRings$Rules;") (by decide +kernel)
  have hiX10 : ∀ w ∈ u_ws RX10 TX10 11, w ∈ wsX10_rule := by decide +kernel
  have hf129 := hts (.fieldLink RX10 129 "LawRings$Rules" "size" "I") (by decide +kernel)
  have hiX6 : ∀ w ∈ u_ws RX6 TX6 13, w ∈ wsX10_rule := by decide +kernel
  rw [sX10_rule] at h
  refine lv_iload_n hx hb dX10_rule_0 rfl (lv_at hl 1 rfl) ?_
  obtain ⟨r2, k1, h⟩ := ob_elim h
  refine vp_callSi (W.runS (As := [.int p1]) (rest := []) ⟨hx, hb, hml, hown, hts⟩ (mX10_isLand l p1 k1) (va_cwS 1 hts gX10_rule_X10_isLand rfl rfl rfl (by decide +kernel) ⟨Nat.le_of_ble_eq_true rfl, Nat.le_of_ble_eq_true rfl⟩) ⟨fun _ _ _ _ q => q, fun U hU hW => ⟨rfl, trivial⟩⟩ rfl rfl hl.1 rfl (lv_room (Nat.le_of_ble_eq_true rfl)) dX10_rule_1 ⟨Nat.zero_le _, Nat.zero_le _⟩) (fun r9 er9 => ?_)
  replace er9 := er9.symm
  subst er9
  refine lv_if_eq (tgt := 22) hx hb dX10_rule_4 (by decide) (fun c3 => ?_) (fun c3 => ?_)
  · replace h := it_t c3 h
    refine lv_bipush (v := (-2)) hx hb dX10_rule_22 (by decide) ?_
    cases h
    exact W.iret hx hb hr (fun t ht hW => ⟨⟨_, _, rfl, rfl, by show va_P _ _ _ t.heap; rw [ht]; exact hP⟩, hS.F ht⟩) hS.2.2 dX10_rule_24
  · replace h := it_f c3 h
    refine lv_iload_n hx hb dX10_rule_7 rfl (lv_at hl 2 rfl) ?_
    obtain ⟨r5, k4, h⟩ := ob_elim h
    refine vp_callSi (W.runS (As := [.int p2]) (rest := []) ⟨hx, hb, hml, hown, hts⟩ (mX10_isKind l p2 k4) (va_cwS 1 hts gX10_rule_X10_isKind rfl rfl rfl (by decide +kernel) ⟨Nat.le_of_ble_eq_true rfl, Nat.le_of_ble_eq_true rfl⟩) ⟨fun _ _ _ _ q => q, fun U hU hW => ⟨rfl, trivial⟩⟩ rfl rfl hl.1 rfl (lv_room (Nat.le_of_ble_eq_true rfl)) dX10_rule_8 ⟨Nat.zero_le _, Nat.zero_le _⟩) (fun r9 er9 => ?_)
    replace er9 := er9.symm
    subst er9
    refine lv_if_eq (tgt := 22) hx hb dX10_rule_11 (by decide) (fun c6 => ?_) (fun c6 => ?_)
    · replace h := it_t c6 h
      refine lv_bipush (v := (-2)) hx hb dX10_rule_22 (by decide) ?_
      cases h
      exact W.iret hx hb hr (fun t ht hW => ⟨⟨_, _, rfl, rfl, by show va_P _ _ _ t.heap; rw [ht]; exact hP⟩, hS.F ht⟩) hS.2.2 dX10_rule_24
    · replace h := it_f c6 h
      refine lv_iload hx hb dX10_rule_14 (lv_at hl 5 rfl) ?_
      obtain ⟨r8, k7, h⟩ := ob_elim h
      refine vp_callSi (W.runS (As := [.int p5]) (rest := []) ⟨hx, hb, hml, hown, hts⟩ (mX10_isDay l p5 k7) (va_cwS 1 hts gX10_rule_X10_isDay rfl rfl rfl (by decide +kernel) ⟨Nat.le_of_ble_eq_true rfl, Nat.le_of_ble_eq_true rfl⟩) ⟨fun _ _ _ _ q => q, fun U hU hW => ⟨rfl, trivial⟩⟩ rfl rfl hl.1 rfl (lv_room (Nat.le_of_ble_eq_true rfl)) dX10_rule_16 ⟨Nat.zero_le _, Nat.zero_le _⟩) (fun r9 er9 => ?_)
      replace er9 := er9.symm
      subst er9
      refine lv_if_ne (tgt := 25) hx hb dX10_rule_19 (by decide) (fun c9 => ?_) (fun c9 => ?_)
      · replace h := it_f c9 h
        refine lv_iload_n hx hb dX10_rule_25 rfl (lv_at hl 3 rfl) ?_
        refine lv_iconst (v := 2) hx hb dX10_rule_26 (by decide) ?_
        obtain ⟨r11, k10, h⟩ := ob_elim h
        refine vp_callSi (W.runS (As := [.int p3, .int 2]) (rest := []) ⟨hx, hb, hml, hown, hts⟩ (mX10_isBelow l p3 2 k10) (va_cwS 2 hts gX10_rule_X10_isBelow rfl rfl rfl (by decide +kernel) ⟨Nat.le_of_ble_eq_true rfl, Nat.le_of_ble_eq_true rfl⟩) ⟨fun _ _ _ _ q => q, fun U hU hW => ⟨rfl, trivial⟩⟩ rfl rfl hl.1 rfl (lv_room (Nat.le_of_ble_eq_true rfl)) dX10_rule_27 ⟨Nat.zero_le _, Nat.zero_le _⟩) (fun r9 er9 => ?_)
        replace er9 := er9.symm
        subst er9
        refine lv_if_eq (tgt := 43) hx hb dX10_rule_30 (by decide) (fun c12 => ?_) (fun c12 => ?_)
        · replace h := it_t c12 h
          refine lv_bipush (v := (-2)) hx hb dX10_rule_43 (by decide) ?_
          cases h
          exact W.iret hx hb hr (fun t ht hW => ⟨⟨_, _, rfl, rfl, by show va_P _ _ _ t.heap; rw [ht]; exact hP⟩, hS.F ht⟩) hS.2.2 dX10_rule_45
        · replace h := it_f c12 h
          refine lv_iload hx hb dX10_rule_33 (lv_at hl 4 rfl) ?_
          refine lv_bipush (v := 11) hx hb dX10_rule_35 (by decide) ?_
          obtain ⟨r14, k13, h⟩ := ob_elim h
          refine vp_callSi (W.runS (As := [.int p4, .int 11]) (rest := []) ⟨hx, hb, hml, hown, hts⟩ (mX10_isBelow l p4 11 k13) (va_cwS 2 hts gX10_rule_X10_isBelow rfl rfl rfl (by decide +kernel) ⟨Nat.le_of_ble_eq_true rfl, Nat.le_of_ble_eq_true rfl⟩) ⟨fun _ _ _ _ q => q, fun U hU hW => ⟨rfl, trivial⟩⟩ rfl rfl hl.1 rfl (lv_room (Nat.le_of_ble_eq_true rfl)) dX10_rule_37 ⟨Nat.zero_le _, Nat.zero_le _⟩) (fun r9 er9 => ?_)
          replace er9 := er9.symm
          subst er9
          refine lv_if_ne (tgt := 46) hx hb dX10_rule_40 (by decide) (fun c15 => ?_) (fun c15 => ?_)
          · replace h := it_f c15 h
            refine lv_aload_n hx hb dX10_rule_46 rfl (lv_at hl 0 rfl) ?_
            refine va_get (D := (dC, dI)) (ci := 10) (v := .ref (ad 2)) (C := RX10) (T := TX10) (N := 11) hx hb hts hiX10 hown hK hP 0 rfl rfl 1 (by decide) hf19 (fun _ h9 => h9) rfl dX10_rule_47 ?_
            refine va_get (D := (dC, dI)) (ci := 6) (v := .int (S 2 0)) (C := RX6) (T := TX6) (N := 13) hx hb hts hiX6 hown hK hP 2 rfl rfl 0 (by decide) hf129 (fun _ h9 => h9) rfl dX10_rule_50 ?_
            refine lv_bipush (v := 60) hx hb dX10_rule_53 (by decide) ?_
            refine lv_icmp_lt (tgt := 61) hx hb dX10_rule_55 (by decide) (fun c16 => ?_) (fun c16 => ?_)
            · replace h := it_t c16 h
              refine lv_aload_n hx hb dX10_rule_61 rfl (lv_at hl 0 rfl) ?_
              refine va_get (D := (dC, dI)) (ci := 10) (v := .ref (ad 2)) (C := RX10) (T := TX10) (N := 11) hx hb hts hiX10 hown hK hP 0 rfl rfl 1 (by decide) hf19 (fun _ h9 => h9) rfl dX10_rule_62 ?_
              refine lv_iload_n hx hb dX10_rule_65 rfl (lv_at hl 1 rfl) ?_
              refine lv_iload_n hx hb dX10_rule_66 rfl (lv_at hl 2 rfl) ?_
              refine lv_iload_n hx hb dX10_rule_67 rfl (lv_at hl 3 rfl) ?_
              refine lv_iload hx hb dX10_rule_68 (lv_at hl 4 rfl) ?_
              refine lv_iload hx hb dX10_rule_70 (lv_at hl 5 rfl) ?_
              obtain ⟨r20, S18, L19, k17, h⟩ := ob3_elim h
              refine va_calli (va_runV (As := [.int p1, .int p2, .int p3, .int p4, .int p5]) (rest := []) ⟨hx, hb, hml, hown, hts⟩ (mX6_add l dC dI cI cJ ad p1 p2 p3 p4 p5 S L s.heap.size k17) (cwV 5 hts gX10_rule_X6_add rfl rfl rfl (by decide +kernel) ⟨Nat.le_of_ble_eq_true rfl, Nat.le_of_ble_eq_true rfl⟩) ⟨QXs_blind, va_recv hK hP (ci := 6) (q0 := 2) rfl rfl, fun U hU hW => ⟨rfl, congrArg Array.size hU, QX_at hP hK hD hU hW⟩⟩ rfl rfl hl.1 rfl (lv_room (Nat.le_of_ble_eq_true rfl)) dX10_rule_72 ⟨Nat.zero_le _, Nat.zero_le _⟩) hS (fun q _ hq => AX_mono hS.1 hq) (fun q hq => AX_mono hS.1 hq) (fun r u t H1 locs ht hvm hw hB hz1 hk1 hS => ?_)
              cases hw
              rw [ht] at hB
              have hP := hB
              clear hB hk1 hz1
              generalize H1 = H at hP hS ⊢
              have hD := wX_D hD S18 L19
              cases h
              exact W.iret hx hb hr (fun t ht hW => ⟨⟨_, _, rfl, rfl, by show va_P _ _ _ t.heap; rw [ht]; exact hP⟩, hS.F ht⟩) hS.2.2 dX10_rule_75
            · replace h := it_f c16 h
              refine lv_bipush (v := (-4)) hx hb dX10_rule_58 (by decide) ?_
              cases h
              exact W.iret hx hb hr (fun t ht hW => ⟨⟨_, _, rfl, rfl, by show va_P _ _ _ t.heap; rw [ht]; exact hP⟩, hS.F ht⟩) hS.2.2 dX10_rule_60
          · replace h := it_t c15 h
            refine lv_bipush (v := (-2)) hx hb dX10_rule_43 (by decide) ?_
            cases h
            exact W.iret hx hb hr (fun t ht hW => ⟨⟨_, _, rfl, rfl, by show va_P _ _ _ t.heap; rw [ht]; exact hP⟩, hS.F ht⟩) hS.2.2 dX10_rule_45
      · replace h := it_t c9 h
        refine lv_bipush (v := (-2)) hx hb dX10_rule_22 (by decide) ?_
        cases h
        exact W.iret hx hb hr (fun t ht hW => ⟨⟨_, _, rfl, rfl, by show va_P _ _ _ t.heap; rw [ht]; exact hP⟩, hS.F ht⟩) hS.2.2 dX10_rule_24
set_option maxHeartbeats 4000000 in
set_option maxRecDepth 100000 in
theorem mX11_isLand (l : Launch) (p0 : Int32) {z : Int32} (h : sX11_isLand p0 = some z) : Met l yX11_isLand wsX11_isLand ({ frames := 1, cells := 0, slots := 0, locals := 22 }) (va_Pc [.int p0] (fun _ => True)) (vp_Si (fun r => r = z)) 0 0 (fun _ => False) := by
  refine Met.ofW (cc := cX11_isLand) (maxL := 1) (ret := (some .boolean)) (by decide) rfl ?_
  intro p e s m args below meth c s₁ B hml hv
  obtain ⟨rfl, -⟩ := hv
  have hx := B.exec
  have hb := B.bytes
  have hr := B.returns
  have hts := atoms_spec (ws := wsX11_isLand) B.pre
  have hown : s.vm.findClass RX11 = some m.cls := findClass_of_methodNamed B.named
  have hlocks := B.notSynchronized
  have hl := lv_entry ([.int p0]) (n := 1) (Nat.le_of_ble_eq_true rfl)
  rw [lg_entry_eq]
  generalize (lg_sl ([.int p0]) ++ List.replicate (1 - (lg_sl ([.int p0])).length) Slot.unset).toArray = ls at hl ⊢
  have hl : lv_has ls 1 [(0, .int p0)] := hl
  rw [sX11_isLand] at h
  refine lv_iload_n hx hb dX11_isLand_0 rfl (lv_at hl 0 rfl) ?_
  refine lv_iconst (v := 0) hx hb dX11_isLand_1 (by decide) ?_
  refine lv_iconst (v := 3) hx hb dX11_isLand_2 (by decide) ?_
  obtain ⟨r2, k1, h⟩ := ob_elim h
  refine vp_callSi (W.runS (As := [.int p0, .int 0, .int 3]) (rest := []) ⟨hx, hb, hml, hown, hts⟩ (mX11_in l p0 0 3 k1) (va_cwS 3 hts gX11_isLand_X11_in rfl rfl rfl (by decide +kernel) ⟨Nat.le_of_ble_eq_true rfl, Nat.le_of_ble_eq_true rfl⟩) ⟨fun _ _ _ _ q => q, fun U hU hW => ⟨rfl, trivial⟩⟩ rfl rfl hl.1 rfl (lv_room (Nat.le_of_ble_eq_true rfl)) dX11_isLand_3 ⟨Nat.zero_le _, Nat.zero_le _⟩) (fun r9 er9 => ?_)
  replace er9 := er9.symm
  subst er9
  obtain ⟨b3, h⟩ := zk_elim h
  cases h
  exact W.zret hx hb hr b3 (fun t ht hW => ⟨_, rfl, rfl, ht⟩) (fun q hq => absurd hq List.not_mem_nil) dX11_isLand_6
set_option maxHeartbeats 4000000 in
set_option maxRecDepth 100000 in
theorem mX11_isKind (l : Launch) (p0 : Int32) {z : Int32} (h : sX11_isKind p0 = some z) : Met l yX11_isKind wsX11_isKind ({ frames := 1, cells := 0, slots := 0, locals := 22 }) (va_Pc [.int p0] (fun _ => True)) (vp_Si (fun r => r = z)) 0 0 (fun _ => False) := by
  refine Met.ofW (cc := cX11_isKind) (maxL := 1) (ret := (some .boolean)) (by decide) rfl ?_
  intro p e s m args below meth c s₁ B hml hv
  obtain ⟨rfl, -⟩ := hv
  have hx := B.exec
  have hb := B.bytes
  have hr := B.returns
  have hts := atoms_spec (ws := wsX11_isKind) B.pre
  have hown : s.vm.findClass RX11 = some m.cls := findClass_of_methodNamed B.named
  have hlocks := B.notSynchronized
  have hl := lv_entry ([.int p0]) (n := 1) (Nat.le_of_ble_eq_true rfl)
  rw [lg_entry_eq]
  generalize (lg_sl ([.int p0]) ++ List.replicate (1 - (lg_sl ([.int p0])).length) Slot.unset).toArray = ls at hl ⊢
  have hl : lv_has ls 1 [(0, .int p0)] := hl
  rw [sX11_isKind] at h
  refine lv_iload_n hx hb dX11_isKind_0 rfl (lv_at hl 0 rfl) ?_
  refine lv_iconst (v := 0) hx hb dX11_isKind_1 (by decide) ?_
  refine lv_iconst (v := 2) hx hb dX11_isKind_2 (by decide) ?_
  obtain ⟨r2, k1, h⟩ := ob_elim h
  refine vp_callSi (W.runS (As := [.int p0, .int 0, .int 2]) (rest := []) ⟨hx, hb, hml, hown, hts⟩ (mX11_in l p0 0 2 k1) (va_cwS 3 hts gX11_isKind_X11_in rfl rfl rfl (by decide +kernel) ⟨Nat.le_of_ble_eq_true rfl, Nat.le_of_ble_eq_true rfl⟩) ⟨fun _ _ _ _ q => q, fun U hU hW => ⟨rfl, trivial⟩⟩ rfl rfl hl.1 rfl (lv_room (Nat.le_of_ble_eq_true rfl)) dX11_isKind_3 ⟨Nat.zero_le _, Nat.zero_le _⟩) (fun r9 er9 => ?_)
  replace er9 := er9.symm
  subst er9
  obtain ⟨b3, h⟩ := zk_elim h
  cases h
  exact W.zret hx hb hr b3 (fun t ht hW => ⟨_, rfl, rfl, ht⟩) (fun q hq => absurd hq List.not_mem_nil) dX11_isKind_6
set_option maxHeartbeats 4000000 in
set_option maxRecDepth 100000 in
theorem mX11_rule (l : Launch) (dC : Nat → ClassId) (dI : Nat → Nat → Nat) (cI cZ : ClassId) (ad : Nat → Nat) (p1 : Int32) (p2 : Int32) (p3 : Int32) (p4 : Int32) (p5 : Int32) (S : Nat → Nat → Int32) (sz : Nat) {z : Int32 × (Nat → Nat → Int32)} (h : sX11_rule p1 p2 p3 p4 p5 S = some z) : Met l yX11_rule wsX11_rule ({ frames := 2, cells := 0, slots := 0, locals := 42 }) (va_Pc [.ref (ad 0), .int p1, .int p2, .int p3, .int p4, .int p5] (QMs sz dC dI cI cZ ad S)) (va_Qi (fun (r : Int32) (u : (Nat → Nat → Int32)) => (r, u) = z) (fun (u : (Nat → Nat → Int32)) t => va_P (dC, dI) vwCl (wM cI cZ ad u) t.heap) (AX 7 ad sz)) 0 0 (AX 7 ad sz) := by
  refine Met.ofW (cc := cX11_rule) (maxL := 8) (ret := (some .int)) (by decide) rfl ?_
  intro p e s m args below meth c s₁ B hml hv
  obtain ⟨rfl, hsz, hP, hK, hD0⟩ := hv
  have hx := B.exec
  have hb := B.bytes
  have hr := B.returns
  have hts := atoms_spec (ws := wsX11_rule) B.pre
  have hown : s.vm.findClass RX11 = some m.cls := findClass_of_methodNamed B.named
  have hlocks := B.notSynchronized
  subst hsz
  have hD := wM_DA hD0 s.heap.size
  have hS : va_S (AX 7 ad s.heap.size) s.heap s.heap [] := va_S.rf
  have hl := lv_entry ([.ref (ad 0), .int p1, .int p2, .int p3, .int p4, .int p5]) (n := 8) (Nat.le_of_ble_eq_true rfl)
  rw [lg_entry_eq]
  generalize (lg_sl ([.ref (ad 0), .int p1, .int p2, .int p3, .int p4, .int p5]) ++ List.replicate (8 - (lg_sl ([.ref (ad 0), .int p1, .int p2, .int p3, .int p4, .int p5])).length) Slot.unset).toArray = ls at hl ⊢
  have hl : lv_has ls 8 [(0, .ref (ad 0)), (1, .int p1), (2, .int p2), (3, .int p3), (4, .int p4), (5, .int p5)] := hl
  have hf7 := hts (.fieldLink RX11 7 "LawRingsModel" "st" "[I") (by decide +kernel)
  have hiX11 : ∀ w ∈ u_ws RX11 TX11 8, w ∈ wsX11_rule := by decide +kernel
  rw [sX11_rule] at h
  refine lv_iload_n hx hb dX11_rule_0 rfl (lv_at hl 1 rfl) ?_
  obtain ⟨r2, k1, h⟩ := ob_elim h
  refine vp_callSi (W.runS (As := [.int p1]) (rest := []) ⟨hx, hb, hml, hown, hts⟩ (mX11_isLand l p1 k1) (va_cwS 1 hts gX11_rule_X11_isLand rfl rfl rfl (by decide +kernel) ⟨Nat.le_of_ble_eq_true rfl, Nat.le_of_ble_eq_true rfl⟩) ⟨fun _ _ _ _ q => q, fun U hU hW => ⟨rfl, trivial⟩⟩ rfl rfl hl.1 rfl (lv_room (Nat.le_of_ble_eq_true rfl)) dX11_rule_1 ⟨Nat.zero_le _, Nat.zero_le _⟩) (fun r9 er9 => ?_)
  replace er9 := er9.symm
  subst er9
  refine lv_if_eq (tgt := 42) hx hb dX11_rule_4 (by decide) (fun c3 => ?_) (fun c3 => ?_)
  · replace h := it_t c3 h
    refine lv_bipush (v := (-2)) hx hb dX11_rule_42 (by decide) ?_
    cases h
    exact W.iret hx hb hr (fun t ht hW => ⟨⟨_, _, rfl, rfl, by show va_P _ _ _ t.heap; rw [ht]; exact hP⟩, hS.F ht⟩) hS.2.2 dX11_rule_44
  · replace h := it_f c3 h
    refine lv_iload_n hx hb dX11_rule_7 rfl (lv_at hl 2 rfl) ?_
    obtain ⟨r5, k4, h⟩ := ob_elim h
    refine vp_callSi (W.runS (As := [.int p2]) (rest := []) ⟨hx, hb, hml, hown, hts⟩ (mX11_isKind l p2 k4) (va_cwS 1 hts gX11_rule_X11_isKind rfl rfl rfl (by decide +kernel) ⟨Nat.le_of_ble_eq_true rfl, Nat.le_of_ble_eq_true rfl⟩) ⟨fun _ _ _ _ q => q, fun U hU hW => ⟨rfl, trivial⟩⟩ rfl rfl hl.1 rfl (lv_room (Nat.le_of_ble_eq_true rfl)) dX11_rule_8 ⟨Nat.zero_le _, Nat.zero_le _⟩) (fun r9 er9 => ?_)
    replace er9 := er9.symm
    subst er9
    refine lv_if_eq (tgt := 42) hx hb dX11_rule_11 (by decide) (fun c6 => ?_) (fun c6 => ?_)
    · replace h := it_t c6 h
      refine lv_bipush (v := (-2)) hx hb dX11_rule_42 (by decide) ?_
      cases h
      exact W.iret hx hb hr (fun t ht hW => ⟨⟨_, _, rfl, rfl, by show va_P _ _ _ t.heap; rw [ht]; exact hP⟩, hS.F ht⟩) hS.2.2 dX11_rule_44
    · replace h := it_f c6 h
      refine lv_iload_n hx hb dX11_rule_14 rfl (lv_at hl 3 rfl) ?_
      refine lv_iconst (v := 0) hx hb dX11_rule_15 (by decide) ?_
      refine lv_iconst (v := 1) hx hb dX11_rule_16 (by decide) ?_
      obtain ⟨r8, k7, h⟩ := ob_elim h
      refine vp_callSi (W.runS (As := [.int p3, .int 0, .int 1]) (rest := []) ⟨hx, hb, hml, hown, hts⟩ (mX11_in l p3 0 1 k7) (va_cwS 3 hts gX11_rule_X11_in rfl rfl rfl (by decide +kernel) ⟨Nat.le_of_ble_eq_true rfl, Nat.le_of_ble_eq_true rfl⟩) ⟨fun _ _ _ _ q => q, fun U hU hW => ⟨rfl, trivial⟩⟩ rfl rfl hl.1 rfl (lv_room (Nat.le_of_ble_eq_true rfl)) dX11_rule_17 ⟨Nat.zero_le _, Nat.zero_le _⟩) (fun r9 er9 => ?_)
      replace er9 := er9.symm
      subst er9
      refine lv_if_eq (tgt := 42) hx hb dX11_rule_20 (by decide) (fun c9 => ?_) (fun c9 => ?_)
      · replace h := it_t c9 h
        refine lv_bipush (v := (-2)) hx hb dX11_rule_42 (by decide) ?_
        cases h
        exact W.iret hx hb hr (fun t ht hW => ⟨⟨_, _, rfl, rfl, by show va_P _ _ _ t.heap; rw [ht]; exact hP⟩, hS.F ht⟩) hS.2.2 dX11_rule_44
      · replace h := it_f c9 h
        refine lv_iload hx hb dX11_rule_23 (lv_at hl 4 rfl) ?_
        refine lv_iconst (v := 0) hx hb dX11_rule_25 (by decide) ?_
        refine lv_bipush (v := 10) hx hb dX11_rule_26 (by decide) ?_
        obtain ⟨r11, k10, h⟩ := ob_elim h
        refine vp_callSi (W.runS (As := [.int p4, .int 0, .int 10]) (rest := []) ⟨hx, hb, hml, hown, hts⟩ (mX11_in l p4 0 10 k10) (va_cwS 3 hts gX11_rule_X11_in rfl rfl rfl (by decide +kernel) ⟨Nat.le_of_ble_eq_true rfl, Nat.le_of_ble_eq_true rfl⟩) ⟨fun _ _ _ _ q => q, fun U hU hW => ⟨rfl, trivial⟩⟩ rfl rfl hl.1 rfl (lv_room (Nat.le_of_ble_eq_true rfl)) dX11_rule_28 ⟨Nat.zero_le _, Nat.zero_le _⟩) (fun r9 er9 => ?_)
        replace er9 := er9.symm
        subst er9
        refine lv_if_eq (tgt := 42) hx hb dX11_rule_31 (by decide) (fun c12 => ?_) (fun c12 => ?_)
        · replace h := it_t c12 h
          refine lv_bipush (v := (-2)) hx hb dX11_rule_42 (by decide) ?_
          cases h
          exact W.iret hx hb hr (fun t ht hW => ⟨⟨_, _, rfl, rfl, by show va_P _ _ _ t.heap; rw [ht]; exact hP⟩, hS.F ht⟩) hS.2.2 dX11_rule_44
        · replace h := it_f c12 h
          refine lv_iload hx hb dX11_rule_34 (lv_at hl 5 rfl) ?_
          obtain ⟨r14, k13, h⟩ := ob_elim h
          refine vp_callSi (W.runS (As := [.int p5]) (rest := []) ⟨hx, hb, hml, hown, hts⟩ (mX11_isDay l p5 k13) (va_cwS 1 hts gX11_rule_X11_isDay rfl rfl rfl (by decide +kernel) ⟨Nat.le_of_ble_eq_true rfl, Nat.le_of_ble_eq_true rfl⟩) ⟨fun _ _ _ _ q => q, fun U hU hW => ⟨rfl, trivial⟩⟩ rfl rfl hl.1 rfl (lv_room (Nat.le_of_ble_eq_true rfl)) dX11_rule_36 ⟨Nat.zero_le _, Nat.zero_le _⟩) (fun r9 er9 => ?_)
          replace er9 := er9.symm
          subst er9
          refine lv_if_ne (tgt := 45) hx hb dX11_rule_39 (by decide) (fun c15 => ?_) (fun c15 => ?_)
          · replace h := it_f c15 h
            refine lv_aload_n hx hb dX11_rule_45 rfl (lv_at hl 0 rfl) ?_
            refine va_get (D := (dC, dI)) (ci := 11) (v := .ref (ad 1)) (C := RX11) (T := TX11) (N := 8) hx hb hts hiX11 hown hK hP 0 rfl rfl 0 (by decide) hf7 (fun _ h9 => h9) rfl dX11_rule_46 ?_
            refine lv_iconst (v := 2) hx hb dX11_rule_49 (by decide) ?_
            obtain ⟨b16, h⟩ := ck_elim h
            refine va_iald hx hb hK hP 1 0 rfl rfl b16 dX11_rule_50 ?_
            refine lv_bipush (v := 60) hx hb dX11_rule_51 (by decide) ?_
            refine lv_icmp_ne (tgt := 59) hx hb dX11_rule_53 (by decide) (fun c17 => ?_) (fun c17 => ?_)
            · replace h := it_f c17 h
              refine lv_sipush (v := 282) hx hb dX11_rule_59 (by decide) ?_
              refine lv_bipush (v := 11) hx hb dX11_rule_62 (by decide) ?_
              refine lv_aload_n hx hb dX11_rule_64 rfl (lv_at hl 0 rfl) ?_
              refine va_get (D := (dC, dI)) (ci := 11) (v := .ref (ad 1)) (C := RX11) (T := TX11) (N := 8) hx hb hts hiX11 hown hK hP 0 rfl rfl 0 (by decide) hf7 (fun _ h9 => h9) rfl dX11_rule_65 ?_
              refine lv_iconst (v := 2) hx hb dX11_rule_68 (by decide) ?_
              obtain ⟨b18, h⟩ := ck_elim h
              refine va_iald hx hb hK hP 1 0 rfl rfl b18 dX11_rule_69 ?_
              refine lv_imul hx hb dX11_rule_70 ?_
              refine lv_iadd hx hb dX11_rule_71 ?_
              obtain ⟨x19, ex19, h⟩ := bnd_elim h
              refine nm_i ex19 ?_
              refine lv_istore (lv' := [(6, .int x19), (0, .ref (ad 0)), (1, .int p1), (2, .int p2), (3, .int p3), (4, .int p4), (5, .int p5)]) hx hb dX11_rule_72 hl (by decide) rfl (fun ls hl => ?_)
              refine lv_iconst (v := 0) hx hb dX11_rule_74 (by decide) ?_
              refine lv_istore (lv' := [(7, .int 0), (6, .int x19), (0, .ref (ad 0)), (1, .int p1), (2, .int p2), (3, .int p3), (4, .int p4), (5, .int p5)]) hx hb dX11_rule_75 hl (by decide) rfl (fun ls hl => ?_)
              refine ww_w (fun WW77 hWW77 => ?_)
              have Lh77 : ∀ (n : Nat) (v20 : Int32) (S21 : (Nat → Nat → Int32)) (z : ((Nat → Nat → Int32))), lX11_rule_77 p1 p2 p3 p4 p5 x19 n v20 S21 = some z → ∀ (H : Heap) (locs : List Loc), va_P (dC, dI) vwCl (wM cI cZ ad S21) H → va_S (AX 7 ad s.heap.size) s.heap H locs → ∀ ls : Array Slot, lv_has ls 8 [(0, .ref (ad 0)), (1, .int p1), (2, .int p2), (3, .int p3), (4, .int p4), (5, .int p5), (6, .int x19), (7, .int v20)] → (∀ (YS : (Nat → Nat → Int32)), z = YS → ∀ (H : Heap) (locs : List Loc), va_P (dC, dI) vwCl (wM cI cZ ad YS) H → va_S (AX 7 ad s.heap.size) s.heap H locs → ∀ ls : Array Slot, lv_has ls 8 [(0, .ref (ad 0)), (1, .int p1), (2, .int p2), (3, .int p3), (4, .int p4), (5, .int p5), (6, .int x19)] → WW77 H locs 101 ls) → WW77 H locs 77 ls := by
                intro n
                induction n with
                | zero => intro v20 S21 z h H locs hP hS ls hl K0; rw [lX11_rule_77] at h; cases h
                | succ n ih =>
                  intro v20 S21 z h H locs hP hS ls hl K0
                  have hD := wM_D hD S21
                  rw [lX11_rule_77] at h
                  refine wi_w hWW77 ?_
                  refine lv_iload hx hb dX11_rule_77 (lv_at hl 7 rfl) ?_
                  refine lv_bipush (v := 11) hx hb dX11_rule_79 (by decide) ?_
                  refine lv_icmp_ge (tgt := 101) hx hb dX11_rule_81 (by decide) (fun c22 => ?_) (fun c22 => ?_)
                  · replace h := it_t c22 h
                    refine wu_w hWW77 ?_
                    exact K0 S21 (Option.some.inj h).symm H locs hP hS ls (lv_sub hl [0, 1, 2, 3, 4, 5, 6] rfl)
                  · replace h := it_f c22 h
                    refine lv_aload_n hx hb dX11_rule_84 rfl (lv_at hl 0 rfl) ?_
                    refine va_get (D := (dC, dI)) (ci := 11) (v := .ref (ad 1)) (C := RX11) (T := TX11) (N := 8) hx hb hts hiX11 hown hK hP 0 rfl rfl 0 (by decide) hf7 (fun _ h9 => h9) rfl dX11_rule_85 ?_
                    refine lv_iload hx hb dX11_rule_88 (lv_at hl 6 rfl) ?_
                    refine lv_iload hx hb dX11_rule_90 (lv_at hl 7 rfl) ?_
                    refine lv_iadd hx hb dX11_rule_92 ?_
                    refine lv_iconst (v := 0) hx hb dX11_rule_93 (by decide) ?_
                    obtain ⟨b23, h⟩ := ck_elim h
                    obtain ⟨S24, eS24, h⟩ := bnd_elim h
                    refine va_iast hx hb hK hP hD hS 1 0 rfl rfl b23 dX11_rule_94 (fun H locs hP9 _ hS => ?_)
                    have hP := swM_1 hP9
                    rw [← eS24] at hP
                    have hD := wM_D hD S24
                    obtain ⟨x25, ex25, h⟩ := bnd_elim h
                    refine lv_iinc (v := x25) (lv' := [(7, .int x25), (0, .ref (ad 0)), (1, .int p1), (2, .int p2), (3, .int p3), (4, .int p4), (5, .int p5), (6, .int x19)]) hx hb dX11_rule_95 hl (k := 7) rfl (by rw [ex25]; rfl) (by decide) rfl (fun ls hl => ?_)
                    refine lv_goto (tgt := 77) hx hb dX11_rule_98 (by decide) ?_
                    refine wu_w hWW77 ?_
                    exact ih x25 S24 z h H locs hP hS ls (lv_sub hl [1, 2, 3, 4, 5, 6, 7, 0] rfl) K0
              obtain ⟨S27, k26, h⟩ := ob_elim h
              refine wu_w hWW77 ?_
              refine Lh77 FU 0 S _ k26 s.heap [] hP hS ls (lv_sub hl [2, 3, 4, 5, 6, 7, 1, 0] rfl) ?_
              intro y0 hy H locs hP hS ls hl
              cases hy
              have hD := wM_D hD S27
              refine wi_w hWW77 ?_
              refine lv_aload_n hx hb dX11_rule_101 rfl (lv_at hl 0 rfl) ?_
              refine va_get (D := (dC, dI)) (ci := 11) (v := .ref (ad 1)) (C := RX11) (T := TX11) (N := 8) hx hb hts hiX11 hown hK hP 0 rfl rfl 0 (by decide) hf7 (fun _ h9 => h9) rfl dX11_rule_102 ?_
              refine lv_iload hx hb dX11_rule_105 (lv_at hl 6 rfl) ?_
              refine lv_iconst (v := 0) hx hb dX11_rule_107 (by decide) ?_
              refine lv_iadd hx hb dX11_rule_108 ?_
              refine lv_iload_n hx hb dX11_rule_109 rfl (lv_at hl 1 rfl) ?_
              obtain ⟨b28, h⟩ := ck_elim h
              obtain ⟨S29, eS29, h⟩ := bnd_elim h
              refine va_iast hx hb hK hP hD hS 1 0 rfl rfl b28 dX11_rule_110 (fun H locs hP9 _ hS => ?_)
              have hP := swM_1 hP9
              rw [← eS29] at hP
              have hD := wM_D hD S29
              refine lv_aload_n hx hb dX11_rule_111 rfl (lv_at hl 0 rfl) ?_
              refine va_get (D := (dC, dI)) (ci := 11) (v := .ref (ad 1)) (C := RX11) (T := TX11) (N := 8) hx hb hts hiX11 hown hK hP 0 rfl rfl 0 (by decide) hf7 (fun _ h9 => h9) rfl dX11_rule_112 ?_
              refine lv_iload hx hb dX11_rule_115 (lv_at hl 6 rfl) ?_
              refine lv_iconst (v := 1) hx hb dX11_rule_117 (by decide) ?_
              refine lv_iadd hx hb dX11_rule_118 ?_
              refine lv_iload_n hx hb dX11_rule_119 rfl (lv_at hl 2 rfl) ?_
              obtain ⟨b30, h⟩ := ck_elim h
              obtain ⟨S31, eS31, h⟩ := bnd_elim h
              refine va_iast hx hb hK hP hD hS 1 0 rfl rfl b30 dX11_rule_120 (fun H locs hP9 _ hS => ?_)
              have hP := swM_1 hP9
              rw [← eS31] at hP
              have hD := wM_D hD S31
              refine lv_aload_n hx hb dX11_rule_121 rfl (lv_at hl 0 rfl) ?_
              refine va_get (D := (dC, dI)) (ci := 11) (v := .ref (ad 1)) (C := RX11) (T := TX11) (N := 8) hx hb hts hiX11 hown hK hP 0 rfl rfl 0 (by decide) hf7 (fun _ h9 => h9) rfl dX11_rule_122 ?_
              refine lv_iload hx hb dX11_rule_125 (lv_at hl 6 rfl) ?_
              refine lv_iconst (v := 2) hx hb dX11_rule_127 (by decide) ?_
              refine lv_iadd hx hb dX11_rule_128 ?_
              refine lv_iload_n hx hb dX11_rule_129 rfl (lv_at hl 3 rfl) ?_
              obtain ⟨b32, h⟩ := ck_elim h
              obtain ⟨S33, eS33, h⟩ := bnd_elim h
              refine va_iast hx hb hK hP hD hS 1 0 rfl rfl b32 dX11_rule_130 (fun H locs hP9 _ hS => ?_)
              have hP := swM_1 hP9
              rw [← eS33] at hP
              have hD := wM_D hD S33
              refine lv_aload_n hx hb dX11_rule_131 rfl (lv_at hl 0 rfl) ?_
              refine va_get (D := (dC, dI)) (ci := 11) (v := .ref (ad 1)) (C := RX11) (T := TX11) (N := 8) hx hb hts hiX11 hown hK hP 0 rfl rfl 0 (by decide) hf7 (fun _ h9 => h9) rfl dX11_rule_132 ?_
              refine lv_iload hx hb dX11_rule_135 (lv_at hl 6 rfl) ?_
              refine lv_iconst (v := 3) hx hb dX11_rule_137 (by decide) ?_
              refine lv_iadd hx hb dX11_rule_138 ?_
              refine lv_iload hx hb dX11_rule_139 (lv_at hl 4 rfl) ?_
              obtain ⟨b34, h⟩ := ck_elim h
              obtain ⟨S35, eS35, h⟩ := bnd_elim h
              refine va_iast hx hb hK hP hD hS 1 0 rfl rfl b34 dX11_rule_141 (fun H locs hP9 _ hS => ?_)
              have hP := swM_1 hP9
              rw [← eS35] at hP
              have hD := wM_D hD S35
              refine lv_aload_n hx hb dX11_rule_142 rfl (lv_at hl 0 rfl) ?_
              refine va_get (D := (dC, dI)) (ci := 11) (v := .ref (ad 1)) (C := RX11) (T := TX11) (N := 8) hx hb hts hiX11 hown hK hP 0 rfl rfl 0 (by decide) hf7 (fun _ h9 => h9) rfl dX11_rule_143 ?_
              refine lv_iload hx hb dX11_rule_146 (lv_at hl 6 rfl) ?_
              refine lv_iconst (v := 4) hx hb dX11_rule_148 (by decide) ?_
              refine lv_iadd hx hb dX11_rule_149 ?_
              refine lv_iload hx hb dX11_rule_150 (lv_at hl 5 rfl) ?_
              obtain ⟨b36, h⟩ := ck_elim h
              obtain ⟨S37, eS37, h⟩ := bnd_elim h
              refine va_iast hx hb hK hP hD hS 1 0 rfl rfl b36 dX11_rule_152 (fun H locs hP9 _ hS => ?_)
              have hP := swM_1 hP9
              rw [← eS37] at hP
              have hD := wM_D hD S37
              refine lv_aload_n hx hb dX11_rule_153 rfl (lv_at hl 0 rfl) ?_
              refine va_get (D := (dC, dI)) (ci := 11) (v := .ref (ad 1)) (C := RX11) (T := TX11) (N := 8) hx hb hts hiX11 hown hK hP 0 rfl rfl 0 (by decide) hf7 (fun _ h9 => h9) rfl dX11_rule_154 ?_
              refine lv_iload hx hb dX11_rule_157 (lv_at hl 6 rfl) ?_
              refine lv_iconst (v := 5) hx hb dX11_rule_159 (by decide) ?_
              refine lv_iadd hx hb dX11_rule_160 ?_
              refine lv_iconst (v := (-1)) hx hb dX11_rule_161 (by decide) ?_
              obtain ⟨b38, h⟩ := ck_elim h
              obtain ⟨S39, eS39, h⟩ := bnd_elim h
              refine va_iast hx hb hK hP hD hS 1 0 rfl rfl b38 dX11_rule_162 (fun H locs hP9 _ hS => ?_)
              have hP := swM_1 hP9
              rw [← eS39] at hP
              have hD := wM_D hD S39
              refine lv_aload_n hx hb dX11_rule_163 rfl (lv_at hl 0 rfl) ?_
              refine lv_iconst (v := 2) hx hb dX11_rule_164 (by decide) ?_
              obtain ⟨r42, S41, k40, h⟩ := ob2_elim h
              refine va_calli (va_runV (As := [.int 2]) (rest := []) ⟨hx, hb, hml, hown, hts⟩ (mX11_one l dC dI cI cZ ad 2 S39 H.size k40) (cwV 1 hts gX11_rule_X11_one rfl rfl rfl (by decide +kernel) ⟨Nat.le_of_ble_eq_true rfl, Nat.le_of_ble_eq_true rfl⟩) ⟨QMs_blind, va_recv hK hP (ci := 11) (q0 := 0) rfl rfl, fun U hU hW => ⟨rfl, congrArg Array.size hU, QM_at hP hK hD hU hW⟩⟩ rfl rfl hl.1 rfl (lv_room (Nat.le_of_ble_eq_true rfl)) dX11_rule_165 ⟨Nat.zero_le _, Nat.zero_le _⟩) hS (fun q _ hq => AX_mono hS.1 hq) (fun q hq => AX_mono hS.1 hq) (fun r u t H1 locs ht hvm hw hB hz1 hk1 hS => ?_)
              cases hw
              rw [ht] at hB
              have hP := hB
              clear hB hk1 hz1
              generalize H1 = H at hP hS ⊢
              have hD := wM_D hD S41
              cases h
              exact W.iret hx hb hr (fun t ht hW => ⟨⟨_, _, rfl, rfl, by show va_P _ _ _ t.heap; rw [ht]; exact hP⟩, hS.F ht⟩) hS.2.2 dX11_rule_168
            · replace h := it_t c17 h
              refine lv_bipush (v := (-4)) hx hb dX11_rule_56 (by decide) ?_
              cases h
              exact W.iret hx hb hr (fun t ht hW => ⟨⟨_, _, rfl, rfl, by show va_P _ _ _ t.heap; rw [ht]; exact hP⟩, hS.F ht⟩) hS.2.2 dX11_rule_58
          · replace h := it_t c15 h
            refine lv_bipush (v := (-2)) hx hb dX11_rule_42 (by decide) ?_
            cases h
            exact W.iret hx hb hr (fun t ht hW => ⟨⟨_, _, rfl, rfl, by show va_P _ _ _ t.heap; rw [ht]; exact hP⟩, hS.F ht⟩) hS.2.2 dX11_rule_44
