set_option maxHeartbeats 4000000 in
set_option maxRecDepth 100000 in
theorem mX11_ask (l : Launch) (dC : Nat → ClassId) (dI : Nat → Nat → Nat) (cI cZ : ClassId) (ad : Nat → Nat) (p1 : Int32) (p2 : Int32) (p3 : Int32) (p4 : Int32) (p5 : Int32) (S : Nat → Nat → Int32) (sz : Nat) {z : Int32 × (Nat → Nat → Int32)} (h : sX11_ask p1 p2 p3 p4 p5 S = some z) : Met l yX11_ask wsX11_ask ({ frames := 8, cells := 0, slots := 0, locals := 190 }) (va_Pc [.ref (ad 0), .int p1, .int p2, .int p3, .int p4, .int p5] (QMs sz dC dI cI cZ ad S)) (va_Qi (fun (r : Int32) (u : (Nat → Nat → Int32)) => (r, u) = z) (fun (u : (Nat → Nat → Int32)) t => va_P (dC, dI) vwCl (wM cI cZ ad u) t.heap) (AX 7 ad sz)) 0 0 (AX 7 ad sz) := by
  refine Met.ofW (cc := cX11_ask) (maxL := 13) (ret := (some .int)) (by decide) rfl ?_
  intro p e s m args below meth c s₁ B hml hv
  obtain ⟨rfl, hsz, hP, hK, hD0⟩ := hv
  have hx := B.exec
  have hb := B.bytes
  have hr := B.returns
  have hts := atoms_spec (ws := wsX11_ask) B.pre
  have hown : s.vm.findClass RX11 = some m.cls := findClass_of_methodNamed B.named
  have hlocks := B.notSynchronized
  subst hsz
  have hD := wM_DA hD0 s.heap.size
  have hS : va_S (AX 7 ad s.heap.size) s.heap s.heap [] := va_S.rf
  have hl := lv_entry ([.ref (ad 0), .int p1, .int p2, .int p3, .int p4, .int p5]) (n := 13) (Nat.le_of_ble_eq_true rfl)
  rw [lg_entry_eq]
  generalize (lg_sl ([.ref (ad 0), .int p1, .int p2, .int p3, .int p4, .int p5]) ++ List.replicate (13 - (lg_sl ([.ref (ad 0), .int p1, .int p2, .int p3, .int p4, .int p5])).length) Slot.unset).toArray = ls at hl ⊢
  have hl : lv_has ls 13 [(0, .ref (ad 0)), (1, .int p1), (2, .int p2), (3, .int p3), (4, .int p4), (5, .int p5)] := hl
  have hf26 := hts (.fieldLink RX11 26 "LawRingsModel" "had" "[I") (by decide +kernel)
  have hiX11 : ∀ w ∈ u_ws RX11 TX11 8, w ∈ wsX11_ask := by decide +kernel
  have hf13 := hts (.fieldLink RX11 13 "LawRingsModel" "ties" "[I") (by decide +kernel)
  have hf7 := hts (.fieldLink RX11 7 "LawRingsModel" "st" "[I") (by decide +kernel)
  rw [sX11_ask] at h
  refine lv_aload_n hx hb dX11_ask_0 rfl (lv_at hl 0 rfl) ?_
  refine lv_iconst (v := 0) hx hb dX11_ask_1 (by decide) ?_
  refine lv_iload_n hx hb dX11_ask_2 rfl (lv_at hl 1 rfl) ?_
  obtain ⟨r2, k1, h⟩ := ob_elim h
  refine vp_callSi (W.runV (As := [.int 0, .int p1]) (rest := []) ⟨hx, hb, hml, hown, hts⟩ (mX11_is l dC dI cI cZ ad 0 p1 S k1) (cwV 2 hts gX11_ask_X11_is rfl rfl rfl (by decide +kernel) ⟨Nat.le_of_ble_eq_true rfl, Nat.le_of_ble_eq_true rfl⟩) ⟨QM_blind, va_recv hK hP (ci := 11) (q0 := 0) rfl rfl, fun U hU hW => ⟨rfl, QM_at hP hK hD hU hW⟩⟩ rfl rfl hl.1 rfl (lv_room (Nat.le_of_ble_eq_true rfl)) dX11_ask_3 ⟨Nat.zero_le _, Nat.zero_le _⟩) (fun r9 er9 => ?_)
  replace er9 := er9.symm
  subst er9
  refine lv_if_eq (tgt := 44) hx hb dX11_ask_6 (by decide) (fun c3 => ?_) (fun c3 => ?_)
  · replace h := it_t c3 h
    refine lv_bipush (v := (-2)) hx hb dX11_ask_44 (by decide) ?_
    cases h
    exact W.iret hx hb hr (fun t ht hW => ⟨⟨_, _, rfl, rfl, by show va_P _ _ _ t.heap; rw [ht]; exact hP⟩, hS.F ht⟩) hS.2.2 dX11_ask_46
  · replace h := it_f c3 h
    refine lv_iload_n hx hb dX11_ask_9 rfl (lv_at hl 2 rfl) ?_
    obtain ⟨r5, k4, h⟩ := ob_elim h
    refine vp_callSi (W.runS (As := [.int p2]) (rest := []) ⟨hx, hb, hml, hown, hts⟩ (mX11_isKind l p2 k4) (va_cwS 1 hts gX11_ask_X11_isKind rfl rfl rfl (by decide +kernel) ⟨Nat.le_of_ble_eq_true rfl, Nat.le_of_ble_eq_true rfl⟩) ⟨fun _ _ _ _ q => q, fun U hU hW => ⟨rfl, trivial⟩⟩ rfl rfl hl.1 rfl (lv_room (Nat.le_of_ble_eq_true rfl)) dX11_ask_10 ⟨Nat.zero_le _, Nat.zero_le _⟩) (fun r9 er9 => ?_)
    replace er9 := er9.symm
    subst er9
    refine lv_if_eq (tgt := 44) hx hb dX11_ask_13 (by decide) (fun c6 => ?_) (fun c6 => ?_)
    · replace h := it_t c6 h
      refine lv_bipush (v := (-2)) hx hb dX11_ask_44 (by decide) ?_
      cases h
      exact W.iret hx hb hr (fun t ht hW => ⟨⟨_, _, rfl, rfl, by show va_P _ _ _ t.heap; rw [ht]; exact hP⟩, hS.F ht⟩) hS.2.2 dX11_ask_46
    · replace h := it_f c6 h
      refine lv_iload_n hx hb dX11_ask_16 rfl (lv_at hl 3 rfl) ?_
      obtain ⟨r8, k7, h⟩ := ob_elim h
      refine vp_callSi (W.runS (As := [.int p3]) (rest := []) ⟨hx, hb, hml, hown, hts⟩ (mX11_isLand l p3 k7) (va_cwS 1 hts gX11_ask_X11_isLand rfl rfl rfl (by decide +kernel) ⟨Nat.le_of_ble_eq_true rfl, Nat.le_of_ble_eq_true rfl⟩) ⟨fun _ _ _ _ q => q, fun U hU hW => ⟨rfl, trivial⟩⟩ rfl rfl hl.1 rfl (lv_room (Nat.le_of_ble_eq_true rfl)) dX11_ask_17 ⟨Nat.zero_le _, Nat.zero_le _⟩) (fun r9 er9 => ?_)
      replace er9 := er9.symm
      subst er9
      refine lv_if_eq (tgt := 44) hx hb dX11_ask_20 (by decide) (fun c9 => ?_) (fun c9 => ?_)
      · replace h := it_t c9 h
        refine lv_bipush (v := (-2)) hx hb dX11_ask_44 (by decide) ?_
        cases h
        exact W.iret hx hb hr (fun t ht hW => ⟨⟨_, _, rfl, rfl, by show va_P _ _ _ t.heap; rw [ht]; exact hP⟩, hS.F ht⟩) hS.2.2 dX11_ask_46
      · replace h := it_f c9 h
        refine lv_iload hx hb dX11_ask_23 (lv_at hl 4 rfl) ?_
        refine lv_iconst (v := 0) hx hb dX11_ask_25 (by decide) ?_
        refine lv_bipush (v := 63) hx hb dX11_ask_26 (by decide) ?_
        obtain ⟨r11, k10, h⟩ := ob_elim h
        refine vp_callSi (W.runS (As := [.int p4, .int 0, .int 63]) (rest := []) ⟨hx, hb, hml, hown, hts⟩ (mX11_in l p4 0 63 k10) (va_cwS 3 hts gX11_ask_X11_in rfl rfl rfl (by decide +kernel) ⟨Nat.le_of_ble_eq_true rfl, Nat.le_of_ble_eq_true rfl⟩) ⟨fun _ _ _ _ q => q, fun U hU hW => ⟨rfl, trivial⟩⟩ rfl rfl hl.1 rfl (lv_room (Nat.le_of_ble_eq_true rfl)) dX11_ask_28 ⟨Nat.zero_le _, Nat.zero_le _⟩) (fun r9 er9 => ?_)
        replace er9 := er9.symm
        subst er9
        refine lv_if_eq (tgt := 44) hx hb dX11_ask_31 (by decide) (fun c12 => ?_) (fun c12 => ?_)
        · replace h := it_t c12 h
          refine lv_bipush (v := (-2)) hx hb dX11_ask_44 (by decide) ?_
          cases h
          exact W.iret hx hb hr (fun t ht hW => ⟨⟨_, _, rfl, rfl, by show va_P _ _ _ t.heap; rw [ht]; exact hP⟩, hS.F ht⟩) hS.2.2 dX11_ask_46
        · replace h := it_f c12 h
          refine lv_iload hx hb dX11_ask_34 (lv_at hl 5 rfl) ?_
          refine lv_iconst (v := 0) hx hb dX11_ask_36 (by decide) ?_
          refine lv_iconst (v := 2) hx hb dX11_ask_37 (by decide) ?_
          obtain ⟨r14, k13, h⟩ := ob_elim h
          refine vp_callSi (W.runS (As := [.int p5, .int 0, .int 2]) (rest := []) ⟨hx, hb, hml, hown, hts⟩ (mX11_in l p5 0 2 k13) (va_cwS 3 hts gX11_ask_X11_in rfl rfl rfl (by decide +kernel) ⟨Nat.le_of_ble_eq_true rfl, Nat.le_of_ble_eq_true rfl⟩) ⟨fun _ _ _ _ q => q, fun U hU hW => ⟨rfl, trivial⟩⟩ rfl rfl hl.1 rfl (lv_room (Nat.le_of_ble_eq_true rfl)) dX11_ask_38 ⟨Nat.zero_le _, Nat.zero_le _⟩) (fun r9 er9 => ?_)
          replace er9 := er9.symm
          subst er9
          refine lv_if_ne (tgt := 47) hx hb dX11_ask_41 (by decide) (fun c15 => ?_) (fun c15 => ?_)
          · replace h := it_f c15 h
            refine lv_aload_n hx hb dX11_ask_47 rfl (lv_at hl 0 rfl) ?_
            refine lv_iload_n hx hb dX11_ask_48 rfl (lv_at hl 1 rfl) ?_
            obtain ⟨S17, k16, h⟩ := ob_elim h
            refine va_callv (va_runV (As := [.int p1]) (rest := []) ⟨hx, hb, hml, hown, hts⟩ (mX11_looksAt l dC dI cI cZ ad p1 S s.heap.size k16) (cwV 1 hts gX11_ask_X11_looksAt rfl rfl rfl (by decide +kernel) ⟨Nat.le_of_ble_eq_true rfl, Nat.le_of_ble_eq_true rfl⟩) ⟨QMs_blind, va_recv hK hP (ci := 11) (q0 := 0) rfl rfl, fun U hU hW => ⟨rfl, congrArg Array.size hU, QM_at hP hK hD hU hW⟩⟩ rfl rfl hl.1 rfl (lv_room (Nat.le_of_ble_eq_true rfl)) dX11_ask_49 ⟨Nat.zero_le _, Nat.zero_le _⟩) hS (fun q _ hq => AX_mono hS.1 hq) (fun q hq => AX_mono hS.1 hq) (fun u t H1 locs ht hvm hw hB hz1 hk1 hS => ?_)
            cases hw
            rw [ht] at hB
            have hP := hB
            clear hB hk1 hz1
            generalize H1 = H at hP hS ⊢
            have hD := wM_D hD S17
            refine lv_iconst (v := 0) hx hb dX11_ask_52 (by decide) ?_
            refine lv_istore (lv' := [(6, .int 0), (0, .ref (ad 0)), (1, .int p1), (2, .int p2), (3, .int p3), (4, .int p4), (5, .int p5)]) hx hb dX11_ask_53 hl (by decide) rfl (fun ls hl => ?_)
            refine ww_w (fun WW55 hWW55 => ?_)
            have Lh55 : ∀ (n : Nat) (v18 : Int32) (S19 : (Nat → Nat → Int32)) (z : ((Nat → Nat → Int32))), lX11_ask_55 p1 p2 p3 p4 p5 n v18 S19 = some z → ∀ (H : Heap) (locs : List Loc), va_P (dC, dI) vwCl (wM cI cZ ad S19) H → va_S (AX 7 ad s.heap.size) s.heap H locs → ∀ ls : Array Slot, lv_has ls 13 [(0, .ref (ad 0)), (1, .int p1), (2, .int p2), (3, .int p3), (4, .int p4), (5, .int p5), (6, .int v18)] → (∀ (YS : (Nat → Nat → Int32)), z = YS → ∀ (H : Heap) (locs : List Loc), va_P (dC, dI) vwCl (wM cI cZ ad YS) H → va_S (AX 7 ad s.heap.size) s.heap H locs → ∀ ls : Array Slot, lv_has ls 13 [(0, .ref (ad 0)), (1, .int p1), (2, .int p2), (3, .int p3), (4, .int p4), (5, .int p5)] → WW55 H locs 82 ls) → WW55 H locs 55 ls := by
              intro n
              induction n with
              | zero => intro v18 S19 z h H locs hP hS ls hl K0; rw [lX11_ask_55] at h; cases h
              | succ n ih =>
                intro v18 S19 z h H locs hP hS ls hl K0
                have hD := wM_D hD S19
                rw [lX11_ask_55] at h
                refine wi_w hWW55 ?_
                refine lv_iload hx hb dX11_ask_55 (lv_at hl 6 rfl) ?_
                refine lv_bipush (v := 6) hx hb dX11_ask_57 (by decide) ?_
                refine lv_icmp_ge (tgt := 82) hx hb dX11_ask_59 (by decide) (fun c20 => ?_) (fun c20 => ?_)
                · replace h := it_t c20 h
                  refine wu_w hWW55 ?_
                  exact K0 S19 (Option.some.inj h).symm H locs hP hS ls (lv_sub hl [0, 1, 2, 3, 4, 5] rfl)
                · replace h := it_f c20 h
                  refine lv_aload_n hx hb dX11_ask_62 rfl (lv_at hl 0 rfl) ?_
                  refine va_get (D := (dC, dI)) (ci := 11) (v := .ref (ad 6)) (C := RX11) (T := TX11) (N := 8) hx hb hts hiX11 hown hK hP 0 rfl rfl 7 (by decide) hf26 (fun _ h9 => h9) rfl dX11_ask_63 ?_
                  refine lv_iload hx hb dX11_ask_66 (lv_at hl 6 rfl) ?_
                  refine lv_aload_n hx hb dX11_ask_68 rfl (lv_at hl 0 rfl) ?_
                  refine va_get (D := (dC, dI)) (ci := 11) (v := .ref (ad 2)) (C := RX11) (T := TX11) (N := 8) hx hb hts hiX11 hown hK hP 0 rfl rfl 1 (by decide) hf13 (fun _ h9 => h9) rfl dX11_ask_69 ?_
                  refine lv_iload hx hb dX11_ask_72 (lv_at hl 6 rfl) ?_
                  obtain ⟨b21, h⟩ := ck_elim h
                  refine va_iald hx hb hK hP 2 0 rfl rfl b21 dX11_ask_74 ?_
                  obtain ⟨b22, h⟩ := ck_elim h
                  obtain ⟨S23, eS23, h⟩ := bnd_elim h
                  refine va_iast hx hb hK hP hD hS 6 0 rfl rfl b22 dX11_ask_75 (fun H locs hP9 _ hS => ?_)
                  have hP := swM_6 hP9
                  rw [← eS23] at hP
                  have hD := wM_D hD S23
                  obtain ⟨x24, ex24, h⟩ := bnd_elim h
                  refine lv_iinc (v := x24) (lv' := [(6, .int x24), (0, .ref (ad 0)), (1, .int p1), (2, .int p2), (3, .int p3), (4, .int p4), (5, .int p5)]) hx hb dX11_ask_76 hl (k := 6) rfl (by rw [ex24]; rfl) (by decide) rfl (fun ls hl => ?_)
                  refine lv_goto (tgt := 55) hx hb dX11_ask_79 (by decide) ?_
                  refine wu_w hWW55 ?_
                  exact ih x24 S23 z h H locs hP hS ls (lv_sub hl [1, 2, 3, 4, 5, 6, 0] rfl) K0
            obtain ⟨S26, k25, h⟩ := ob_elim h
            refine wu_w hWW55 ?_
            refine Lh55 FU 0 S17 _ k25 H locs hP hS ls (lv_sub hl [1, 2, 3, 4, 5, 6, 0] rfl) ?_
            intro y0 hy H locs hP hS ls hl
            cases hy
            have hD := wM_D hD S26
            refine wi_w hWW55 ?_
            refine lv_iconst (v := (-1)) hx hb dX11_ask_82 (by decide) ?_
            refine lv_istore (lv' := [(6, .int (-1)), (0, .ref (ad 0)), (1, .int p1), (2, .int p2), (3, .int p3), (4, .int p4), (5, .int p5)]) hx hb dX11_ask_83 hl (by decide) rfl (fun ls hl => ?_)
            refine lv_iconst (v := 0) hx hb dX11_ask_85 (by decide) ?_
            refine lv_istore (lv' := [(7, .int 0), (6, .int (-1)), (0, .ref (ad 0)), (1, .int p1), (2, .int p2), (3, .int p3), (4, .int p4), (5, .int p5)]) hx hb dX11_ask_86 hl (by decide) rfl (fun ls hl => ?_)
            refine lv_iconst (v := 0) hx hb dX11_ask_88 (by decide) ?_
            refine lv_istore (lv' := [(8, .int 0), (7, .int 0), (6, .int (-1)), (0, .ref (ad 0)), (1, .int p1), (2, .int p2), (3, .int p3), (4, .int p4), (5, .int p5)]) hx hb dX11_ask_89 hl (by decide) rfl (fun ls hl => ?_)
            refine lv_iconst (v := 0) hx hb dX11_ask_91 (by decide) ?_
            refine lv_istore (lv' := [(9, .int 0), (8, .int 0), (7, .int 0), (6, .int (-1)), (0, .ref (ad 0)), (1, .int p1), (2, .int p2), (3, .int p3), (4, .int p4), (5, .int p5)]) hx hb dX11_ask_92 hl (by decide) rfl (fun ls hl => ?_)
            refine ww_w (fun WW94 hWW94 => ?_)
            have Lh94 : ∀ (n : Nat) (v27 : Int32) (v28 : Int32) (v29 : Int32) (v30 : Int32) (S31 : (Nat → Nat → Int32)) (z : (Int32 × Int32 × Int32 × (Nat → Nat → Int32))), lX11_ask_94 p1 p2 p3 p4 p5 n v27 v28 v29 v30 S31 = some z → ∀ (H : Heap) (locs : List Loc), va_P (dC, dI) vwCl (wM cI cZ ad S31) H → va_S (AX 7 ad s.heap.size) s.heap H locs → ∀ ls : Array Slot, lv_has ls 13 [(0, .ref (ad 0)), (1, .int p1), (2, .int p2), (3, .int p3), (4, .int p4), (5, .int p5), (6, .int v27), (7, .int v28), (8, .int v29), (9, .int v30)] → (∀ (y0 : Int32) (y1 : Int32) (y2 : Int32) (YS : (Nat → Nat → Int32)), z = (y0, y1, y2, YS) → ∀ (H : Heap) (locs : List Loc), va_P (dC, dI) vwCl (wM cI cZ ad YS) H → va_S (AX 7 ad s.heap.size) s.heap H locs → ∀ ls : Array Slot, lv_has ls 13 [(5, .int p5), (6, .int y0), (7, .int y1), (8, .int y2)] → WW94 H locs 216 ls) → WW94 H locs 94 ls := by
              intro n
              induction n with
              | zero => intro v27 v28 v29 v30 S31 z h H locs hP hS ls hl K0; rw [lX11_ask_94] at h; cases h
              | succ n ih =>
                intro v27 v28 v29 v30 S31 z h H locs hP hS ls hl K0
                have hD := wM_D hD S31
                rw [lX11_ask_94] at h
                refine wi_w hWW94 ?_
                refine lv_iload hx hb dX11_ask_94 (lv_at hl 9 rfl) ?_
                refine lv_sipush (v := 15625) hx hb dX11_ask_96 (by decide) ?_
                refine lv_icmp_ge (tgt := 216) hx hb dX11_ask_99 (by decide) (fun c32 => ?_) (fun c32 => ?_)
                · replace h := it_t c32 h
                  refine wu_w hWW94 ?_
                  exact K0 v27 v28 v29 S31 (Option.some.inj h).symm H locs hP hS ls (lv_sub hl [5, 6, 7, 8] rfl)
                · replace h := it_f c32 h
                  refine lv_aload_n hx hb dX11_ask_102 rfl (lv_at hl 0 rfl) ?_
                  refine lv_iload hx hb dX11_ask_103 (lv_at hl 9 rfl) ?_
                  refine lv_aload_n hx hb dX11_ask_105 rfl (lv_at hl 0 rfl) ?_
                  refine va_get (D := (dC, dI)) (ci := 11) (v := .ref (ad 1)) (C := RX11) (T := TX11) (N := 8) hx hb hts hiX11 hown hK hP 0 rfl rfl 0 (by decide) hf7 (fun _ h9 => h9) rfl dX11_ask_106 ?_
                  refine lv_bipush (v := 10) hx hb dX11_ask_109 (by decide) ?_
                  refine lv_iconst (v := 2) hx hb dX11_ask_111 (by decide) ?_
                  refine lv_iload_n hx hb dX11_ask_112 rfl (lv_at hl 1 rfl) ?_
                  refine lv_imul hx hb dX11_ask_113 ?_
                  refine lv_iadd hx hb dX11_ask_114 ?_
                  obtain ⟨b33, h⟩ := ck_elim h
                  refine va_iald hx hb hK hP 1 0 rfl rfl b33 dX11_ask_115 ?_
                  obtain ⟨S35, k34, h⟩ := ob_elim h
                  refine va_callv (va_runV (As := [.int v30, .int (S31 1 (10 + (2 * p1)).toNatClampNeg)]) (rest := []) ⟨hx, hb, hml, hown, hts⟩ (mX11_looksAtNumber l dC dI cI cZ ad v30 (S31 1 (10 + (2 * p1)).toNatClampNeg) S31 H.size k34) (cwV 2 hts gX11_ask_X11_looksAtNumber rfl rfl rfl (by decide +kernel) ⟨Nat.le_of_ble_eq_true rfl, Nat.le_of_ble_eq_true rfl⟩) ⟨QMs_blind, va_recv hK hP (ci := 11) (q0 := 0) rfl rfl, fun U hU hW => ⟨rfl, congrArg Array.size hU, QM_at hP hK hD hU hW⟩⟩ rfl rfl hl.1 rfl (lv_room (Nat.le_of_ble_eq_true rfl)) dX11_ask_116 ⟨Nat.zero_le _, Nat.zero_le _⟩) hS (fun q _ hq => AX_mono hS.1 hq) (fun q hq => AX_mono hS.1 hq) (fun u t H1 locs ht hvm hw hB hz1 hk1 hS => ?_)
                  cases hw
                  rw [ht] at hB
                  have hP := hB
                  clear hB hk1 hz1
                  generalize H1 = H at hP hS ⊢
                  have hD := wM_D hD S35
                  refine lv_aload_n hx hb dX11_ask_119 rfl (lv_at hl 0 rfl) ?_
                  refine lv_iload hx hb dX11_ask_120 (lv_at hl 4 rfl) ?_
                  obtain ⟨r37, k36, h⟩ := ob_elim h
                  refine vp_callSi (W.runV (As := [.int p4]) (rest := []) ⟨hx, hb, hml, hown, hts⟩ (mX11_other l dC dI cI cZ ad p4 S35 k36) (cwV 1 hts gX11_ask_X11_other rfl rfl rfl (by decide +kernel) ⟨Nat.le_of_ble_eq_true rfl, Nat.le_of_ble_eq_true rfl⟩) ⟨QM_blind, va_recv hK hP (ci := 11) (q0 := 0) rfl rfl, fun U hU hW => ⟨rfl, QM_at hP hK hD hU hW⟩⟩ rfl rfl hl.1 rfl (lv_room (Nat.le_of_ble_eq_true rfl)) dX11_ask_122 ⟨Nat.zero_le _, Nat.zero_le _⟩) (fun r9 er9 => ?_)
                  replace er9 := er9.symm
                  subst er9
                  refine lv_istore (lv' := [(10, .int r37), (0, .ref (ad 0)), (1, .int p1), (2, .int p2), (3, .int p3), (4, .int p4), (5, .int p5), (6, .int v27), (7, .int v28), (8, .int v29), (9, .int v30)]) hx hb dX11_ask_125 hl (by decide) rfl (fun ls hl => ?_)
                  refine lv_iconst (v := 0) hx hb dX11_ask_127 (by decide) ?_
                  refine lv_istore (lv' := [(11, .int 0), (10, .int r37), (0, .ref (ad 0)), (1, .int p1), (2, .int p2), (3, .int p3), (4, .int p4), (5, .int p5), (6, .int v27), (7, .int v28), (8, .int v29), (9, .int v30)]) hx hb dX11_ask_128 hl (by decide) rfl (fun ls hl => ?_)
                  refine ww_r (fun WW130 hWW130 => ?_)
                  have Lh130 : ∀ (n : Nat) (v38 : Int32) (v39 : Int32) (v40 : Int32) (v41 : Int32) (z : (Int32 × Int32 × Int32)), lX11_ask_130 p1 p2 p3 p4 p5 v30 r37 S35 n v38 v39 v40 v41 = some z → ∀ ls : Array Slot, lv_has ls 13 [(0, .ref (ad 0)), (1, .int p1), (2, .int p2), (3, .int p3), (4, .int p4), (5, .int p5), (6, .int v38), (7, .int v39), (8, .int v40), (9, .int v30), (10, .int r37), (11, .int v41)] → (∀ (y0 : Int32) (y1 : Int32) (y2 : Int32), z = (y0, y1, y2) → ∀ ls : Array Slot, lv_has ls 13 [(0, .ref (ad 0)), (1, .int p1), (2, .int p2), (3, .int p3), (4, .int p4), (5, .int p5), (6, .int y0), (7, .int y1), (8, .int y2), (9, .int v30)] → WW130  210 ls) → WW130  130 ls := by
                    intro n
                    induction n with
                    | zero => intro v38 v39 v40 v41 z h ls hl K0; rw [lX11_ask_130] at h; cases h
                    | succ n ih =>
                      intro v38 v39 v40 v41 z h ls hl K0
                      rw [lX11_ask_130] at h
                      refine wi_r hWW130 ?_
                      refine lv_iload hx hb dX11_ask_130 (lv_at hl 11 rfl) ?_
                      refine lv_iconst (v := 4) hx hb dX11_ask_132 (by decide) ?_
                      refine lv_icmp_ge (tgt := 210) hx hb dX11_ask_133 (by decide) (fun c42 => ?_) (fun c42 => ?_)
                      · replace h := it_t c42 h
                        refine wu_r hWW130 ?_
                        exact K0 v38 v39 v40 (Option.some.inj h).symm ls (lv_sub hl [0, 1, 2, 3, 4, 5, 6, 7, 8, 9] rfl)
                      · replace h := it_f c42 h
                        refine lv_iload hx hb dX11_ask_136 (lv_at hl 10 rfl) ?_
                        refine lv_iconst (v := (-1)) hx hb dX11_ask_138 (by decide) ?_
                        refine lv_icmp_eq (tgt := 210) hx hb dX11_ask_139 (by decide) (fun c43 => ?_) (fun c43 => ?_)
                        · replace h := it_t c43 h
                          refine wu_r hWW130 ?_
                          exact K0 v38 v39 v40 (Option.some.inj h).symm ls (lv_sub hl [0, 1, 2, 3, 4, 5, 6, 7, 8, 9] rfl)
                        · replace h := it_f c43 h
                          refine lv_iload hx hb dX11_ask_142 (lv_at hl 6 rfl) ?_
                          refine lv_iconst (v := (-1)) hx hb dX11_ask_144 (by decide) ?_
                          refine lv_icmp_eq (tgt := 169) hx hb dX11_ask_145 (by decide) (fun c44 => ?_) (fun c44 => ?_)
                          · replace h := it_t c44 h
                            refine lv_iconst (v := 1) hx hb dX11_ask_169 (by decide) ?_
                            refine lv_goto (tgt := 174) hx hb dX11_ask_170 (by decide) ?_
                            refine lv_istore (lv' := [(12, .int 1), (0, .ref (ad 0)), (1, .int p1), (2, .int p2), (3, .int p3), (4, .int p4), (5, .int p5), (6, .int v38), (7, .int v39), (8, .int v40), (9, .int v30), (10, .int r37), (11, .int v41)]) hx hb dX11_ask_174 hl (by decide) rfl (fun ls hl => ?_)
                            refine lv_iload hx hb dX11_ask_176 (lv_at hl 0 rfl) ?_
                            refine lv_if_eq (tgt := 204) hx hb dX11_ask_178 (by decide) (fun c45 => absurd c45 (by decide)) (fun c45 => ?_)
                            refine lv_aload_n hx hb dX11_ask_181 rfl (lv_at hl 1 rfl) ?_
                            refine lv_iload hx hb dX11_ask_182 (lv_at hl 12 rfl) ?_
                            refine lv_iload_n hx hb dX11_ask_184 rfl (lv_at hl 3 rfl) ?_
                            obtain ⟨r47, k46, h⟩ := ob_elim h
                            refine vp_callSi (W.runV (As := [.int v41, .int p2]) (rest := []) ⟨hx, hb, hml, hown, hts⟩ (mX11_endsOf l dC dI cI cZ ad v41 p2 S35 k46) (cwV 2 hts gX11_ask_X11_endsOf rfl rfl rfl (by decide +kernel) ⟨Nat.le_of_ble_eq_true rfl, Nat.le_of_ble_eq_true rfl⟩) ⟨QM_blind, va_recv hK hP (ci := 11) (q0 := 0) rfl rfl, fun U hU hW => ⟨rfl, QM_at hP hK hD hU hW⟩⟩ rfl rfl hl.1 rfl (lv_room (Nat.le_of_ble_eq_true rfl)) dX11_ask_185 ⟨Nat.zero_le _, Nat.zero_le _⟩) (fun r9 er9 => ?_)
                            replace er9 := er9.symm
                            subst er9
                            refine lv_iload_n hx hb dX11_ask_188 rfl (lv_at hl 4 rfl) ?_
                            refine lv_icmp_ne (tgt := 204) hx hb dX11_ask_189 (by decide) (fun c48 => ?_) (fun c48 => ?_)
                            · replace h := it_f c48 h
                              obtain ⟨x49, ex49, h⟩ := bnd_elim h
                              refine lv_iinc (v := x49) (lv' := [(11, .int x49), (12, .int 1), (0, .ref (ad 0)), (1, .int p1), (2, .int p2), (3, .int p3), (4, .int p4), (5, .int p5), (6, .int v38), (7, .int v39), (8, .int v40), (9, .int v30), (10, .int r37)]) hx hb dX11_ask_204 hl (k := 12) rfl (by rw [ex49]; rfl) (by decide) rfl (fun ls hl => ?_)
                              refine lv_goto (tgt := 130) hx hb dX11_ask_207 (by decide) ?_
                              refine wu_r hWW130 ?_
                              exact ih v38 v39 v40 x49 z h ls (lv_sub hl [2, 3, 4, 5, 6, 7, 8, 9, 10, 11, 12, 0] rfl) K0
                            · replace h := it_t c48 h
                              refine lv_iload hx hb dX11_ask_192 (lv_at hl 11 rfl) ?_
                              refine lv_istore (lv' := [(6, .int r37), (12, .int 1), (0, .ref (ad 0)), (1, .int p1), (2, .int p2), (3, .int p3), (4, .int p4), (5, .int p5), (7, .int v39), (8, .int v40), (9, .int v30), (10, .int r37), (11, .int v41)]) hx hb dX11_ask_194 hl (by decide) rfl (fun ls hl => ?_)
                              refine lv_iload hx hb dX11_ask_196 (lv_at hl 12 rfl) ?_
                              refine lv_istore (lv' := [(7, .int v41), (6, .int r37), (12, .int 1), (0, .ref (ad 0)), (1, .int p1), (2, .int p2), (3, .int p3), (4, .int p4), (5, .int p5), (8, .int v40), (9, .int v30), (10, .int r37), (11, .int v41)]) hx hb dX11_ask_198 hl (by decide) rfl (fun ls hl => ?_)
                              refine lv_iload hx hb dX11_ask_200 (lv_at hl 10 rfl) ?_
                              refine lv_istore (lv' := [(8, .int v30), (7, .int v41), (6, .int r37), (12, .int 1), (0, .ref (ad 0)), (1, .int p1), (2, .int p2), (3, .int p3), (4, .int p4), (5, .int p5), (9, .int v30), (10, .int r37), (11, .int v41)]) hx hb dX11_ask_202 hl (by decide) rfl (fun ls hl => ?_)
                              obtain ⟨x50, ex50, h⟩ := bnd_elim h
                              refine lv_iinc (v := x50) (lv' := [(11, .int x50), (8, .int v30), (7, .int v41), (6, .int r37), (12, .int 1), (0, .ref (ad 0)), (1, .int p1), (2, .int p2), (3, .int p3), (4, .int p4), (5, .int p5), (9, .int v30), (10, .int r37)]) hx hb dX11_ask_204 hl (k := 12) rfl (by rw [ex50]; rfl) (by decide) rfl (fun ls hl => ?_)
                              refine lv_goto (tgt := 130) hx hb dX11_ask_207 (by decide) ?_
                              refine wu_r hWW130 ?_
                              exact ih r37 v41 v30 x50 z h ls (lv_sub hl [5, 6, 7, 8, 9, 10, 3, 2, 1, 11, 12, 0] rfl) K0
                          · replace h := it_f c44 h
                            refine lv_iload hx hb dX11_ask_148 (lv_at hl 10 rfl) ?_
                            refine lv_iload hx hb dX11_ask_150 (lv_at hl 6 rfl) ?_
                            refine lv_icmp_lt (tgt := 169) hx hb dX11_ask_152 (by decide) (fun c51 => ?_) (fun c51 => ?_)
                            · replace h := it_t c51 h
                              refine lv_iconst (v := 1) hx hb dX11_ask_169 (by decide) ?_
                              refine lv_goto (tgt := 174) hx hb dX11_ask_170 (by decide) ?_
                              refine lv_istore (lv' := [(12, .int 1), (0, .ref (ad 0)), (1, .int p1), (2, .int p2), (3, .int p3), (4, .int p4), (5, .int p5), (6, .int v38), (7, .int v39), (8, .int v40), (9, .int v30), (10, .int r37), (11, .int v41)]) hx hb dX11_ask_174 hl (by decide) rfl (fun ls hl => ?_)
                              refine lv_iload hx hb dX11_ask_176 (lv_at hl 0 rfl) ?_
                              refine lv_if_eq (tgt := 204) hx hb dX11_ask_178 (by decide) (fun c52 => absurd c52 (by decide)) (fun c52 => ?_)
                              refine lv_aload_n hx hb dX11_ask_181 rfl (lv_at hl 1 rfl) ?_
                              refine lv_iload hx hb dX11_ask_182 (lv_at hl 12 rfl) ?_
                              refine lv_iload_n hx hb dX11_ask_184 rfl (lv_at hl 3 rfl) ?_
                              obtain ⟨r54, k53, h⟩ := ob_elim h
                              refine vp_callSi (W.runV (As := [.int v41, .int p2]) (rest := []) ⟨hx, hb, hml, hown, hts⟩ (mX11_endsOf l dC dI cI cZ ad v41 p2 S35 k53) (cwV 2 hts gX11_ask_X11_endsOf rfl rfl rfl (by decide +kernel) ⟨Nat.le_of_ble_eq_true rfl, Nat.le_of_ble_eq_true rfl⟩) ⟨QM_blind, va_recv hK hP (ci := 11) (q0 := 0) rfl rfl, fun U hU hW => ⟨rfl, QM_at hP hK hD hU hW⟩⟩ rfl rfl hl.1 rfl (lv_room (Nat.le_of_ble_eq_true rfl)) dX11_ask_185 ⟨Nat.zero_le _, Nat.zero_le _⟩) (fun r9 er9 => ?_)
                              replace er9 := er9.symm
                              subst er9
                              refine lv_iload_n hx hb dX11_ask_188 rfl (lv_at hl 4 rfl) ?_
                              refine lv_icmp_ne (tgt := 204) hx hb dX11_ask_189 (by decide) (fun c55 => ?_) (fun c55 => ?_)
                              · replace h := it_f c55 h
                                obtain ⟨x56, ex56, h⟩ := bnd_elim h
                                refine lv_iinc (v := x56) (lv' := [(11, .int x56), (12, .int 1), (0, .ref (ad 0)), (1, .int p1), (2, .int p2), (3, .int p3), (4, .int p4), (5, .int p5), (6, .int v38), (7, .int v39), (8, .int v40), (9, .int v30), (10, .int r37)]) hx hb dX11_ask_204 hl (k := 12) rfl (by rw [ex56]; rfl) (by decide) rfl (fun ls hl => ?_)
                                refine lv_goto (tgt := 130) hx hb dX11_ask_207 (by decide) ?_
                                refine wu_r hWW130 ?_
                                exact ih v38 v39 v40 x56 z h ls (lv_sub hl [2, 3, 4, 5, 6, 7, 8, 9, 10, 11, 12, 0] rfl) K0
                              · replace h := it_t c55 h
                                refine lv_iload hx hb dX11_ask_192 (lv_at hl 11 rfl) ?_
                                refine lv_istore (lv' := [(6, .int r37), (12, .int 1), (0, .ref (ad 0)), (1, .int p1), (2, .int p2), (3, .int p3), (4, .int p4), (5, .int p5), (7, .int v39), (8, .int v40), (9, .int v30), (10, .int r37), (11, .int v41)]) hx hb dX11_ask_194 hl (by decide) rfl (fun ls hl => ?_)
                                refine lv_iload hx hb dX11_ask_196 (lv_at hl 12 rfl) ?_
                                refine lv_istore (lv' := [(7, .int v41), (6, .int r37), (12, .int 1), (0, .ref (ad 0)), (1, .int p1), (2, .int p2), (3, .int p3), (4, .int p4), (5, .int p5), (8, .int v40), (9, .int v30), (10, .int r37), (11, .int v41)]) hx hb dX11_ask_198 hl (by decide) rfl (fun ls hl => ?_)
                                refine lv_iload hx hb dX11_ask_200 (lv_at hl 10 rfl) ?_
                                refine lv_istore (lv' := [(8, .int v30), (7, .int v41), (6, .int r37), (12, .int 1), (0, .ref (ad 0)), (1, .int p1), (2, .int p2), (3, .int p3), (4, .int p4), (5, .int p5), (9, .int v30), (10, .int r37), (11, .int v41)]) hx hb dX11_ask_202 hl (by decide) rfl (fun ls hl => ?_)
                                obtain ⟨x57, ex57, h⟩ := bnd_elim h
                                refine lv_iinc (v := x57) (lv' := [(11, .int x57), (8, .int v30), (7, .int v41), (6, .int r37), (12, .int 1), (0, .ref (ad 0)), (1, .int p1), (2, .int p2), (3, .int p3), (4, .int p4), (5, .int p5), (9, .int v30), (10, .int r37)]) hx hb dX11_ask_204 hl (k := 12) rfl (by rw [ex57]; rfl) (by decide) rfl (fun ls hl => ?_)
                                refine lv_goto (tgt := 130) hx hb dX11_ask_207 (by decide) ?_
                                refine wu_r hWW130 ?_
                                exact ih r37 v41 v30 x57 z h ls (lv_sub hl [5, 6, 7, 8, 9, 10, 3, 2, 1, 11, 12, 0] rfl) K0
                            · replace h := it_f c51 h
                              refine lv_iload hx hb dX11_ask_155 (lv_at hl 10 rfl) ?_
                              refine lv_iload hx hb dX11_ask_157 (lv_at hl 6 rfl) ?_
                              refine lv_icmp_ne (tgt := 173) hx hb dX11_ask_159 (by decide) (fun c58 => ?_) (fun c58 => ?_)
                              · replace h := it_f c58 h
                                refine lv_iconst (v := 0) hx hb dX11_ask_173 (by decide) ?_
                                refine lv_istore (lv' := [(12, .int 0), (0, .ref (ad 0)), (1, .int p1), (2, .int p2), (3, .int p3), (4, .int p4), (5, .int p5), (6, .int v38), (7, .int v39), (8, .int v40), (9, .int v30), (10, .int r37), (11, .int v41)]) hx hb dX11_ask_174 hl (by decide) rfl (fun ls hl => ?_)
                                refine lv_iload hx hb dX11_ask_176 (lv_at hl 0 rfl) ?_
                                refine lv_if_eq (tgt := 204) hx hb dX11_ask_178 (by decide) (fun c59 => ?_) (fun c59 => absurd c59 (by decide))
                                obtain ⟨x60, ex60, h⟩ := bnd_elim h
                                refine lv_iinc (v := x60) (lv' := [(11, .int x60), (12, .int 0), (0, .ref (ad 0)), (1, .int p1), (2, .int p2), (3, .int p3), (4, .int p4), (5, .int p5), (6, .int v38), (7, .int v39), (8, .int v40), (9, .int v30), (10, .int r37)]) hx hb dX11_ask_204 hl (k := 12) rfl (by rw [ex60]; rfl) (by decide) rfl (fun ls hl => ?_)
                                refine lv_goto (tgt := 130) hx hb dX11_ask_207 (by decide) ?_
                                refine wu_r hWW130 ?_
                                exact ih v38 v39 v40 x60 z h ls (lv_sub hl [2, 3, 4, 5, 6, 7, 8, 9, 10, 11, 12, 0] rfl) K0
                              · replace h := it_t c58 h
                                refine lv_iload hx hb dX11_ask_162 (lv_at hl 11 rfl) ?_
                                refine lv_iload hx hb dX11_ask_164 (lv_at hl 7 rfl) ?_
                                refine lv_icmp_ge (tgt := 173) hx hb dX11_ask_166 (by decide) (fun c61 => ?_) (fun c61 => ?_)
                                · replace h := it_t c61 h
                                  refine lv_iconst (v := 0) hx hb dX11_ask_173 (by decide) ?_
                                  refine lv_istore (lv' := [(12, .int 0), (0, .ref (ad 0)), (1, .int p1), (2, .int p2), (3, .int p3), (4, .int p4), (5, .int p5), (6, .int v38), (7, .int v39), (8, .int v40), (9, .int v30), (10, .int r37), (11, .int v41)]) hx hb dX11_ask_174 hl (by decide) rfl (fun ls hl => ?_)
                                  refine lv_iload hx hb dX11_ask_176 (lv_at hl 0 rfl) ?_
                                  refine lv_if_eq (tgt := 204) hx hb dX11_ask_178 (by decide) (fun c62 => ?_) (fun c62 => absurd c62 (by decide))
                                  obtain ⟨x63, ex63, h⟩ := bnd_elim h
                                  refine lv_iinc (v := x63) (lv' := [(11, .int x63), (12, .int 0), (0, .ref (ad 0)), (1, .int p1), (2, .int p2), (3, .int p3), (4, .int p4), (5, .int p5), (6, .int v38), (7, .int v39), (8, .int v40), (9, .int v30), (10, .int r37)]) hx hb dX11_ask_204 hl (k := 12) rfl (by rw [ex63]; rfl) (by decide) rfl (fun ls hl => ?_)
                                  refine lv_goto (tgt := 130) hx hb dX11_ask_207 (by decide) ?_
                                  refine wu_r hWW130 ?_
                                  exact ih v38 v39 v40 x63 z h ls (lv_sub hl [2, 3, 4, 5, 6, 7, 8, 9, 10, 11, 12, 0] rfl) K0
                                · replace h := it_f c61 h
                                  refine lv_iconst (v := 1) hx hb dX11_ask_169 (by decide) ?_
                                  refine lv_goto (tgt := 174) hx hb dX11_ask_170 (by decide) ?_
                                  refine lv_istore (lv' := [(12, .int 1), (0, .ref (ad 0)), (1, .int p1), (2, .int p2), (3, .int p3), (4, .int p4), (5, .int p5), (6, .int v38), (7, .int v39), (8, .int v40), (9, .int v30), (10, .int r37), (11, .int v41)]) hx hb dX11_ask_174 hl (by decide) rfl (fun ls hl => ?_)
                                  refine lv_iload hx hb dX11_ask_176 (lv_at hl 0 rfl) ?_
                                  refine lv_if_eq (tgt := 204) hx hb dX11_ask_178 (by decide) (fun c64 => absurd c64 (by decide)) (fun c64 => ?_)
                                  refine lv_aload_n hx hb dX11_ask_181 rfl (lv_at hl 1 rfl) ?_
                                  refine lv_iload hx hb dX11_ask_182 (lv_at hl 12 rfl) ?_
                                  refine lv_iload_n hx hb dX11_ask_184 rfl (lv_at hl 3 rfl) ?_
                                  obtain ⟨r66, k65, h⟩ := ob_elim h
                                  refine vp_callSi (W.runV (As := [.int v41, .int p2]) (rest := []) ⟨hx, hb, hml, hown, hts⟩ (mX11_endsOf l dC dI cI cZ ad v41 p2 S35 k65) (cwV 2 hts gX11_ask_X11_endsOf rfl rfl rfl (by decide +kernel) ⟨Nat.le_of_ble_eq_true rfl, Nat.le_of_ble_eq_true rfl⟩) ⟨QM_blind, va_recv hK hP (ci := 11) (q0 := 0) rfl rfl, fun U hU hW => ⟨rfl, QM_at hP hK hD hU hW⟩⟩ rfl rfl hl.1 rfl (lv_room (Nat.le_of_ble_eq_true rfl)) dX11_ask_185 ⟨Nat.zero_le _, Nat.zero_le _⟩) (fun r9 er9 => ?_)
                                  replace er9 := er9.symm
                                  subst er9
                                  refine lv_iload_n hx hb dX11_ask_188 rfl (lv_at hl 4 rfl) ?_
                                  refine lv_icmp_ne (tgt := 204) hx hb dX11_ask_189 (by decide) (fun c67 => ?_) (fun c67 => ?_)
                                  · replace h := it_f c67 h
                                    obtain ⟨x68, ex68, h⟩ := bnd_elim h
                                    refine lv_iinc (v := x68) (lv' := [(11, .int x68), (12, .int 1), (0, .ref (ad 0)), (1, .int p1), (2, .int p2), (3, .int p3), (4, .int p4), (5, .int p5), (6, .int v38), (7, .int v39), (8, .int v40), (9, .int v30), (10, .int r37)]) hx hb dX11_ask_204 hl (k := 12) rfl (by rw [ex68]; rfl) (by decide) rfl (fun ls hl => ?_)
                                    refine lv_goto (tgt := 130) hx hb dX11_ask_207 (by decide) ?_
                                    refine wu_r hWW130 ?_
                                    exact ih v38 v39 v40 x68 z h ls (lv_sub hl [2, 3, 4, 5, 6, 7, 8, 9, 10, 11, 12, 0] rfl) K0
                                  · replace h := it_t c67 h
                                    refine lv_iload hx hb dX11_ask_192 (lv_at hl 11 rfl) ?_
                                    refine lv_istore (lv' := [(6, .int r37), (12, .int 1), (0, .ref (ad 0)), (1, .int p1), (2, .int p2), (3, .int p3), (4, .int p4), (5, .int p5), (7, .int v39), (8, .int v40), (9, .int v30), (10, .int r37), (11, .int v41)]) hx hb dX11_ask_194 hl (by decide) rfl (fun ls hl => ?_)
                                    refine lv_iload hx hb dX11_ask_196 (lv_at hl 12 rfl) ?_
                                    refine lv_istore (lv' := [(7, .int v41), (6, .int r37), (12, .int 1), (0, .ref (ad 0)), (1, .int p1), (2, .int p2), (3, .int p3), (4, .int p4), (5, .int p5), (8, .int v40), (9, .int v30), (10, .int r37), (11, .int v41)]) hx hb dX11_ask_198 hl (by decide) rfl (fun ls hl => ?_)
                                    refine lv_iload hx hb dX11_ask_200 (lv_at hl 10 rfl) ?_
                                    refine lv_istore (lv' := [(8, .int v30), (7, .int v41), (6, .int r37), (12, .int 1), (0, .ref (ad 0)), (1, .int p1), (2, .int p2), (3, .int p3), (4, .int p4), (5, .int p5), (9, .int v30), (10, .int r37), (11, .int v41)]) hx hb dX11_ask_202 hl (by decide) rfl (fun ls hl => ?_)
                                    obtain ⟨x69, ex69, h⟩ := bnd_elim h
                                    refine lv_iinc (v := x69) (lv' := [(11, .int x69), (8, .int v30), (7, .int v41), (6, .int r37), (12, .int 1), (0, .ref (ad 0)), (1, .int p1), (2, .int p2), (3, .int p3), (4, .int p4), (5, .int p5), (9, .int v30), (10, .int r37)]) hx hb dX11_ask_204 hl (k := 12) rfl (by rw [ex69]; rfl) (by decide) rfl (fun ls hl => ?_)
                                    refine lv_goto (tgt := 130) hx hb dX11_ask_207 (by decide) ?_
                                    refine wu_r hWW130 ?_
                                    exact ih r37 v41 v30 x69 z h ls (lv_sub hl [5, 6, 7, 8, 9, 10, 3, 2, 1, 11, 12, 0] rfl) K0
                  obtain ⟨w71, w72, w73, k70, h⟩ := ob3_elim h
                  refine wu_r hWW130 ?_
                  refine Lh130 FU v27 v28 v29 0 _ k70 ls (lv_sub hl [2, 3, 4, 5, 6, 7, 8, 9, 10, 11, 1, 0] rfl) ?_
                  intro y0 y1 y2 hy ls hl
                  cases hy
                  refine wi_r hWW130 ?_
                  obtain ⟨x74, ex74, h⟩ := bnd_elim h
                  refine lv_iinc (v := x74) (lv' := [(9, .int x74), (0, .ref (ad 0)), (1, .int p1), (2, .int p2), (3, .int p3), (4, .int p4), (5, .int p5), (6, .int w71), (7, .int w72), (8, .int w73)]) hx hb dX11_ask_210 hl (k := 9) rfl (by rw [ex74]; rfl) (by decide) rfl (fun ls hl => ?_)
                  refine lv_goto (tgt := 94) hx hb dX11_ask_213 (by decide) ?_
                  refine wu_w hWW94 ?_
                  exact ih w71 w72 w73 x74 S35 z h H locs hP hS ls (lv_sub hl [1, 2, 3, 4, 5, 6, 7, 8, 9, 0] rfl) K0
            obtain ⟨w76, w77, w78, S79, k75, h⟩ := ob4_elim h
            refine wu_w hWW94 ?_
            refine Lh94 FU (-1) 0 0 0 S26 _ k75 H locs hP hS ls (lv_sub hl [4, 5, 6, 7, 8, 9, 3, 2, 1, 0] rfl) ?_
            intro y0 y1 y2 y3 hy H locs hP hS ls hl
            cases hy
            have hD := wM_D hD S79
            refine wi_w hWW94 ?_
            refine lv_iload hx hb dX11_ask_216 (lv_at hl 1 rfl) ?_
            refine lv_iconst (v := (-1)) hx hb dX11_ask_218 (by decide) ?_
            refine lv_icmp_ne (tgt := 226) hx hb dX11_ask_219 (by decide) (fun c80 => ?_) (fun c80 => ?_)
            · replace h := it_f c80 h
              refine lv_iload hx hb dX11_ask_226 (lv_at hl 0 rfl) ?_
              refine lv_if_ne (tgt := 236) hx hb dX11_ask_228 (by decide) (fun c81 => ?_) (fun c81 => ?_)
              · replace h := it_f c81 h
                refine lv_iload hx hb dX11_ask_236 (lv_at hl 0 rfl) ?_
                refine lv_iconst (v := 1) hx hb dX11_ask_238 (by decide) ?_
                refine lv_icmp_ne (tgt := 247) hx hb dX11_ask_239 (by decide) (fun c82 => ?_) (fun c82 => ?_)
                · replace h := it_f c82 h
                  refine lv_iload hx hb dX11_ask_247 (lv_at hl 3 rfl) ?_
                  cases h
                  exact W.iret hx hb hr (fun t ht hW => ⟨⟨_, _, rfl, rfl, by show va_P _ _ _ t.heap; rw [ht]; exact hP⟩, hS.F ht⟩) hS.2.2 dX11_ask_249
                · replace h := it_t c82 h
                  refine lv_iload hx hb dX11_ask_242 (lv_at hl 2 rfl) ?_
                  refine lv_goto (tgt := 249) hx hb dX11_ask_244 (by decide) ?_
                  cases h
                  exact W.iret hx hb hr (fun t ht hW => ⟨⟨_, _, rfl, rfl, by show va_P _ _ _ t.heap; rw [ht]; exact hP⟩, hS.F ht⟩) hS.2.2 dX11_ask_249
              · replace h := it_t c81 h
                refine lv_iload hx hb dX11_ask_231 (lv_at hl 1 rfl) ?_
                refine lv_goto (tgt := 249) hx hb dX11_ask_233 (by decide) ?_
                cases h
                exact W.iret hx hb hr (fun t ht hW => ⟨⟨_, _, rfl, rfl, by show va_P _ _ _ t.heap; rw [ht]; exact hP⟩, hS.F ht⟩) hS.2.2 dX11_ask_249
            · replace h := it_t c80 h
              refine lv_iconst (v := (-1)) hx hb dX11_ask_222 (by decide) ?_
              refine lv_goto (tgt := 249) hx hb dX11_ask_223 (by decide) ?_
              cases h
              exact W.iret hx hb hr (fun t ht hW => ⟨⟨_, _, rfl, rfl, by show va_P _ _ _ t.heap; rw [ht]; exact hP⟩, hS.F ht⟩) hS.2.2 dX11_ask_249
          · replace h := it_t c15 h
            refine lv_bipush (v := (-2)) hx hb dX11_ask_44 (by decide) ?_
            cases h
            exact W.iret hx hb hr (fun t ht hW => ⟨⟨_, _, rfl, rfl, by show va_P _ _ _ t.heap; rw [ht]; exact hP⟩, hS.F ht⟩) hS.2.2 dX11_ask_46
set_option maxHeartbeats 4000000 in
set_option maxRecDepth 100000 in
theorem mX10_count (l : Launch) (dC : Nat → ClassId) (dI : Nat → Nat → Nat) (cI cJ : ClassId) (ad : Nat → Nat) (p1 : Int32) (S : Nat → Nat → Int32) (L : Nat → Nat → Int64) {z : Int32} (h : sX10_count p1 S L = some z) : Met l yX10_count wsX10_count ({ frames := 1, cells := 0, slots := 0, locals := 21 }) (va_Pc [.ref (ad 0), .int p1] (QX dC dI cI cJ ad S L)) (vp_Si (fun r => r = z)) 0 0 (fun _ => False) := by
  refine Met.ofW (cc := cX10_count) (maxL := 2) (ret := (some .int)) (by decide) rfl ?_
  intro p e s m args below meth c s₁ B hml hv
  obtain ⟨rfl, hP, hK, hD⟩ := hv
  have hx := B.exec
  have hb := B.bytes
  have hr := B.returns
  have hts := atoms_spec (ws := wsX10_count) B.pre
  have hown : s.vm.findClass RX10 = some m.cls := findClass_of_methodNamed B.named
  have hlocks := B.notSynchronized
  have hl := lv_entry ([.ref (ad 0), .int p1]) (n := 2) (Nat.le_of_ble_eq_true rfl)
  rw [lg_entry_eq]
  generalize (lg_sl ([.ref (ad 0), .int p1]) ++ List.replicate (2 - (lg_sl ([.ref (ad 0), .int p1])).length) Slot.unset).toArray = ls at hl ⊢
  have hl : lv_has ls 2 [(0, .ref (ad 0)), (1, .int p1)] := hl
  have hf12 := hts (.fieldLink RX10 12 "LawRings" "cases" "LLawRings$Cases;") (by decide +kernel)
  have hiX10 : ∀ w ∈ u_ws RX10 TX10 11, w ∈ wsX10_count := by decide +kernel
  have hf94 := hts (.fieldLink RX10 94 "LawRings$Cases" "size" "I") (by decide +kernel)
  have hiX2 : ∀ w ∈ u_ws RX2 TX2 6, w ∈ wsX10_count := by decide +kernel
  have hf111 := hts (.fieldLink RX10 111 "LawRings$Cases" "told" "I") (by decide +kernel)
  have hf19 := hts (.fieldLink RX10 19 "LawRings" "rules" "LLawRings$Rules;") (by decide +kernel)
  have hf129 := hts (.fieldLink RX10 129 "LawRings$Rules" "size" "I") (by decide +kernel)
  have hiX6 : ∀ w ∈ u_ws RX6 TX6 13, w ∈ wsX10_count := by decide +kernel
  have hf33 := hts (.fieldLink RX10 33 "LawRings" "treaties" "LLawRings$Treaties;") (by decide +kernel)
  have hf156 := hts (.fieldLink RX10 156 "LawRings$Treaties" "size" "I") (by decide +kernel)
  have hiX8 : ∀ w ∈ u_ws RX8 TX8 4, w ∈ wsX10_count := by decide +kernel
  have hf40 := hts (.fieldLink RX10 40 "LawRings" "trials" "LLawRings$Trials;") (by decide +kernel)
  have hf242 := hts (.fieldLink RX10 242 "LawRings$Trials" "size" "I") (by decide +kernel)
  have hiX9 : ∀ w ∈ u_ws RX9 TX9 2, w ∈ wsX10_count := by decide +kernel
  rw [sX10_count] at h
  refine lv_iload_n hx hb dX10_count_0 rfl (lv_at hl 1 rfl) ?_
  refine lv_iconst (v := 5) hx hb dX10_count_1 (by decide) ?_
  obtain ⟨r2, k1, h⟩ := ob_elim h
  refine vp_callSi (W.runS (As := [.int p1, .int 5]) (rest := []) ⟨hx, hb, hml, hown, hts⟩ (mX10_isBelow l p1 5 k1) (va_cwS 2 hts gX10_count_X10_isBelow rfl rfl rfl (by decide +kernel) ⟨Nat.le_of_ble_eq_true rfl, Nat.le_of_ble_eq_true rfl⟩) ⟨fun _ _ _ _ q => q, fun U hU hW => ⟨rfl, trivial⟩⟩ rfl rfl hl.1 rfl (lv_room (Nat.le_of_ble_eq_true rfl)) dX10_count_2 ⟨Nat.zero_le _, Nat.zero_le _⟩) (fun r9 er9 => ?_)
  replace er9 := er9.symm
  subst er9
  refine lv_if_ne (tgt := 11) hx hb dX10_count_5 (by decide) (fun c3 => ?_) (fun c3 => ?_)
  · replace h := it_f c3 h
    refine lv_iload_n hx hb dX10_count_11 rfl (lv_at hl 1 rfl) ?_
    by_cases c4 : p1 = 0
    · replace h := it_t c4 h
      refine lv_tableIn (tgt := 44) (off := 32) hx hb dX10_count_12 (by rw [c4]; decide) (by rw [c4]; decide) (by rw [c4]; decide) (by decide) ?_
      refine lv_aload_n hx hb dX10_count_44 rfl (lv_at hl 0 rfl) ?_
      refine va_get (D := (dC, dI)) (ci := 10) (v := .ref (ad 1)) (C := RX10) (T := TX10) (N := 11) hx hb hts hiX10 hown hK hP 0 rfl rfl 0 (by decide) hf12 (fun _ h9 => h9) rfl dX10_count_45 ?_
      refine va_get (D := (dC, dI)) (ci := 2) (v := .int (S 1 0)) (C := RX2) (T := TX2) (N := 6) hx hb hts hiX2 hown hK hP 1 rfl rfl 0 (by decide) hf94 (fun _ h9 => h9) rfl dX10_count_48 ?_
      cases h
      exact W.iret hx hb hr (fun t ht hW => ⟨_, rfl, rfl, ht⟩) (fun q hq => absurd hq List.not_mem_nil) dX10_count_51
    replace h := it_f c4 h
    by_cases c5 : p1 = 1
    · replace h := it_t c5 h
      refine lv_tableIn (tgt := 52) (off := 40) hx hb dX10_count_12 (by rw [c5]; decide) (by rw [c5]; decide) (by rw [c5]; decide) (by decide) ?_
      refine lv_aload_n hx hb dX10_count_52 rfl (lv_at hl 0 rfl) ?_
      refine va_get (D := (dC, dI)) (ci := 10) (v := .ref (ad 1)) (C := RX10) (T := TX10) (N := 11) hx hb hts hiX10 hown hK hP 0 rfl rfl 0 (by decide) hf12 (fun _ h9 => h9) rfl dX10_count_53 ?_
      refine va_get (D := (dC, dI)) (ci := 2) (v := .int (S 1 1)) (C := RX2) (T := TX2) (N := 6) hx hb hts hiX2 hown hK hP 1 rfl rfl 1 (by decide) hf111 (fun _ h9 => h9) rfl dX10_count_56 ?_
      cases h
      exact W.iret hx hb hr (fun t ht hW => ⟨_, rfl, rfl, ht⟩) (fun q hq => absurd hq List.not_mem_nil) dX10_count_59
    replace h := it_f c5 h
    by_cases c6 : p1 = 2
    · replace h := it_t c6 h
      refine lv_tableIn (tgt := 60) (off := 48) hx hb dX10_count_12 (by rw [c6]; decide) (by rw [c6]; decide) (by rw [c6]; decide) (by decide) ?_
      refine lv_aload_n hx hb dX10_count_60 rfl (lv_at hl 0 rfl) ?_
      refine va_get (D := (dC, dI)) (ci := 10) (v := .ref (ad 2)) (C := RX10) (T := TX10) (N := 11) hx hb hts hiX10 hown hK hP 0 rfl rfl 1 (by decide) hf19 (fun _ h9 => h9) rfl dX10_count_61 ?_
      refine va_get (D := (dC, dI)) (ci := 6) (v := .int (S 2 0)) (C := RX6) (T := TX6) (N := 13) hx hb hts hiX6 hown hK hP 2 rfl rfl 0 (by decide) hf129 (fun _ h9 => h9) rfl dX10_count_64 ?_
      cases h
      exact W.iret hx hb hr (fun t ht hW => ⟨_, rfl, rfl, ht⟩) (fun q hq => absurd hq List.not_mem_nil) dX10_count_67
    replace h := it_f c6 h
    by_cases c7 : p1 = 3
    · replace h := it_t c7 h
      refine lv_tableIn (tgt := 68) (off := 56) hx hb dX10_count_12 (by rw [c7]; decide) (by rw [c7]; decide) (by rw [c7]; decide) (by decide) ?_
      refine lv_aload_n hx hb dX10_count_68 rfl (lv_at hl 0 rfl) ?_
      refine va_get (D := (dC, dI)) (ci := 10) (v := .ref (ad 4)) (C := RX10) (T := TX10) (N := 11) hx hb hts hiX10 hown hK hP 0 rfl rfl 3 (by decide) hf33 (fun _ h9 => h9) rfl dX10_count_69 ?_
      refine va_get (D := (dC, dI)) (ci := 8) (v := .int (S 4 0)) (C := RX8) (T := TX8) (N := 4) hx hb hts hiX8 hown hK hP 4 rfl rfl 0 (by decide) hf156 (fun _ h9 => h9) rfl dX10_count_72 ?_
      cases h
      exact W.iret hx hb hr (fun t ht hW => ⟨_, rfl, rfl, ht⟩) (fun q hq => absurd hq List.not_mem_nil) dX10_count_75
    replace h := it_f c7 h
    refine lv_tableOut (tgt := 76) hx hb dX10_count_12 (sw4_out c4 c5 c6 c7) (by decide) ?_
    refine lv_aload_n hx hb dX10_count_76 rfl (lv_at hl 0 rfl) ?_
    refine va_get (D := (dC, dI)) (ci := 10) (v := .ref (ad 5)) (C := RX10) (T := TX10) (N := 11) hx hb hts hiX10 hown hK hP 0 rfl rfl 4 (by decide) hf40 (fun _ h9 => h9) rfl dX10_count_77 ?_
    refine va_get (D := (dC, dI)) (ci := 9) (v := .int (S 5 0)) (C := RX9) (T := TX9) (N := 2) hx hb hts hiX9 hown hK hP 5 rfl rfl 0 (by decide) hf242 (fun _ h9 => h9) rfl dX10_count_80 ?_
    cases h
    exact W.iret hx hb hr (fun t ht hW => ⟨_, rfl, rfl, ht⟩) (fun q hq => absurd hq List.not_mem_nil) dX10_count_83
  · replace h := it_t c3 h
    refine lv_bipush (v := (-2)) hx hb dX10_count_8 (by decide) ?_
    cases h
    exact W.iret hx hb hr (fun t ht hW => ⟨_, rfl, rfl, ht⟩) (fun q hq => absurd hq List.not_mem_nil) dX10_count_10
set_option maxHeartbeats 4000000 in
set_option maxRecDepth 100000 in
theorem mX11_count (l : Launch) (dC : Nat → ClassId) (dI : Nat → Nat → Nat) (cI cZ : ClassId) (ad : Nat → Nat) (p1 : Int32) (S : Nat → Nat → Int32) {z : Int32} (h : sX11_count p1 S = some z) : Met l yX11_count wsX11_count ({ frames := 1, cells := 0, slots := 0, locals := 22 }) (va_Pc [.ref (ad 0), .int p1] (QM dC dI cI cZ ad S)) (vp_Si (fun r => r = z)) 0 0 (fun _ => False) := by
  refine Met.ofW (cc := cX11_count) (maxL := 2) (ret := (some .int)) (by decide) rfl ?_
  intro p e s m args below meth c s₁ B hml hv
  obtain ⟨rfl, hP, hK, hD⟩ := hv
  have hx := B.exec
  have hb := B.bytes
  have hr := B.returns
  have hts := atoms_spec (ws := wsX11_count) B.pre
  have hown : s.vm.findClass RX11 = some m.cls := findClass_of_methodNamed B.named
  have hlocks := B.notSynchronized
  have hl := lv_entry ([.ref (ad 0), .int p1]) (n := 2) (Nat.le_of_ble_eq_true rfl)
  rw [lg_entry_eq]
  generalize (lg_sl ([.ref (ad 0), .int p1]) ++ List.replicate (2 - (lg_sl ([.ref (ad 0), .int p1])).length) Slot.unset).toArray = ls at hl ⊢
  have hl : lv_has ls 2 [(0, .ref (ad 0)), (1, .int p1)] := hl
  have hf7 := hts (.fieldLink RX11 7 "LawRingsModel" "st" "[I") (by decide +kernel)
  have hiX11 : ∀ w ∈ u_ws RX11 TX11 8, w ∈ wsX11_count := by decide +kernel
  rw [sX11_count] at h
  refine lv_iload_n hx hb dX11_count_0 rfl (lv_at hl 1 rfl) ?_
  refine lv_iconst (v := 0) hx hb dX11_count_1 (by decide) ?_
  refine lv_iconst (v := 4) hx hb dX11_count_2 (by decide) ?_
  obtain ⟨r2, k1, h⟩ := ob_elim h
  refine vp_callSi (W.runS (As := [.int p1, .int 0, .int 4]) (rest := []) ⟨hx, hb, hml, hown, hts⟩ (mX11_in l p1 0 4 k1) (va_cwS 3 hts gX11_count_X11_in rfl rfl rfl (by decide +kernel) ⟨Nat.le_of_ble_eq_true rfl, Nat.le_of_ble_eq_true rfl⟩) ⟨fun _ _ _ _ q => q, fun U hU hW => ⟨rfl, trivial⟩⟩ rfl rfl hl.1 rfl (lv_room (Nat.le_of_ble_eq_true rfl)) dX11_count_3 ⟨Nat.zero_le _, Nat.zero_le _⟩) (fun r9 er9 => ?_)
  replace er9 := er9.symm
  subst er9
  refine lv_if_eq (tgt := 18) hx hb dX11_count_6 (by decide) (fun c3 => ?_) (fun c3 => ?_)
  · replace h := it_t c3 h
    refine lv_bipush (v := (-2)) hx hb dX11_count_18 (by decide) ?_
    cases h
    exact W.iret hx hb hr (fun t ht hW => ⟨_, rfl, rfl, ht⟩) (fun q hq => absurd hq List.not_mem_nil) dX11_count_20
  · replace h := it_f c3 h
    refine lv_aload_n hx hb dX11_count_9 rfl (lv_at hl 0 rfl) ?_
    refine va_get (D := (dC, dI)) (ci := 11) (v := .ref (ad 1)) (C := RX11) (T := TX11) (N := 8) hx hb hts hiX11 hown hK hP 0 rfl rfl 0 (by decide) hf7 (fun _ h9 => h9) rfl dX11_count_10 ?_
    refine lv_iload_n hx hb dX11_count_13 rfl (lv_at hl 1 rfl) ?_
    obtain ⟨b4, h⟩ := ck_elim h
    refine va_iald hx hb hK hP 1 0 rfl rfl b4 dX11_count_14 ?_
    refine lv_goto (tgt := 20) hx hb dX11_count_15 (by decide) ?_
    cases h
    exact W.iret hx hb hr (fun t ht hW => ⟨_, rfl, rfl, ht⟩) (fun q hq => absurd hq List.not_mem_nil) dX11_count_20
set_option maxHeartbeats 4000000 in
set_option maxRecDepth 100000 in
theorem mX10_mix (l : Launch) (p0 : Int64) (p1 : Int32) {z : Int64} (h : sX10_mix p0 p1 = some z) : Met l yX10_mix wsX10_mix ({ frames := 0, cells := 0, slots := 0, locals := 0 }) (va_Pc [.long p0, .int p1] (fun _ => True)) (vp_Sl (fun r => r = z)) 0 0 (fun _ => False) := by
  refine Met.ofW (cc := cX10_mix) (maxL := 3) (ret := (some .long)) (by decide) rfl ?_
  intro p e s m args below meth c s₁ B hml hv
  obtain ⟨rfl, -⟩ := hv
  have hx := B.exec
  have hb := B.bytes
  have hr := B.returns
  have hts := atoms_spec (ws := wsX10_mix) B.pre
  have hown : s.vm.findClass RX10 = some m.cls := findClass_of_methodNamed B.named
  have hlocks := B.notSynchronized
  have hl := lv_entry ([.long p0, .int p1]) (n := 3) (Nat.le_of_ble_eq_true rfl)
  rw [lg_entry_eq]
  generalize (lg_sl ([.long p0, .int p1]) ++ List.replicate (3 - (lg_sl ([.long p0, .int p1])).length) Slot.unset).toArray = ls at hl ⊢
  have hl : lv_has ls 3 [(0, .long p0), (2, .int p1)] := hl
  have hk318 := hts (.constantLong RX10 318 (31)) (by decide +kernel)
  rw [sX10_mix] at h
  refine lv_ldc2 (v := 31) hx hb hown hk318 dX10_mix_0 ?_
  refine lv_lload_n hx hb dX10_mix_3 rfl (lv_at hl 0 rfl) ?_
  refine lv_lmul hx hb dX10_mix_4 ?_
  refine lv_iload_n hx hb dX10_mix_5 rfl (lv_at hl 1 rfl) ?_
  refine lv_i2l (v := p1.toInt64) hx hb dX10_mix_6 rfl ?_
  refine lv_ladd hx hb dX10_mix_7 ?_
  cases h
  exact W.lret hx hb hr (fun t ht hW => ⟨_, rfl, rfl, ht⟩) (fun q hq => absurd hq List.not_mem_nil) dX10_mix_8
set_option maxHeartbeats 4000000 in
set_option maxRecDepth 100000 in
theorem mX10_mixAll_35 (l : Launch) (dC : Nat → ClassId) (dI : Nat → Nat → Nat) (cI cJ : ClassId) (ad : Nat → Nat) (p0 : Int64) (p2 : Int32) (S : Nat → Nat → Int32) (L : Nat → Nat → Int64) {z : Int64} (h : sX10_mixAll_35 p0 p2 S L = some z) : Met l yX10_mixAll wsX10_mixAll ({ frames := 1, cells := 0, slots := 0, locals := 22 }) (va_Pc [.long p0, .ref (ad 35), .int p2] (QX dC dI cI cJ ad S L)) (vp_Sl (fun r => r = z)) 0 0 (fun _ => False) := by
  refine Met.ofW (cc := cX10_mixAll) (maxL := 7) (ret := (some .long)) (by decide) rfl ?_
  intro p e s m args below meth c s₁ B hml hv
  obtain ⟨rfl, hP, hK, hD⟩ := hv
  have hx := B.exec
  have hb := B.bytes
  have hr := B.returns
  have hts := atoms_spec (ws := wsX10_mixAll) B.pre
  have hown : s.vm.findClass RX10 = some m.cls := findClass_of_methodNamed B.named
  have hlocks := B.notSynchronized
  have hl := lv_entry ([.long p0, .ref (ad 35), .int p2]) (n := 7) (Nat.le_of_ble_eq_true rfl)
  rw [lg_entry_eq]
  generalize (lg_sl ([.long p0, .ref (ad 35), .int p2]) ++ List.replicate (7 - (lg_sl ([.long p0, .ref (ad 35), .int p2])).length) Slot.unset).toArray = ls at hl ⊢
  have hl : lv_has ls 7 [(0, .long p0), (2, .ref (ad 35)), (3, .int p2)] := hl
  rw [sX10_mixAll_35] at h
  refine lv_lload_n hx hb dX10_mixAll_0 rfl (lv_at hl 0 rfl) ?_
  refine lv_lstore (lv' := [(4, .long p0), (0, .long p0), (2, .ref (ad 35)), (3, .int p2)]) hx hb dX10_mixAll_1 hl (by decide) rfl (fun ls hl => ?_)
  refine lv_iconst (v := 0) hx hb dX10_mixAll_3 (by decide) ?_
  refine lv_istore (lv' := [(6, .int 0), (4, .long p0), (0, .long p0), (2, .ref (ad 35)), (3, .int p2)]) hx hb dX10_mixAll_4 hl (by decide) rfl (fun ls hl => ?_)
  refine ww_r (fun WW6 hWW6 => ?_)
  have Lh6 : ∀ (n : Nat) (v1 : Int64) (v2 : Int32) (z : (Int64)), lX10_mixAll_35_6 p2 S L n v1 v2 = some z → ∀ ls : Array Slot, lv_has ls 7 [(2, .ref (ad 35)), (3, .int p2), (4, .long v1), (6, .int v2)] → (∀ (y0 : Int64), z = y0 → ∀ ls : Array Slot, lv_has ls 7 [(4, .long y0)] → WW6  29 ls) → WW6  6 ls := by
    intro n
    induction n with
    | zero => intro v1 v2 z h ls hl K0; rw [lX10_mixAll_35_6] at h; cases h
    | succ n ih =>
      intro v1 v2 z h ls hl K0
      rw [lX10_mixAll_35_6] at h
      refine wi_r hWW6 ?_
      refine lv_iload hx hb dX10_mixAll_6 (lv_at hl 3 rfl) ?_
      refine lv_iload_n hx hb dX10_mixAll_8 rfl (lv_at hl 1 rfl) ?_
      refine lv_icmp_ge (tgt := 29) hx hb dX10_mixAll_9 (by decide) (fun c3 => ?_) (fun c3 => ?_)
      · replace h := it_t c3 h
        refine wu_r hWW6 ?_
        exact K0 v1 (Option.some.inj h).symm ls (lv_sub hl [2] rfl)
      · replace h := it_f c3 h
        refine lv_lload hx hb dX10_mixAll_12 (lv_at hl 2 rfl) ?_
        refine lv_aload_n hx hb dX10_mixAll_14 rfl (lv_at hl 0 rfl) ?_
        refine lv_iload hx hb dX10_mixAll_15 (lv_at hl 3 rfl) ?_
        obtain ⟨b4, h⟩ := ck_elim h
        refine va_iald hx hb hK hP 35 0 rfl rfl b4 dX10_mixAll_17 ?_
        obtain ⟨r6, k5, h⟩ := ob_elim h
        refine vp_callSl (W.runS (As := [.long v1, .int (S 35 v2.toNatClampNeg)]) (rest := []) ⟨hx, hb, hml, hown, hts⟩ (mX10_mix l v1 (S 35 v2.toNatClampNeg) k5) (va_cwS 2 hts gX10_mixAll_X10_mix rfl rfl rfl (by decide +kernel) ⟨Nat.le_of_ble_eq_true rfl, Nat.le_of_ble_eq_true rfl⟩) ⟨fun _ _ _ _ q => q, fun U hU hW => ⟨rfl, trivial⟩⟩ rfl rfl hl.1 rfl (lv_room (Nat.le_of_ble_eq_true rfl)) dX10_mixAll_18 ⟨Nat.zero_le _, Nat.zero_le _⟩) (fun r9 er9 => ?_)
        replace er9 := er9.symm
        subst er9
        refine lv_lstore (lv' := [(4, .long r6), (2, .ref (ad 35)), (3, .int p2), (6, .int v2)]) hx hb dX10_mixAll_21 hl (by decide) rfl (fun ls hl => ?_)
        obtain ⟨x7, ex7, h⟩ := bnd_elim h
        refine lv_iinc (v := x7) (lv' := [(6, .int x7), (4, .long r6), (2, .ref (ad 35)), (3, .int p2)]) hx hb dX10_mixAll_23 hl (k := 3) rfl (by rw [ex7]; rfl) (by decide) rfl (fun ls hl => ?_)
        refine lv_goto (tgt := 6) hx hb dX10_mixAll_26 (by decide) ?_
        refine wu_r hWW6 ?_
        exact ih r6 x7 z h ls (lv_sub hl [2, 3, 1, 0] rfl) K0
  obtain ⟨w9, k8, h⟩ := ob_elim h
  refine wu_r hWW6 ?_
  refine Lh6 FU p0 0 _ k8 ls (lv_sub hl [3, 4, 1, 0] rfl) ?_
  intro y0 hy ls hl
  cases hy
  refine wi_r hWW6 ?_
  refine lv_lload hx hb dX10_mixAll_29 (lv_at hl 0 rfl) ?_
  cases h
  exact W.lret hx hb hr (fun t ht hW => ⟨_, rfl, rfl, ht⟩) (fun q hq => absurd hq List.not_mem_nil) dX10_mixAll_31
set_option maxHeartbeats 4000000 in
set_option maxRecDepth 100000 in
theorem mX10_mixCase (l : Launch) (dC : Nat → ClassId) (dI : Nat → Nat → Nat) (cI cJ : ClassId) (ad : Nat → Nat) (p1 : Int64) (p2 : Int32) (S : Nat → Nat → Int32) (L : Nat → Nat → Int64) (sz : Nat) {z : Int64 × (Nat → Nat → Int32) × (Nat → Nat → Int64)} (h : sX10_mixCase p1 p2 S L = some z) : Met l yX10_mixCase wsX10_mixCase ({ frames := 3, cells := 0, slots := 0, locals := 71 }) (va_Pc [.ref (ad 0), .long p1, .int p2] (QXs sz dC dI cI cJ ad S L)) (va_Ql (fun (r : Int64) (u : (Nat → Nat → Int32) × (Nat → Nat → Int64)) => (r, u) = z) (fun (u : (Nat → Nat → Int32) × (Nat → Nat → Int64)) t => va_P (dC, dI) vwCl (wX cI cJ ad u.1 u.2) t.heap) (AX 43 ad sz)) 0 0 (AX 43 ad sz) := by
  refine Met.ofW (cc := cX10_mixCase) (maxL := 8) (ret := (some .long)) (by decide) rfl ?_
  intro p e s m args below meth c s₁ B hml hv
  obtain ⟨rfl, hsz, hP, hK, hD0⟩ := hv
  have hx := B.exec
  have hb := B.bytes
  have hr := B.returns
  have hts := atoms_spec (ws := wsX10_mixCase) B.pre
  have hown : s.vm.findClass RX10 = some m.cls := findClass_of_methodNamed B.named
  have hlocks := B.notSynchronized
  subst hsz
  have hD := wX_DA hD0 s.heap.size
  have hS : va_S (AX 43 ad s.heap.size) s.heap s.heap [] := va_S.rf
  have hl := lv_entry ([.ref (ad 0), .long p1, .int p2]) (n := 8) (Nat.le_of_ble_eq_true rfl)
  rw [lg_entry_eq]
  generalize (lg_sl ([.ref (ad 0), .long p1, .int p2]) ++ List.replicate (8 - (lg_sl ([.ref (ad 0), .long p1, .int p2])).length) Slot.unset).toArray = ls at hl ⊢
  have hl : lv_has ls 8 [(0, .ref (ad 0)), (1, .long p1), (3, .int p2)] := hl
  have hf12 := hts (.fieldLink RX10 12 "LawRings" "cases" "LLawRings$Cases;") (by decide +kernel)
  have hiX10 : ∀ w ∈ u_ws RX10 TX10 11, w ∈ wsX10_mixCase := by decide +kernel
  have hf289 := hts (.fieldLink RX10 289 "LawRings$Cases" "day" "[I") (by decide +kernel)
  have hiX2 : ∀ w ∈ u_ws RX2 TX2 6, w ∈ wsX10_mixCase := by decide +kernel
  have hf244 := hts (.fieldLink RX10 244 "LawRings$Cases" "kind" "[I") (by decide +kernel)
  have hf49 := hts (.fieldLink RX10 49 "LawRings" "hearing" "LLawRings$Hearing;") (by decide +kernel)
  have hf292 := hts (.fieldLink RX10 292 "LawRings$Hearing" "ties" "[I") (by decide +kernel)
  have hiX4 : ∀ w ∈ u_ws RX4 TX4 9, w ∈ wsX10_mixCase := by decide +kernel
  rw [sX10_mixCase] at h
  refine lv_lload_n hx hb dX10_mixCase_0 rfl (lv_at hl 1 rfl) ?_
  refine lv_aload_n hx hb dX10_mixCase_1 rfl (lv_at hl 0 rfl) ?_
  refine va_get (D := (dC, dI)) (ci := 10) (v := .ref (ad 1)) (C := RX10) (T := TX10) (N := 11) hx hb hts hiX10 hown hK hP 0 rfl rfl 0 (by decide) hf12 (fun _ h9 => h9) rfl dX10_mixCase_2 ?_
  refine va_get (D := (dC, dI)) (ci := 2) (v := .ref (ad 13)) (C := RX2) (T := TX2) (N := 6) hx hb hts hiX2 hown hK hP 1 rfl rfl 2 (by decide) hf289 (fun _ h9 => h9) rfl dX10_mixCase_5 ?_
  refine lv_iload_n hx hb dX10_mixCase_8 rfl (lv_at hl 2 rfl) ?_
  obtain ⟨b1, h⟩ := ck_elim h
  refine va_iald hx hb hK hP 13 0 rfl rfl b1 dX10_mixCase_9 ?_
  obtain ⟨r3, k2, h⟩ := ob_elim h
  refine vp_callSl (W.runS (As := [.long p1, .int (S 13 p2.toNatClampNeg)]) (rest := []) ⟨hx, hb, hml, hown, hts⟩ (mX10_mix l p1 (S 13 p2.toNatClampNeg) k2) (va_cwS 2 hts gX10_mixCase_X10_mix rfl rfl rfl (by decide +kernel) ⟨Nat.le_of_ble_eq_true rfl, Nat.le_of_ble_eq_true rfl⟩) ⟨fun _ _ _ _ q => q, fun U hU hW => ⟨rfl, trivial⟩⟩ rfl rfl hl.1 rfl (lv_room (Nat.le_of_ble_eq_true rfl)) dX10_mixCase_10 ⟨Nat.zero_le _, Nat.zero_le _⟩) (fun r9 er9 => ?_)
  replace er9 := er9.symm
  subst er9
  refine lv_aload_n hx hb dX10_mixCase_13 rfl (lv_at hl 0 rfl) ?_
  refine va_get (D := (dC, dI)) (ci := 10) (v := .ref (ad 1)) (C := RX10) (T := TX10) (N := 11) hx hb hts hiX10 hown hK hP 0 rfl rfl 0 (by decide) hf12 (fun _ h9 => h9) rfl dX10_mixCase_14 ?_
  refine va_get (D := (dC, dI)) (ci := 2) (v := .ref (ad 14)) (C := RX2) (T := TX2) (N := 6) hx hb hts hiX2 hown hK hP 1 rfl rfl 3 (by decide) hf244 (fun _ h9 => h9) rfl dX10_mixCase_17 ?_
  refine lv_iload_n hx hb dX10_mixCase_20 rfl (lv_at hl 2 rfl) ?_
  obtain ⟨b4, h⟩ := ck_elim h
  refine va_iald hx hb hK hP 14 0 rfl rfl b4 dX10_mixCase_21 ?_
  obtain ⟨r6, k5, h⟩ := ob_elim h
  refine vp_callSl (W.runS (As := [.long r3, .int (S 14 p2.toNatClampNeg)]) (rest := []) ⟨hx, hb, hml, hown, hts⟩ (mX10_mix l r3 (S 14 p2.toNatClampNeg) k5) (va_cwS 2 hts gX10_mixCase_X10_mix rfl rfl rfl (by decide +kernel) ⟨Nat.le_of_ble_eq_true rfl, Nat.le_of_ble_eq_true rfl⟩) ⟨fun _ _ _ _ q => q, fun U hU hW => ⟨rfl, trivial⟩⟩ rfl rfl hl.1 rfl (lv_room (Nat.le_of_ble_eq_true rfl)) dX10_mixCase_22 ⟨Nat.zero_le _, Nat.zero_le _⟩) (fun r9 er9 => ?_)
  replace er9 := er9.symm
  subst er9
  refine lv_lstore (lv' := [(4, .long r6), (0, .ref (ad 0)), (1, .long p1), (3, .int p2)]) hx hb dX10_mixCase_25 hl (by decide) rfl (fun ls hl => ?_)
  refine lv_aload_n hx hb dX10_mixCase_27 rfl (lv_at hl 1 rfl) ?_
  refine va_get (D := (dC, dI)) (ci := 10) (v := .ref (ad 6)) (C := RX10) (T := TX10) (N := 11) hx hb hts hiX10 hown hK hP 0 rfl rfl 5 (by decide) hf49 (fun _ h9 => h9) rfl dX10_mixCase_28 ?_
  refine lv_aload_n hx hb dX10_mixCase_31 rfl (lv_at hl 1 rfl) ?_
  refine va_get (D := (dC, dI)) (ci := 10) (v := .ref (ad 1)) (C := RX10) (T := TX10) (N := 11) hx hb hts hiX10 hown hK hP 0 rfl rfl 0 (by decide) hf12 (fun _ h9 => h9) rfl dX10_mixCase_32 ?_
  refine lv_iload_n hx hb dX10_mixCase_35 rfl (lv_at hl 3 rfl) ?_
  obtain ⟨S8, L9, k7, h⟩ := ob2_elim h
  refine va_callv (va_runV (As := [.ref (ad 1), .int p2]) (rest := []) ⟨hx, hb, hml, hown, hts⟩ (mX4_open l dC dI cI cJ ad p2 S L s.heap.size k7) (cwV 2 hts gX10_mixCase_X4_open rfl rfl rfl (by decide +kernel) ⟨Nat.le_of_ble_eq_true rfl, Nat.le_of_ble_eq_true rfl⟩) ⟨QXs_blind, va_recv hK hP (ci := 4) (q0 := 6) rfl rfl, fun U hU hW => ⟨rfl, congrArg Array.size hU, QX_at hP hK hD hU hW⟩⟩ rfl rfl hl.1 rfl (lv_room (Nat.le_of_ble_eq_true rfl)) dX10_mixCase_36 ⟨Nat.zero_le _, Nat.zero_le _⟩) hS (fun q _ hq => AX_mono hS.1 hq) (fun q hq => AX_mono hS.1 hq) (fun u t H1 locs ht hvm hw hB hz1 hk1 hS => ?_)
  cases hw
  rw [ht] at hB
  have hP := hB
  clear hB hk1 hz1
  generalize H1 = H at hP hS ⊢
  have hD := wX_D hD S8 L9
  refine lv_lload hx hb dX10_mixCase_39 (lv_at hl 0 rfl) ?_
  refine lv_aload_n hx hb dX10_mixCase_41 rfl (lv_at hl 1 rfl) ?_
  refine va_get (D := (dC, dI)) (ci := 10) (v := .ref (ad 6)) (C := RX10) (T := TX10) (N := 11) hx hb hts hiX10 hown hK hP 0 rfl rfl 5 (by decide) hf49 (fun _ h9 => h9) rfl dX10_mixCase_42 ?_
  refine va_get (D := (dC, dI)) (ci := 4) (v := .ref (ad 35)) (C := RX4) (T := TX4) (N := 9) hx hb hts hiX4 hown hK hP 6 rfl rfl 3 (by decide) hf292 (fun _ h9 => h9) rfl dX10_mixCase_45 ?_
  refine lv_bipush (v := 6) hx hb dX10_mixCase_48 (by decide) ?_
  obtain ⟨r11, k10, h⟩ := ob_elim h
  refine vp_callSl (W.runS (As := [.long r6, .ref (ad 35), .int 6]) (rest := []) ⟨hx, hb, hml, hown, hts⟩ (mX10_mixAll_35 l dC dI cI cJ ad r6 6 S8 L9 k10) (va_cwS 3 hts gX10_mixCase_X10_mixAll rfl rfl rfl (by decide +kernel) ⟨Nat.le_of_ble_eq_true rfl, Nat.le_of_ble_eq_true rfl⟩) ⟨QX_blind, fun U hU hW => ⟨rfl, QX_at hP hK hD hU hW⟩⟩ rfl rfl hl.1 rfl (lv_room (Nat.le_of_ble_eq_true rfl)) dX10_mixCase_50 ⟨Nat.zero_le _, Nat.zero_le _⟩) (fun r9 er9 => ?_)
  replace er9 := er9.symm
  subst er9
  refine lv_lstore (lv' := [(4, .long r11), (0, .ref (ad 0)), (1, .long p1), (3, .int p2)]) hx hb dX10_mixCase_53 hl (by decide) rfl (fun ls hl => ?_)
  refine lv_iconst (v := 0) hx hb dX10_mixCase_55 (by decide) ?_
  refine lv_istore (lv' := [(6, .int 0), (4, .long r11), (0, .ref (ad 0)), (1, .long p1), (3, .int p2)]) hx hb dX10_mixCase_56 hl (by decide) rfl (fun ls hl => ?_)
  refine ww_w (fun WW58 hWW58 => ?_)
  have Lh58 : ∀ (n : Nat) (v12 : Int64) (v13 : Int32) (S14 : (Nat → Nat → Int32)) (L15 : (Nat → Nat → Int64)) (z : (Int64 × (Nat → Nat → Int32) × (Nat → Nat → Int64))), lX10_mixCase_58 n v12 v13 S14 L15 = some z → ∀ (H : Heap) (locs : List Loc), va_P (dC, dI) vwCl (wX cI cJ ad S14 L15) H → va_S (AX 43 ad s.heap.size) s.heap H locs → ∀ ls : Array Slot, lv_has ls 8 [(0, .ref (ad 0)), (4, .long v12), (6, .int v13)] → (∀ (y0 : Int64) (YS : (Nat → Nat → Int32)) (YL : (Nat → Nat → Int64)), z = (y0, YS, YL) → ∀ (H : Heap) (locs : List Loc), va_P (dC, dI) vwCl (wX cI cJ ad YS YL) H → va_S (AX 43 ad s.heap.size) s.heap H locs → ∀ ls : Array Slot, lv_has ls 8 [(4, .long y0)] → WW58 H locs 110 ls) → WW58 H locs 58 ls := by
    intro n
    induction n with
    | zero => intro v12 v13 S14 L15 z h H locs hP hS ls hl K0; rw [lX10_mixCase_58] at h; cases h
    | succ n ih =>
      intro v12 v13 S14 L15 z h H locs hP hS ls hl K0
      have hD := wX_D hD S14 L15
      rw [lX10_mixCase_58] at h
      refine wi_w hWW58 ?_
      refine lv_iload hx hb dX10_mixCase_58 (lv_at hl 2 rfl) ?_
      refine lv_iconst (v := 3) hx hb dX10_mixCase_60 (by decide) ?_
      refine lv_icmp_ge (tgt := 110) hx hb dX10_mixCase_61 (by decide) (fun c16 => ?_) (fun c16 => ?_)
      · replace h := it_t c16 h
        refine wu_w hWW58 ?_
        exact K0 v12 S14 L15 (Option.some.inj h).symm H locs hP hS ls (lv_sub hl [1] rfl)
      · replace h := it_f c16 h
        refine lv_aload_n hx hb dX10_mixCase_64 rfl (lv_at hl 0 rfl) ?_
        refine va_get (D := (dC, dI)) (ci := 10) (v := .ref (ad 6)) (C := RX10) (T := TX10) (N := 11) hx hb hts hiX10 hown hK hP 0 rfl rfl 5 (by decide) hf49 (fun _ h9 => h9) rfl dX10_mixCase_65 ?_
        refine lv_iload hx hb dX10_mixCase_68 (lv_at hl 2 rfl) ?_
        obtain ⟨S18, L19, k17, h⟩ := ob2_elim h
        refine va_callv (va_runV (As := [.int v13]) (rest := []) ⟨hx, hb, hml, hown, hts⟩ (mX4_readBooks l dC dI cI cJ ad v13 S14 L15 H.size k17) (cwV 1 hts gX10_mixCase_X4_readBooks rfl rfl rfl (by decide +kernel) ⟨Nat.le_of_ble_eq_true rfl, Nat.le_of_ble_eq_true rfl⟩) ⟨QXs_blind, va_recv hK hP (ci := 4) (q0 := 6) rfl rfl, fun U hU hW => ⟨rfl, congrArg Array.size hU, QX_at hP hK hD hU hW⟩⟩ rfl rfl hl.1 rfl (lv_room (Nat.le_of_ble_eq_true rfl)) dX10_mixCase_70 ⟨Nat.zero_le _, Nat.zero_le _⟩) hS (fun q _ hq => AX_mono hS.1 hq) (fun q hq => AX_mono hS.1 hq) (fun u t H1 locs ht hvm hw hB hz1 hk1 hS => ?_)
        cases hw
        rw [ht] at hB
        have hP := hB
        clear hB hk1 hz1
        generalize H1 = H at hP hS ⊢
        have hD := wX_D hD S18 L19
        refine lv_iconst (v := 0) hx hb dX10_mixCase_73 (by decide) ?_
        refine lv_istore (lv' := [(7, .int 0), (0, .ref (ad 0)), (4, .long v12), (6, .int v13)]) hx hb dX10_mixCase_74 hl (by decide) rfl (fun ls hl => ?_)
        refine ww_w (fun WW76 hWW76 => ?_)
        have Lh76 : ∀ (n : Nat) (v20 : Int64) (v21 : Int32) (S22 : (Nat → Nat → Int32)) (L23 : (Nat → Nat → Int64)) (z : (Int64 × (Nat → Nat → Int32) × (Nat → Nat → Int64))), lX10_mixCase_76 v13 n v20 v21 S22 L23 = some z → ∀ (H : Heap) (locs : List Loc), va_P (dC, dI) vwCl (wX cI cJ ad S22 L23) H → va_S (AX 43 ad s.heap.size) s.heap H locs → ∀ ls : Array Slot, lv_has ls 8 [(0, .ref (ad 0)), (4, .long v20), (6, .int v13), (7, .int v21)] → (∀ (y0 : Int64) (YS : (Nat → Nat → Int32)) (YL : (Nat → Nat → Int64)), z = (y0, YS, YL) → ∀ (H : Heap) (locs : List Loc), va_P (dC, dI) vwCl (wX cI cJ ad YS YL) H → va_S (AX 43 ad s.heap.size) s.heap H locs → ∀ ls : Array Slot, lv_has ls 8 [(0, .ref (ad 0)), (4, .long y0), (6, .int v13)] → WW76 H locs 104 ls) → WW76 H locs 76 ls := by
          intro n
          induction n with
          | zero => intro v20 v21 S22 L23 z h H locs hP hS ls hl K0; rw [lX10_mixCase_76] at h; cases h
          | succ n ih =>
            intro v20 v21 S22 L23 z h H locs hP hS ls hl K0
            have hD := wX_D hD S22 L23
            rw [lX10_mixCase_76] at h
            refine wi_w hWW76 ?_
            refine lv_iload hx hb dX10_mixCase_76 (lv_at hl 3 rfl) ?_
            refine lv_iconst (v := 4) hx hb dX10_mixCase_78 (by decide) ?_
            refine lv_icmp_ge (tgt := 104) hx hb dX10_mixCase_79 (by decide) (fun c24 => ?_) (fun c24 => ?_)
            · replace h := it_t c24 h
              refine wu_w hWW76 ?_
              exact K0 v20 S22 L23 (Option.some.inj h).symm H locs hP hS ls (lv_sub hl [0, 1, 2] rfl)
            · replace h := it_f c24 h
              refine lv_lload hx hb dX10_mixCase_82 (lv_at hl 1 rfl) ?_
              refine lv_aload_n hx hb dX10_mixCase_84 rfl (lv_at hl 0 rfl) ?_
              refine va_get (D := (dC, dI)) (ci := 10) (v := .ref (ad 6)) (C := RX10) (T := TX10) (N := 11) hx hb hts hiX10 hown hK hP 0 rfl rfl 5 (by decide) hf49 (fun _ h9 => h9) rfl dX10_mixCase_85 ?_
              refine lv_iload hx hb dX10_mixCase_88 (lv_at hl 3 rfl) ?_
              obtain ⟨r28, S26, L27, k25, h⟩ := ob3_elim h
              refine va_calli (va_runV (As := [.int v21]) (rest := [.long v20]) ⟨hx, hb, hml, hown, hts⟩ (mX4_outcome l dC dI cI cJ ad v21 S22 L23 H.size k25) (cwV 1 hts gX10_mixCase_X4_outcome rfl rfl rfl (by decide +kernel) ⟨Nat.le_of_ble_eq_true rfl, Nat.le_of_ble_eq_true rfl⟩) ⟨QXs_blind, va_recv hK hP (ci := 4) (q0 := 6) rfl rfl, fun U hU hW => ⟨rfl, congrArg Array.size hU, QX_at hP hK hD hU hW⟩⟩ rfl rfl hl.1 rfl (lv_room (Nat.le_of_ble_eq_true rfl)) dX10_mixCase_90 ⟨Nat.zero_le _, Nat.zero_le _⟩) hS (fun q _ hq => AX_mono hS.1 hq) (fun q hq => AX_mono hS.1 hq) (fun r u t H1 locs ht hvm hw hB hz1 hk1 hS => ?_)
              cases hw
              rw [ht] at hB
              have hP := hB
              clear hB hk1 hz1
              generalize H1 = H at hP hS ⊢
              have hD := wX_D hD S26 L27
              obtain ⟨r30, k29, h⟩ := ob_elim h
              refine vp_callSl (W.runS (As := [.long v20, .int r28]) (rest := []) ⟨hx, hb, hml, hown, hts⟩ (mX10_mix l v20 r28 k29) (va_cwS 2 hts gX10_mixCase_X10_mix rfl rfl rfl (by decide +kernel) ⟨Nat.le_of_ble_eq_true rfl, Nat.le_of_ble_eq_true rfl⟩) ⟨fun _ _ _ _ q => q, fun U hU hW => ⟨rfl, trivial⟩⟩ rfl rfl hl.1 rfl (lv_room (Nat.le_of_ble_eq_true rfl)) dX10_mixCase_93 ⟨Nat.zero_le _, Nat.zero_le _⟩) (fun r9 er9 => ?_)
              replace er9 := er9.symm
              subst er9
              refine lv_lstore (lv' := [(4, .long r30), (0, .ref (ad 0)), (6, .int v13), (7, .int v21)]) hx hb dX10_mixCase_96 hl (by decide) rfl (fun ls hl => ?_)
              obtain ⟨x31, ex31, h⟩ := bnd_elim h
              refine lv_iinc (v := x31) (lv' := [(7, .int x31), (4, .long r30), (0, .ref (ad 0)), (6, .int v13)]) hx hb dX10_mixCase_98 hl (k := 3) rfl (by rw [ex31]; rfl) (by decide) rfl (fun ls hl => ?_)
              refine lv_goto (tgt := 76) hx hb dX10_mixCase_101 (by decide) ?_
              refine wu_w hWW76 ?_
              exact ih r30 x31 S26 L27 z h H locs hP hS ls (lv_sub hl [2, 1, 3, 0] rfl) K0
        obtain ⟨w33, S34, L35, k32, h⟩ := ob3_elim h
        refine wu_w hWW76 ?_
        refine Lh76 FU v12 0 S18 L19 _ k32 H locs hP hS ls (lv_sub hl [1, 2, 3, 0] rfl) ?_
        intro y0 y1 y2 hy H locs hP hS ls hl
        cases hy
        have hD := wX_D hD S34 L35
        refine wi_w hWW76 ?_
        obtain ⟨x36, ex36, h⟩ := bnd_elim h
        refine lv_iinc (v := x36) (lv' := [(6, .int x36), (0, .ref (ad 0)), (4, .long w33)]) hx hb dX10_mixCase_104 hl (k := 2) rfl (by rw [ex36]; rfl) (by decide) rfl (fun ls hl => ?_)
        refine lv_goto (tgt := 58) hx hb dX10_mixCase_107 (by decide) ?_
        refine wu_w hWW58 ?_
        exact ih w33 x36 S34 L35 z h H locs hP hS ls (lv_sub hl [1, 2, 0] rfl) K0
  obtain ⟨w38, S39, L40, k37, h⟩ := ob3_elim h
  refine wu_w hWW58 ?_
  refine Lh58 FU r11 0 S8 L9 _ k37 H locs hP hS ls (lv_sub hl [2, 1, 0] rfl) ?_
  intro y0 y1 y2 hy H locs hP hS ls hl
  cases hy
  have hD := wX_D hD S39 L40
  refine wi_w hWW58 ?_
  refine lv_lload hx hb dX10_mixCase_110 (lv_at hl 0 rfl) ?_
  cases h
  exact W.lret hx hb hr (fun t ht hW => ⟨⟨_, _, rfl, rfl, by show va_P _ _ _ t.heap; rw [ht]; exact hP⟩, hS.F ht⟩) hS.2.2 dX10_mixCase_112
set_option maxHeartbeats 4000000 in
set_option maxRecDepth 100000 in
theorem mX10_mixRule (l : Launch) (dC : Nat → ClassId) (dI : Nat → Nat → Nat) (cI cJ : ClassId) (ad : Nat → Nat) (p1 : Int64) (p2 : Int32) (S : Nat → Nat → Int32) (L : Nat → Nat → Int64) {z : Int64} (h : sX10_mixRule p1 p2 S L = some z) : Met l yX10_mixRule wsX10_mixRule ({ frames := 1, cells := 0, slots := 0, locals := 22 }) (va_Pc [.ref (ad 0), .long p1, .int p2] (QX dC dI cI cJ ad S L)) (vp_Sl (fun r => r = z)) 0 0 (fun _ => False) := by
  refine Met.ofW (cc := cX10_mixRule) (maxL := 8) (ret := (some .long)) (by decide) rfl ?_
  intro p e s m args below meth c s₁ B hml hv
  obtain ⟨rfl, hP, hK, hD⟩ := hv
  have hx := B.exec
  have hb := B.bytes
  have hr := B.returns
  have hts := atoms_spec (ws := wsX10_mixRule) B.pre
  have hown : s.vm.findClass RX10 = some m.cls := findClass_of_methodNamed B.named
  have hlocks := B.notSynchronized
  have hl := lv_entry ([.ref (ad 0), .long p1, .int p2]) (n := 8) (Nat.le_of_ble_eq_true rfl)
  rw [lg_entry_eq]
  generalize (lg_sl ([.ref (ad 0), .long p1, .int p2]) ++ List.replicate (8 - (lg_sl ([.ref (ad 0), .long p1, .int p2])).length) Slot.unset).toArray = ls at hl ⊢
  have hl : lv_has ls 8 [(0, .ref (ad 0)), (1, .long p1), (3, .int p2)] := hl
  have hf19 := hts (.fieldLink RX10 19 "LawRings" "rules" "LLawRings$Rules;") (by decide +kernel)
  have hiX10 : ∀ w ∈ u_ws RX10 TX10 11, w ∈ wsX10_mixRule := by decide +kernel
  have hf298 := hts (.fieldLink RX10 298 "LawRings$Rules" "land" "[I") (by decide +kernel)
  have hiX6 : ∀ w ∈ u_ws RX6 TX6 13, w ∈ wsX10_mixRule := by decide +kernel
  have hf301 := hts (.fieldLink RX10 301 "LawRings$Rules" "kind" "[I") (by decide +kernel)
  have hf302 := hts (.fieldLink RX10 302 "LawRings$Rules" "end" "[I") (by decide +kernel)
  have hf303 := hts (.fieldLink RX10 303 "LawRings$Rules" "whom" "[I") (by decide +kernel)
  have hf306 := hts (.fieldLink RX10 306 "LawRings$Rules" "from" "[I") (by decide +kernel)
  have hf144 := hts (.fieldLink RX10 144 "LawRings$Rules" "struck" "[I") (by decide +kernel)
  have hf136 := hts (.fieldLink RX10 136 "LawRings$Rules" "tests" "[I") (by decide +kernel)
  have hf309 := hts (.fieldLink RX10 309 "LawRings$Rules" "tie" "[I") (by decide +kernel)
  have hf312 := hts (.fieldLink RX10 312 "LawRings$Rules" "what" "[I") (by decide +kernel)
  rw [sX10_mixRule] at h
  refine lv_lload_n hx hb dX10_mixRule_0 rfl (lv_at hl 1 rfl) ?_
  refine lv_aload_n hx hb dX10_mixRule_1 rfl (lv_at hl 0 rfl) ?_
  refine va_get (D := (dC, dI)) (ci := 10) (v := .ref (ad 2)) (C := RX10) (T := TX10) (N := 11) hx hb hts hiX10 hown hK hP 0 rfl rfl 1 (by decide) hf19 (fun _ h9 => h9) rfl dX10_mixRule_2 ?_
  refine va_get (D := (dC, dI)) (ci := 6) (v := .ref (ad 17)) (C := RX6) (T := TX6) (N := 13) hx hb hts hiX6 hown hK hP 2 rfl rfl 1 (by decide) hf298 (fun _ h9 => h9) rfl dX10_mixRule_5 ?_
  refine lv_iload_n hx hb dX10_mixRule_8 rfl (lv_at hl 2 rfl) ?_
  obtain ⟨b1, h⟩ := ck_elim h
  refine va_iald hx hb hK hP 17 0 rfl rfl b1 dX10_mixRule_9 ?_
  obtain ⟨r3, k2, h⟩ := ob_elim h
  refine vp_callSl (W.runS (As := [.long p1, .int (S 17 p2.toNatClampNeg)]) (rest := []) ⟨hx, hb, hml, hown, hts⟩ (mX10_mix l p1 (S 17 p2.toNatClampNeg) k2) (va_cwS 2 hts gX10_mixRule_X10_mix rfl rfl rfl (by decide +kernel) ⟨Nat.le_of_ble_eq_true rfl, Nat.le_of_ble_eq_true rfl⟩) ⟨fun _ _ _ _ q => q, fun U hU hW => ⟨rfl, trivial⟩⟩ rfl rfl hl.1 rfl (lv_room (Nat.le_of_ble_eq_true rfl)) dX10_mixRule_10 ⟨Nat.zero_le _, Nat.zero_le _⟩) (fun r9 er9 => ?_)
  replace er9 := er9.symm
  subst er9
  refine lv_aload_n hx hb dX10_mixRule_13 rfl (lv_at hl 0 rfl) ?_
  refine va_get (D := (dC, dI)) (ci := 10) (v := .ref (ad 2)) (C := RX10) (T := TX10) (N := 11) hx hb hts hiX10 hown hK hP 0 rfl rfl 1 (by decide) hf19 (fun _ h9 => h9) rfl dX10_mixRule_14 ?_
  refine va_get (D := (dC, dI)) (ci := 6) (v := .ref (ad 18)) (C := RX6) (T := TX6) (N := 13) hx hb hts hiX6 hown hK hP 2 rfl rfl 2 (by decide) hf301 (fun _ h9 => h9) rfl dX10_mixRule_17 ?_
  refine lv_iload_n hx hb dX10_mixRule_20 rfl (lv_at hl 2 rfl) ?_
  obtain ⟨b4, h⟩ := ck_elim h
  refine va_iald hx hb hK hP 18 0 rfl rfl b4 dX10_mixRule_21 ?_
  obtain ⟨r6, k5, h⟩ := ob_elim h
  refine vp_callSl (W.runS (As := [.long r3, .int (S 18 p2.toNatClampNeg)]) (rest := []) ⟨hx, hb, hml, hown, hts⟩ (mX10_mix l r3 (S 18 p2.toNatClampNeg) k5) (va_cwS 2 hts gX10_mixRule_X10_mix rfl rfl rfl (by decide +kernel) ⟨Nat.le_of_ble_eq_true rfl, Nat.le_of_ble_eq_true rfl⟩) ⟨fun _ _ _ _ q => q, fun U hU hW => ⟨rfl, trivial⟩⟩ rfl rfl hl.1 rfl (lv_room (Nat.le_of_ble_eq_true rfl)) dX10_mixRule_22 ⟨Nat.zero_le _, Nat.zero_le _⟩) (fun r9 er9 => ?_)
  replace er9 := er9.symm
  subst er9
  refine lv_lstore (lv' := [(4, .long r6), (0, .ref (ad 0)), (1, .long p1), (3, .int p2)]) hx hb dX10_mixRule_25 hl (by decide) rfl (fun ls hl => ?_)
  refine lv_lload hx hb dX10_mixRule_27 (lv_at hl 0 rfl) ?_
  refine lv_aload_n hx hb dX10_mixRule_29 rfl (lv_at hl 1 rfl) ?_
  refine va_get (D := (dC, dI)) (ci := 10) (v := .ref (ad 2)) (C := RX10) (T := TX10) (N := 11) hx hb hts hiX10 hown hK hP 0 rfl rfl 1 (by decide) hf19 (fun _ h9 => h9) rfl dX10_mixRule_30 ?_
  refine va_get (D := (dC, dI)) (ci := 6) (v := .ref (ad 19)) (C := RX6) (T := TX6) (N := 13) hx hb hts hiX6 hown hK hP 2 rfl rfl 3 (by decide) hf302 (fun _ h9 => h9) rfl dX10_mixRule_33 ?_
  refine lv_iload_n hx hb dX10_mixRule_36 rfl (lv_at hl 3 rfl) ?_
  obtain ⟨b7, h⟩ := ck_elim h
  refine va_iald hx hb hK hP 19 0 rfl rfl b7 dX10_mixRule_37 ?_
  obtain ⟨r9, k8, h⟩ := ob_elim h
  refine vp_callSl (W.runS (As := [.long r6, .int (S 19 p2.toNatClampNeg)]) (rest := []) ⟨hx, hb, hml, hown, hts⟩ (mX10_mix l r6 (S 19 p2.toNatClampNeg) k8) (va_cwS 2 hts gX10_mixRule_X10_mix rfl rfl rfl (by decide +kernel) ⟨Nat.le_of_ble_eq_true rfl, Nat.le_of_ble_eq_true rfl⟩) ⟨fun _ _ _ _ q => q, fun U hU hW => ⟨rfl, trivial⟩⟩ rfl rfl hl.1 rfl (lv_room (Nat.le_of_ble_eq_true rfl)) dX10_mixRule_38 ⟨Nat.zero_le _, Nat.zero_le _⟩) (fun r9 er9 => ?_)
  replace er9 := er9.symm
  subst er9
  refine lv_aload_n hx hb dX10_mixRule_41 rfl (lv_at hl 1 rfl) ?_
  refine va_get (D := (dC, dI)) (ci := 10) (v := .ref (ad 2)) (C := RX10) (T := TX10) (N := 11) hx hb hts hiX10 hown hK hP 0 rfl rfl 1 (by decide) hf19 (fun _ h9 => h9) rfl dX10_mixRule_42 ?_
  refine va_get (D := (dC, dI)) (ci := 6) (v := .ref (ad 20)) (C := RX6) (T := TX6) (N := 13) hx hb hts hiX6 hown hK hP 2 rfl rfl 4 (by decide) hf303 (fun _ h9 => h9) rfl dX10_mixRule_45 ?_
  refine lv_iload_n hx hb dX10_mixRule_48 rfl (lv_at hl 3 rfl) ?_
  obtain ⟨b10, h⟩ := ck_elim h
  refine va_iald hx hb hK hP 20 0 rfl rfl b10 dX10_mixRule_49 ?_
  obtain ⟨r12, k11, h⟩ := ob_elim h
  refine vp_callSl (W.runS (As := [.long r9, .int (S 20 p2.toNatClampNeg)]) (rest := []) ⟨hx, hb, hml, hown, hts⟩ (mX10_mix l r9 (S 20 p2.toNatClampNeg) k11) (va_cwS 2 hts gX10_mixRule_X10_mix rfl rfl rfl (by decide +kernel) ⟨Nat.le_of_ble_eq_true rfl, Nat.le_of_ble_eq_true rfl⟩) ⟨fun _ _ _ _ q => q, fun U hU hW => ⟨rfl, trivial⟩⟩ rfl rfl hl.1 rfl (lv_room (Nat.le_of_ble_eq_true rfl)) dX10_mixRule_50 ⟨Nat.zero_le _, Nat.zero_le _⟩) (fun r9 er9 => ?_)
  replace er9 := er9.symm
  subst er9
  refine lv_lstore (lv' := [(4, .long r12), (0, .ref (ad 0)), (1, .long p1), (3, .int p2)]) hx hb dX10_mixRule_53 hl (by decide) rfl (fun ls hl => ?_)
  refine lv_lload hx hb dX10_mixRule_55 (lv_at hl 0 rfl) ?_
  refine lv_aload_n hx hb dX10_mixRule_57 rfl (lv_at hl 1 rfl) ?_
  refine va_get (D := (dC, dI)) (ci := 10) (v := .ref (ad 2)) (C := RX10) (T := TX10) (N := 11) hx hb hts hiX10 hown hK hP 0 rfl rfl 1 (by decide) hf19 (fun _ h9 => h9) rfl dX10_mixRule_58 ?_
  refine va_get (D := (dC, dI)) (ci := 6) (v := .ref (ad 21)) (C := RX6) (T := TX6) (N := 13) hx hb hts hiX6 hown hK hP 2 rfl rfl 5 (by decide) hf306 (fun _ h9 => h9) rfl dX10_mixRule_61 ?_
  refine lv_iload_n hx hb dX10_mixRule_64 rfl (lv_at hl 3 rfl) ?_
  obtain ⟨b13, h⟩ := ck_elim h
  refine va_iald hx hb hK hP 21 0 rfl rfl b13 dX10_mixRule_65 ?_
  obtain ⟨r15, k14, h⟩ := ob_elim h
  refine vp_callSl (W.runS (As := [.long r12, .int (S 21 p2.toNatClampNeg)]) (rest := []) ⟨hx, hb, hml, hown, hts⟩ (mX10_mix l r12 (S 21 p2.toNatClampNeg) k14) (va_cwS 2 hts gX10_mixRule_X10_mix rfl rfl rfl (by decide +kernel) ⟨Nat.le_of_ble_eq_true rfl, Nat.le_of_ble_eq_true rfl⟩) ⟨fun _ _ _ _ q => q, fun U hU hW => ⟨rfl, trivial⟩⟩ rfl rfl hl.1 rfl (lv_room (Nat.le_of_ble_eq_true rfl)) dX10_mixRule_66 ⟨Nat.zero_le _, Nat.zero_le _⟩) (fun r9 er9 => ?_)
  replace er9 := er9.symm
  subst er9
  refine lv_aload_n hx hb dX10_mixRule_69 rfl (lv_at hl 1 rfl) ?_
  refine va_get (D := (dC, dI)) (ci := 10) (v := .ref (ad 2)) (C := RX10) (T := TX10) (N := 11) hx hb hts hiX10 hown hK hP 0 rfl rfl 1 (by decide) hf19 (fun _ h9 => h9) rfl dX10_mixRule_70 ?_
  refine va_get (D := (dC, dI)) (ci := 6) (v := .ref (ad 22)) (C := RX6) (T := TX6) (N := 13) hx hb hts hiX6 hown hK hP 2 rfl rfl 6 (by decide) hf144 (fun _ h9 => h9) rfl dX10_mixRule_73 ?_
  refine lv_iload_n hx hb dX10_mixRule_76 rfl (lv_at hl 3 rfl) ?_
  obtain ⟨b16, h⟩ := ck_elim h
  refine va_iald hx hb hK hP 22 0 rfl rfl b16 dX10_mixRule_77 ?_
  obtain ⟨r18, k17, h⟩ := ob_elim h
  refine vp_callSl (W.runS (As := [.long r15, .int (S 22 p2.toNatClampNeg)]) (rest := []) ⟨hx, hb, hml, hown, hts⟩ (mX10_mix l r15 (S 22 p2.toNatClampNeg) k17) (va_cwS 2 hts gX10_mixRule_X10_mix rfl rfl rfl (by decide +kernel) ⟨Nat.le_of_ble_eq_true rfl, Nat.le_of_ble_eq_true rfl⟩) ⟨fun _ _ _ _ q => q, fun U hU hW => ⟨rfl, trivial⟩⟩ rfl rfl hl.1 rfl (lv_room (Nat.le_of_ble_eq_true rfl)) dX10_mixRule_78 ⟨Nat.zero_le _, Nat.zero_le _⟩) (fun r9 er9 => ?_)
  replace er9 := er9.symm
  subst er9
  refine lv_lstore (lv' := [(4, .long r18), (0, .ref (ad 0)), (1, .long p1), (3, .int p2)]) hx hb dX10_mixRule_81 hl (by decide) rfl (fun ls hl => ?_)
  refine lv_lload hx hb dX10_mixRule_83 (lv_at hl 0 rfl) ?_
  refine lv_aload_n hx hb dX10_mixRule_85 rfl (lv_at hl 1 rfl) ?_
  refine va_get (D := (dC, dI)) (ci := 10) (v := .ref (ad 2)) (C := RX10) (T := TX10) (N := 11) hx hb hts hiX10 hown hK hP 0 rfl rfl 1 (by decide) hf19 (fun _ h9 => h9) rfl dX10_mixRule_86 ?_
  refine va_get (D := (dC, dI)) (ci := 6) (v := .ref (ad 23)) (C := RX6) (T := TX6) (N := 13) hx hb hts hiX6 hown hK hP 2 rfl rfl 7 (by decide) hf136 (fun _ h9 => h9) rfl dX10_mixRule_89 ?_
  refine lv_iload_n hx hb dX10_mixRule_92 rfl (lv_at hl 3 rfl) ?_
  obtain ⟨b19, h⟩ := ck_elim h
  refine va_iald hx hb hK hP 23 0 rfl rfl b19 dX10_mixRule_93 ?_
  obtain ⟨r21, k20, h⟩ := ob_elim h
  refine vp_callSl (W.runS (As := [.long r18, .int (S 23 p2.toNatClampNeg)]) (rest := []) ⟨hx, hb, hml, hown, hts⟩ (mX10_mix l r18 (S 23 p2.toNatClampNeg) k20) (va_cwS 2 hts gX10_mixRule_X10_mix rfl rfl rfl (by decide +kernel) ⟨Nat.le_of_ble_eq_true rfl, Nat.le_of_ble_eq_true rfl⟩) ⟨fun _ _ _ _ q => q, fun U hU hW => ⟨rfl, trivial⟩⟩ rfl rfl hl.1 rfl (lv_room (Nat.le_of_ble_eq_true rfl)) dX10_mixRule_94 ⟨Nat.zero_le _, Nat.zero_le _⟩) (fun r9 er9 => ?_)
  replace er9 := er9.symm
  subst er9
  refine lv_lstore (lv' := [(4, .long r21), (0, .ref (ad 0)), (1, .long p1), (3, .int p2)]) hx hb dX10_mixRule_97 hl (by decide) rfl (fun ls hl => ?_)
  refine lv_iconst (v := 0) hx hb dX10_mixRule_99 (by decide) ?_
  refine lv_istore (lv' := [(6, .int 0), (4, .long r21), (0, .ref (ad 0)), (1, .long p1), (3, .int p2)]) hx hb dX10_mixRule_100 hl (by decide) rfl (fun ls hl => ?_)
  refine ww_r (fun WW102 hWW102 => ?_)
  have Lh102 : ∀ (n : Nat) (v22 : Int64) (v23 : Int32) (z : (Int64)), lX10_mixRule_102 p2 S L n v22 v23 = some z → ∀ ls : Array Slot, lv_has ls 8 [(0, .ref (ad 0)), (3, .int p2), (4, .long v22), (6, .int v23)] → (∀ (y0 : Int64), z = y0 → ∀ ls : Array Slot, lv_has ls 8 [(4, .long y0)] → WW102  160 ls) → WW102  102 ls := by
    intro n
    induction n with
    | zero => intro v22 v23 z h ls hl K0; rw [lX10_mixRule_102] at h; cases h
    | succ n ih =>
      intro v22 v23 z h ls hl K0
      rw [lX10_mixRule_102] at h
      refine wi_r hWW102 ?_
      refine lv_iload hx hb dX10_mixRule_102 (lv_at hl 3 rfl) ?_
      refine lv_aload_n hx hb dX10_mixRule_104 rfl (lv_at hl 0 rfl) ?_
      refine va_get (D := (dC, dI)) (ci := 10) (v := .ref (ad 2)) (C := RX10) (T := TX10) (N := 11) hx hb hts hiX10 hown hK hP 0 rfl rfl 1 (by decide) hf19 (fun _ h9 => h9) rfl dX10_mixRule_105 ?_
      refine va_get (D := (dC, dI)) (ci := 6) (v := .ref (ad 23)) (C := RX6) (T := TX6) (N := 13) hx hb hts hiX6 hown hK hP 2 rfl rfl 7 (by decide) hf136 (fun _ h9 => h9) rfl dX10_mixRule_108 ?_
      refine lv_iload_n hx hb dX10_mixRule_111 rfl (lv_at hl 1 rfl) ?_
      obtain ⟨b24, h⟩ := ck_elim h
      refine va_iald hx hb hK hP 23 0 rfl rfl b24 dX10_mixRule_112 ?_
      refine lv_icmp_ge (tgt := 160) hx hb dX10_mixRule_113 (by decide) (fun c25 => ?_) (fun c25 => ?_)
      · replace h := it_t c25 h
        refine wu_r hWW102 ?_
        exact K0 v22 (Option.some.inj h).symm ls (lv_sub hl [2] rfl)
      · replace h := it_f c25 h
        refine lv_iload_n hx hb dX10_mixRule_116 rfl (lv_at hl 1 rfl) ?_
        refine lv_iconst (v := 2) hx hb dX10_mixRule_117 (by decide) ?_
        refine lv_imul hx hb dX10_mixRule_118 ?_
        refine lv_iload hx hb dX10_mixRule_119 (lv_at hl 3 rfl) ?_
        refine lv_iadd hx hb dX10_mixRule_121 ?_
        obtain ⟨x26, ex26, h⟩ := bnd_elim h
        refine nm_i ex26 ?_
        refine lv_istore (lv' := [(7, .int x26), (0, .ref (ad 0)), (3, .int p2), (4, .long v22), (6, .int v23)]) hx hb dX10_mixRule_122 hl (by decide) rfl (fun ls hl => ?_)
        refine lv_lload hx hb dX10_mixRule_124 (lv_at hl 3 rfl) ?_
        refine lv_aload_n hx hb dX10_mixRule_126 rfl (lv_at hl 1 rfl) ?_
        refine va_get (D := (dC, dI)) (ci := 10) (v := .ref (ad 2)) (C := RX10) (T := TX10) (N := 11) hx hb hts hiX10 hown hK hP 0 rfl rfl 1 (by decide) hf19 (fun _ h9 => h9) rfl dX10_mixRule_127 ?_
        refine va_get (D := (dC, dI)) (ci := 6) (v := .ref (ad 24)) (C := RX6) (T := TX6) (N := 13) hx hb hts hiX6 hown hK hP 2 rfl rfl 8 (by decide) hf309 (fun _ h9 => h9) rfl dX10_mixRule_130 ?_
        refine lv_iload hx hb dX10_mixRule_133 (lv_at hl 0 rfl) ?_
        obtain ⟨b27, h⟩ := ck_elim h
        refine va_iald hx hb hK hP 24 0 rfl rfl b27 dX10_mixRule_135 ?_
        obtain ⟨r29, k28, h⟩ := ob_elim h
        refine vp_callSl (W.runS (As := [.long v22, .int (S 24 x26.toNatClampNeg)]) (rest := []) ⟨hx, hb, hml, hown, hts⟩ (mX10_mix l v22 (S 24 x26.toNatClampNeg) k28) (va_cwS 2 hts gX10_mixRule_X10_mix rfl rfl rfl (by decide +kernel) ⟨Nat.le_of_ble_eq_true rfl, Nat.le_of_ble_eq_true rfl⟩) ⟨fun _ _ _ _ q => q, fun U hU hW => ⟨rfl, trivial⟩⟩ rfl rfl hl.1 rfl (lv_room (Nat.le_of_ble_eq_true rfl)) dX10_mixRule_136 ⟨Nat.zero_le _, Nat.zero_le _⟩) (fun r9 er9 => ?_)
        replace er9 := er9.symm
        subst er9
        refine lv_aload_n hx hb dX10_mixRule_139 rfl (lv_at hl 1 rfl) ?_
        refine va_get (D := (dC, dI)) (ci := 10) (v := .ref (ad 2)) (C := RX10) (T := TX10) (N := 11) hx hb hts hiX10 hown hK hP 0 rfl rfl 1 (by decide) hf19 (fun _ h9 => h9) rfl dX10_mixRule_140 ?_
        refine va_get (D := (dC, dI)) (ci := 6) (v := .ref (ad 25)) (C := RX6) (T := TX6) (N := 13) hx hb hts hiX6 hown hK hP 2 rfl rfl 9 (by decide) hf312 (fun _ h9 => h9) rfl dX10_mixRule_143 ?_
        refine lv_iload hx hb dX10_mixRule_146 (lv_at hl 0 rfl) ?_
        obtain ⟨b30, h⟩ := ck_elim h
        refine va_iald hx hb hK hP 25 0 rfl rfl b30 dX10_mixRule_148 ?_
        obtain ⟨r32, k31, h⟩ := ob_elim h
        refine vp_callSl (W.runS (As := [.long r29, .int (S 25 x26.toNatClampNeg)]) (rest := []) ⟨hx, hb, hml, hown, hts⟩ (mX10_mix l r29 (S 25 x26.toNatClampNeg) k31) (va_cwS 2 hts gX10_mixRule_X10_mix rfl rfl rfl (by decide +kernel) ⟨Nat.le_of_ble_eq_true rfl, Nat.le_of_ble_eq_true rfl⟩) ⟨fun _ _ _ _ q => q, fun U hU hW => ⟨rfl, trivial⟩⟩ rfl rfl hl.1 rfl (lv_room (Nat.le_of_ble_eq_true rfl)) dX10_mixRule_149 ⟨Nat.zero_le _, Nat.zero_le _⟩) (fun r9 er9 => ?_)
        replace er9 := er9.symm
        subst er9
        refine lv_lstore (lv' := [(4, .long r32), (7, .int x26), (0, .ref (ad 0)), (3, .int p2), (6, .int v23)]) hx hb dX10_mixRule_152 hl (by decide) rfl (fun ls hl => ?_)
        obtain ⟨x33, ex33, h⟩ := bnd_elim h
        refine lv_iinc (v := x33) (lv' := [(6, .int x33), (4, .long r32), (7, .int x26), (0, .ref (ad 0)), (3, .int p2)]) hx hb dX10_mixRule_154 hl (k := 4) rfl (by rw [ex33]; rfl) (by decide) rfl (fun ls hl => ?_)
        refine lv_goto (tgt := 102) hx hb dX10_mixRule_157 (by decide) ?_
        refine wu_r hWW102 ?_
        exact ih r32 x33 z h ls (lv_sub hl [3, 4, 1, 0] rfl) K0
  obtain ⟨w35, k34, h⟩ := ob_elim h
  refine wu_r hWW102 ?_
  refine Lh102 FU r21 0 _ k34 ls (lv_sub hl [2, 4, 1, 0] rfl) ?_
  intro y0 hy ls hl
  cases hy
  refine wi_r hWW102 ?_
  refine lv_lload hx hb dX10_mixRule_160 (lv_at hl 0 rfl) ?_
  cases h
  exact W.lret hx hb hr (fun t ht hW => ⟨_, rfl, rfl, ht⟩) (fun q hq => absurd hq List.not_mem_nil) dX10_mixRule_162
