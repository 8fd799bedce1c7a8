set_option maxHeartbeats 4000000 in
set_option maxRecDepth 100000 in
theorem mX11_tiesTold (l : Launch) (dC : Nat → ClassId) (dI : Nat → Nat → Nat) (cI cZ : ClassId) (ad : Nat → Nat)  (S : Nat → Nat → Int32) {z : Int32} (h : sX11_tiesTold S = some z) : Met l yX11_tiesTold wsX11_tiesTold ({ frames := 0, cells := 0, slots := 0, locals := 0 }) (va_Pc [.ref (ad 0)] (QM dC dI cI cZ ad S)) (vp_Si (fun r => r = z)) 0 0 (fun _ => False) := by
  refine Met.ofW (cc := cX11_tiesTold) (maxL := 3) (ret := (some .int)) (by decide) rfl ?_
  intro p e s m args below meth c s₁ B hml hv
  obtain ⟨rfl, hP, hK, hD⟩ := hv
  have hx := B.exec
  have hb := B.bytes
  have hr := B.returns
  have hts := atoms_spec (ws := wsX11_tiesTold) B.pre
  have hown : s.vm.findClass RX11 = some m.cls := findClass_of_methodNamed B.named
  have hlocks := B.notSynchronized
  have hl := lv_entry ([.ref (ad 0)]) (n := 3) (Nat.le_of_ble_eq_true rfl)
  rw [lg_entry_eq]
  generalize (lg_sl ([.ref (ad 0)]) ++ List.replicate (3 - (lg_sl ([.ref (ad 0)])).length) Slot.unset).toArray = ls at hl ⊢
  have hl : lv_has ls 3 [(0, .ref (ad 0))] := hl
  have hf13 := hts (.fieldLink RX11 13 "LawRingsModel" "ties" "[I") (by decide +kernel)
  have hiX11 : ∀ w ∈ u_ws RX11 TX11 8, w ∈ wsX11_tiesTold := by decide +kernel
  rw [sX11_tiesTold] at h
  refine lv_iconst (v := 0) hx hb dX11_tiesTold_0 (by decide) ?_
  refine lv_istore_n (lv' := [(1, .int 0), (0, .ref (ad 0))]) hx hb dX11_tiesTold_1 rfl hl (by decide) rfl (fun ls hl => ?_)
  refine lv_iconst (v := 0) hx hb dX11_tiesTold_2 (by decide) ?_
  refine lv_istore_n (lv' := [(2, .int 0), (1, .int 0), (0, .ref (ad 0))]) hx hb dX11_tiesTold_3 rfl hl (by decide) rfl (fun ls hl => ?_)
  refine ww_r (fun WW4 hWW4 => ?_)
  have Lh4 : ∀ (n : Nat) (v1 : Int32) (v2 : Int32) (z : (Int32)), lX11_tiesTold_4 S n v1 v2 = some z → ∀ ls : Array Slot, lv_has ls 3 [(0, .ref (ad 0)), (1, .int v1), (2, .int v2)] → (∀ (y0 : Int32), z = y0 → ∀ ls : Array Slot, lv_has ls 3 [(1, .int y0)] → WW4  34 ls) → WW4  4 ls := by
    intro n
    induction n with
    | zero => intro v1 v2 z h ls hl K0; rw [lX11_tiesTold_4] at h; cases h
    | succ n ih =>
      intro v1 v2 z h ls hl K0
      rw [lX11_tiesTold_4] at h
      refine wi_r hWW4 ?_
      refine lv_iload_n hx hb dX11_tiesTold_4 rfl (lv_at hl 2 rfl) ?_
      refine lv_bipush (v := 6) hx hb dX11_tiesTold_5 (by decide) ?_
      refine lv_icmp_ge (tgt := 34) hx hb dX11_tiesTold_7 (by decide) (fun c3 => ?_) (fun c3 => ?_)
      · replace h := it_t c3 h
        refine wu_r hWW4 ?_
        exact K0 v1 (Option.some.inj h).symm ls (lv_sub hl [1] rfl)
      · replace h := it_f c3 h
        refine lv_iload_n hx hb dX11_tiesTold_10 rfl (lv_at hl 1 rfl) ?_
        refine lv_aload_n hx hb dX11_tiesTold_11 rfl (lv_at hl 0 rfl) ?_
        refine va_get (D := (dC, dI)) (ci := 11) (v := .ref (ad 2)) (C := RX11) (T := TX11) (N := 8) hx hb hts hiX11 hown hK hP 0 rfl rfl 1 (by decide) hf13 (fun _ h9 => h9) rfl dX11_tiesTold_12 ?_
        refine lv_iload_n hx hb dX11_tiesTold_15 rfl (lv_at hl 2 rfl) ?_
        obtain ⟨b4, h⟩ := ck_elim h
        refine va_iald hx hb hK hP 2 0 rfl rfl b4 dX11_tiesTold_16 ?_
        refine lv_iconst (v := (-1)) hx hb dX11_tiesTold_17 (by decide) ?_
        refine lv_icmp_eq (tgt := 25) hx hb dX11_tiesTold_18 (by decide) (fun c5 => ?_) (fun c5 => ?_)
        · replace h := it_t c5 h
          refine lv_iconst (v := 0) hx hb dX11_tiesTold_25 (by decide) ?_
          refine lv_iadd hx hb dX11_tiesTold_26 ?_
          obtain ⟨x6, ex6, h⟩ := bnd_elim h
          refine nm_i ex6 ?_
          refine lv_istore_n (lv' := [(1, .int x6), (0, .ref (ad 0)), (2, .int v2)]) hx hb dX11_tiesTold_27 rfl hl (by decide) rfl (fun ls hl => ?_)
          obtain ⟨x7, ex7, h⟩ := bnd_elim h
          refine lv_iinc (v := x7) (lv' := [(2, .int x7), (1, .int x6), (0, .ref (ad 0))]) hx hb dX11_tiesTold_28 hl (k := 2) rfl (by rw [ex7]; rfl) (by decide) rfl (fun ls hl => ?_)
          refine lv_goto (tgt := 4) hx hb dX11_tiesTold_31 (by decide) ?_
          refine wu_r hWW4 ?_
          exact ih x6 x7 z h ls (lv_sub hl [2, 1, 0] rfl) K0
        · replace h := it_f c5 h
          refine lv_iconst (v := 1) hx hb dX11_tiesTold_21 (by decide) ?_
          refine lv_goto (tgt := 26) hx hb dX11_tiesTold_22 (by decide) ?_
          refine lv_iadd hx hb dX11_tiesTold_26 ?_
          obtain ⟨x8, ex8, h⟩ := bnd_elim h
          refine nm_i ex8 ?_
          refine lv_istore_n (lv' := [(1, .int x8), (0, .ref (ad 0)), (2, .int v2)]) hx hb dX11_tiesTold_27 rfl hl (by decide) rfl (fun ls hl => ?_)
          obtain ⟨x9, ex9, h⟩ := bnd_elim h
          refine lv_iinc (v := x9) (lv' := [(2, .int x9), (1, .int x8), (0, .ref (ad 0))]) hx hb dX11_tiesTold_28 hl (k := 2) rfl (by rw [ex9]; rfl) (by decide) rfl (fun ls hl => ?_)
          refine lv_goto (tgt := 4) hx hb dX11_tiesTold_31 (by decide) ?_
          refine wu_r hWW4 ?_
          exact ih x8 x9 z h ls (lv_sub hl [2, 1, 0] rfl) K0
  obtain ⟨w11, k10, h⟩ := ob_elim h
  refine wu_r hWW4 ?_
  refine Lh4 FU 0 0 _ k10 ls (lv_sub hl [2, 1, 0] rfl) ?_
  intro y0 hy ls hl
  cases hy
  refine wi_r hWW4 ?_
  refine lv_iload_n hx hb dX11_tiesTold_34 rfl (lv_at hl 0 rfl) ?_
  cases h
  exact W.iret hx hb hr (fun t ht hW => ⟨_, rfl, rfl, ht⟩) (fun q hq => absurd hq List.not_mem_nil) dX11_tiesTold_35
set_option maxHeartbeats 4000000 in
set_option maxRecDepth 100000 in
theorem mX11_least (l : Launch) (dC : Nat → ClassId) (dI : Nat → Nat → Nat) (cI cZ : ClassId) (ad : Nat → Nat) (p1 : Int32) (p2 : Int32) (p3 : Int32) (p4 : Int32) (S : Nat → Nat → Int32) (sz : Nat) {z : Int32 × (Nat → Nat → Int32)} (h : sX11_least p1 p2 p3 p4 S = some z) : Met l yX11_least wsX11_least ({ frames := 8, cells := 0, slots := 0, locals := 190 }) (va_Pc [.ref (ad 0), .int p1, .int p2, .int p3, .int p4] (QMs sz dC dI cI cZ ad S)) (va_Qi (fun (r : Int32) (u : (Nat → Nat → Int32)) => (r, u) = z) (fun (u : (Nat → Nat → Int32)) t => va_P (dC, dI) vwCl (wM cI cZ ad u) t.heap) (AX 7 ad sz)) 0 0 (AX 7 ad sz) := by
  refine Met.ofW (cc := cX11_least) (maxL := 8) (ret := (some .int)) (by decide) rfl ?_
  intro p e s m args below meth c s₁ B hml hv
  obtain ⟨rfl, hsz, hP, hK, hD0⟩ := hv
  have hx := B.exec
  have hb := B.bytes
  have hr := B.returns
  have hts := atoms_spec (ws := wsX11_least) B.pre
  have hown : s.vm.findClass RX11 = some m.cls := findClass_of_methodNamed B.named
  have hlocks := B.notSynchronized
  subst hsz
  have hD := wM_DA hD0 s.heap.size
  have hS : va_S (AX 7 ad s.heap.size) s.heap s.heap [] := va_S.rf
  have hl := lv_entry ([.ref (ad 0), .int p1, .int p2, .int p3, .int p4]) (n := 8) (Nat.le_of_ble_eq_true rfl)
  rw [lg_entry_eq]
  generalize (lg_sl ([.ref (ad 0), .int p1, .int p2, .int p3, .int p4]) ++ List.replicate (8 - (lg_sl ([.ref (ad 0), .int p1, .int p2, .int p3, .int p4])).length) Slot.unset).toArray = ls at hl ⊢
  have hl : lv_has ls 8 [(0, .ref (ad 0)), (1, .int p1), (2, .int p2), (3, .int p3), (4, .int p4)] := hl
  rw [sX11_least] at h
  refine lv_iload_n hx hb dX11_least_0 rfl (lv_at hl 1 rfl) ?_
  refine lv_iload_n hx hb dX11_least_1 rfl (lv_at hl 2 rfl) ?_
  obtain ⟨r2, k1, h⟩ := ob_elim h
  refine vp_callSi (W.runS (As := [.int p1, .int p2]) (rest := []) ⟨hx, hb, hml, hown, hts⟩ (mX11_arePair l p1 p2 k1) (va_cwS 2 hts gX11_least_X11_arePair rfl rfl rfl (by decide +kernel) ⟨Nat.le_of_ble_eq_true rfl, Nat.le_of_ble_eq_true rfl⟩) ⟨fun _ _ _ _ q => q, fun U hU hW => ⟨rfl, trivial⟩⟩ rfl rfl hl.1 rfl (lv_room (Nat.le_of_ble_eq_true rfl)) dX11_least_2 ⟨Nat.zero_le _, Nat.zero_le _⟩) (fun r9 er9 => ?_)
  replace er9 := er9.symm
  subst er9
  refine lv_if_eq (tgt := 23) hx hb dX11_least_5 (by decide) (fun c3 => ?_) (fun c3 => ?_)
  · replace h := it_t c3 h
    refine lv_bipush (v := (-2)) hx hb dX11_least_23 (by decide) ?_
    cases h
    exact W.iret hx hb hr (fun t ht hW => ⟨⟨_, _, rfl, rfl, by show va_P _ _ _ t.heap; rw [ht]; exact hP⟩, hS.F ht⟩) hS.2.2 dX11_least_25
  · replace h := it_f c3 h
    refine lv_iload_n hx hb dX11_least_8 rfl (lv_at hl 3 rfl) ?_
    obtain ⟨r5, k4, h⟩ := ob_elim h
    refine vp_callSi (W.runS (As := [.int p3]) (rest := []) ⟨hx, hb, hml, hown, hts⟩ (mX11_isKind l p3 k4) (va_cwS 1 hts gX11_least_X11_isKind rfl rfl rfl (by decide +kernel) ⟨Nat.le_of_ble_eq_true rfl, Nat.le_of_ble_eq_true rfl⟩) ⟨fun _ _ _ _ q => q, fun U hU hW => ⟨rfl, trivial⟩⟩ rfl rfl hl.1 rfl (lv_room (Nat.le_of_ble_eq_true rfl)) dX11_least_9 ⟨Nat.zero_le _, Nat.zero_le _⟩) (fun r9 er9 => ?_)
    replace er9 := er9.symm
    subst er9
    refine lv_if_eq (tgt := 23) hx hb dX11_least_12 (by decide) (fun c6 => ?_) (fun c6 => ?_)
    · replace h := it_t c6 h
      refine lv_bipush (v := (-2)) hx hb dX11_least_23 (by decide) ?_
      cases h
      exact W.iret hx hb hr (fun t ht hW => ⟨⟨_, _, rfl, rfl, by show va_P _ _ _ t.heap; rw [ht]; exact hP⟩, hS.F ht⟩) hS.2.2 dX11_least_25
    · replace h := it_f c6 h
      refine lv_iload hx hb dX11_least_15 (lv_at hl 4 rfl) ?_
      obtain ⟨r8, k7, h⟩ := ob_elim h
      refine vp_callSi (W.runS (As := [.int p4]) (rest := []) ⟨hx, hb, hml, hown, hts⟩ (mX11_isDay l p4 k7) (va_cwS 1 hts gX11_least_X11_isDay rfl rfl rfl (by decide +kernel) ⟨Nat.le_of_ble_eq_true rfl, Nat.le_of_ble_eq_true rfl⟩) ⟨fun _ _ _ _ q => q, fun U hU hW => ⟨rfl, trivial⟩⟩ rfl rfl hl.1 rfl (lv_room (Nat.le_of_ble_eq_true rfl)) dX11_least_17 ⟨Nat.zero_le _, Nat.zero_le _⟩) (fun r9 er9 => ?_)
      replace er9 := er9.symm
      subst er9
      refine lv_if_ne (tgt := 26) hx hb dX11_least_20 (by decide) (fun c9 => ?_) (fun c9 => ?_)
      · replace h := it_f c9 h
        refine lv_iconst (v := (-1)) hx hb dX11_least_26 (by decide) ?_
        refine lv_istore (lv' := [(5, .int (-1)), (0, .ref (ad 0)), (1, .int p1), (2, .int p2), (3, .int p3), (4, .int p4)]) hx hb dX11_least_27 hl (by decide) rfl (fun ls hl => ?_)
        refine lv_iconst (v := 0) hx hb dX11_least_29 (by decide) ?_
        refine lv_istore (lv' := [(6, .int 0), (5, .int (-1)), (0, .ref (ad 0)), (1, .int p1), (2, .int p2), (3, .int p3), (4, .int p4)]) hx hb dX11_least_30 hl (by decide) rfl (fun ls hl => ?_)
        refine lv_iconst (v := 0) hx hb dX11_least_32 (by decide) ?_
        refine lv_istore (lv' := [(7, .int 0), (6, .int 0), (5, .int (-1)), (0, .ref (ad 0)), (1, .int p1), (2, .int p2), (3, .int p3), (4, .int p4)]) hx hb dX11_least_33 hl (by decide) rfl (fun ls hl => ?_)
        refine ww_w (fun WW35 hWW35 => ?_)
        have Lh35 : ∀ (n : Nat) (v10 : Int32) (v11 : Int32) (v12 : Int32) (S13 : (Nat → Nat → Int32)) (z : (Int32 × (Nat → Nat → Int32))), lX11_least_35 p1 p2 p3 p4 n v10 v11 v12 S13 = some z → ∀ (H : Heap) (locs : List Loc), va_P (dC, dI) vwCl (wM cI cZ ad S13) H → va_S (AX 7 ad s.heap.size) s.heap H locs → ∀ ls : Array Slot, lv_has ls 8 [(0, .ref (ad 0)), (1, .int p1), (2, .int p2), (3, .int p3), (4, .int p4), (5, .int v10), (6, .int v11), (7, .int v12)] → (∀ (y0 : Int32) (YS : (Nat → Nat → Int32)), z = (y0, YS) → ∀ (H : Heap) (locs : List Loc), va_P (dC, dI) vwCl (wM cI cZ ad YS) H → va_S (AX 7 ad s.heap.size) s.heap H locs → ∀ ls : Array Slot, lv_has ls 8 [(5, .int y0)] → WW35 H locs 97 ls) → WW35 H locs 35 ls := by
          intro n
          induction n with
          | zero => intro v10 v11 v12 S13 z h H locs hP hS ls hl K0; rw [lX11_least_35] at h; cases h
          | succ n ih =>
            intro v10 v11 v12 S13 z h H locs hP hS ls hl K0
            have hD := wM_D hD S13
            rw [lX11_least_35] at h
            refine wi_w hWW35 ?_
            refine lv_iload hx hb dX11_least_35 (lv_at hl 7 rfl) ?_
            refine lv_sipush (v := 15625) hx hb dX11_least_37 (by decide) ?_
            refine lv_icmp_ge (tgt := 97) hx hb dX11_least_40 (by decide) (fun c14 => ?_) (fun c14 => ?_)
            · replace h := it_t c14 h
              refine wu_w hWW35 ?_
              exact K0 v10 S13 (Option.some.inj h).symm H locs hP hS ls (lv_sub hl [5] rfl)
            · replace h := it_f c14 h
              refine lv_aload_n hx hb dX11_least_43 rfl (lv_at hl 0 rfl) ?_
              refine lv_iload hx hb dX11_least_44 (lv_at hl 7 rfl) ?_
              refine lv_iload hx hb dX11_least_46 (lv_at hl 4 rfl) ?_
              obtain ⟨S16, k15, h⟩ := ob_elim h
              refine va_callv (va_runV (As := [.int v12, .int p4]) (rest := []) ⟨hx, hb, hml, hown, hts⟩ (mX11_looksAtNumber l dC dI cI cZ ad v12 p4 S13 H.size k15) (cwV 2 hts gX11_least_X11_looksAtNumber rfl rfl rfl (by decide +kernel) ⟨Nat.le_of_ble_eq_true rfl, Nat.le_of_ble_eq_true rfl⟩) ⟨QMs_blind, va_recv hK hP (ci := 11) (q0 := 0) rfl rfl, fun U hU hW => ⟨rfl, congrArg Array.size hU, QM_at hP hK hD hU hW⟩⟩ rfl rfl hl.1 rfl (lv_room (Nat.le_of_ble_eq_true rfl)) dX11_least_48 ⟨Nat.zero_le _, Nat.zero_le _⟩) hS (fun q _ hq => AX_mono hS.1 hq) (fun q hq => AX_mono hS.1 hq) (fun u t H1 locs ht hvm hw hB hz1 hk1 hS => ?_)
              cases hw
              rw [ht] at hB
              have hP := hB
              clear hB hk1 hz1
              generalize H1 = H at hP hS ⊢
              have hD := wM_D hD S16
              refine lv_iload hx hb dX11_least_51 (lv_at hl 5 rfl) ?_
              refine lv_iconst (v := (-1)) hx hb dX11_least_53 (by decide) ?_
              refine lv_icmp_eq (tgt := 66) hx hb dX11_least_54 (by decide) (fun c17 => ?_) (fun c17 => ?_)
              · replace h := it_t c17 h
                refine lv_aload_n hx hb dX11_least_66 rfl (lv_at hl 0 rfl) ?_
                refine lv_iload_n hx hb dX11_least_67 rfl (lv_at hl 1 rfl) ?_
                refine lv_iload_n hx hb dX11_least_68 rfl (lv_at hl 3 rfl) ?_
                obtain ⟨r19, k18, h⟩ := ob_elim h
                refine vp_callSi (W.runV (As := [.int p1, .int p3]) (rest := []) ⟨hx, hb, hml, hown, hts⟩ (mX11_endsOf l dC dI cI cZ ad p1 p3 S16 k18) (cwV 2 hts gX11_least_X11_endsOf rfl rfl rfl (by decide +kernel) ⟨Nat.le_of_ble_eq_true rfl, Nat.le_of_ble_eq_true rfl⟩) ⟨QM_blind, va_recv hK hP (ci := 11) (q0 := 0) rfl rfl, fun U hU hW => ⟨rfl, QM_at hP hK hD hU hW⟩⟩ rfl rfl hl.1 rfl (lv_room (Nat.le_of_ble_eq_true rfl)) dX11_least_69 ⟨Nat.zero_le _, Nat.zero_le _⟩) (fun r9 er9 => ?_)
                replace er9 := er9.symm
                subst er9
                refine lv_aload_n hx hb dX11_least_72 rfl (lv_at hl 0 rfl) ?_
                refine lv_iload_n hx hb dX11_least_73 rfl (lv_at hl 2 rfl) ?_
                refine lv_iload_n hx hb dX11_least_74 rfl (lv_at hl 3 rfl) ?_
                obtain ⟨r21, k20, h⟩ := ob_elim h
                refine vp_callSi (W.runV (As := [.int p2, .int p3]) (rest := [.int r19]) ⟨hx, hb, hml, hown, hts⟩ (mX11_endsOf l dC dI cI cZ ad p2 p3 S16 k20) (cwV 2 hts gX11_least_X11_endsOf rfl rfl rfl (by decide +kernel) ⟨Nat.le_of_ble_eq_true rfl, Nat.le_of_ble_eq_true rfl⟩) ⟨QM_blind, va_recv hK hP (ci := 11) (q0 := 0) rfl rfl, fun U hU hW => ⟨rfl, QM_at hP hK hD hU hW⟩⟩ rfl rfl hl.1 rfl (lv_room (Nat.le_of_ble_eq_true rfl)) dX11_least_75 ⟨Nat.zero_le _, Nat.zero_le _⟩) (fun r9 er9 => ?_)
                replace er9 := er9.symm
                subst er9
                refine lv_icmp_eq (tgt := 91) hx hb dX11_least_78 (by decide) (fun c22 => ?_) (fun c22 => ?_)
                · replace h := it_t c22 h
                  obtain ⟨x23, ex23, h⟩ := bnd_elim h
                  refine lv_iinc (v := x23) (lv' := [(7, .int x23), (0, .ref (ad 0)), (1, .int p1), (2, .int p2), (3, .int p3), (4, .int p4), (5, .int v10), (6, .int v11)]) hx hb dX11_least_91 hl (k := 7) rfl (by rw [ex23]; rfl) (by decide) rfl (fun ls hl => ?_)
                  refine lv_goto (tgt := 35) hx hb dX11_least_94 (by decide) ?_
                  refine wu_w hWW35 ?_
                  exact ih v10 v11 x23 S16 z h H locs hP hS ls (lv_sub hl [1, 2, 3, 4, 5, 6, 7, 0] rfl) K0
                · replace h := it_f c22 h
                  refine lv_iload hx hb dX11_least_81 (lv_at hl 7 rfl) ?_
                  refine lv_istore (lv' := [(5, .int v12), (0, .ref (ad 0)), (1, .int p1), (2, .int p2), (3, .int p3), (4, .int p4), (6, .int v11), (7, .int v12)]) hx hb dX11_least_83 hl (by decide) rfl (fun ls hl => ?_)
                  refine lv_aload_n hx hb dX11_least_85 rfl (lv_at hl 1 rfl) ?_
                  obtain ⟨r25, k24, h⟩ := ob_elim h
                  refine vp_callSi (W.runV (As := []) (rest := []) ⟨hx, hb, hml, hown, hts⟩ (mX11_tiesTold l dC dI cI cZ ad S16 k24) (cwV 0 hts gX11_least_X11_tiesTold rfl rfl rfl (by decide +kernel) ⟨Nat.le_of_ble_eq_true rfl, Nat.le_of_ble_eq_true rfl⟩) ⟨QM_blind, va_recv hK hP (ci := 11) (q0 := 0) rfl rfl, fun U hU hW => ⟨rfl, QM_at hP hK hD hU hW⟩⟩ rfl rfl hl.1 rfl (lv_room (Nat.le_of_ble_eq_true rfl)) dX11_least_86 ⟨Nat.zero_le _, Nat.zero_le _⟩) (fun r9 er9 => ?_)
                  replace er9 := er9.symm
                  subst er9
                  refine lv_istore (lv' := [(6, .int r25), (5, .int v12), (0, .ref (ad 0)), (1, .int p1), (2, .int p2), (3, .int p3), (4, .int p4), (7, .int v12)]) hx hb dX11_least_89 hl (by decide) rfl (fun ls hl => ?_)
                  obtain ⟨x26, ex26, h⟩ := bnd_elim h
                  refine lv_iinc (v := x26) (lv' := [(7, .int x26), (6, .int r25), (5, .int v12), (0, .ref (ad 0)), (1, .int p1), (2, .int p2), (3, .int p3), (4, .int p4)]) hx hb dX11_least_91 hl (k := 7) rfl (by rw [ex26]; rfl) (by decide) rfl (fun ls hl => ?_)
                  refine lv_goto (tgt := 35) hx hb dX11_least_94 (by decide) ?_
                  refine wu_w hWW35 ?_
                  exact ih v12 r25 x26 S16 z h H locs hP hS ls (lv_sub hl [3, 4, 5, 6, 7, 2, 1, 0] rfl) K0
              · replace h := it_f c17 h
                refine lv_aload_n hx hb dX11_least_57 rfl (lv_at hl 0 rfl) ?_
                obtain ⟨r28, k27, h⟩ := ob_elim h
                refine vp_callSi (W.runV (As := []) (rest := []) ⟨hx, hb, hml, hown, hts⟩ (mX11_tiesTold l dC dI cI cZ ad S16 k27) (cwV 0 hts gX11_least_X11_tiesTold rfl rfl rfl (by decide +kernel) ⟨Nat.le_of_ble_eq_true rfl, Nat.le_of_ble_eq_true rfl⟩) ⟨QM_blind, va_recv hK hP (ci := 11) (q0 := 0) rfl rfl, fun U hU hW => ⟨rfl, QM_at hP hK hD hU hW⟩⟩ rfl rfl hl.1 rfl (lv_room (Nat.le_of_ble_eq_true rfl)) dX11_least_58 ⟨Nat.zero_le _, Nat.zero_le _⟩) (fun r9 er9 => ?_)
                replace er9 := er9.symm
                subst er9
                refine lv_iload hx hb dX11_least_61 (lv_at hl 6 rfl) ?_
                refine lv_icmp_ge (tgt := 91) hx hb dX11_least_63 (by decide) (fun c29 => ?_) (fun c29 => ?_)
                · replace h := it_t c29 h
                  obtain ⟨x30, ex30, h⟩ := bnd_elim h
                  refine lv_iinc (v := x30) (lv' := [(7, .int x30), (0, .ref (ad 0)), (1, .int p1), (2, .int p2), (3, .int p3), (4, .int p4), (5, .int v10), (6, .int v11)]) hx hb dX11_least_91 hl (k := 7) rfl (by rw [ex30]; rfl) (by decide) rfl (fun ls hl => ?_)
                  refine lv_goto (tgt := 35) hx hb dX11_least_94 (by decide) ?_
                  refine wu_w hWW35 ?_
                  exact ih v10 v11 x30 S16 z h H locs hP hS ls (lv_sub hl [1, 2, 3, 4, 5, 6, 7, 0] rfl) K0
                · replace h := it_f c29 h
                  refine lv_aload_n hx hb dX11_least_66 rfl (lv_at hl 0 rfl) ?_
                  refine lv_iload_n hx hb dX11_least_67 rfl (lv_at hl 1 rfl) ?_
                  refine lv_iload_n hx hb dX11_least_68 rfl (lv_at hl 3 rfl) ?_
                  obtain ⟨r32, k31, h⟩ := ob_elim h
                  refine vp_callSi (W.runV (As := [.int p1, .int p3]) (rest := []) ⟨hx, hb, hml, hown, hts⟩ (mX11_endsOf l dC dI cI cZ ad p1 p3 S16 k31) (cwV 2 hts gX11_least_X11_endsOf rfl rfl rfl (by decide +kernel) ⟨Nat.le_of_ble_eq_true rfl, Nat.le_of_ble_eq_true rfl⟩) ⟨QM_blind, va_recv hK hP (ci := 11) (q0 := 0) rfl rfl, fun U hU hW => ⟨rfl, QM_at hP hK hD hU hW⟩⟩ rfl rfl hl.1 rfl (lv_room (Nat.le_of_ble_eq_true rfl)) dX11_least_69 ⟨Nat.zero_le _, Nat.zero_le _⟩) (fun r9 er9 => ?_)
                  replace er9 := er9.symm
                  subst er9
                  refine lv_aload_n hx hb dX11_least_72 rfl (lv_at hl 0 rfl) ?_
                  refine lv_iload_n hx hb dX11_least_73 rfl (lv_at hl 2 rfl) ?_
                  refine lv_iload_n hx hb dX11_least_74 rfl (lv_at hl 3 rfl) ?_
                  obtain ⟨r34, k33, h⟩ := ob_elim h
                  refine vp_callSi (W.runV (As := [.int p2, .int p3]) (rest := [.int r32]) ⟨hx, hb, hml, hown, hts⟩ (mX11_endsOf l dC dI cI cZ ad p2 p3 S16 k33) (cwV 2 hts gX11_least_X11_endsOf rfl rfl rfl (by decide +kernel) ⟨Nat.le_of_ble_eq_true rfl, Nat.le_of_ble_eq_true rfl⟩) ⟨QM_blind, va_recv hK hP (ci := 11) (q0 := 0) rfl rfl, fun U hU hW => ⟨rfl, QM_at hP hK hD hU hW⟩⟩ rfl rfl hl.1 rfl (lv_room (Nat.le_of_ble_eq_true rfl)) dX11_least_75 ⟨Nat.zero_le _, Nat.zero_le _⟩) (fun r9 er9 => ?_)
                  replace er9 := er9.symm
                  subst er9
                  refine lv_icmp_eq (tgt := 91) hx hb dX11_least_78 (by decide) (fun c35 => ?_) (fun c35 => ?_)
                  · replace h := it_t c35 h
                    obtain ⟨x36, ex36, h⟩ := bnd_elim h
                    refine lv_iinc (v := x36) (lv' := [(7, .int x36), (0, .ref (ad 0)), (1, .int p1), (2, .int p2), (3, .int p3), (4, .int p4), (5, .int v10), (6, .int v11)]) hx hb dX11_least_91 hl (k := 7) rfl (by rw [ex36]; rfl) (by decide) rfl (fun ls hl => ?_)
                    refine lv_goto (tgt := 35) hx hb dX11_least_94 (by decide) ?_
                    refine wu_w hWW35 ?_
                    exact ih v10 v11 x36 S16 z h H locs hP hS ls (lv_sub hl [1, 2, 3, 4, 5, 6, 7, 0] rfl) K0
                  · replace h := it_f c35 h
                    refine lv_iload hx hb dX11_least_81 (lv_at hl 7 rfl) ?_
                    refine lv_istore (lv' := [(5, .int v12), (0, .ref (ad 0)), (1, .int p1), (2, .int p2), (3, .int p3), (4, .int p4), (6, .int v11), (7, .int v12)]) hx hb dX11_least_83 hl (by decide) rfl (fun ls hl => ?_)
                    refine lv_aload_n hx hb dX11_least_85 rfl (lv_at hl 1 rfl) ?_
                    obtain ⟨r38, k37, h⟩ := ob_elim h
                    refine vp_callSi (W.runV (As := []) (rest := []) ⟨hx, hb, hml, hown, hts⟩ (mX11_tiesTold l dC dI cI cZ ad S16 k37) (cwV 0 hts gX11_least_X11_tiesTold rfl rfl rfl (by decide +kernel) ⟨Nat.le_of_ble_eq_true rfl, Nat.le_of_ble_eq_true rfl⟩) ⟨QM_blind, va_recv hK hP (ci := 11) (q0 := 0) rfl rfl, fun U hU hW => ⟨rfl, QM_at hP hK hD hU hW⟩⟩ rfl rfl hl.1 rfl (lv_room (Nat.le_of_ble_eq_true rfl)) dX11_least_86 ⟨Nat.zero_le _, Nat.zero_le _⟩) (fun r9 er9 => ?_)
                    replace er9 := er9.symm
                    subst er9
                    refine lv_istore (lv' := [(6, .int r38), (5, .int v12), (0, .ref (ad 0)), (1, .int p1), (2, .int p2), (3, .int p3), (4, .int p4), (7, .int v12)]) hx hb dX11_least_89 hl (by decide) rfl (fun ls hl => ?_)
                    obtain ⟨x39, ex39, h⟩ := bnd_elim h
                    refine lv_iinc (v := x39) (lv' := [(7, .int x39), (6, .int r38), (5, .int v12), (0, .ref (ad 0)), (1, .int p1), (2, .int p2), (3, .int p3), (4, .int p4)]) hx hb dX11_least_91 hl (k := 7) rfl (by rw [ex39]; rfl) (by decide) rfl (fun ls hl => ?_)
                    refine lv_goto (tgt := 35) hx hb dX11_least_94 (by decide) ?_
                    refine wu_w hWW35 ?_
                    exact ih v12 r38 x39 S16 z h H locs hP hS ls (lv_sub hl [3, 4, 5, 6, 7, 2, 1, 0] rfl) K0
        obtain ⟨w41, S42, k40, h⟩ := ob2_elim h
        refine wu_w hWW35 ?_
        refine Lh35 FU (-1) 0 0 S _ k40 s.heap [] hP hS ls (lv_sub hl [3, 4, 5, 6, 7, 2, 1, 0] rfl) ?_
        intro y0 y1 hy H locs hP hS ls hl
        cases hy
        have hD := wM_D hD S42
        refine wi_w hWW35 ?_
        refine lv_iload hx hb dX11_least_97 (lv_at hl 0 rfl) ?_
        cases h
        exact W.iret hx hb hr (fun t ht hW => ⟨⟨_, _, rfl, rfl, by show va_P _ _ _ t.heap; rw [ht]; exact hP⟩, hS.F ht⟩) hS.2.2 dX11_least_99
      · replace h := it_t c9 h
        refine lv_bipush (v := (-2)) hx hb dX11_least_23 (by decide) ?_
        cases h
        exact W.iret hx hb hr (fun t ht hW => ⟨⟨_, _, rfl, rfl, by show va_P _ _ _ t.heap; rw [ht]; exact hP⟩, hS.F ht⟩) hS.2.2 dX11_least_25
set_option maxHeartbeats 4000000 in
set_option maxRecDepth 100000 in
theorem mX0_landsReached (l : Launch) (dC : Nat → ClassId) (dI : Nat → Nat → Nat) (cI cJ : ClassId) (ad : Nat → Nat) (p1 : Int32) (p2 : Int32) (p3 : Int32) (S : Nat → Nat → Int32) (L : Nat → Nat → Int64) (sz : Nat) {z : Int32 × (Nat → Nat → Int32) × (Nat → Nat → Int64)} (h : sX0_landsReached p1 p2 p3 S L = some z) : Met l yX0_landsReached wsX0_landsReached ({ frames := 4, cells := 0, slots := 0, locals := 94 }) (va_Pc [.ref (ad 8), .int p1, .int p2, .int p3] (QXs sz dC dI cI cJ ad S L)) (va_Qi (fun (r : Int32) (u : (Nat → Nat → Int32) × (Nat → Nat → Int64)) => (r, u) = z) (fun (u : (Nat → Nat → Int32) × (Nat → Nat → Int64)) t => va_P (dC, dI) vwCl (wX cI cJ ad u.1 u.2) t.heap) (AX 43 ad sz)) 0 0 (AX 43 ad sz) := by
  refine Met.ofW (cc := cX0_landsReached) (maxL := 7) (ret := (some .int)) (by decide) rfl ?_
  intro p e s m args below meth c s₁ B hml hv
  obtain ⟨rfl, hsz, hP, hK, hD0⟩ := hv
  have hx := B.exec
  have hb := B.bytes
  have hr := B.returns
  have hts := atoms_spec (ws := wsX0_landsReached) B.pre
  have hown : s.vm.findClass RX0 = some m.cls := findClass_of_methodNamed B.named
  have hlocks := B.notSynchronized
  subst hsz
  have hD := wX_DA hD0 s.heap.size
  have hS : va_S (AX 43 ad s.heap.size) s.heap s.heap [] := va_S.rf
  have hl := lv_entry ([.ref (ad 8), .int p1, .int p2, .int p3]) (n := 7) (Nat.le_of_ble_eq_true rfl)
  rw [lg_entry_eq]
  generalize (lg_sl ([.ref (ad 8), .int p1, .int p2, .int p3]) ++ List.replicate (7 - (lg_sl ([.ref (ad 8), .int p1, .int p2, .int p3])).length) Slot.unset).toArray = ls at hl ⊢
  have hl : lv_has ls 7 [(0, .ref (ad 8)), (1, .int p1), (2, .int p2), (3, .int p3)] := hl
  have hf19 := hts (.fieldLink RX0 19 "LawRings$AllCases" "hearing" "LLawRings$Hearing;") (by decide +kernel)
  have hiX0 : ∀ w ∈ u_ws RX0 TX0 3, w ∈ wsX0_landsReached := by decide +kernel
  rw [sX0_landsReached] at h
  refine lv_iconst (v := 0) hx hb dX0_landsReached_0 (by decide) ?_
  refine lv_istore (lv' := [(4, .int 0), (0, .ref (ad 8)), (1, .int p1), (2, .int p2), (3, .int p3)]) hx hb dX0_landsReached_1 hl (by decide) rfl (fun ls hl => ?_)
  refine lv_aload_n hx hb dX0_landsReached_3 rfl (lv_at hl 1 rfl) ?_
  refine lv_iload_n hx hb dX0_landsReached_4 rfl (lv_at hl 4 rfl) ?_
  obtain ⟨S2, L3, k1, h⟩ := ob2_elim h
  refine va_callv (va_runV (As := [.int p3]) (rest := []) ⟨hx, hb, hml, hown, hts⟩ (mX0_start l dC dI cI cJ ad p3 S L s.heap.size k1) (cwV 1 hts gX0_landsReached_X0_start rfl rfl rfl (by decide +kernel) ⟨Nat.le_of_ble_eq_true rfl, Nat.le_of_ble_eq_true rfl⟩) ⟨QXs_blind, va_recv hK hP (ci := 0) (q0 := 8) rfl rfl, fun U hU hW => ⟨rfl, congrArg Array.size hU, QX_at hP hK hD hU hW⟩⟩ rfl rfl hl.1 rfl (lv_room (Nat.le_of_ble_eq_true rfl)) dX0_landsReached_5 ⟨Nat.zero_le _, Nat.zero_le _⟩) hS (fun q _ hq => AX_mono hS.1 hq) (fun q hq => AX_mono hS.1 hq) (fun u t H1 locs ht hvm hw hB hz1 hk1 hS => ?_)
  cases hw
  rw [ht] at hB
  have hP := hB
  clear hB hk1 hz1
  generalize H1 = H at hP hS ⊢
  have hD := wX_D hD S2 L3
  refine lv_iconst (v := 0) hx hb dX0_landsReached_8 (by decide) ?_
  refine lv_istore (lv' := [(5, .int 0), (4, .int 0), (0, .ref (ad 8)), (1, .int p1), (2, .int p2), (3, .int p3)]) hx hb dX0_landsReached_9 hl (by decide) rfl (fun ls hl => ?_)
  refine ww_w (fun WW11 hWW11 => ?_)
  have Lh11 : ∀ (n : Nat) (v4 : Int32) (v5 : Int32) (S6 : (Nat → Nat → Int32)) (L7 : (Nat → Nat → Int64)) (z : (Int32 × (Nat → Nat → Int32) × (Nat → Nat → Int64))), lX0_landsReached_11 p1 p2 n v4 v5 S6 L7 = some z → ∀ (H : Heap) (locs : List Loc), va_P (dC, dI) vwCl (wX cI cJ ad S6 L7) H → va_S (AX 43 ad s.heap.size) s.heap H locs → ∀ ls : Array Slot, lv_has ls 7 [(0, .ref (ad 8)), (1, .int p1), (2, .int p2), (4, .int v4), (5, .int v5)] → (∀ (y0 : Int32) (YS : (Nat → Nat → Int32)) (YL : (Nat → Nat → Int64)), z = (y0, YS, YL) → ∀ (H : Heap) (locs : List Loc), va_P (dC, dI) vwCl (wX cI cJ ad YS YL) H → va_S (AX 43 ad s.heap.size) s.heap H locs → ∀ ls : Array Slot, lv_has ls 7 [(4, .int y0)] → WW11 H locs 62 ls) → WW11 H locs 11 ls := by
    intro n
    induction n with
    | zero => intro v4 v5 S6 L7 z h H locs hP hS ls hl K0; rw [lX0_landsReached_11] at h; cases h
    | succ n ih =>
      intro v4 v5 S6 L7 z h H locs hP hS ls hl K0
      have hD := wX_D hD S6 L7
      rw [lX0_landsReached_11] at h
      refine wi_w hWW11 ?_
      refine lv_iload hx hb dX0_landsReached_11 (lv_at hl 4 rfl) ?_
      refine lv_sipush (v := 15625) hx hb dX0_landsReached_13 (by decide) ?_
      refine lv_icmp_ge (tgt := 62) hx hb dX0_landsReached_16 (by decide) (fun c8 => ?_) (fun c8 => ?_)
      · replace h := it_t c8 h
        refine wu_w hWW11 ?_
        exact K0 v4 S6 L7 (Option.some.inj h).symm H locs hP hS ls (lv_sub hl [3] rfl)
      · replace h := it_f c8 h
        refine lv_aload_n hx hb dX0_landsReached_19 rfl (lv_at hl 0 rfl) ?_
        refine lv_iload hx hb dX0_landsReached_20 (lv_at hl 4 rfl) ?_
        refine lv_iload_n hx hb dX0_landsReached_22 rfl (lv_at hl 2 rfl) ?_
        obtain ⟨S10, L11, k9, h⟩ := ob2_elim h
        refine va_callv (va_runV (As := [.int v5, .int p2]) (rest := []) ⟨hx, hb, hml, hown, hts⟩ (mX0_turnTo l dC dI cI cJ ad v5 p2 S6 L7 H.size k9) (cwV 2 hts gX0_landsReached_X0_turnTo rfl rfl rfl (by decide +kernel) ⟨Nat.le_of_ble_eq_true rfl, Nat.le_of_ble_eq_true rfl⟩) ⟨QXs_blind, va_recv hK hP (ci := 0) (q0 := 8) rfl rfl, fun U hU hW => ⟨rfl, congrArg Array.size hU, QX_at hP hK hD hU hW⟩⟩ rfl rfl hl.1 rfl (lv_room (Nat.le_of_ble_eq_true rfl)) dX0_landsReached_23 ⟨Nat.zero_le _, Nat.zero_le _⟩) hS (fun q _ hq => AX_mono hS.1 hq) (fun q hq => AX_mono hS.1 hq) (fun u t H1 locs ht hvm hw hB hz1 hk1 hS => ?_)
        cases hw
        rw [ht] at hB
        have hP := hB
        clear hB hk1 hz1
        generalize H1 = H at hP hS ⊢
        have hD := wX_D hD S10 L11
        refine lv_aload_n hx hb dX0_landsReached_26 rfl (lv_at hl 0 rfl) ?_
        refine va_get (D := (dC, dI)) (ci := 0) (v := .ref (ad 6)) (C := RX0) (T := TX0) (N := 3) hx hb hts hiX0 hown hK hP 8 rfl rfl 1 (by decide) hf19 (fun _ h9 => h9) rfl dX0_landsReached_27 ?_
        refine lv_iload_n hx hb dX0_landsReached_30 rfl (lv_at hl 1 rfl) ?_
        obtain ⟨r15, S13, L14, k12, h⟩ := ob3_elim h
        refine va_calli (va_runV (As := [.int p1]) (rest := []) ⟨hx, hb, hml, hown, hts⟩ (mX4_outcome l dC dI cI cJ ad p1 S10 L11 H.size k12) (cwV 1 hts gX0_landsReached_X4_outcome rfl rfl rfl (by decide +kernel) ⟨Nat.le_of_ble_eq_true rfl, Nat.le_of_ble_eq_true rfl⟩) ⟨QXs_blind, va_recv hK hP (ci := 4) (q0 := 6) rfl rfl, fun U hU hW => ⟨rfl, congrArg Array.size hU, QX_at hP hK hD hU hW⟩⟩ rfl rfl hl.1 rfl (lv_room (Nat.le_of_ble_eq_true rfl)) dX0_landsReached_31 ⟨Nat.zero_le _, Nat.zero_le _⟩) hS (fun q _ hq => AX_mono hS.1 hq) (fun q hq => AX_mono hS.1 hq) (fun r u t H1 locs ht hvm hw hB hz1 hk1 hS => ?_)
        cases hw
        rw [ht] at hB
        have hP := hB
        clear hB hk1 hz1
        generalize H1 = H at hP hS ⊢
        have hD := wX_D hD S13 L14
        refine lv_istore (lv' := [(6, .int r15), (0, .ref (ad 8)), (1, .int p1), (2, .int p2), (4, .int v4), (5, .int v5)]) hx hb dX0_landsReached_34 hl (by decide) rfl (fun ls hl => ?_)
        refine lv_iload hx hb dX0_landsReached_36 (lv_at hl 4 rfl) ?_
        refine lv_iconst (v := 1) hx hb dX0_landsReached_38 (by decide) ?_
        refine lv_iload hx hb dX0_landsReached_39 (lv_at hl 0 rfl) ?_
        refine lv_bipush (v := (-5)) hx hb dX0_landsReached_41 (by decide) ?_
        refine lv_icmp_ne (tgt := 50) hx hb dX0_landsReached_43 (by decide) (fun c16 => ?_) (fun c16 => ?_)
        · replace h := it_f c16 h
          refine lv_iload hx hb dX0_landsReached_50 (lv_at hl 0 rfl) ?_
          refine lv_ishl hx hb dX0_landsReached_52 ?_
          refine lv_ior hx hb dX0_landsReached_53 ?_
          obtain ⟨x17, ex17, h⟩ := bnd_elim h
          refine nm_i ex17 ?_
          refine lv_istore (lv' := [(4, .int x17), (6, .int r15), (0, .ref (ad 8)), (1, .int p1), (2, .int p2), (5, .int v5)]) hx hb dX0_landsReached_54 hl (by decide) rfl (fun ls hl => ?_)
          obtain ⟨x18, ex18, h⟩ := bnd_elim h
          refine lv_iinc (v := x18) (lv' := [(5, .int x18), (4, .int x17), (6, .int r15), (0, .ref (ad 8)), (1, .int p1), (2, .int p2)]) hx hb dX0_landsReached_56 hl (k := 5) rfl (by rw [ex18]; rfl) (by decide) rfl (fun ls hl => ?_)
          refine lv_goto (tgt := 11) hx hb dX0_landsReached_59 (by decide) ?_
          refine wu_w hWW11 ?_
          exact ih x17 x18 S13 L14 z h H locs hP hS ls (lv_sub hl [3, 4, 5, 1, 0] rfl) K0
        · replace h := it_t c16 h
          refine lv_iconst (v := 4) hx hb dX0_landsReached_46 (by decide) ?_
          refine lv_goto (tgt := 52) hx hb dX0_landsReached_47 (by decide) ?_
          refine lv_ishl hx hb dX0_landsReached_52 ?_
          refine lv_ior hx hb dX0_landsReached_53 ?_
          obtain ⟨x19, ex19, h⟩ := bnd_elim h
          refine nm_i ex19 ?_
          refine lv_istore (lv' := [(4, .int x19), (6, .int r15), (0, .ref (ad 8)), (1, .int p1), (2, .int p2), (5, .int v5)]) hx hb dX0_landsReached_54 hl (by decide) rfl (fun ls hl => ?_)
          obtain ⟨x20, ex20, h⟩ := bnd_elim h
          refine lv_iinc (v := x20) (lv' := [(5, .int x20), (4, .int x19), (6, .int r15), (0, .ref (ad 8)), (1, .int p1), (2, .int p2)]) hx hb dX0_landsReached_56 hl (k := 5) rfl (by rw [ex20]; rfl) (by decide) rfl (fun ls hl => ?_)
          refine lv_goto (tgt := 11) hx hb dX0_landsReached_59 (by decide) ?_
          refine wu_w hWW11 ?_
          exact ih x19 x20 S13 L14 z h H locs hP hS ls (lv_sub hl [3, 4, 5, 1, 0] rfl) K0
  obtain ⟨w22, S23, L24, k21, h⟩ := ob3_elim h
  refine wu_w hWW11 ?_
  refine Lh11 FU 0 0 S2 L3 _ k21 H locs hP hS ls (lv_sub hl [2, 3, 4, 1, 0] rfl) ?_
  intro y0 y1 y2 hy H locs hP hS ls hl
  cases hy
  have hD := wX_D hD S23 L24
  refine wi_w hWW11 ?_
  refine lv_iload hx hb dX0_landsReached_62 (lv_at hl 0 rfl) ?_
  cases h
  exact W.iret hx hb hr (fun t ht hW => ⟨⟨_, _, rfl, rfl, by show va_P _ _ _ t.heap; rw [ht]; exact hP⟩, hS.F ht⟩) hS.2.2 dX0_landsReached_64
set_option maxHeartbeats 4000000 in
set_option maxRecDepth 100000 in
theorem mX10_reached (l : Launch) (dC : Nat → ClassId) (dI : Nat → Nat → Nat) (cI cJ : ClassId) (ad : Nat → Nat) (p1 : Int32) (p2 : Int32) (p3 : Int32) (S : Nat → Nat → Int32) (L : Nat → Nat → Int64) (sz : Nat) {z : Int32 × (Nat → Nat → Int32) × (Nat → Nat → Int64)} (h : sX10_reached p1 p2 p3 S L = some z) : Met l yX10_reached wsX10_reached ({ frames := 5, cells := 0, slots := 0, locals := 120 }) (va_Pc [.ref (ad 0), .int p1, .int p2, .int p3] (QXs sz dC dI cI cJ ad S L)) (va_Qi (fun (r : Int32) (u : (Nat → Nat → Int32) × (Nat → Nat → Int64)) => (r, u) = z) (fun (u : (Nat → Nat → Int32) × (Nat → Nat → Int64)) t => va_P (dC, dI) vwCl (wX cI cJ ad u.1 u.2) t.heap) (AX 43 ad sz)) 0 0 (AX 43 ad sz) := by
  refine Met.ofW (cc := cX10_reached) (maxL := 4) (ret := (some .int)) (by decide) rfl ?_
  intro p e s m args below meth c s₁ B hml hv
  obtain ⟨rfl, hsz, hP, hK, hD0⟩ := hv
  have hx := B.exec
  have hb := B.bytes
  have hr := B.returns
  have hts := atoms_spec (ws := wsX10_reached) B.pre
  have hown : s.vm.findClass RX10 = some m.cls := findClass_of_methodNamed B.named
  have hlocks := B.notSynchronized
  subst hsz
  have hD := wX_DA hD0 s.heap.size
  have hS : va_S (AX 43 ad s.heap.size) s.heap s.heap [] := va_S.rf
  have hl := lv_entry ([.ref (ad 0), .int p1, .int p2, .int p3]) (n := 4) (Nat.le_of_ble_eq_true rfl)
  rw [lg_entry_eq]
  generalize (lg_sl ([.ref (ad 0), .int p1, .int p2, .int p3]) ++ List.replicate (4 - (lg_sl ([.ref (ad 0), .int p1, .int p2, .int p3])).length) Slot.unset).toArray = ls at hl ⊢
  have hl : lv_has ls 4 [(0, .ref (ad 0)), (1, .int p1), (2, .int p2), (3, .int p3)] := hl
  have hf58 := hts (.fieldLink RX10 58 "LawRings" "allCases" "LLawRings$AllCases;") (by decide +kernel)
  have hiX10 : ∀ w ∈ u_ws RX10 TX10 11, w ∈ wsX10_reached := by decide +kernel
  rw [sX10_reached] at h
  refine lv_iload_n hx hb dX10_reached_0 rfl (lv_at hl 1 rfl) ?_
  refine lv_iload_n hx hb dX10_reached_1 rfl (lv_at hl 2 rfl) ?_
  refine lv_iload_n hx hb dX10_reached_2 rfl (lv_at hl 3 rfl) ?_
  obtain ⟨r2, k1, h⟩ := ob_elim h
  refine vp_callSi (W.runS (As := [.int p1, .int p2, .int p3]) (rest := []) ⟨hx, hb, hml, hown, hts⟩ (mX10_isTable l p1 p2 p3 k1) (va_cwS 3 hts gX10_reached_X10_isTable rfl rfl rfl (by decide +kernel) ⟨Nat.le_of_ble_eq_true rfl, Nat.le_of_ble_eq_true rfl⟩) ⟨fun _ _ _ _ q => q, fun U hU hW => ⟨rfl, trivial⟩⟩ rfl rfl hl.1 rfl (lv_room (Nat.le_of_ble_eq_true rfl)) dX10_reached_3 ⟨Nat.zero_le _, Nat.zero_le _⟩) (fun r9 er9 => ?_)
  replace er9 := er9.symm
  subst er9
  refine lv_if_ne (tgt := 12) hx hb dX10_reached_6 (by decide) (fun c3 => ?_) (fun c3 => ?_)
  · replace h := it_f c3 h
    refine lv_aload_n hx hb dX10_reached_12 rfl (lv_at hl 0 rfl) ?_
    refine va_get (D := (dC, dI)) (ci := 10) (v := .ref (ad 8)) (C := RX10) (T := TX10) (N := 11) hx hb hts hiX10 hown hK hP 0 rfl rfl 6 (by decide) hf58 (fun _ h9 => h9) rfl dX10_reached_13 ?_
    refine lv_iload_n hx hb dX10_reached_16 rfl (lv_at hl 1 rfl) ?_
    refine lv_iload_n hx hb dX10_reached_17 rfl (lv_at hl 2 rfl) ?_
    refine lv_iload_n hx hb dX10_reached_18 rfl (lv_at hl 3 rfl) ?_
    obtain ⟨r7, S5, L6, k4, h⟩ := ob3_elim h
    refine va_calli (va_runV (As := [.int p1, .int p2, .int p3]) (rest := []) ⟨hx, hb, hml, hown, hts⟩ (mX0_landsReached l dC dI cI cJ ad p1 p2 p3 S L s.heap.size k4) (cwV 3 hts gX10_reached_X0_landsReached rfl rfl rfl (by decide +kernel) ⟨Nat.le_of_ble_eq_true rfl, Nat.le_of_ble_eq_true rfl⟩) ⟨QXs_blind, va_recv hK hP (ci := 0) (q0 := 8) rfl rfl, fun U hU hW => ⟨rfl, congrArg Array.size hU, QX_at hP hK hD hU hW⟩⟩ rfl rfl hl.1 rfl (lv_room (Nat.le_of_ble_eq_true rfl)) dX10_reached_19 ⟨Nat.zero_le _, Nat.zero_le _⟩) hS (fun q _ hq => AX_mono hS.1 hq) (fun q hq => AX_mono hS.1 hq) (fun r u t H1 locs ht hvm hw hB hz1 hk1 hS => ?_)
    cases hw
    rw [ht] at hB
    have hP := hB
    clear hB hk1 hz1
    generalize H1 = H at hP hS ⊢
    have hD := wX_D hD S5 L6
    cases h
    exact W.iret hx hb hr (fun t ht hW => ⟨⟨_, _, rfl, rfl, by show va_P _ _ _ t.heap; rw [ht]; exact hP⟩, hS.F ht⟩) hS.2.2 dX10_reached_22
  · replace h := it_t c3 h
    refine lv_bipush (v := (-2)) hx hb dX10_reached_9 (by decide) ?_
    cases h
    exact W.iret hx hb hr (fun t ht hW => ⟨⟨_, _, rfl, rfl, by show va_P _ _ _ t.heap; rw [ht]; exact hP⟩, hS.F ht⟩) hS.2.2 dX10_reached_11
set_option maxHeartbeats 4000000 in
set_option maxRecDepth 100000 in
theorem mX11_reached (l : Launch) (dC : Nat → ClassId) (dI : Nat → Nat → Nat) (cI cZ : ClassId) (ad : Nat → Nat) (p1 : Int32) (p2 : Int32) (p3 : Int32) (S : Nat → Nat → Int32) (sz : Nat) {z : Int32 × (Nat → Nat → Int32)} (h : sX11_reached p1 p2 p3 S = some z) : Met l yX11_reached wsX11_reached ({ frames := 8, cells := 0, slots := 0, locals := 190 }) (va_Pc [.ref (ad 0), .int p1, .int p2, .int p3] (QMs sz dC dI cI cZ ad S)) (va_Qi (fun (r : Int32) (u : (Nat → Nat → Int32)) => (r, u) = z) (fun (u : (Nat → Nat → Int32)) t => va_P (dC, dI) vwCl (wM cI cZ ad u) t.heap) (AX 7 ad sz)) 0 0 (AX 7 ad sz) := by
  refine Met.ofW (cc := cX11_reached) (maxL := 7) (ret := (some .int)) (by decide) rfl ?_
  intro p e s m args below meth c s₁ B hml hv
  obtain ⟨rfl, hsz, hP, hK, hD0⟩ := hv
  have hx := B.exec
  have hb := B.bytes
  have hr := B.returns
  have hts := atoms_spec (ws := wsX11_reached) B.pre
  have hown : s.vm.findClass RX11 = some m.cls := findClass_of_methodNamed B.named
  have hlocks := B.notSynchronized
  subst hsz
  have hD := wM_DA hD0 s.heap.size
  have hS : va_S (AX 7 ad s.heap.size) s.heap s.heap [] := va_S.rf
  have hl := lv_entry ([.ref (ad 0), .int p1, .int p2, .int p3]) (n := 7) (Nat.le_of_ble_eq_true rfl)
  rw [lg_entry_eq]
  generalize (lg_sl ([.ref (ad 0), .int p1, .int p2, .int p3]) ++ List.replicate (7 - (lg_sl ([.ref (ad 0), .int p1, .int p2, .int p3])).length) Slot.unset).toArray = ls at hl ⊢
  have hl : lv_has ls 7 [(0, .ref (ad 0)), (1, .int p1), (2, .int p2), (3, .int p3)] := hl
  rw [sX11_reached] at h
  refine lv_iload_n hx hb dX11_reached_0 rfl (lv_at hl 1 rfl) ?_
  obtain ⟨r2, k1, h⟩ := ob_elim h
  refine vp_callSi (W.runS (As := [.int p1]) (rest := []) ⟨hx, hb, hml, hown, hts⟩ (mX11_isLand l p1 k1) (va_cwS 1 hts gX11_reached_X11_isLand rfl rfl rfl (by decide +kernel) ⟨Nat.le_of_ble_eq_true rfl, Nat.le_of_ble_eq_true rfl⟩) ⟨fun _ _ _ _ q => q, fun U hU hW => ⟨rfl, trivial⟩⟩ rfl rfl hl.1 rfl (lv_room (Nat.le_of_ble_eq_true rfl)) dX11_reached_1 ⟨Nat.zero_le _, Nat.zero_le _⟩) (fun r9 er9 => ?_)
  replace er9 := er9.symm
  subst er9
  refine lv_if_eq (tgt := 21) hx hb dX11_reached_4 (by decide) (fun c3 => ?_) (fun c3 => ?_)
  · replace h := it_t c3 h
    refine lv_bipush (v := (-2)) hx hb dX11_reached_21 (by decide) ?_
    cases h
    exact W.iret hx hb hr (fun t ht hW => ⟨⟨_, _, rfl, rfl, by show va_P _ _ _ t.heap; rw [ht]; exact hP⟩, hS.F ht⟩) hS.2.2 dX11_reached_23
  · replace h := it_f c3 h
    refine lv_iload_n hx hb dX11_reached_7 rfl (lv_at hl 2 rfl) ?_
    obtain ⟨r5, k4, h⟩ := ob_elim h
    refine vp_callSi (W.runS (As := [.int p2]) (rest := []) ⟨hx, hb, hml, hown, hts⟩ (mX11_isKind l p2 k4) (va_cwS 1 hts gX11_reached_X11_isKind rfl rfl rfl (by decide +kernel) ⟨Nat.le_of_ble_eq_true rfl, Nat.le_of_ble_eq_true rfl⟩) ⟨fun _ _ _ _ q => q, fun U hU hW => ⟨rfl, trivial⟩⟩ rfl rfl hl.1 rfl (lv_room (Nat.le_of_ble_eq_true rfl)) dX11_reached_8 ⟨Nat.zero_le _, Nat.zero_le _⟩) (fun r9 er9 => ?_)
    replace er9 := er9.symm
    subst er9
    refine lv_if_eq (tgt := 21) hx hb dX11_reached_11 (by decide) (fun c6 => ?_) (fun c6 => ?_)
    · replace h := it_t c6 h
      refine lv_bipush (v := (-2)) hx hb dX11_reached_21 (by decide) ?_
      cases h
      exact W.iret hx hb hr (fun t ht hW => ⟨⟨_, _, rfl, rfl, by show va_P _ _ _ t.heap; rw [ht]; exact hP⟩, hS.F ht⟩) hS.2.2 dX11_reached_23
    · replace h := it_f c6 h
      refine lv_iload_n hx hb dX11_reached_14 rfl (lv_at hl 3 rfl) ?_
      obtain ⟨r8, k7, h⟩ := ob_elim h
      refine vp_callSi (W.runS (As := [.int p3]) (rest := []) ⟨hx, hb, hml, hown, hts⟩ (mX11_isDay l p3 k7) (va_cwS 1 hts gX11_reached_X11_isDay rfl rfl rfl (by decide +kernel) ⟨Nat.le_of_ble_eq_true rfl, Nat.le_of_ble_eq_true rfl⟩) ⟨fun _ _ _ _ q => q, fun U hU hW => ⟨rfl, trivial⟩⟩ rfl rfl hl.1 rfl (lv_room (Nat.le_of_ble_eq_true rfl)) dX11_reached_15 ⟨Nat.zero_le _, Nat.zero_le _⟩) (fun r9 er9 => ?_)
      replace er9 := er9.symm
      subst er9
      refine lv_if_ne (tgt := 24) hx hb dX11_reached_18 (by decide) (fun c9 => ?_) (fun c9 => ?_)
      · replace h := it_f c9 h
        refine lv_iconst (v := 0) hx hb dX11_reached_24 (by decide) ?_
        refine lv_istore (lv' := [(4, .int 0), (0, .ref (ad 0)), (1, .int p1), (2, .int p2), (3, .int p3)]) hx hb dX11_reached_25 hl (by decide) rfl (fun ls hl => ?_)
        refine lv_iconst (v := 0) hx hb dX11_reached_27 (by decide) ?_
        refine lv_istore (lv' := [(5, .int 0), (4, .int 0), (0, .ref (ad 0)), (1, .int p1), (2, .int p2), (3, .int p3)]) hx hb dX11_reached_28 hl (by decide) rfl (fun ls hl => ?_)
        refine ww_w (fun WW30 hWW30 => ?_)
        have Lh30 : ∀ (n : Nat) (v10 : Int32) (v11 : Int32) (S12 : (Nat → Nat → Int32)) (z : (Int32 × (Nat → Nat → Int32))), lX11_reached_30 p1 p2 p3 n v10 v11 S12 = some z → ∀ (H : Heap) (locs : List Loc), va_P (dC, dI) vwCl (wM cI cZ ad S12) H → va_S (AX 7 ad s.heap.size) s.heap H locs → ∀ ls : Array Slot, lv_has ls 7 [(0, .ref (ad 0)), (1, .int p1), (2, .int p2), (3, .int p3), (4, .int v10), (5, .int v11)] → (∀ (y0 : Int32) (YS : (Nat → Nat → Int32)), z = (y0, YS) → ∀ (H : Heap) (locs : List Loc), va_P (dC, dI) vwCl (wM cI cZ ad YS) H → va_S (AX 7 ad s.heap.size) s.heap H locs → ∀ ls : Array Slot, lv_has ls 7 [(4, .int y0)] → WW30 H locs 80 ls) → WW30 H locs 30 ls := by
          intro n
          induction n with
          | zero => intro v10 v11 S12 z h H locs hP hS ls hl K0; rw [lX11_reached_30] at h; cases h
          | succ n ih =>
            intro v10 v11 S12 z h H locs hP hS ls hl K0
            have hD := wM_D hD S12
            rw [lX11_reached_30] at h
            refine wi_w hWW30 ?_
            refine lv_iload hx hb dX11_reached_30 (lv_at hl 5 rfl) ?_
            refine lv_sipush (v := 15625) hx hb dX11_reached_32 (by decide) ?_
            refine lv_icmp_ge (tgt := 80) hx hb dX11_reached_35 (by decide) (fun c13 => ?_) (fun c13 => ?_)
            · replace h := it_t c13 h
              refine wu_w hWW30 ?_
              exact K0 v10 S12 (Option.some.inj h).symm H locs hP hS ls (lv_sub hl [4] rfl)
            · replace h := it_f c13 h
              refine lv_aload_n hx hb dX11_reached_38 rfl (lv_at hl 0 rfl) ?_
              refine lv_iload hx hb dX11_reached_39 (lv_at hl 5 rfl) ?_
              refine lv_iload_n hx hb dX11_reached_41 rfl (lv_at hl 3 rfl) ?_
              obtain ⟨S15, k14, h⟩ := ob_elim h
              refine va_callv (va_runV (As := [.int v11, .int p3]) (rest := []) ⟨hx, hb, hml, hown, hts⟩ (mX11_looksAtNumber l dC dI cI cZ ad v11 p3 S12 H.size k14) (cwV 2 hts gX11_reached_X11_looksAtNumber rfl rfl rfl (by decide +kernel) ⟨Nat.le_of_ble_eq_true rfl, Nat.le_of_ble_eq_true rfl⟩) ⟨QMs_blind, va_recv hK hP (ci := 11) (q0 := 0) rfl rfl, fun U hU hW => ⟨rfl, congrArg Array.size hU, QM_at hP hK hD hU hW⟩⟩ rfl rfl hl.1 rfl (lv_room (Nat.le_of_ble_eq_true rfl)) dX11_reached_42 ⟨Nat.zero_le _, Nat.zero_le _⟩) hS (fun q _ hq => AX_mono hS.1 hq) (fun q hq => AX_mono hS.1 hq) (fun u t H1 locs ht hvm hw hB hz1 hk1 hS => ?_)
              cases hw
              rw [ht] at hB
              have hP := hB
              clear hB hk1 hz1
              generalize H1 = H at hP hS ⊢
              have hD := wM_D hD S15
              refine lv_aload_n hx hb dX11_reached_45 rfl (lv_at hl 0 rfl) ?_
              refine lv_iload_n hx hb dX11_reached_46 rfl (lv_at hl 1 rfl) ?_
              refine lv_iload_n hx hb dX11_reached_47 rfl (lv_at hl 2 rfl) ?_
              obtain ⟨r17, k16, h⟩ := ob_elim h
              refine vp_callSi (W.runV (As := [.int p1, .int p2]) (rest := []) ⟨hx, hb, hml, hown, hts⟩ (mX11_endsOf l dC dI cI cZ ad p1 p2 S15 k16) (cwV 2 hts gX11_reached_X11_endsOf rfl rfl rfl (by decide +kernel) ⟨Nat.le_of_ble_eq_true rfl, Nat.le_of_ble_eq_true rfl⟩) ⟨QM_blind, va_recv hK hP (ci := 11) (q0 := 0) rfl rfl, fun U hU hW => ⟨rfl, QM_at hP hK hD hU hW⟩⟩ rfl rfl hl.1 rfl (lv_room (Nat.le_of_ble_eq_true rfl)) dX11_reached_48 ⟨Nat.zero_le _, Nat.zero_le _⟩) (fun r9 er9 => ?_)
              replace er9 := er9.symm
              subst er9
              refine lv_istore (lv' := [(6, .int r17), (0, .ref (ad 0)), (1, .int p1), (2, .int p2), (3, .int p3), (4, .int v10), (5, .int v11)]) hx hb dX11_reached_51 hl (by decide) rfl (fun ls hl => ?_)
              refine lv_iload hx hb dX11_reached_53 (lv_at hl 5 rfl) ?_
              refine lv_iload hx hb dX11_reached_55 (lv_at hl 0 rfl) ?_
              refine lv_bipush (v := (-5)) hx hb dX11_reached_57 (by decide) ?_
              refine lv_icmp_ne (tgt := 67) hx hb dX11_reached_59 (by decide) (fun c18 => ?_) (fun c18 => ?_)
              · replace h := it_f c18 h
                refine lv_iconst (v := 1) hx hb dX11_reached_67 (by decide) ?_
                refine lv_iload hx hb dX11_reached_68 (lv_at hl 0 rfl) ?_
                refine lv_ishl hx hb dX11_reached_70 ?_
                refine lv_ior hx hb dX11_reached_71 ?_
                obtain ⟨x19, ex19, h⟩ := bnd_elim h
                refine nm_i ex19 ?_
                refine lv_istore (lv' := [(4, .int x19), (6, .int r17), (0, .ref (ad 0)), (1, .int p1), (2, .int p2), (3, .int p3), (5, .int v11)]) hx hb dX11_reached_72 hl (by decide) rfl (fun ls hl => ?_)
                obtain ⟨x20, ex20, h⟩ := bnd_elim h
                refine lv_iinc (v := x20) (lv' := [(5, .int x20), (4, .int x19), (6, .int r17), (0, .ref (ad 0)), (1, .int p1), (2, .int p2), (3, .int p3)]) hx hb dX11_reached_74 hl (k := 6) rfl (by rw [ex20]; rfl) (by decide) rfl (fun ls hl => ?_)
                refine lv_goto (tgt := 30) hx hb dX11_reached_77 (by decide) ?_
                refine wu_w hWW30 ?_
                exact ih x19 x20 S15 z h H locs hP hS ls (lv_sub hl [3, 4, 5, 6, 1, 0] rfl) K0
              · replace h := it_t c18 h
                refine lv_bipush (v := 16) hx hb dX11_reached_62 (by decide) ?_
                refine lv_goto (tgt := 71) hx hb dX11_reached_64 (by decide) ?_
                refine lv_ior hx hb dX11_reached_71 ?_
                obtain ⟨x21, ex21, h⟩ := bnd_elim h
                refine nm_i ex21 ?_
                refine lv_istore (lv' := [(4, .int x21), (6, .int r17), (0, .ref (ad 0)), (1, .int p1), (2, .int p2), (3, .int p3), (5, .int v11)]) hx hb dX11_reached_72 hl (by decide) rfl (fun ls hl => ?_)
                obtain ⟨x22, ex22, h⟩ := bnd_elim h
                refine lv_iinc (v := x22) (lv' := [(5, .int x22), (4, .int x21), (6, .int r17), (0, .ref (ad 0)), (1, .int p1), (2, .int p2), (3, .int p3)]) hx hb dX11_reached_74 hl (k := 6) rfl (by rw [ex22]; rfl) (by decide) rfl (fun ls hl => ?_)
                refine lv_goto (tgt := 30) hx hb dX11_reached_77 (by decide) ?_
                refine wu_w hWW30 ?_
                exact ih x21 x22 S15 z h H locs hP hS ls (lv_sub hl [3, 4, 5, 6, 1, 0] rfl) K0
        obtain ⟨w24, S25, k23, h⟩ := ob2_elim h
        refine wu_w hWW30 ?_
        refine Lh30 FU 0 0 S _ k23 s.heap [] hP hS ls (lv_sub hl [2, 3, 4, 5, 1, 0] rfl) ?_
        intro y0 y1 hy H locs hP hS ls hl
        cases hy
        have hD := wM_D hD S25
        refine wi_w hWW30 ?_
        refine lv_iload hx hb dX11_reached_80 (lv_at hl 0 rfl) ?_
        cases h
        exact W.iret hx hb hr (fun t ht hW => ⟨⟨_, _, rfl, rfl, by show va_P _ _ _ t.heap; rw [ht]; exact hP⟩, hS.F ht⟩) hS.2.2 dX11_reached_82
      · replace h := it_t c9 h
        refine lv_bipush (v := (-2)) hx hb dX11_reached_21 (by decide) ?_
        cases h
        exact W.iret hx hb hr (fun t ht hW => ⟨⟨_, _, rfl, rfl, by show va_P _ _ _ t.heap; rw [ht]; exact hP⟩, hS.F ht⟩) hS.2.2 dX11_reached_23
set_option maxHeartbeats 4000000 in
set_option maxRecDepth 100000 in
theorem mX4_allAlike (l : Launch) (dC : Nat → ClassId) (dI : Nat → Nat → Nat) (cI cJ : ClassId) (ad : Nat → Nat)  (S : Nat → Nat → Int32) (L : Nat → Nat → Int64) (sz : Nat) {z : Int32 × (Nat → Nat → Int32) × (Nat → Nat → Int64)} (h : sX4_allAlike S L = some z) : Met l yX4_allAlike wsX4_allAlike ({ frames := 3, cells := 0, slots := 0, locals := 71 }) (va_Pc [.ref (ad 6)] (QXs sz dC dI cI cJ ad S L)) (va_Qi (fun (r : Int32) (u : (Nat → Nat → Int32) × (Nat → Nat → Int64)) => (r, u) = z) (fun (u : (Nat → Nat → Int32) × (Nat → Nat → Int64)) t => va_P (dC, dI) vwCl (wX cI cJ ad u.1 u.2) t.heap) (AX 43 ad sz)) 0 0 (AX 43 ad sz) := by
  refine Met.ofW (cc := cX4_allAlike) (maxL := 3) (ret := (some .boolean)) (by decide) rfl ?_
  intro p e s m args below meth c s₁ B hml hv
  obtain ⟨rfl, hsz, hP, hK, hD0⟩ := hv
  have hx := B.exec
  have hb := B.bytes
  have hr := B.returns
  have hts := atoms_spec (ws := wsX4_allAlike) B.pre
  have hown : s.vm.findClass RX4 = some m.cls := findClass_of_methodNamed B.named
  have hlocks := B.notSynchronized
  subst hsz
  have hD := wX_DA hD0 s.heap.size
  have hS : va_S (AX 43 ad s.heap.size) s.heap s.heap [] := va_S.rf
  have hl := lv_entry ([.ref (ad 6)]) (n := 3) (Nat.le_of_ble_eq_true rfl)
  rw [lg_entry_eq]
  generalize (lg_sl ([.ref (ad 6)]) ++ List.replicate (3 - (lg_sl ([.ref (ad 6)])).length) Slot.unset).toArray = ls at hl ⊢
  have hl : lv_has ls 3 [(0, .ref (ad 6))] := hl
  rw [sX4_allAlike] at h
  refine lv_aload_n hx hb dX4_allAlike_0 rfl (lv_at hl 0 rfl) ?_
  refine lv_iconst (v := 0) hx hb dX4_allAlike_1 (by decide) ?_
  obtain ⟨r4, S2, L3, k1, h⟩ := ob3_elim h
  refine va_calli (va_runV (As := [.int 0]) (rest := []) ⟨hx, hb, hml, hown, hts⟩ (mX4_outcome l dC dI cI cJ ad 0 S L s.heap.size k1) (cwV 1 hts gX4_allAlike_X4_outcome rfl rfl rfl (by decide +kernel) ⟨Nat.le_of_ble_eq_true rfl, Nat.le_of_ble_eq_true rfl⟩) ⟨QXs_blind, va_recv hK hP (ci := 4) (q0 := 6) rfl rfl, fun U hU hW => ⟨rfl, congrArg Array.size hU, QX_at hP hK hD hU hW⟩⟩ rfl rfl hl.1 rfl (lv_room (Nat.le_of_ble_eq_true rfl)) dX4_allAlike_2 ⟨Nat.zero_le _, Nat.zero_le _⟩) hS (fun q _ hq => AX_mono hS.1 hq) (fun q hq => AX_mono hS.1 hq) (fun r u t H1 locs ht hvm hw hB hz1 hk1 hS => ?_)
  cases hw
  rw [ht] at hB
  have hP := hB
  clear hB hk1 hz1
  generalize H1 = H at hP hS ⊢
  have hD := wX_D hD S2 L3
  refine lv_istore_n (lv' := [(1, .int r4), (0, .ref (ad 6))]) hx hb dX4_allAlike_5 rfl hl (by decide) rfl (fun ls hl => ?_)
  refine lv_iconst (v := 1) hx hb dX4_allAlike_6 (by decide) ?_
  refine lv_istore_n (lv' := [(2, .int 1), (1, .int r4), (0, .ref (ad 6))]) hx hb dX4_allAlike_7 rfl hl (by decide) rfl (fun ls hl => ?_)
  refine ww_w (fun WW8 hWW8 => ?_)
  have Lh8 : ∀ (n : Nat) (v5 : Int32) (S6 : (Nat → Nat → Int32)) (L7 : (Nat → Nat → Int64)) (z : (((Nat → Nat → Int32) × (Nat → Nat → Int64)) ⊕ ((Nat → Nat → Int32) × (Nat → Nat → Int64)))), lX4_allAlike_8 r4 n v5 S6 L7 = some z → ∀ (H : Heap) (locs : List Loc), va_P (dC, dI) vwCl (wX cI cJ ad S6 L7) H → va_S (AX 43 ad s.heap.size) s.heap H locs → ∀ ls : Array Slot, lv_has ls 3 [(0, .ref (ad 6)), (1, .int r4), (2, .int v5)] → (∀ (YS : (Nat → Nat → Int32)) (YL : (Nat → Nat → Int64)), z = .inl (YS, YL) → ∀ (H : Heap) (locs : List Loc), va_P (dC, dI) vwCl (wX cI cJ ad YS YL) H → va_S (AX 43 ad s.heap.size) s.heap H locs → ∀ ls : Array Slot, lv_has ls 3 [] → WW8 H locs 22 ls) → (∀ (YS : (Nat → Nat → Int32)) (YL : (Nat → Nat → Int64)), z = .inr (YS, YL) → ∀ (H : Heap) (locs : List Loc), va_P (dC, dI) vwCl (wX cI cJ ad YS YL) H → va_S (AX 43 ad s.heap.size) s.heap H locs → ∀ ls : Array Slot, lv_has ls 3 [] → WW8 H locs 30 ls) → WW8 H locs 8 ls := by
    intro n
    induction n with
    | zero => intro v5 S6 L7 z h H locs hP hS ls hl K0 K1; rw [lX4_allAlike_8] at h; cases h
    | succ n ih =>
      intro v5 S6 L7 z h H locs hP hS ls hl K0 K1
      have hD := wX_D hD S6 L7
      rw [lX4_allAlike_8] at h
      refine wi_w hWW8 ?_
      refine lv_iload_n hx hb dX4_allAlike_8 rfl (lv_at hl 2 rfl) ?_
      refine lv_iconst (v := 4) hx hb dX4_allAlike_9 (by decide) ?_
      refine lv_icmp_ge (tgt := 30) hx hb dX4_allAlike_10 (by decide) (fun c8 => ?_) (fun c8 => ?_)
      · replace h := it_t c8 h
        refine wu_w hWW8 ?_
        exact K1 S6 L7 (Option.some.inj h).symm H locs hP hS ls (lv_sub hl [] rfl)
      · replace h := it_f c8 h
        refine lv_aload_n hx hb dX4_allAlike_13 rfl (lv_at hl 0 rfl) ?_
        refine lv_iload_n hx hb dX4_allAlike_14 rfl (lv_at hl 2 rfl) ?_
        obtain ⟨r12, S10, L11, k9, h⟩ := ob3_elim h
        refine va_calli (va_runV (As := [.int v5]) (rest := []) ⟨hx, hb, hml, hown, hts⟩ (mX4_outcome l dC dI cI cJ ad v5 S6 L7 H.size k9) (cwV 1 hts gX4_allAlike_X4_outcome rfl rfl rfl (by decide +kernel) ⟨Nat.le_of_ble_eq_true rfl, Nat.le_of_ble_eq_true rfl⟩) ⟨QXs_blind, va_recv hK hP (ci := 4) (q0 := 6) rfl rfl, fun U hU hW => ⟨rfl, congrArg Array.size hU, QX_at hP hK hD hU hW⟩⟩ rfl rfl hl.1 rfl (lv_room (Nat.le_of_ble_eq_true rfl)) dX4_allAlike_15 ⟨Nat.zero_le _, Nat.zero_le _⟩) hS (fun q _ hq => AX_mono hS.1 hq) (fun q hq => AX_mono hS.1 hq) (fun r u t H1 locs ht hvm hw hB hz1 hk1 hS => ?_)
        cases hw
        rw [ht] at hB
        have hP := hB
        clear hB hk1 hz1
        generalize H1 = H at hP hS ⊢
        have hD := wX_D hD S10 L11
        refine lv_iload_n hx hb dX4_allAlike_18 rfl (lv_at hl 1 rfl) ?_
        refine lv_icmp_eq (tgt := 24) hx hb dX4_allAlike_19 (by decide) (fun c13 => ?_) (fun c13 => ?_)
        · replace h := it_t c13 h
          obtain ⟨x14, ex14, h⟩ := bnd_elim h
          refine lv_iinc (v := x14) (lv' := [(2, .int x14), (0, .ref (ad 6)), (1, .int r4)]) hx hb dX4_allAlike_24 hl (k := 2) rfl (by rw [ex14]; rfl) (by decide) rfl (fun ls hl => ?_)
          refine lv_goto (tgt := 8) hx hb dX4_allAlike_27 (by decide) ?_
          refine wu_w hWW8 ?_
          exact ih x14 S10 L11 z h H locs hP hS ls (lv_sub hl [1, 2, 0] rfl) K0 K1
        · replace h := it_f c13 h
          refine wu_w hWW8 ?_
          exact K0 S10 L11 (Option.some.inj h).symm H locs hP hS ls (lv_sub hl [] rfl)
  obtain ⟨q9, k15, h⟩ | ⟨q9, k15, h⟩ := os2_elim h
  · obtain ⟨S16, L17⟩ := q9
    replace h := un2_e h
    refine wu_w hWW8 ?_
    refine Lh8 FU 1 S2 L3 _ k15 H locs hP hS ls (lv_sub hl [2, 1, 0] rfl) ?_ (fun _ _ hy => by cases hy)
    intro y0 y1 hy H locs hP hS ls hl
    cases hy
    have hD := wX_D hD S16 L17
    refine wi_w hWW8 ?_
    refine lv_iconst (v := 0) hx hb dX4_allAlike_22 (by decide) ?_
    cases h
    exact W.zret hx hb hr rfl (fun t ht hW => ⟨⟨_, _, rfl, rfl, by show va_P _ _ _ t.heap; rw [ht]; exact hP⟩, hS.F ht⟩) hS.2.2 dX4_allAlike_23
  · obtain ⟨S18, L19⟩ := q9
    replace h := un2_e h
    refine wu_w hWW8 ?_
    refine Lh8 FU 1 S2 L3 _ k15 H locs hP hS ls (lv_sub hl [2, 1, 0] rfl) (fun _ _ hy => by cases hy) ?_
    intro y0 y1 hy H locs hP hS ls hl
    cases hy
    have hD := wX_D hD S18 L19
    refine wi_w hWW8 ?_
    refine lv_iconst (v := 1) hx hb dX4_allAlike_30 (by decide) ?_
    cases h
    exact W.zret hx hb hr rfl (fun t ht hW => ⟨⟨_, _, rfl, rfl, by show va_P _ _ _ t.heap; rw [ht]; exact hP⟩, hS.F ht⟩) hS.2.2 dX4_allAlike_31
set_option maxHeartbeats 4000000 in
set_option maxRecDepth 100000 in
theorem mX0_countAlike (l : Launch) (dC : Nat → ClassId) (dI : Nat → Nat → Nat) (cI cJ : ClassId) (ad : Nat → Nat) (p1 : Int32) (p2 : Int32) (S : Nat → Nat → Int32) (L : Nat → Nat → Int64) (sz : Nat) {z : Int32 × (Nat → Nat → Int32) × (Nat → Nat → Int64)} (h : sX0_countAlike p1 p2 S L = some z) : Met l yX0_countAlike wsX0_countAlike ({ frames := 4, cells := 0, slots := 0, locals := 94 }) (va_Pc [.ref (ad 8), .int p1, .int p2] (QXs sz dC dI cI cJ ad S L)) (va_Qi (fun (r : Int32) (u : (Nat → Nat → Int32) × (Nat → Nat → Int64)) => (r, u) = z) (fun (u : (Nat → Nat → Int32) × (Nat → Nat → Int64)) t => va_P (dC, dI) vwCl (wX cI cJ ad u.1 u.2) t.heap) (AX 43 ad sz)) 0 0 (AX 43 ad sz) := by
  refine Met.ofW (cc := cX0_countAlike) (maxL := 5) (ret := (some .int)) (by decide) rfl ?_
  intro p e s m args below meth c s₁ B hml hv
  obtain ⟨rfl, hsz, hP, hK, hD0⟩ := hv
  have hx := B.exec
  have hb := B.bytes
  have hr := B.returns
  have hts := atoms_spec (ws := wsX0_countAlike) B.pre
  have hown : s.vm.findClass RX0 = some m.cls := findClass_of_methodNamed B.named
  have hlocks := B.notSynchronized
  subst hsz
  have hD := wX_DA hD0 s.heap.size
  have hS : va_S (AX 43 ad s.heap.size) s.heap s.heap [] := va_S.rf
  have hl := lv_entry ([.ref (ad 8), .int p1, .int p2]) (n := 5) (Nat.le_of_ble_eq_true rfl)
  rw [lg_entry_eq]
  generalize (lg_sl ([.ref (ad 8), .int p1, .int p2]) ++ List.replicate (5 - (lg_sl ([.ref (ad 8), .int p1, .int p2])).length) Slot.unset).toArray = ls at hl ⊢
  have hl : lv_has ls 5 [(0, .ref (ad 8)), (1, .int p1), (2, .int p2)] := hl
  have hf19 := hts (.fieldLink RX0 19 "LawRings$AllCases" "hearing" "LLawRings$Hearing;") (by decide +kernel)
  have hiX0 : ∀ w ∈ u_ws RX0 TX0 3, w ∈ wsX0_countAlike := by decide +kernel
  rw [sX0_countAlike] at h
  refine lv_iconst (v := 0) hx hb dX0_countAlike_0 (by decide) ?_
  refine lv_istore_n (lv' := [(3, .int 0), (0, .ref (ad 8)), (1, .int p1), (2, .int p2)]) hx hb dX0_countAlike_1 rfl hl (by decide) rfl (fun ls hl => ?_)
  refine lv_aload_n hx hb dX0_countAlike_2 rfl (lv_at hl 1 rfl) ?_
  refine lv_iload_n hx hb dX0_countAlike_3 rfl (lv_at hl 3 rfl) ?_
  obtain ⟨S2, L3, k1, h⟩ := ob2_elim h
  refine va_callv (va_runV (As := [.int p2]) (rest := []) ⟨hx, hb, hml, hown, hts⟩ (mX0_start l dC dI cI cJ ad p2 S L s.heap.size k1) (cwV 1 hts gX0_countAlike_X0_start rfl rfl rfl (by decide +kernel) ⟨Nat.le_of_ble_eq_true rfl, Nat.le_of_ble_eq_true rfl⟩) ⟨QXs_blind, va_recv hK hP (ci := 0) (q0 := 8) rfl rfl, fun U hU hW => ⟨rfl, congrArg Array.size hU, QX_at hP hK hD hU hW⟩⟩ rfl rfl hl.1 rfl (lv_room (Nat.le_of_ble_eq_true rfl)) dX0_countAlike_4 ⟨Nat.zero_le _, Nat.zero_le _⟩) hS (fun q _ hq => AX_mono hS.1 hq) (fun q hq => AX_mono hS.1 hq) (fun u t H1 locs ht hvm hw hB hz1 hk1 hS => ?_)
  cases hw
  rw [ht] at hB
  have hP := hB
  clear hB hk1 hz1
  generalize H1 = H at hP hS ⊢
  have hD := wX_D hD S2 L3
  refine lv_iconst (v := 0) hx hb dX0_countAlike_7 (by decide) ?_
  refine lv_istore (lv' := [(4, .int 0), (3, .int 0), (0, .ref (ad 8)), (1, .int p1), (2, .int p2)]) hx hb dX0_countAlike_8 hl (by decide) rfl (fun ls hl => ?_)
  refine ww_w (fun WW10 hWW10 => ?_)
  have Lh10 : ∀ (n : Nat) (v4 : Int32) (v5 : Int32) (S6 : (Nat → Nat → Int32)) (L7 : (Nat → Nat → Int64)) (z : (Int32 × (Nat → Nat → Int32) × (Nat → Nat → Int64))), lX0_countAlike_10 p1 n v4 v5 S6 L7 = some z → ∀ (H : Heap) (locs : List Loc), va_P (dC, dI) vwCl (wX cI cJ ad S6 L7) H → va_S (AX 43 ad s.heap.size) s.heap H locs → ∀ ls : Array Slot, lv_has ls 5 [(0, .ref (ad 8)), (1, .int p1), (3, .int v4), (4, .int v5)] → (∀ (y0 : Int32) (YS : (Nat → Nat → Int32)) (YL : (Nat → Nat → Int64)), z = (y0, YS, YL) → ∀ (H : Heap) (locs : List Loc), va_P (dC, dI) vwCl (wX cI cJ ad YS YL) H → va_S (AX 43 ad s.heap.size) s.heap H locs → ∀ ls : Array Slot, lv_has ls 5 [(3, .int y0)] → WW10 H locs 44 ls) → WW10 H locs 10 ls := by
    intro n
    induction n with
    | zero => intro v4 v5 S6 L7 z h H locs hP hS ls hl K0; rw [lX0_countAlike_10] at h; cases h
    | succ n ih =>
      intro v4 v5 S6 L7 z h H locs hP hS ls hl K0
      have hD := wX_D hD S6 L7
      rw [lX0_countAlike_10] at h
      refine wi_w hWW10 ?_
      refine lv_iload hx hb dX0_countAlike_10 (lv_at hl 3 rfl) ?_
      refine lv_sipush (v := 15625) hx hb dX0_countAlike_12 (by decide) ?_
      refine lv_icmp_ge (tgt := 44) hx hb dX0_countAlike_15 (by decide) (fun c8 => ?_) (fun c8 => ?_)
      · replace h := it_t c8 h
        refine wu_w hWW10 ?_
        exact K0 v4 S6 L7 (Option.some.inj h).symm H locs hP hS ls (lv_sub hl [2] rfl)
      · replace h := it_f c8 h
        refine lv_aload_n hx hb dX0_countAlike_18 rfl (lv_at hl 0 rfl) ?_
        refine lv_iload hx hb dX0_countAlike_19 (lv_at hl 3 rfl) ?_
        refine lv_iload_n hx hb dX0_countAlike_21 rfl (lv_at hl 1 rfl) ?_
        obtain ⟨S10, L11, k9, h⟩ := ob2_elim h
        refine va_callv (va_runV (As := [.int v5, .int p1]) (rest := []) ⟨hx, hb, hml, hown, hts⟩ (mX0_turnTo l dC dI cI cJ ad v5 p1 S6 L7 H.size k9) (cwV 2 hts gX0_countAlike_X0_turnTo rfl rfl rfl (by decide +kernel) ⟨Nat.le_of_ble_eq_true rfl, Nat.le_of_ble_eq_true rfl⟩) ⟨QXs_blind, va_recv hK hP (ci := 0) (q0 := 8) rfl rfl, fun U hU hW => ⟨rfl, congrArg Array.size hU, QX_at hP hK hD hU hW⟩⟩ rfl rfl hl.1 rfl (lv_room (Nat.le_of_ble_eq_true rfl)) dX0_countAlike_22 ⟨Nat.zero_le _, Nat.zero_le _⟩) hS (fun q _ hq => AX_mono hS.1 hq) (fun q hq => AX_mono hS.1 hq) (fun u t H1 locs ht hvm hw hB hz1 hk1 hS => ?_)
        cases hw
        rw [ht] at hB
        have hP := hB
        clear hB hk1 hz1
        generalize H1 = H at hP hS ⊢
        have hD := wX_D hD S10 L11
        refine lv_aload_n hx hb dX0_countAlike_25 rfl (lv_at hl 0 rfl) ?_
        refine va_get (D := (dC, dI)) (ci := 0) (v := .ref (ad 6)) (C := RX0) (T := TX0) (N := 3) hx hb hts hiX0 hown hK hP 8 rfl rfl 1 (by decide) hf19 (fun _ h9 => h9) rfl dX0_countAlike_26 ?_
        obtain ⟨r15, S13, L14, k12, h⟩ := ob3_elim h
        refine va_calli (va_runV (As := []) (rest := []) ⟨hx, hb, hml, hown, hts⟩ (mX4_allAlike l dC dI cI cJ ad S10 L11 H.size k12) (cwV 0 hts gX0_countAlike_X4_allAlike rfl rfl rfl (by decide +kernel) ⟨Nat.le_of_ble_eq_true rfl, Nat.le_of_ble_eq_true rfl⟩) ⟨QXs_blind, va_recv hK hP (ci := 4) (q0 := 6) rfl rfl, fun U hU hW => ⟨rfl, congrArg Array.size hU, QX_at hP hK hD hU hW⟩⟩ rfl rfl hl.1 rfl (lv_room (Nat.le_of_ble_eq_true rfl)) dX0_countAlike_29 ⟨Nat.zero_le _, Nat.zero_le _⟩) hS (fun q _ hq => AX_mono hS.1 hq) (fun q hq => AX_mono hS.1 hq) (fun r u t H1 locs ht hvm hw hB hz1 hk1 hS => ?_)
        cases hw
        rw [ht] at hB
        have hP := hB
        clear hB hk1 hz1
        generalize H1 = H at hP hS ⊢
        have hD := wX_D hD S13 L14
        refine lv_if_eq (tgt := 38) hx hb dX0_countAlike_32 (by decide) (fun c16 => ?_) (fun c16 => ?_)
        · replace h := it_t c16 h
          obtain ⟨x17, ex17, h⟩ := bnd_elim h
          refine lv_iinc (v := x17) (lv' := [(4, .int x17), (0, .ref (ad 8)), (1, .int p1), (3, .int v4)]) hx hb dX0_countAlike_38 hl (k := 3) rfl (by rw [ex17]; rfl) (by decide) rfl (fun ls hl => ?_)
          refine lv_goto (tgt := 10) hx hb dX0_countAlike_41 (by decide) ?_
          refine wu_w hWW10 ?_
          exact ih v4 x17 S13 L14 z h H locs hP hS ls (lv_sub hl [1, 2, 3, 0] rfl) K0
        · replace h := it_f c16 h
          obtain ⟨x18, ex18, h⟩ := bnd_elim h
          refine lv_iinc (v := x18) (lv' := [(3, .int x18), (0, .ref (ad 8)), (1, .int p1), (4, .int v5)]) hx hb dX0_countAlike_35 hl (k := 2) rfl (by rw [ex18]; rfl) (by decide) rfl (fun ls hl => ?_)
          obtain ⟨x19, ex19, h⟩ := bnd_elim h
          refine lv_iinc (v := x19) (lv' := [(4, .int x19), (3, .int x18), (0, .ref (ad 8)), (1, .int p1)]) hx hb dX0_countAlike_38 hl (k := 3) rfl (by rw [ex19]; rfl) (by decide) rfl (fun ls hl => ?_)
          refine lv_goto (tgt := 10) hx hb dX0_countAlike_41 (by decide) ?_
          refine wu_w hWW10 ?_
          exact ih x18 x19 S13 L14 z h H locs hP hS ls (lv_sub hl [2, 3, 1, 0] rfl) K0
  obtain ⟨w21, S22, L23, k20, h⟩ := ob3_elim h
  refine wu_w hWW10 ?_
  refine Lh10 FU 0 0 S2 L3 _ k20 H locs hP hS ls (lv_sub hl [2, 3, 1, 0] rfl) ?_
  intro y0 y1 y2 hy H locs hP hS ls hl
  cases hy
  have hD := wX_D hD S22 L23
  refine wi_w hWW10 ?_
  refine lv_iload_n hx hb dX0_countAlike_44 rfl (lv_at hl 0 rfl) ?_
  cases h
  exact W.iret hx hb hr (fun t ht hW => ⟨⟨_, _, rfl, rfl, by show va_P _ _ _ t.heap; rw [ht]; exact hP⟩, hS.F ht⟩) hS.2.2 dX0_countAlike_45
set_option maxHeartbeats 4000000 in
set_option maxRecDepth 100000 in
theorem mX10_same (l : Launch) (dC : Nat → ClassId) (dI : Nat → Nat → Nat) (cI cJ : ClassId) (ad : Nat → Nat) (p1 : Int32) (p2 : Int32) (S : Nat → Nat → Int32) (L : Nat → Nat → Int64) (sz : Nat) {z : Int32 × (Nat → Nat → Int32) × (Nat → Nat → Int64)} (h : sX10_same p1 p2 S L = some z) : Met l yX10_same wsX10_same ({ frames := 5, cells := 0, slots := 0, locals := 118 }) (va_Pc [.ref (ad 0), .int p1, .int p2] (QXs sz dC dI cI cJ ad S L)) (va_Qi (fun (r : Int32) (u : (Nat → Nat → Int32) × (Nat → Nat → Int64)) => (r, u) = z) (fun (u : (Nat → Nat → Int32) × (Nat → Nat → Int64)) t => va_P (dC, dI) vwCl (wX cI cJ ad u.1 u.2) t.heap) (AX 43 ad sz)) 0 0 (AX 43 ad sz) := by
  refine Met.ofW (cc := cX10_same) (maxL := 3) (ret := (some .int)) (by decide) rfl ?_
  intro p e s m args below meth c s₁ B hml hv
  obtain ⟨rfl, hsz, hP, hK, hD0⟩ := hv
  have hx := B.exec
  have hb := B.bytes
  have hr := B.returns
  have hts := atoms_spec (ws := wsX10_same) B.pre
  have hown : s.vm.findClass RX10 = some m.cls := findClass_of_methodNamed B.named
  have hlocks := B.notSynchronized
  subst hsz
  have hD := wX_DA hD0 s.heap.size
  have hS : va_S (AX 43 ad s.heap.size) s.heap s.heap [] := va_S.rf
  have hl := lv_entry ([.ref (ad 0), .int p1, .int p2]) (n := 3) (Nat.le_of_ble_eq_true rfl)
  rw [lg_entry_eq]
  generalize (lg_sl ([.ref (ad 0), .int p1, .int p2]) ++ List.replicate (3 - (lg_sl ([.ref (ad 0), .int p1, .int p2])).length) Slot.unset).toArray = ls at hl ⊢
  have hl : lv_has ls 3 [(0, .ref (ad 0)), (1, .int p1), (2, .int p2)] := hl
  have hf58 := hts (.fieldLink RX10 58 "LawRings" "allCases" "LLawRings$AllCases;") (by decide +kernel)
  have hiX10 : ∀ w ∈ u_ws RX10 TX10 11, w ∈ wsX10_same := by decide +kernel
  rw [sX10_same] at h
  refine lv_iload_n hx hb dX10_same_0 rfl (lv_at hl 1 rfl) ?_
  obtain ⟨r2, k1, h⟩ := ob_elim h
  refine vp_callSi (W.runS (As := [.int p1]) (rest := []) ⟨hx, hb, hml, hown, hts⟩ (mX10_isKind l p1 k1) (va_cwS 1 hts gX10_same_X10_isKind rfl rfl rfl (by decide +kernel) ⟨Nat.le_of_ble_eq_true rfl, Nat.le_of_ble_eq_true rfl⟩) ⟨fun _ _ _ _ q => q, fun U hU hW => ⟨rfl, trivial⟩⟩ rfl rfl hl.1 rfl (lv_room (Nat.le_of_ble_eq_true rfl)) dX10_same_1 ⟨Nat.zero_le _, Nat.zero_le _⟩) (fun r9 er9 => ?_)
  replace er9 := er9.symm
  subst er9
  refine lv_if_eq (tgt := 14) hx hb dX10_same_4 (by decide) (fun c3 => ?_) (fun c3 => ?_)
  · replace h := it_t c3 h
    refine lv_bipush (v := (-2)) hx hb dX10_same_14 (by decide) ?_
    cases h
    exact W.iret hx hb hr (fun t ht hW => ⟨⟨_, _, rfl, rfl, by show va_P _ _ _ t.heap; rw [ht]; exact hP⟩, hS.F ht⟩) hS.2.2 dX10_same_16
  · replace h := it_f c3 h
    refine lv_iload_n hx hb dX10_same_7 rfl (lv_at hl 2 rfl) ?_
    obtain ⟨r5, k4, h⟩ := ob_elim h
    refine vp_callSi (W.runS (As := [.int p2]) (rest := []) ⟨hx, hb, hml, hown, hts⟩ (mX10_isDay l p2 k4) (va_cwS 1 hts gX10_same_X10_isDay rfl rfl rfl (by decide +kernel) ⟨Nat.le_of_ble_eq_true rfl, Nat.le_of_ble_eq_true rfl⟩) ⟨fun _ _ _ _ q => q, fun U hU hW => ⟨rfl, trivial⟩⟩ rfl rfl hl.1 rfl (lv_room (Nat.le_of_ble_eq_true rfl)) dX10_same_8 ⟨Nat.zero_le _, Nat.zero_le _⟩) (fun r9 er9 => ?_)
    replace er9 := er9.symm
    subst er9
    refine lv_if_ne (tgt := 17) hx hb dX10_same_11 (by decide) (fun c6 => ?_) (fun c6 => ?_)
    · replace h := it_f c6 h
      refine lv_aload_n hx hb dX10_same_17 rfl (lv_at hl 0 rfl) ?_
      refine va_get (D := (dC, dI)) (ci := 10) (v := .ref (ad 8)) (C := RX10) (T := TX10) (N := 11) hx hb hts hiX10 hown hK hP 0 rfl rfl 6 (by decide) hf58 (fun _ h9 => h9) rfl dX10_same_18 ?_
      refine lv_iload_n hx hb dX10_same_21 rfl (lv_at hl 1 rfl) ?_
      refine lv_iload_n hx hb dX10_same_22 rfl (lv_at hl 2 rfl) ?_
      obtain ⟨r10, S8, L9, k7, h⟩ := ob3_elim h
      refine va_calli (va_runV (As := [.int p1, .int p2]) (rest := []) ⟨hx, hb, hml, hown, hts⟩ (mX0_countAlike l dC dI cI cJ ad p1 p2 S L s.heap.size k7) (cwV 2 hts gX10_same_X0_countAlike rfl rfl rfl (by decide +kernel) ⟨Nat.le_of_ble_eq_true rfl, Nat.le_of_ble_eq_true rfl⟩) ⟨QXs_blind, va_recv hK hP (ci := 0) (q0 := 8) rfl rfl, fun U hU hW => ⟨rfl, congrArg Array.size hU, QX_at hP hK hD hU hW⟩⟩ rfl rfl hl.1 rfl (lv_room (Nat.le_of_ble_eq_true rfl)) dX10_same_23 ⟨Nat.zero_le _, Nat.zero_le _⟩) hS (fun q _ hq => AX_mono hS.1 hq) (fun q hq => AX_mono hS.1 hq) (fun r u t H1 locs ht hvm hw hB hz1 hk1 hS => ?_)
      cases hw
      rw [ht] at hB
      have hP := hB
      clear hB hk1 hz1
      generalize H1 = H at hP hS ⊢
      have hD := wX_D hD S8 L9
      cases h
      exact W.iret hx hb hr (fun t ht hW => ⟨⟨_, _, rfl, rfl, by show va_P _ _ _ t.heap; rw [ht]; exact hP⟩, hS.F ht⟩) hS.2.2 dX10_same_26
    · replace h := it_t c6 h
      refine lv_bipush (v := (-2)) hx hb dX10_same_14 (by decide) ?_
      cases h
      exact W.iret hx hb hr (fun t ht hW => ⟨⟨_, _, rfl, rfl, by show va_P _ _ _ t.heap; rw [ht]; exact hP⟩, hS.F ht⟩) hS.2.2 dX10_same_16
set_option maxHeartbeats 4000000 in
set_option maxRecDepth 100000 in
theorem mX11_areAlike (l : Launch) (dC : Nat → ClassId) (dI : Nat → Nat → Nat) (cI cZ : ClassId) (ad : Nat → Nat) (p1 : Int32) (S : Nat → Nat → Int32) {z : Int32} (h : sX11_areAlike p1 S = some z) : Met l yX11_areAlike wsX11_areAlike ({ frames := 8, cells := 0, slots := 0, locals := 190 }) (va_Pc [.ref (ad 0), .int p1] (QM dC dI cI cZ ad S)) (vp_Si (fun r => r = z)) 0 0 (fun _ => False) := by
  refine Met.ofW (cc := cX11_areAlike) (maxL := 3) (ret := (some .boolean)) (by decide) rfl ?_
  intro p e s m args below meth c s₁ B hml hv
  obtain ⟨rfl, hP, hK, hD⟩ := hv
  have hx := B.exec
  have hb := B.bytes
  have hr := B.returns
  have hts := atoms_spec (ws := wsX11_areAlike) B.pre
  have hown : s.vm.findClass RX11 = some m.cls := findClass_of_methodNamed B.named
  have hlocks := B.notSynchronized
  have hl := lv_entry ([.ref (ad 0), .int p1]) (n := 3) (Nat.le_of_ble_eq_true rfl)
  rw [lg_entry_eq]
  generalize (lg_sl ([.ref (ad 0), .int p1]) ++ List.replicate (3 - (lg_sl ([.ref (ad 0), .int p1])).length) Slot.unset).toArray = ls at hl ⊢
  have hl : lv_has ls 3 [(0, .ref (ad 0)), (1, .int p1)] := hl
  rw [sX11_areAlike] at h
  refine lv_aload_n hx hb dX11_areAlike_0 rfl (lv_at hl 0 rfl) ?_
  refine lv_iconst (v := 0) hx hb dX11_areAlike_1 (by decide) ?_
  refine lv_iload_n hx hb dX11_areAlike_2 rfl (lv_at hl 1 rfl) ?_
  obtain ⟨r2, k1, h⟩ := ob_elim h
  refine vp_callSi (W.runV (As := [.int 0, .int p1]) (rest := []) ⟨hx, hb, hml, hown, hts⟩ (mX11_endsOf l dC dI cI cZ ad 0 p1 S k1) (cwV 2 hts gX11_areAlike_X11_endsOf rfl rfl rfl (by decide +kernel) ⟨Nat.le_of_ble_eq_true rfl, Nat.le_of_ble_eq_true rfl⟩) ⟨QM_blind, va_recv hK hP (ci := 11) (q0 := 0) rfl rfl, fun U hU hW => ⟨rfl, QM_at hP hK hD hU hW⟩⟩ rfl rfl hl.1 rfl (lv_room (Nat.le_of_ble_eq_true rfl)) dX11_areAlike_3 ⟨Nat.zero_le _, Nat.zero_le _⟩) (fun r9 er9 => ?_)
  replace er9 := er9.symm
  subst er9
  refine lv_istore_n (lv' := [(2, .int r2), (0, .ref (ad 0)), (1, .int p1)]) hx hb dX11_areAlike_6 rfl hl (by decide) rfl (fun ls hl => ?_)
  refine lv_aload_n hx hb dX11_areAlike_7 rfl (lv_at hl 1 rfl) ?_
  refine lv_iconst (v := 1) hx hb dX11_areAlike_8 (by decide) ?_
  refine lv_iload_n hx hb dX11_areAlike_9 rfl (lv_at hl 2 rfl) ?_
  obtain ⟨r4, k3, h⟩ := ob_elim h
  refine vp_callSi (W.runV (As := [.int 1, .int p1]) (rest := []) ⟨hx, hb, hml, hown, hts⟩ (mX11_endsOf l dC dI cI cZ ad 1 p1 S k3) (cwV 2 hts gX11_areAlike_X11_endsOf rfl rfl rfl (by decide +kernel) ⟨Nat.le_of_ble_eq_true rfl, Nat.le_of_ble_eq_true rfl⟩) ⟨QM_blind, va_recv hK hP (ci := 11) (q0 := 0) rfl rfl, fun U hU hW => ⟨rfl, QM_at hP hK hD hU hW⟩⟩ rfl rfl hl.1 rfl (lv_room (Nat.le_of_ble_eq_true rfl)) dX11_areAlike_10 ⟨Nat.zero_le _, Nat.zero_le _⟩) (fun r9 er9 => ?_)
  replace er9 := er9.symm
  subst er9
  refine lv_iload_n hx hb dX11_areAlike_13 rfl (lv_at hl 0 rfl) ?_
  refine lv_icmp_ne (tgt := 41) hx hb dX11_areAlike_14 (by decide) (fun c5 => ?_) (fun c5 => ?_)
  · replace h := it_f c5 h
    refine lv_iconst (v := 0) hx hb dX11_areAlike_41 (by decide) ?_
    cases h
    exact W.zret hx hb hr rfl (fun t ht hW => ⟨_, rfl, rfl, ht⟩) (fun q hq => absurd hq List.not_mem_nil) dX11_areAlike_42
  · replace h := it_t c5 h
    refine lv_aload_n hx hb dX11_areAlike_17 rfl (lv_at hl 1 rfl) ?_
    refine lv_iconst (v := 2) hx hb dX11_areAlike_18 (by decide) ?_
    refine lv_iload_n hx hb dX11_areAlike_19 rfl (lv_at hl 2 rfl) ?_
    obtain ⟨r7, k6, h⟩ := ob_elim h
    refine vp_callSi (W.runV (As := [.int 2, .int p1]) (rest := []) ⟨hx, hb, hml, hown, hts⟩ (mX11_endsOf l dC dI cI cZ ad 2 p1 S k6) (cwV 2 hts gX11_areAlike_X11_endsOf rfl rfl rfl (by decide +kernel) ⟨Nat.le_of_ble_eq_true rfl, Nat.le_of_ble_eq_true rfl⟩) ⟨QM_blind, va_recv hK hP (ci := 11) (q0 := 0) rfl rfl, fun U hU hW => ⟨rfl, QM_at hP hK hD hU hW⟩⟩ rfl rfl hl.1 rfl (lv_room (Nat.le_of_ble_eq_true rfl)) dX11_areAlike_20 ⟨Nat.zero_le _, Nat.zero_le _⟩) (fun r9 er9 => ?_)
    replace er9 := er9.symm
    subst er9
    refine lv_iload_n hx hb dX11_areAlike_23 rfl (lv_at hl 0 rfl) ?_
    refine lv_icmp_ne (tgt := 41) hx hb dX11_areAlike_24 (by decide) (fun c8 => ?_) (fun c8 => ?_)
    · replace h := it_f c8 h
      refine lv_iconst (v := 0) hx hb dX11_areAlike_41 (by decide) ?_
      cases h
      exact W.zret hx hb hr rfl (fun t ht hW => ⟨_, rfl, rfl, ht⟩) (fun q hq => absurd hq List.not_mem_nil) dX11_areAlike_42
    · replace h := it_t c8 h
      refine lv_aload_n hx hb dX11_areAlike_27 rfl (lv_at hl 1 rfl) ?_
      refine lv_iconst (v := 3) hx hb dX11_areAlike_28 (by decide) ?_
      refine lv_iload_n hx hb dX11_areAlike_29 rfl (lv_at hl 2 rfl) ?_
      obtain ⟨r10, k9, h⟩ := ob_elim h
      refine vp_callSi (W.runV (As := [.int 3, .int p1]) (rest := []) ⟨hx, hb, hml, hown, hts⟩ (mX11_endsOf l dC dI cI cZ ad 3 p1 S k9) (cwV 2 hts gX11_areAlike_X11_endsOf rfl rfl rfl (by decide +kernel) ⟨Nat.le_of_ble_eq_true rfl, Nat.le_of_ble_eq_true rfl⟩) ⟨QM_blind, va_recv hK hP (ci := 11) (q0 := 0) rfl rfl, fun U hU hW => ⟨rfl, QM_at hP hK hD hU hW⟩⟩ rfl rfl hl.1 rfl (lv_room (Nat.le_of_ble_eq_true rfl)) dX11_areAlike_30 ⟨Nat.zero_le _, Nat.zero_le _⟩) (fun r9 er9 => ?_)
      replace er9 := er9.symm
      subst er9
      refine lv_iload_n hx hb dX11_areAlike_33 rfl (lv_at hl 0 rfl) ?_
      refine lv_icmp_ne (tgt := 41) hx hb dX11_areAlike_34 (by decide) (fun c11 => ?_) (fun c11 => ?_)
      · replace h := it_f c11 h
        refine lv_iconst (v := 0) hx hb dX11_areAlike_41 (by decide) ?_
        cases h
        exact W.zret hx hb hr rfl (fun t ht hW => ⟨_, rfl, rfl, ht⟩) (fun q hq => absurd hq List.not_mem_nil) dX11_areAlike_42
      · replace h := it_t c11 h
        refine lv_iconst (v := 1) hx hb dX11_areAlike_37 (by decide) ?_
        refine lv_goto (tgt := 42) hx hb dX11_areAlike_38 (by decide) ?_
        cases h
        exact W.zret hx hb hr rfl (fun t ht hW => ⟨_, rfl, rfl, ht⟩) (fun q hq => absurd hq List.not_mem_nil) dX11_areAlike_42
set_option maxHeartbeats 4000000 in
set_option maxRecDepth 100000 in
theorem mX11_same (l : Launch) (dC : Nat → ClassId) (dI : Nat → Nat → Nat) (cI cZ : ClassId) (ad : Nat → Nat) (p1 : Int32) (p2 : Int32) (S : Nat → Nat → Int32) (sz : Nat) {z : Int32 × (Nat → Nat → Int32)} (h : sX11_same p1 p2 S = some z) : Met l yX11_same wsX11_same ({ frames := 9, cells := 0, slots := 0, locals := 212 }) (va_Pc [.ref (ad 0), .int p1, .int p2] (QMs sz dC dI cI cZ ad S)) (va_Qi (fun (r : Int32) (u : (Nat → Nat → Int32)) => (r, u) = z) (fun (u : (Nat → Nat → Int32)) t => va_P (dC, dI) vwCl (wM cI cZ ad u) t.heap) (AX 7 ad sz)) 0 0 (AX 7 ad sz) := by
  refine Met.ofW (cc := cX11_same) (maxL := 5) (ret := (some .int)) (by decide) rfl ?_
  intro p e s m args below meth c s₁ B hml hv
  obtain ⟨rfl, hsz, hP, hK, hD0⟩ := hv
  have hx := B.exec
  have hb := B.bytes
  have hr := B.returns
  have hts := atoms_spec (ws := wsX11_same) B.pre
  have hown : s.vm.findClass RX11 = some m.cls := findClass_of_methodNamed B.named
  have hlocks := B.notSynchronized
  subst hsz
  have hD := wM_DA hD0 s.heap.size
  have hS : va_S (AX 7 ad s.heap.size) s.heap s.heap [] := va_S.rf
  have hl := lv_entry ([.ref (ad 0), .int p1, .int p2]) (n := 5) (Nat.le_of_ble_eq_true rfl)
  rw [lg_entry_eq]
  generalize (lg_sl ([.ref (ad 0), .int p1, .int p2]) ++ List.replicate (5 - (lg_sl ([.ref (ad 0), .int p1, .int p2])).length) Slot.unset).toArray = ls at hl ⊢
  have hl : lv_has ls 5 [(0, .ref (ad 0)), (1, .int p1), (2, .int p2)] := hl
  rw [sX11_same] at h
  refine lv_iload_n hx hb dX11_same_0 rfl (lv_at hl 1 rfl) ?_
  obtain ⟨r2, k1, h⟩ := ob_elim h
  refine vp_callSi (W.runS (As := [.int p1]) (rest := []) ⟨hx, hb, hml, hown, hts⟩ (mX11_isKind l p1 k1) (va_cwS 1 hts gX11_same_X11_isKind rfl rfl rfl (by decide +kernel) ⟨Nat.le_of_ble_eq_true rfl, Nat.le_of_ble_eq_true rfl⟩) ⟨fun _ _ _ _ q => q, fun U hU hW => ⟨rfl, trivial⟩⟩ rfl rfl hl.1 rfl (lv_room (Nat.le_of_ble_eq_true rfl)) dX11_same_1 ⟨Nat.zero_le _, Nat.zero_le _⟩) (fun r9 er9 => ?_)
  replace er9 := er9.symm
  subst er9
  refine lv_if_eq (tgt := 14) hx hb dX11_same_4 (by decide) (fun c3 => ?_) (fun c3 => ?_)
  · replace h := it_t c3 h
    refine lv_bipush (v := (-2)) hx hb dX11_same_14 (by decide) ?_
    cases h
    exact W.iret hx hb hr (fun t ht hW => ⟨⟨_, _, rfl, rfl, by show va_P _ _ _ t.heap; rw [ht]; exact hP⟩, hS.F ht⟩) hS.2.2 dX11_same_16
  · replace h := it_f c3 h
    refine lv_iload_n hx hb dX11_same_7 rfl (lv_at hl 2 rfl) ?_
    obtain ⟨r5, k4, h⟩ := ob_elim h
    refine vp_callSi (W.runS (As := [.int p2]) (rest := []) ⟨hx, hb, hml, hown, hts⟩ (mX11_isDay l p2 k4) (va_cwS 1 hts gX11_same_X11_isDay rfl rfl rfl (by decide +kernel) ⟨Nat.le_of_ble_eq_true rfl, Nat.le_of_ble_eq_true rfl⟩) ⟨fun _ _ _ _ q => q, fun U hU hW => ⟨rfl, trivial⟩⟩ rfl rfl hl.1 rfl (lv_room (Nat.le_of_ble_eq_true rfl)) dX11_same_8 ⟨Nat.zero_le _, Nat.zero_le _⟩) (fun r9 er9 => ?_)
    replace er9 := er9.symm
    subst er9
    refine lv_if_ne (tgt := 17) hx hb dX11_same_11 (by decide) (fun c6 => ?_) (fun c6 => ?_)
    · replace h := it_f c6 h
      refine lv_iconst (v := 0) hx hb dX11_same_17 (by decide) ?_
      refine lv_istore_n (lv' := [(3, .int 0), (0, .ref (ad 0)), (1, .int p1), (2, .int p2)]) hx hb dX11_same_18 rfl hl (by decide) rfl (fun ls hl => ?_)
      refine lv_iconst (v := 0) hx hb dX11_same_19 (by decide) ?_
      refine lv_istore (lv' := [(4, .int 0), (3, .int 0), (0, .ref (ad 0)), (1, .int p1), (2, .int p2)]) hx hb dX11_same_20 hl (by decide) rfl (fun ls hl => ?_)
      refine ww_w (fun WW22 hWW22 => ?_)
      have Lh22 : ∀ (n : Nat) (v7 : Int32) (v8 : Int32) (S9 : (Nat → Nat → Int32)) (z : (Int32 × (Nat → Nat → Int32))), lX11_same_22 p1 p2 n v7 v8 S9 = some z → ∀ (H : Heap) (locs : List Loc), va_P (dC, dI) vwCl (wM cI cZ ad S9) H → va_S (AX 7 ad s.heap.size) s.heap H locs → ∀ ls : Array Slot, lv_has ls 5 [(0, .ref (ad 0)), (1, .int p1), (2, .int p2), (3, .int v7), (4, .int v8)] → (∀ (y0 : Int32) (YS : (Nat → Nat → Int32)), z = (y0, YS) → ∀ (H : Heap) (locs : List Loc), va_P (dC, dI) vwCl (wM cI cZ ad YS) H → va_S (AX 7 ad s.heap.size) s.heap H locs → ∀ ls : Array Slot, lv_has ls 5 [(3, .int y0)] → WW22 H locs 59 ls) → WW22 H locs 22 ls := by
        intro n
        induction n with
        | zero => intro v7 v8 S9 z h H locs hP hS ls hl K0; rw [lX11_same_22] at h; cases h
        | succ n ih =>
          intro v7 v8 S9 z h H locs hP hS ls hl K0
          have hD := wM_D hD S9
          rw [lX11_same_22] at h
          refine wi_w hWW22 ?_
          refine lv_iload hx hb dX11_same_22 (lv_at hl 4 rfl) ?_
          refine lv_sipush (v := 15625) hx hb dX11_same_24 (by decide) ?_
          refine lv_icmp_ge (tgt := 59) hx hb dX11_same_27 (by decide) (fun c10 => ?_) (fun c10 => ?_)
          · replace h := it_t c10 h
            refine wu_w hWW22 ?_
            exact K0 v7 S9 (Option.some.inj h).symm H locs hP hS ls (lv_sub hl [3] rfl)
          · replace h := it_f c10 h
            refine lv_aload_n hx hb dX11_same_30 rfl (lv_at hl 0 rfl) ?_
            refine lv_iload hx hb dX11_same_31 (lv_at hl 4 rfl) ?_
            refine lv_iload_n hx hb dX11_same_33 rfl (lv_at hl 2 rfl) ?_
            obtain ⟨S12, k11, h⟩ := ob_elim h
            refine va_callv (va_runV (As := [.int v8, .int p2]) (rest := []) ⟨hx, hb, hml, hown, hts⟩ (mX11_looksAtNumber l dC dI cI cZ ad v8 p2 S9 H.size k11) (cwV 2 hts gX11_same_X11_looksAtNumber rfl rfl rfl (by decide +kernel) ⟨Nat.le_of_ble_eq_true rfl, Nat.le_of_ble_eq_true rfl⟩) ⟨QMs_blind, va_recv hK hP (ci := 11) (q0 := 0) rfl rfl, fun U hU hW => ⟨rfl, congrArg Array.size hU, QM_at hP hK hD hU hW⟩⟩ rfl rfl hl.1 rfl (lv_room (Nat.le_of_ble_eq_true rfl)) dX11_same_34 ⟨Nat.zero_le _, Nat.zero_le _⟩) hS (fun q _ hq => AX_mono hS.1 hq) (fun q hq => AX_mono hS.1 hq) (fun u t H1 locs ht hvm hw hB hz1 hk1 hS => ?_)
            cases hw
            rw [ht] at hB
            have hP := hB
            clear hB hk1 hz1
            generalize H1 = H at hP hS ⊢
            have hD := wM_D hD S12
            refine lv_iload_n hx hb dX11_same_37 rfl (lv_at hl 3 rfl) ?_
            refine lv_aload_n hx hb dX11_same_38 rfl (lv_at hl 0 rfl) ?_
            refine lv_iload_n hx hb dX11_same_39 rfl (lv_at hl 1 rfl) ?_
            obtain ⟨r14, k13, h⟩ := ob_elim h
            refine vp_callSi (W.runV (As := [.int p1]) (rest := [.int v7]) ⟨hx, hb, hml, hown, hts⟩ (mX11_areAlike l dC dI cI cZ ad p1 S12 k13) (cwV 1 hts gX11_same_X11_areAlike rfl rfl rfl (by decide +kernel) ⟨Nat.le_of_ble_eq_true rfl, Nat.le_of_ble_eq_true rfl⟩) ⟨QM_blind, va_recv hK hP (ci := 11) (q0 := 0) rfl rfl, fun U hU hW => ⟨rfl, QM_at hP hK hD hU hW⟩⟩ rfl rfl hl.1 rfl (lv_room (Nat.le_of_ble_eq_true rfl)) dX11_same_40 ⟨Nat.zero_le _, Nat.zero_le _⟩) (fun r9 er9 => ?_)
            replace er9 := er9.symm
            subst er9
            refine lv_if_eq (tgt := 50) hx hb dX11_same_43 (by decide) (fun c15 => ?_) (fun c15 => ?_)
            · replace h := it_t c15 h
              refine lv_iconst (v := 0) hx hb dX11_same_50 (by decide) ?_
              refine lv_iadd hx hb dX11_same_51 ?_
              obtain ⟨x16, ex16, h⟩ := bnd_elim h
              refine nm_i ex16 ?_
              refine lv_istore_n (lv' := [(3, .int x16), (0, .ref (ad 0)), (1, .int p1), (2, .int p2), (4, .int v8)]) hx hb dX11_same_52 rfl hl (by decide) rfl (fun ls hl => ?_)
              obtain ⟨x17, ex17, h⟩ := bnd_elim h
              refine lv_iinc (v := x17) (lv' := [(4, .int x17), (3, .int x16), (0, .ref (ad 0)), (1, .int p1), (2, .int p2)]) hx hb dX11_same_53 hl (k := 4) rfl (by rw [ex17]; rfl) (by decide) rfl (fun ls hl => ?_)
              refine lv_goto (tgt := 22) hx hb dX11_same_56 (by decide) ?_
              refine wu_w hWW22 ?_
              exact ih x16 x17 S12 z h H locs hP hS ls (lv_sub hl [2, 3, 4, 1, 0] rfl) K0
            · replace h := it_f c15 h
              refine lv_iconst (v := 1) hx hb dX11_same_46 (by decide) ?_
              refine lv_goto (tgt := 51) hx hb dX11_same_47 (by decide) ?_
              refine lv_iadd hx hb dX11_same_51 ?_
              obtain ⟨x18, ex18, h⟩ := bnd_elim h
              refine nm_i ex18 ?_
              refine lv_istore_n (lv' := [(3, .int x18), (0, .ref (ad 0)), (1, .int p1), (2, .int p2), (4, .int v8)]) hx hb dX11_same_52 rfl hl (by decide) rfl (fun ls hl => ?_)
              obtain ⟨x19, ex19, h⟩ := bnd_elim h
              refine lv_iinc (v := x19) (lv' := [(4, .int x19), (3, .int x18), (0, .ref (ad 0)), (1, .int p1), (2, .int p2)]) hx hb dX11_same_53 hl (k := 4) rfl (by rw [ex19]; rfl) (by decide) rfl (fun ls hl => ?_)
              refine lv_goto (tgt := 22) hx hb dX11_same_56 (by decide) ?_
              refine wu_w hWW22 ?_
              exact ih x18 x19 S12 z h H locs hP hS ls (lv_sub hl [2, 3, 4, 1, 0] rfl) K0
      obtain ⟨w21, S22, k20, h⟩ := ob2_elim h
      refine wu_w hWW22 ?_
      refine Lh22 FU 0 0 S _ k20 s.heap [] hP hS ls (lv_sub hl [2, 3, 4, 1, 0] rfl) ?_
      intro y0 y1 hy H locs hP hS ls hl
      cases hy
      have hD := wM_D hD S22
      refine wi_w hWW22 ?_
      refine lv_iload_n hx hb dX11_same_59 rfl (lv_at hl 0 rfl) ?_
      cases h
      exact W.iret hx hb hr (fun t ht hW => ⟨⟨_, _, rfl, rfl, by show va_P _ _ _ t.heap; rw [ht]; exact hP⟩, hS.F ht⟩) hS.2.2 dX11_same_60
    · replace h := it_t c6 h
      refine lv_bipush (v := (-2)) hx hb dX11_same_14 (by decide) ?_
      cases h
      exact W.iret hx hb hr (fun t ht hW => ⟨⟨_, _, rfl, rfl, by show va_P _ _ _ t.heap; rw [ht]; exact hP⟩, hS.F ht⟩) hS.2.2 dX11_same_16
