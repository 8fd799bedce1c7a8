set_option maxHeartbeats 4000000 in
set_option maxRecDepth 100000 in
theorem mX11_sizeOf (l : Launch) (p0 : Int32) {z : Int32} (h : sX11_sizeOf p0 = some z) : Met l yX11_sizeOf wsX11_sizeOf ({ frames := 0, cells := 0, slots := 0, locals := 0 }) (va_Pc [.int p0] (fun _ => True)) (vp_Si (fun r => r = z)) 0 0 (fun _ => False) := by
  refine Met.ofW (cc := cX11_sizeOf) (maxL := 3) (ret := (some .int)) (by decide) rfl ?_
  intro p e s m args below meth c s₁ B hml hv
  obtain ⟨rfl, -⟩ := hv
  have hx := B.exec
  have hb := B.bytes
  have hr := B.returns
  have hts := atoms_spec (ws := wsX11_sizeOf) B.pre
  have hown : s.vm.findClass RX11 = some m.cls := findClass_of_methodNamed B.named
  have hlocks := B.notSynchronized
  have hl := lv_entry ([.int p0]) (n := 3) (Nat.le_of_ble_eq_true rfl)
  rw [lg_entry_eq]
  generalize (lg_sl ([.int p0]) ++ List.replicate (3 - (lg_sl ([.int p0])).length) Slot.unset).toArray = ls at hl ⊢
  have hl : lv_has ls 3 [(0, .int p0)] := hl
  rw [sX11_sizeOf] at h
  refine lv_iconst (v := 0) hx hb dX11_sizeOf_0 (by decide) ?_
  refine lv_istore_n (lv' := [(1, .int 0), (0, .int p0)]) hx hb dX11_sizeOf_1 rfl hl (by decide) rfl (fun ls hl => ?_)
  refine lv_iload_n hx hb dX11_sizeOf_2 rfl (lv_at hl 1 rfl) ?_
  refine lv_istore_n (lv' := [(2, .int p0), (1, .int 0), (0, .int p0)]) hx hb dX11_sizeOf_3 rfl hl (by decide) rfl (fun ls hl => ?_)
  refine ww_r (fun WW4 hWW4 => ?_)
  have Lh4 : ∀ (n : Nat) (v1 : Int32) (v2 : Int32) (z : (Int32)), lX11_sizeOf_4 n v1 v2 = some z → ∀ ls : Array Slot, lv_has ls 3 [(1, .int v1), (2, .int v2)] → (∀ (y0 : Int32), z = y0 → ∀ ls : Array Slot, lv_has ls 3 [(1, .int y0)] → WW4  21 ls) → WW4  4 ls := by
    intro n
    induction n with
    | zero => intro v1 v2 z h ls hl K0; rw [lX11_sizeOf_4] at h; cases h
    | succ n ih =>
      intro v1 v2 z h ls hl K0
      rw [lX11_sizeOf_4] at h
      refine wi_r hWW4 ?_
      refine lv_iload_n hx hb dX11_sizeOf_4 rfl (lv_at hl 1 rfl) ?_
      refine lv_if_le (tgt := 21) hx hb dX11_sizeOf_5 (by decide) (fun c3 => ?_) (fun c3 => ?_)
      · replace h := it_t c3 h
        refine wu_r hWW4 ?_
        exact K0 v1 (Option.some.inj h).symm ls (lv_sub hl [0] rfl)
      · replace h := it_f c3 h
        refine lv_iload_n hx hb dX11_sizeOf_8 rfl (lv_at hl 0 rfl) ?_
        refine lv_iload_n hx hb dX11_sizeOf_9 rfl (lv_at hl 1 rfl) ?_
        refine lv_iconst (v := 1) hx hb dX11_sizeOf_10 (by decide) ?_
        refine lv_iand hx hb dX11_sizeOf_11 ?_
        refine lv_iadd hx hb dX11_sizeOf_12 ?_
        obtain ⟨x4, ex4, h⟩ := bnd_elim h
        refine nm_i ex4 ?_
        refine lv_istore_n (lv' := [(1, .int x4), (2, .int v2)]) hx hb dX11_sizeOf_13 rfl hl (by decide) rfl (fun ls hl => ?_)
        refine lv_iload_n hx hb dX11_sizeOf_14 rfl (lv_at hl 1 rfl) ?_
        refine lv_iconst (v := 1) hx hb dX11_sizeOf_15 (by decide) ?_
        refine lv_ishr hx hb dX11_sizeOf_16 ?_
        obtain ⟨x5, ex5, h⟩ := bnd_elim h
        refine nm_i ex5 ?_
        refine lv_istore_n (lv' := [(2, .int x5), (1, .int x4)]) hx hb dX11_sizeOf_17 rfl hl (by decide) rfl (fun ls hl => ?_)
        refine lv_goto (tgt := 4) hx hb dX11_sizeOf_18 (by decide) ?_
        refine wu_r hWW4 ?_
        exact ih x4 x5 z h ls (lv_sub hl [1, 0] rfl) K0
  obtain ⟨w7, k6, h⟩ := ob_elim h
  refine wu_r hWW4 ?_
  refine Lh4 FU 0 p0 _ k6 ls (lv_sub hl [1, 0] rfl) ?_
  intro y0 hy ls hl
  cases hy
  refine wi_r hWW4 ?_
  refine lv_iload_n hx hb dX11_sizeOf_21 rfl (lv_at hl 0 rfl) ?_
  cases h
  exact W.iret hx hb hr (fun t ht hW => ⟨_, rfl, rfl, ht⟩) (fun q hq => absurd hq List.not_mem_nil) dX11_sizeOf_22
set_option maxHeartbeats 4000000 in
set_option maxRecDepth 100000 in
theorem mX11_fewest (l : Launch) (dC : Nat → ClassId) (dI : Nat → Nat → Nat) (cI cZ : ClassId) (ad : Nat → Nat)  (S : Nat → Nat → Int32) (sz : Nat) {z : Int32 × (Nat → Nat → Int32)} (h : sX11_fewest S = some z) : Met l yX11_fewest wsX11_fewest ({ frames := 10, cells := 0, slots := 0, locals := 235 }) (va_Pc [.ref (ad 0)] (QMs sz dC dI cI cZ ad S)) (va_Qi (fun (r : Int32) (u : (Nat → Nat → Int32)) => (r, u) = z) (fun (u : (Nat → Nat → Int32)) t => va_P (dC, dI) vwCl (wM cI cZ ad u) t.heap) (AX 7 ad sz)) 0 0 (AX 7 ad sz) := by
  refine Met.ofW (cc := cX11_fewest) (maxL := 3) (ret := (some .int)) (by decide) rfl ?_
  intro p e s m args below meth c s₁ B hml hv
  obtain ⟨rfl, hsz, hP, hK, hD0⟩ := hv
  have hx := B.exec
  have hb := B.bytes
  have hr := B.returns
  have hts := atoms_spec (ws := wsX11_fewest) B.pre
  have hown : s.vm.findClass RX11 = some m.cls := findClass_of_methodNamed B.named
  have hlocks := B.notSynchronized
  subst hsz
  have hD := wM_DA hD0 s.heap.size
  have hS : va_S (AX 7 ad s.heap.size) s.heap s.heap [] := va_S.rf
  have hl := lv_entry ([.ref (ad 0)]) (n := 3) (Nat.le_of_ble_eq_true rfl)
  rw [lg_entry_eq]
  generalize (lg_sl ([.ref (ad 0)]) ++ List.replicate (3 - (lg_sl ([.ref (ad 0)])).length) Slot.unset).toArray = ls at hl ⊢
  have hl : lv_has ls 3 [(0, .ref (ad 0))] := hl
  have hf7 := hts (.fieldLink RX11 7 "LawRingsModel" "st" "[I") (by decide +kernel)
  have hiX11 : ∀ w ∈ u_ws RX11 TX11 8, w ∈ wsX11_fewest := by decide +kernel
  rw [sX11_fewest] at h
  refine lv_aload_n hx hb dX11_fewest_0 rfl (lv_at hl 0 rfl) ?_
  refine va_get (D := (dC, dI)) (ci := 11) (v := .ref (ad 1)) (C := RX11) (T := TX11) (N := 8) hx hb hts hiX11 hown hK hP 0 rfl rfl 0 (by decide) hf7 (fun _ h9 => h9) rfl dX11_fewest_1 ?_
  refine lv_iconst (v := 0) hx hb dX11_fewest_4 (by decide) ?_
  obtain ⟨b1, h⟩ := ck_elim h
  refine va_iald hx hb hK hP 1 0 rfl rfl b1 dX11_fewest_5 ?_
  refine lv_if_ne (tgt := 12) hx hb dX11_fewest_6 (by decide) (fun c2 => ?_) (fun c2 => ?_)
  · replace h := it_f c2 h
    refine lv_iconst (v := (-1)) hx hb dX11_fewest_12 (by decide) ?_
    refine lv_istore_n (lv' := [(1, .int (-1)), (0, .ref (ad 0))]) hx hb dX11_fewest_13 rfl hl (by decide) rfl (fun ls hl => ?_)
    refine lv_iconst (v := 0) hx hb dX11_fewest_14 (by decide) ?_
    refine lv_istore_n (lv' := [(2, .int 0), (1, .int (-1)), (0, .ref (ad 0))]) hx hb dX11_fewest_15 rfl hl (by decide) rfl (fun ls hl => ?_)
    refine ww_w (fun WW16 hWW16 => ?_)
    have Lh16 : ∀ (n : Nat) (v3 : Int32) (v4 : Int32) (S5 : (Nat → Nat → Int32)) (z : (Int32 × (Nat → Nat → Int32))), lX11_fewest_16 n v3 v4 S5 = some z → ∀ (H : Heap) (locs : List Loc), va_P (dC, dI) vwCl (wM cI cZ ad S5) H → va_S (AX 7 ad s.heap.size) s.heap H locs → ∀ ls : Array Slot, lv_has ls 3 [(0, .ref (ad 0)), (1, .int v3), (2, .int v4)] → (∀ (y0 : Int32) (YS : (Nat → Nat → Int32)), z = (y0, YS) → ∀ (H : Heap) (locs : List Loc), va_P (dC, dI) vwCl (wM cI cZ ad YS) H → va_S (AX 7 ad s.heap.size) s.heap H locs → ∀ ls : Array Slot, lv_has ls 3 [(1, .int y0)] → WW16 H locs 60 ls) → WW16 H locs 16 ls := by
      intro n
      induction n with
      | zero => intro v3 v4 S5 z h H locs hP hS ls hl K0; rw [lX11_fewest_16] at h; cases h
      | succ n ih =>
        intro v3 v4 S5 z h H locs hP hS ls hl K0
        have hD := wM_D hD S5
        rw [lX11_fewest_16] at h
        refine wi_w hWW16 ?_
        refine lv_iload_n hx hb dX11_fewest_16 rfl (lv_at hl 2 rfl) ?_
        refine lv_iconst (v := 1) hx hb dX11_fewest_17 (by decide) ?_
        refine lv_aload_n hx hb dX11_fewest_18 rfl (lv_at hl 0 rfl) ?_
        refine va_get (D := (dC, dI)) (ci := 11) (v := .ref (ad 1)) (C := RX11) (T := TX11) (N := 8) hx hb hts hiX11 hown hK hP 0 rfl rfl 0 (by decide) hf7 (fun _ h9 => h9) rfl dX11_fewest_19 ?_
        refine lv_iconst (v := 4) hx hb dX11_fewest_22 (by decide) ?_
        obtain ⟨b6, h⟩ := ck_elim h
        refine va_iald hx hb hK hP 1 0 rfl rfl b6 dX11_fewest_23 ?_
        refine lv_ishl hx hb dX11_fewest_24 ?_
        refine lv_icmp_ge (tgt := 60) hx hb dX11_fewest_25 (by decide) (fun c7 => ?_) (fun c7 => ?_)
        · replace h := it_t c7 h
          refine wu_w hWW16 ?_
          exact K0 v3 S5 (Option.some.inj h).symm H locs hP hS ls (lv_sub hl [1] rfl)
        · replace h := it_f c7 h
          refine lv_iload_n hx hb dX11_fewest_28 rfl (lv_at hl 1 rfl) ?_
          refine lv_iconst (v := (-1)) hx hb dX11_fewest_29 (by decide) ?_
          refine lv_icmp_eq (tgt := 44) hx hb dX11_fewest_30 (by decide) (fun c8 => ?_) (fun c8 => ?_)
          · replace h := it_t c8 h
            refine lv_aload_n hx hb dX11_fewest_44 rfl (lv_at hl 0 rfl) ?_
            refine lv_iload_n hx hb dX11_fewest_45 rfl (lv_at hl 2 rfl) ?_
            obtain ⟨r11, S10, k9, h⟩ := ob2_elim h
            refine va_calli (va_runV (As := [.int v4]) (rest := []) ⟨hx, hb, hml, hown, hts⟩ (mX11_allAlike l dC dI cI cZ ad v4 S5 H.size k9) (cwV 1 hts gX11_fewest_X11_allAlike rfl rfl rfl (by decide +kernel) ⟨Nat.le_of_ble_eq_true rfl, Nat.le_of_ble_eq_true rfl⟩) ⟨QMs_blind, va_recv hK hP (ci := 11) (q0 := 0) rfl rfl, fun U hU hW => ⟨rfl, congrArg Array.size hU, QM_at hP hK hD hU hW⟩⟩ rfl rfl hl.1 rfl (lv_room (Nat.le_of_ble_eq_true rfl)) dX11_fewest_46 ⟨Nat.zero_le _, Nat.zero_le _⟩) hS (fun q _ hq => AX_mono hS.1 hq) (fun q hq => AX_mono hS.1 hq) (fun r u t H1 locs ht hvm hw hB hz1 hk1 hS => ?_)
            cases hw
            rw [ht] at hB
            have hP := hB
            clear hB hk1 hz1
            generalize H1 = H at hP hS ⊢
            have hD := wM_D hD S10
            refine lv_if_eq (tgt := 54) hx hb dX11_fewest_49 (by decide) (fun c12 => ?_) (fun c12 => ?_)
            · replace h := it_t c12 h
              obtain ⟨x13, ex13, h⟩ := bnd_elim h
              refine lv_iinc (v := x13) (lv' := [(2, .int x13), (0, .ref (ad 0)), (1, .int v3)]) hx hb dX11_fewest_54 hl (k := 2) rfl (by rw [ex13]; rfl) (by decide) rfl (fun ls hl => ?_)
              refine lv_goto (tgt := 16) hx hb dX11_fewest_57 (by decide) ?_
              refine wu_w hWW16 ?_
              exact ih v3 x13 S10 z h H locs hP hS ls (lv_sub hl [1, 2, 0] rfl) K0
            · replace h := it_f c12 h
              refine lv_iload_n hx hb dX11_fewest_52 rfl (lv_at hl 2 rfl) ?_
              refine lv_istore_n (lv' := [(1, .int v4), (0, .ref (ad 0)), (2, .int v4)]) hx hb dX11_fewest_53 rfl hl (by decide) rfl (fun ls hl => ?_)
              obtain ⟨x14, ex14, h⟩ := bnd_elim h
              refine lv_iinc (v := x14) (lv' := [(2, .int x14), (1, .int v4), (0, .ref (ad 0))]) hx hb dX11_fewest_54 hl (k := 2) rfl (by rw [ex14]; rfl) (by decide) rfl (fun ls hl => ?_)
              refine lv_goto (tgt := 16) hx hb dX11_fewest_57 (by decide) ?_
              refine wu_w hWW16 ?_
              exact ih v4 x14 S10 z h H locs hP hS ls (lv_sub hl [2, 1, 0] rfl) K0
          · replace h := it_f c8 h
            refine lv_iload_n hx hb dX11_fewest_33 rfl (lv_at hl 2 rfl) ?_
            obtain ⟨r16, k15, h⟩ := ob_elim h
            refine vp_callSi (W.runS (As := [.int v4]) (rest := []) ⟨hx, hb, hml, hown, hts⟩ (mX11_sizeOf l v4 k15) (va_cwS 1 hts gX11_fewest_X11_sizeOf rfl rfl rfl (by decide +kernel) ⟨Nat.le_of_ble_eq_true rfl, Nat.le_of_ble_eq_true rfl⟩) ⟨fun _ _ _ _ q => q, fun U hU hW => ⟨rfl, trivial⟩⟩ rfl rfl hl.1 rfl (lv_room (Nat.le_of_ble_eq_true rfl)) dX11_fewest_34 ⟨Nat.zero_le _, Nat.zero_le _⟩) (fun r9 er9 => ?_)
            replace er9 := er9.symm
            subst er9
            refine lv_iload_n hx hb dX11_fewest_37 rfl (lv_at hl 1 rfl) ?_
            obtain ⟨r18, k17, h⟩ := ob_elim h
            refine vp_callSi (W.runS (As := [.int v3]) (rest := [.int r16]) ⟨hx, hb, hml, hown, hts⟩ (mX11_sizeOf l v3 k17) (va_cwS 1 hts gX11_fewest_X11_sizeOf rfl rfl rfl (by decide +kernel) ⟨Nat.le_of_ble_eq_true rfl, Nat.le_of_ble_eq_true rfl⟩) ⟨fun _ _ _ _ q => q, fun U hU hW => ⟨rfl, trivial⟩⟩ rfl rfl hl.1 rfl (lv_room (Nat.le_of_ble_eq_true rfl)) dX11_fewest_38 ⟨Nat.zero_le _, Nat.zero_le _⟩) (fun r9 er9 => ?_)
            replace er9 := er9.symm
            subst er9
            refine lv_icmp_ge (tgt := 54) hx hb dX11_fewest_41 (by decide) (fun c19 => ?_) (fun c19 => ?_)
            · replace h := it_t c19 h
              obtain ⟨x20, ex20, h⟩ := bnd_elim h
              refine lv_iinc (v := x20) (lv' := [(2, .int x20), (0, .ref (ad 0)), (1, .int v3)]) hx hb dX11_fewest_54 hl (k := 2) rfl (by rw [ex20]; rfl) (by decide) rfl (fun ls hl => ?_)
              refine lv_goto (tgt := 16) hx hb dX11_fewest_57 (by decide) ?_
              refine wu_w hWW16 ?_
              exact ih v3 x20 S5 z h H locs hP hS ls (lv_sub hl [1, 2, 0] rfl) K0
            · replace h := it_f c19 h
              refine lv_aload_n hx hb dX11_fewest_44 rfl (lv_at hl 0 rfl) ?_
              refine lv_iload_n hx hb dX11_fewest_45 rfl (lv_at hl 2 rfl) ?_
              obtain ⟨r23, S22, k21, h⟩ := ob2_elim h
              refine va_calli (va_runV (As := [.int v4]) (rest := []) ⟨hx, hb, hml, hown, hts⟩ (mX11_allAlike l dC dI cI cZ ad v4 S5 H.size k21) (cwV 1 hts gX11_fewest_X11_allAlike rfl rfl rfl (by decide +kernel) ⟨Nat.le_of_ble_eq_true rfl, Nat.le_of_ble_eq_true rfl⟩) ⟨QMs_blind, va_recv hK hP (ci := 11) (q0 := 0) rfl rfl, fun U hU hW => ⟨rfl, congrArg Array.size hU, QM_at hP hK hD hU hW⟩⟩ rfl rfl hl.1 rfl (lv_room (Nat.le_of_ble_eq_true rfl)) dX11_fewest_46 ⟨Nat.zero_le _, Nat.zero_le _⟩) hS (fun q _ hq => AX_mono hS.1 hq) (fun q hq => AX_mono hS.1 hq) (fun r u t H1 locs ht hvm hw hB hz1 hk1 hS => ?_)
              cases hw
              rw [ht] at hB
              have hP := hB
              clear hB hk1 hz1
              generalize H1 = H at hP hS ⊢
              have hD := wM_D hD S22
              refine lv_if_eq (tgt := 54) hx hb dX11_fewest_49 (by decide) (fun c24 => ?_) (fun c24 => ?_)
              · replace h := it_t c24 h
                obtain ⟨x25, ex25, h⟩ := bnd_elim h
                refine lv_iinc (v := x25) (lv' := [(2, .int x25), (0, .ref (ad 0)), (1, .int v3)]) hx hb dX11_fewest_54 hl (k := 2) rfl (by rw [ex25]; rfl) (by decide) rfl (fun ls hl => ?_)
                refine lv_goto (tgt := 16) hx hb dX11_fewest_57 (by decide) ?_
                refine wu_w hWW16 ?_
                exact ih v3 x25 S22 z h H locs hP hS ls (lv_sub hl [1, 2, 0] rfl) K0
              · replace h := it_f c24 h
                refine lv_iload_n hx hb dX11_fewest_52 rfl (lv_at hl 2 rfl) ?_
                refine lv_istore_n (lv' := [(1, .int v4), (0, .ref (ad 0)), (2, .int v4)]) hx hb dX11_fewest_53 rfl hl (by decide) rfl (fun ls hl => ?_)
                obtain ⟨x26, ex26, h⟩ := bnd_elim h
                refine lv_iinc (v := x26) (lv' := [(2, .int x26), (1, .int v4), (0, .ref (ad 0))]) hx hb dX11_fewest_54 hl (k := 2) rfl (by rw [ex26]; rfl) (by decide) rfl (fun ls hl => ?_)
                refine lv_goto (tgt := 16) hx hb dX11_fewest_57 (by decide) ?_
                refine wu_w hWW16 ?_
                exact ih v4 x26 S22 z h H locs hP hS ls (lv_sub hl [2, 1, 0] rfl) K0
    obtain ⟨w28, S29, k27, h⟩ := ob2_elim h
    refine wu_w hWW16 ?_
    refine Lh16 FU (-1) 0 S _ k27 s.heap [] hP hS ls (lv_sub hl [2, 1, 0] rfl) ?_
    intro y0 y1 hy H locs hP hS ls hl
    cases hy
    have hD := wM_D hD S29
    refine wi_w hWW16 ?_
    refine lv_iload_n hx hb dX11_fewest_60 rfl (lv_at hl 0 rfl) ?_
    cases h
    exact W.iret hx hb hr (fun t ht hW => ⟨⟨_, _, rfl, rfl, by show va_P _ _ _ t.heap; rw [ht]; exact hP⟩, hS.F ht⟩) hS.2.2 dX11_fewest_61
  · replace h := it_t c2 h
    refine lv_bipush (v := (-3)) hx hb dX11_fewest_9 (by decide) ?_
    cases h
    exact W.iret hx hb hr (fun t ht hW => ⟨⟨_, _, rfl, rfl, by show va_P _ _ _ t.heap; rw [ht]; exact hP⟩, hS.F ht⟩) hS.2.2 dX11_fewest_11
set_option maxHeartbeats 4000000 in
set_option maxRecDepth 100000 in
theorem mX1_tiesMade (l : Launch) (dC : Nat → ClassId) (dI : Nat → Nat → Nat) (cI cJ : ClassId) (ad : Nat → Nat) (p1 : Int32) (p2 : Int32) (S : Nat → Nat → Int32) (L : Nat → Nat → Int64) {z : Int32} (h : sX1_tiesMade p1 p2 S L = some z) : Met l yX1_tiesMade wsX1_tiesMade ({ frames := 1, cells := 0, slots := 0, locals := 22 }) (va_Pc [.ref (ad 10), .int p1, .int p2] (QX dC dI cI cJ ad S L)) (vp_Si (fun r => r = z)) 0 0 (fun _ => False) := by
  refine Met.ofW (cc := cX1_tiesMade) (maxL := 6) (ret := (some .int)) (by decide) rfl ?_
  intro p e s m args below meth c s₁ B hml hv
  obtain ⟨rfl, hP, hK, hD⟩ := hv
  have hx := B.exec
  have hb := B.bytes
  have hr := B.returns
  have hts := atoms_spec (ws := wsX1_tiesMade) B.pre
  have hown : s.vm.findClass RX1 = some m.cls := findClass_of_methodNamed B.named
  have hlocks := B.notSynchronized
  have hl := lv_entry ([.ref (ad 10), .int p1, .int p2]) (n := 6) (Nat.le_of_ble_eq_true rfl)
  rw [lg_entry_eq]
  generalize (lg_sl ([.ref (ad 10), .int p1, .int p2]) ++ List.replicate (6 - (lg_sl ([.ref (ad 10), .int p1, .int p2])).length) Slot.unset).toArray = ls at hl ⊢
  have hl : lv_has ls 6 [(0, .ref (ad 10)), (1, .int p1), (2, .int p2)] := hl
  have hf15 := hts (.fieldLink RX1 15 "LawRings$Asking" "allCases" "LLawRings$AllCases;") (by decide +kernel)
  have hiX1 : ∀ w ∈ u_ws RX1 TX1 5, w ∈ wsX1_tiesMade := by decide +kernel
  have hf48 := hts (.fieldLink RX1 48 "LawRings$AllCases" "hearing" "LLawRings$Hearing;") (by decide +kernel)
  have hiX0 : ∀ w ∈ u_ws RX0 TX0 3, w ∈ wsX1_tiesMade := by decide +kernel
  have hf65 := hts (.fieldLink RX1 65 "LawRings$Hearing" "ties" "[I") (by decide +kernel)
  have hiX4 : ∀ w ∈ u_ws RX4 TX4 9, w ∈ wsX1_tiesMade := by decide +kernel
  have hf9 := hts (.fieldLink RX1 9 "LawRings$Asking" "cases" "LLawRings$Cases;") (by decide +kernel)
  rw [sX1_tiesMade] at h
  refine lv_iconst (v := 0) hx hb dX1_tiesMade_0 (by decide) ?_
  refine lv_istore_n (lv' := [(3, .int 0), (0, .ref (ad 10)), (1, .int p1), (2, .int p2)]) hx hb dX1_tiesMade_1 rfl hl (by decide) rfl (fun ls hl => ?_)
  refine lv_iconst (v := 0) hx hb dX1_tiesMade_2 (by decide) ?_
  refine lv_istore (lv' := [(4, .int 0), (3, .int 0), (0, .ref (ad 10)), (1, .int p1), (2, .int p2)]) hx hb dX1_tiesMade_3 hl (by decide) rfl (fun ls hl => ?_)
  refine ww_r (fun WW5 hWW5 => ?_)
  have Lh5 : ∀ (n : Nat) (v1 : Int32) (v2 : Int32) (z : (Unit ⊕ (Int32))), lX1_tiesMade_5 p1 p2 S L n v1 v2 = some z → ∀ ls : Array Slot, lv_has ls 6 [(0, .ref (ad 10)), (1, .int p1), (2, .int p2), (3, .int v1), (4, .int v2)] → (z = .inl () → ∀ ls : Array Slot, lv_has ls 6 [] → WW5  60 ls) → (∀ (y0 : Int32), z = .inr y0 → ∀ ls : Array Slot, lv_has ls 6 [(3, .int y0)] → WW5  71 ls) → WW5  5 ls := by
    intro n
    induction n with
    | zero => intro v1 v2 z h ls hl K0 K1; rw [lX1_tiesMade_5] at h; cases h
    | succ n ih =>
      intro v1 v2 z h ls hl K0 K1
      rw [lX1_tiesMade_5] at h
      refine wi_r hWW5 ?_
      refine lv_iload hx hb dX1_tiesMade_5 (lv_at hl 4 rfl) ?_
      refine lv_bipush (v := 6) hx hb dX1_tiesMade_7 (by decide) ?_
      refine lv_icmp_ge (tgt := 71) hx hb dX1_tiesMade_9 (by decide) (fun c3 => ?_) (fun c3 => ?_)
      · replace h := it_t c3 h
        refine wu_r hWW5 ?_
        exact K1 v1 (Option.some.inj h).symm ls (lv_sub hl [3] rfl)
      · replace h := it_f c3 h
        refine lv_aload_n hx hb dX1_tiesMade_12 rfl (lv_at hl 0 rfl) ?_
        refine va_get (D := (dC, dI)) (ci := 1) (v := .ref (ad 8)) (C := RX1) (T := TX1) (N := 5) hx hb hts hiX1 hown hK hP 10 rfl rfl 1 (by decide) hf15 (fun _ h9 => h9) rfl dX1_tiesMade_13 ?_
        refine va_get (D := (dC, dI)) (ci := 0) (v := .ref (ad 6)) (C := RX0) (T := TX0) (N := 3) hx hb hts hiX0 hown hK hP 8 rfl rfl 1 (by decide) hf48 (fun _ h9 => h9) rfl dX1_tiesMade_16 ?_
        refine va_get (D := (dC, dI)) (ci := 4) (v := .ref (ad 35)) (C := RX4) (T := TX4) (N := 9) hx hb hts hiX4 hown hK hP 6 rfl rfl 3 (by decide) hf65 (fun _ h9 => h9) rfl dX1_tiesMade_19 ?_
        refine lv_iload hx hb dX1_tiesMade_22 (lv_at hl 4 rfl) ?_
        obtain ⟨b4, h⟩ := ck_elim h
        refine va_iald hx hb hK hP 35 0 rfl rfl b4 dX1_tiesMade_24 ?_
        obtain ⟨x5, ex5, h⟩ := bnd_elim h
        refine nm_i ex5 ?_
        refine lv_istore (lv' := [(5, .int x5), (0, .ref (ad 10)), (1, .int p1), (2, .int p2), (3, .int v1), (4, .int v2)]) hx hb dX1_tiesMade_25 hl (by decide) rfl (fun ls hl => ?_)
        refine lv_iload hx hb dX1_tiesMade_27 (lv_at hl 0 rfl) ?_
        refine lv_aload_n hx hb dX1_tiesMade_29 rfl (lv_at hl 1 rfl) ?_
        refine va_get (D := (dC, dI)) (ci := 1) (v := .ref (ad 1)) (C := RX1) (T := TX1) (N := 5) hx hb hts hiX1 hown hK hP 10 rfl rfl 0 (by decide) hf9 (fun _ h9 => h9) rfl dX1_tiesMade_30 ?_
        refine lv_iload_n hx hb dX1_tiesMade_33 rfl (lv_at hl 2 rfl) ?_
        refine lv_iload hx hb dX1_tiesMade_34 (lv_at hl 5 rfl) ?_
        obtain ⟨r7, k6, h⟩ := ob_elim h
        refine vp_callSi (W.runV (As := [.int p1, .int v2]) (rest := [.int x5]) ⟨hx, hb, hml, hown, hts⟩ (mX2_landOf l dC dI cI cJ ad p1 v2 S L k6) (cwV 2 hts gX1_tiesMade_X2_landOf rfl rfl rfl (by decide +kernel) ⟨Nat.le_of_ble_eq_true rfl, Nat.le_of_ble_eq_true rfl⟩) ⟨QX_blind, va_recv hK hP (ci := 2) (q0 := 1) rfl rfl, fun U hU hW => ⟨rfl, QX_at hP hK hD hU hW⟩⟩ rfl rfl hl.1 rfl (lv_room (Nat.le_of_ble_eq_true rfl)) dX1_tiesMade_36 ⟨Nat.zero_le _, Nat.zero_le _⟩) (fun r9 er9 => ?_)
        replace er9 := er9.symm
        subst er9
        refine lv_icmp_ne (tgt := 45) hx hb dX1_tiesMade_39 (by decide) (fun c8 => ?_) (fun c8 => ?_)
        · replace h := it_f c8 h
          refine lv_iload hx hb dX1_tiesMade_45 (lv_at hl 0 rfl) ?_
          refine lv_iconst (v := (-1)) hx hb dX1_tiesMade_47 (by decide) ?_
          refine lv_icmp_eq (tgt := 60) hx hb dX1_tiesMade_48 (by decide) (fun c9 => ?_) (fun c9 => ?_)
          · replace h := it_t c9 h
            refine wu_r hWW5 ?_
            exact K0 (Option.some.inj h).symm ls (lv_sub hl [] rfl)
          · replace h := it_f c9 h
            refine lv_iload_n hx hb dX1_tiesMade_51 rfl (lv_at hl 3 rfl) ?_
            refine lv_iload hx hb dX1_tiesMade_52 (lv_at hl 5 rfl) ?_
            refine lv_iushr (v := iush p2 v2) hx hb dX1_tiesMade_54 rfl ?_
            refine lv_iconst (v := 1) hx hb dX1_tiesMade_55 (by decide) ?_
            refine lv_iand hx hb dX1_tiesMade_56 ?_
            refine lv_if_ne (tgt := 62) hx hb dX1_tiesMade_57 (by decide) (fun c10 => ?_) (fun c10 => ?_)
            · replace h := it_f c10 h
              obtain ⟨x11, ex11, h⟩ := bnd_elim h
              refine lv_iinc (v := x11) (lv' := [(3, .int x11), (5, .int x5), (0, .ref (ad 10)), (1, .int p1), (2, .int p2), (4, .int v2)]) hx hb dX1_tiesMade_62 hl (k := 4) rfl (by rw [ex11]; rfl) (by decide) rfl (fun ls hl => ?_)
              obtain ⟨x12, ex12, h⟩ := bnd_elim h
              refine lv_iinc (v := x12) (lv' := [(4, .int x12), (3, .int x11), (5, .int x5), (0, .ref (ad 10)), (1, .int p1), (2, .int p2)]) hx hb dX1_tiesMade_65 hl (k := 5) rfl (by rw [ex12]; rfl) (by decide) rfl (fun ls hl => ?_)
              refine lv_goto (tgt := 5) hx hb dX1_tiesMade_68 (by decide) ?_
              refine wu_r hWW5 ?_
              exact ih x11 x12 z h ls (lv_sub hl [3, 4, 5, 1, 0] rfl) K0 K1
            · replace h := it_t c10 h
              refine wu_r hWW5 ?_
              exact K0 (Option.some.inj h).symm ls (lv_sub hl [] rfl)
        · replace h := it_t c8 h
          refine lv_goto (tgt := 65) hx hb dX1_tiesMade_42 (by decide) ?_
          obtain ⟨x13, ex13, h⟩ := bnd_elim h
          refine lv_iinc (v := x13) (lv' := [(4, .int x13), (5, .int x5), (0, .ref (ad 10)), (1, .int p1), (2, .int p2), (3, .int v1)]) hx hb dX1_tiesMade_65 hl (k := 5) rfl (by rw [ex13]; rfl) (by decide) rfl (fun ls hl => ?_)
          refine lv_goto (tgt := 5) hx hb dX1_tiesMade_68 (by decide) ?_
          refine wu_r hWW5 ?_
          exact ih v1 x13 z h ls (lv_sub hl [2, 3, 4, 5, 0] rfl) K0 K1
  obtain ⟨q9, k14, h⟩ | ⟨q9, k14, h⟩ := os2_elim h
  · refine wu_r hWW5 ?_
    refine Lh5 FU 0 0 _ k14 ls (lv_sub hl [2, 3, 4, 1, 0] rfl) ?_ (fun _ hy => by cases hy)
    intro hy ls hl
    cases hy
    refine wi_r hWW5 ?_
    refine lv_iconst (v := (-1)) hx hb dX1_tiesMade_60 (by decide) ?_
    cases h
    exact W.iret hx hb hr (fun t ht hW => ⟨_, rfl, rfl, ht⟩) (fun q hq => absurd hq List.not_mem_nil) dX1_tiesMade_61
  · obtain ⟨w15, rfl⟩ : ∃ y, y = q9 := ⟨_, rfl⟩
    refine wu_r hWW5 ?_
    refine Lh5 FU 0 0 _ k14 ls (lv_sub hl [2, 3, 4, 1, 0] rfl) (fun hy => by cases hy) ?_
    intro y0 hy ls hl
    cases hy
    refine wi_r hWW5 ?_
    refine lv_iload_n hx hb dX1_tiesMade_71 rfl (lv_at hl 0 rfl) ?_
    cases h
    exact W.iret hx hb hr (fun t ht hW => ⟨_, rfl, rfl, ht⟩) (fun q hq => absurd hq List.not_mem_nil) dX1_tiesMade_72
set_option maxHeartbeats 4000000 in
set_option maxRecDepth 100000 in
theorem mX1_judgeEndingIn (l : Launch) (dC : Nat → ClassId) (dI : Nat → Nat → Nat) (cI cJ : ClassId) (ad : Nat → Nat) (p1 : Int32) (S : Nat → Nat → Int32) (L : Nat → Nat → Int64) (sz : Nat) {z : Int32 × (Nat → Nat → Int32) × (Nat → Nat → Int64)} (h : sX1_judgeEndingIn p1 S L = some z) : Met l yX1_judgeEndingIn wsX1_judgeEndingIn ({ frames := 3, cells := 0, slots := 0, locals := 71 }) (va_Pc [.ref (ad 10), .int p1] (QXs sz dC dI cI cJ ad S L)) (va_Qi (fun (r : Int32) (u : (Nat → Nat → Int32) × (Nat → Nat → Int64)) => (r, u) = z) (fun (u : (Nat → Nat → Int32) × (Nat → Nat → Int64)) t => va_P (dC, dI) vwCl (wX cI cJ ad u.1 u.2) t.heap) (AX 43 ad sz)) 0 0 (AX 43 ad sz) := by
  refine Met.ofW (cc := cX1_judgeEndingIn) (maxL := 3) (ret := (some .int)) (by decide) rfl ?_
  intro p e s m args below meth c s₁ B hml hv
  obtain ⟨rfl, hsz, hP, hK, hD0⟩ := hv
  have hx := B.exec
  have hb := B.bytes
  have hr := B.returns
  have hts := atoms_spec (ws := wsX1_judgeEndingIn) B.pre
  have hown : s.vm.findClass RX1 = some m.cls := findClass_of_methodNamed B.named
  have hlocks := B.notSynchronized
  subst hsz
  have hD := wX_DA hD0 s.heap.size
  have hS : va_S (AX 43 ad s.heap.size) s.heap s.heap [] := va_S.rf
  have hl := lv_entry ([.ref (ad 10), .int p1]) (n := 3) (Nat.le_of_ble_eq_true rfl)
  rw [lg_entry_eq]
  generalize (lg_sl ([.ref (ad 10), .int p1]) ++ List.replicate (3 - (lg_sl ([.ref (ad 10), .int p1])).length) Slot.unset).toArray = ls at hl ⊢
  have hl : lv_has ls 3 [(0, .ref (ad 10)), (1, .int p1)] := hl
  have hf15 := hts (.fieldLink RX1 15 "LawRings$Asking" "allCases" "LLawRings$AllCases;") (by decide +kernel)
  have hiX1 : ∀ w ∈ u_ws RX1 TX1 5, w ∈ wsX1_judgeEndingIn := by decide +kernel
  have hf48 := hts (.fieldLink RX1 48 "LawRings$AllCases" "hearing" "LLawRings$Hearing;") (by decide +kernel)
  have hiX0 : ∀ w ∈ u_ws RX0 TX0 3, w ∈ wsX1_judgeEndingIn := by decide +kernel
  rw [sX1_judgeEndingIn] at h
  refine lv_iconst (v := 0) hx hb dX1_judgeEndingIn_0 (by decide) ?_
  refine lv_istore_n (lv' := [(2, .int 0), (0, .ref (ad 10)), (1, .int p1)]) hx hb dX1_judgeEndingIn_1 rfl hl (by decide) rfl (fun ls hl => ?_)
  refine ww_w (fun WW2 hWW2 => ?_)
  have Lh2 : ∀ (n : Nat) (v1 : Int32) (S2 : (Nat → Nat → Int32)) (L3 : (Nat → Nat → Int64)) (z : ((Int32 × (Nat → Nat → Int32) × (Nat → Nat → Int64)) ⊕ ((Nat → Nat → Int32) × (Nat → Nat → Int64)))), lX1_judgeEndingIn_2 p1 n v1 S2 L3 = some z → ∀ (H : Heap) (locs : List Loc), va_P (dC, dI) vwCl (wX cI cJ ad S2 L3) H → va_S (AX 43 ad s.heap.size) s.heap H locs → ∀ ls : Array Slot, lv_has ls 3 [(0, .ref (ad 10)), (1, .int p1), (2, .int v1)] → (∀ (y0 : Int32) (YS : (Nat → Nat → Int32)) (YL : (Nat → Nat → Int64)), z = .inl (y0, YS, YL) → ∀ (H : Heap) (locs : List Loc), va_P (dC, dI) vwCl (wX cI cJ ad YS YL) H → va_S (AX 43 ad s.heap.size) s.heap H locs → ∀ ls : Array Slot, lv_has ls 3 [(2, .int y0)] → WW2 H locs 22 ls) → (∀ (YS : (Nat → Nat → Int32)) (YL : (Nat → Nat → Int64)), z = .inr (YS, YL) → ∀ (H : Heap) (locs : List Loc), va_P (dC, dI) vwCl (wX cI cJ ad YS YL) H → va_S (AX 43 ad s.heap.size) s.heap H locs → ∀ ls : Array Slot, lv_has ls 3 [] → WW2 H locs 30 ls) → WW2 H locs 2 ls := by
    intro n
    induction n with
    | zero => intro v1 S2 L3 z h H locs hP hS ls hl K0 K1; rw [lX1_judgeEndingIn_2] at h; cases h
    | succ n ih =>
      intro v1 S2 L3 z h H locs hP hS ls hl K0 K1
      have hD := wX_D hD S2 L3
      rw [lX1_judgeEndingIn_2] at h
      refine wi_w hWW2 ?_
      refine lv_iload_n hx hb dX1_judgeEndingIn_2 rfl (lv_at hl 2 rfl) ?_
      refine lv_iconst (v := 4) hx hb dX1_judgeEndingIn_3 (by decide) ?_
      refine lv_icmp_ge (tgt := 30) hx hb dX1_judgeEndingIn_4 (by decide) (fun c4 => ?_) (fun c4 => ?_)
      · replace h := it_t c4 h
        refine wu_w hWW2 ?_
        exact K1 S2 L3 (Option.some.inj h).symm H locs hP hS ls (lv_sub hl [] rfl)
      · replace h := it_f c4 h
        refine lv_aload_n hx hb dX1_judgeEndingIn_7 rfl (lv_at hl 0 rfl) ?_
        refine va_get (D := (dC, dI)) (ci := 1) (v := .ref (ad 8)) (C := RX1) (T := TX1) (N := 5) hx hb hts hiX1 hown hK hP 10 rfl rfl 1 (by decide) hf15 (fun _ h9 => h9) rfl dX1_judgeEndingIn_8 ?_
        refine va_get (D := (dC, dI)) (ci := 0) (v := .ref (ad 6)) (C := RX0) (T := TX0) (N := 3) hx hb hts hiX0 hown hK hP 8 rfl rfl 1 (by decide) hf48 (fun _ h9 => h9) rfl dX1_judgeEndingIn_11 ?_
        refine lv_iload_n hx hb dX1_judgeEndingIn_14 rfl (lv_at hl 2 rfl) ?_
        obtain ⟨r8, S6, L7, k5, h⟩ := ob3_elim h
        refine va_calli (va_runV (As := [.int v1]) (rest := []) ⟨hx, hb, hml, hown, hts⟩ (mX4_outcome l dC dI cI cJ ad v1 S2 L3 H.size k5) (cwV 1 hts gX1_judgeEndingIn_X4_outcome rfl rfl rfl (by decide +kernel) ⟨Nat.le_of_ble_eq_true rfl, Nat.le_of_ble_eq_true rfl⟩) ⟨QXs_blind, va_recv hK hP (ci := 4) (q0 := 6) rfl rfl, fun U hU hW => ⟨rfl, congrArg Array.size hU, QX_at hP hK hD hU hW⟩⟩ rfl rfl hl.1 rfl (lv_room (Nat.le_of_ble_eq_true rfl)) dX1_judgeEndingIn_15 ⟨Nat.zero_le _, Nat.zero_le _⟩) hS (fun q _ hq => AX_mono hS.1 hq) (fun q hq => AX_mono hS.1 hq) (fun r u t H1 locs ht hvm hw hB hz1 hk1 hS => ?_)
        cases hw
        rw [ht] at hB
        have hP := hB
        clear hB hk1 hz1
        generalize H1 = H at hP hS ⊢
        have hD := wX_D hD S6 L7
        refine lv_iload_n hx hb dX1_judgeEndingIn_18 rfl (lv_at hl 1 rfl) ?_
        refine lv_icmp_ne (tgt := 24) hx hb dX1_judgeEndingIn_19 (by decide) (fun c9 => ?_) (fun c9 => ?_)
        · replace h := it_f c9 h
          obtain ⟨x10, ex10, h⟩ := bnd_elim h
          refine lv_iinc (v := x10) (lv' := [(2, .int x10), (0, .ref (ad 10)), (1, .int p1)]) hx hb dX1_judgeEndingIn_24 hl (k := 2) rfl (by rw [ex10]; rfl) (by decide) rfl (fun ls hl => ?_)
          refine lv_goto (tgt := 2) hx hb dX1_judgeEndingIn_27 (by decide) ?_
          refine wu_w hWW2 ?_
          exact ih x10 S6 L7 z h H locs hP hS ls (lv_sub hl [1, 2, 0] rfl) K0 K1
        · replace h := it_t c9 h
          refine wu_w hWW2 ?_
          exact K0 v1 S6 L7 (Option.some.inj h).symm H locs hP hS ls (lv_sub hl [2] rfl)
  obtain ⟨q9, k11, h⟩ | ⟨q9, k11, h⟩ := os2_elim h
  · obtain ⟨w12, S13, L14⟩ := q9
    replace h := un3_e h
    refine wu_w hWW2 ?_
    refine Lh2 FU 0 S L _ k11 s.heap [] hP hS ls (lv_sub hl [1, 2, 0] rfl) ?_ (fun _ _ hy => by cases hy)
    intro y0 y1 y2 hy H locs hP hS ls hl
    cases hy
    have hD := wX_D hD S13 L14
    refine wi_w hWW2 ?_
    refine lv_iload_n hx hb dX1_judgeEndingIn_22 rfl (lv_at hl 0 rfl) ?_
    cases h
    exact W.iret hx hb hr (fun t ht hW => ⟨⟨_, _, rfl, rfl, by show va_P _ _ _ t.heap; rw [ht]; exact hP⟩, hS.F ht⟩) hS.2.2 dX1_judgeEndingIn_23
  · obtain ⟨S15, L16⟩ := q9
    replace h := un2_e h
    refine wu_w hWW2 ?_
    refine Lh2 FU 0 S L _ k11 s.heap [] hP hS ls (lv_sub hl [1, 2, 0] rfl) (fun _ _ _ hy => by cases hy) ?_
    intro y0 y1 hy H locs hP hS ls hl
    cases hy
    have hD := wX_D hD S15 L16
    refine wi_w hWW2 ?_
    refine lv_iconst (v := (-1)) hx hb dX1_judgeEndingIn_30 (by decide) ?_
    cases h
    exact W.iret hx hb hr (fun t ht hW => ⟨⟨_, _, rfl, rfl, by show va_P _ _ _ t.heap; rw [ht]; exact hP⟩, hS.F ht⟩) hS.2.2 dX1_judgeEndingIn_31
set_option maxHeartbeats 4000000 in
set_option maxRecDepth 100000 in
theorem mX1_keepIfBetter (l : Launch) (dC : Nat → ClassId) (dI : Nat → Nat → Nat) (cI cJ : ClassId) (ad : Nat → Nat) (p1 : Int32) (p2 : Int32) (p3 : Int32) (S : Nat → Nat → Int32) (L : Nat → Nat → Int64) (sz : Nat) {z : (Nat → Nat → Int32) × (Nat → Nat → Int64)} (h : sX1_keepIfBetter p1 p2 p3 S L = some z) : Met l yX1_keepIfBetter wsX1_keepIfBetter ({ frames := 0, cells := 0, slots := 0, locals := 0 }) (va_Pc [.ref (ad 10), .int p1, .int p2, .int p3] (QXs sz dC dI cI cJ ad S L)) (va_Qv (fun (u : (Nat → Nat → Int32) × (Nat → Nat → Int64)) => u = z) (fun (u : (Nat → Nat → Int32) × (Nat → Nat → Int64)) t => va_P (dC, dI) vwCl (wX cI cJ ad u.1 u.2) t.heap) (AX 43 ad sz)) 0 0 (AX 43 ad sz) := by
  refine Met.ofW (cc := cX1_keepIfBetter) (maxL := 4) (ret := none) (by decide) rfl ?_
  intro p e s m args below meth c s₁ B hml hv
  obtain ⟨rfl, hsz, hP, hK, hD0⟩ := hv
  have hx := B.exec
  have hb := B.bytes
  have hr := B.returns
  have hts := atoms_spec (ws := wsX1_keepIfBetter) B.pre
  have hown : s.vm.findClass RX1 = some m.cls := findClass_of_methodNamed B.named
  have hlocks := B.notSynchronized
  subst hsz
  have hD := wX_DA hD0 s.heap.size
  have hS : va_S (AX 43 ad s.heap.size) s.heap s.heap [] := va_S.rf
  have hl := lv_entry ([.ref (ad 10), .int p1, .int p2, .int p3]) (n := 4) (Nat.le_of_ble_eq_true rfl)
  rw [lg_entry_eq]
  generalize (lg_sl ([.ref (ad 10), .int p1, .int p2, .int p3]) ++ List.replicate (4 - (lg_sl ([.ref (ad 10), .int p1, .int p2, .int p3])).length) Slot.unset).toArray = ls at hl ⊢
  have hl : lv_has ls 4 [(0, .ref (ad 10)), (1, .int p1), (2, .int p2), (3, .int p3)] := hl
  have hf19 := hts (.fieldLink RX1 19 "LawRings$Asking" "changes" "I") (by decide +kernel)
  have hiX1 : ∀ w ∈ u_ws RX1 TX1 5, w ∈ wsX1_keepIfBetter := by decide +kernel
  have hf23 := hts (.fieldLink RX1 23 "LawRings$Asking" "judge" "I") (by decide +kernel)
  have hf26 := hts (.fieldLink RX1 26 "LawRings$Asking" "number" "I") (by decide +kernel)
  rw [sX1_keepIfBetter] at h
  refine lv_iload_n hx hb dX1_keepIfBetter_0 rfl (lv_at hl 3 rfl) ?_
  refine lv_iconst (v := (-1)) hx hb dX1_keepIfBetter_1 (by decide) ?_
  refine lv_icmp_ne (tgt := 6) hx hb dX1_keepIfBetter_2 (by decide) (fun c1 => ?_) (fun c1 => ?_)
  · replace h := it_f c1 h
    refine lv_aload_n hx hb dX1_keepIfBetter_6 rfl (lv_at hl 0 rfl) ?_
    refine va_get (D := (dC, dI)) (ci := 1) (v := .int (S 10 2)) (C := RX1) (T := TX1) (N := 5) hx hb hts hiX1 hown hK hP 10 rfl rfl 2 (by decide) hf19 (fun _ h9 => h9) rfl dX1_keepIfBetter_7 ?_
    refine lv_iconst (v := (-1)) hx hb dX1_keepIfBetter_10 (by decide) ?_
    refine lv_icmp_eq (tgt := 30) hx hb dX1_keepIfBetter_11 (by decide) (fun c2 => ?_) (fun c2 => ?_)
    · replace h := it_t c2 h
      refine lv_aload_n hx hb dX1_keepIfBetter_30 rfl (lv_at hl 0 rfl) ?_
      refine lv_iload_n hx hb dX1_keepIfBetter_31 rfl (lv_at hl 2 rfl) ?_
      obtain ⟨S3, eS3, h⟩ := bnd_elim h
      refine va_put (D := (dC, dI)) (ci := 1) (v := .int p2) (ty := .int) (C := RX1) (T := TX1) (N := 5) hx hb hts hiX1 tyX1 tyX1_ok nmX1 hown hK hP hD hS 10 rfl rfl 2 (by decide) hf19 (fun _ h9 => h9) rfl (by decide +kernel) rfl rfl (Nat.le_of_ble_eq_true rfl) dX1_keepIfBetter_32 (fun H locs hP9 _ hS => ?_)
      have hP := swX_10_2 hP9
      rw [← eS3] at hP
      have hD := wX_D hD S3 L
      refine lv_aload_n hx hb dX1_keepIfBetter_35 rfl (lv_at hl 0 rfl) ?_
      refine lv_iload_n hx hb dX1_keepIfBetter_36 rfl (lv_at hl 3 rfl) ?_
      obtain ⟨S4, eS4, h⟩ := bnd_elim h
      refine va_put (D := (dC, dI)) (ci := 1) (v := .int p3) (ty := .int) (C := RX1) (T := TX1) (N := 5) hx hb hts hiX1 tyX1 tyX1_ok nmX1 hown hK hP hD hS 10 rfl rfl 3 (by decide) hf23 (fun _ h9 => h9) rfl (by decide +kernel) rfl rfl (Nat.le_of_ble_eq_true rfl) dX1_keepIfBetter_37 (fun H locs hP9 _ hS => ?_)
      have hP := swX_10_3 hP9
      rw [← eS4] at hP
      have hD := wX_D hD S4 L
      refine lv_aload_n hx hb dX1_keepIfBetter_40 rfl (lv_at hl 0 rfl) ?_
      refine lv_iload_n hx hb dX1_keepIfBetter_41 rfl (lv_at hl 1 rfl) ?_
      obtain ⟨S5, eS5, h⟩ := bnd_elim h
      refine va_put (D := (dC, dI)) (ci := 1) (v := .int p1) (ty := .int) (C := RX1) (T := TX1) (N := 5) hx hb hts hiX1 tyX1 tyX1_ok nmX1 hown hK hP hD hS 10 rfl rfl 4 (by decide) hf26 (fun _ h9 => h9) rfl (by decide +kernel) rfl rfl (Nat.le_of_ble_eq_true rfl) dX1_keepIfBetter_42 (fun H locs hP9 _ hS => ?_)
      have hP := swX_10_4 hP9
      rw [← eS5] at hP
      have hD := wX_D hD S5 L
      cases h
      exact W.vret hx hb hr (fun t ht hW => ⟨⟨_, rfl, rfl, by show va_P _ _ _ t.heap; rw [ht]; exact hP⟩, hS.F ht⟩) hS.2.2 dX1_keepIfBetter_45
    · replace h := it_f c2 h
      refine lv_iload_n hx hb dX1_keepIfBetter_14 rfl (lv_at hl 2 rfl) ?_
      refine lv_aload_n hx hb dX1_keepIfBetter_15 rfl (lv_at hl 0 rfl) ?_
      refine va_get (D := (dC, dI)) (ci := 1) (v := .int (S 10 2)) (C := RX1) (T := TX1) (N := 5) hx hb hts hiX1 hown hK hP 10 rfl rfl 2 (by decide) hf19 (fun _ h9 => h9) rfl dX1_keepIfBetter_16 ?_
      refine lv_icmp_lt (tgt := 30) hx hb dX1_keepIfBetter_19 (by decide) (fun c6 => ?_) (fun c6 => ?_)
      · replace h := it_t c6 h
        refine lv_aload_n hx hb dX1_keepIfBetter_30 rfl (lv_at hl 0 rfl) ?_
        refine lv_iload_n hx hb dX1_keepIfBetter_31 rfl (lv_at hl 2 rfl) ?_
        obtain ⟨S7, eS7, h⟩ := bnd_elim h
        refine va_put (D := (dC, dI)) (ci := 1) (v := .int p2) (ty := .int) (C := RX1) (T := TX1) (N := 5) hx hb hts hiX1 tyX1 tyX1_ok nmX1 hown hK hP hD hS 10 rfl rfl 2 (by decide) hf19 (fun _ h9 => h9) rfl (by decide +kernel) rfl rfl (Nat.le_of_ble_eq_true rfl) dX1_keepIfBetter_32 (fun H locs hP9 _ hS => ?_)
        have hP := swX_10_2 hP9
        rw [← eS7] at hP
        have hD := wX_D hD S7 L
        refine lv_aload_n hx hb dX1_keepIfBetter_35 rfl (lv_at hl 0 rfl) ?_
        refine lv_iload_n hx hb dX1_keepIfBetter_36 rfl (lv_at hl 3 rfl) ?_
        obtain ⟨S8, eS8, h⟩ := bnd_elim h
        refine va_put (D := (dC, dI)) (ci := 1) (v := .int p3) (ty := .int) (C := RX1) (T := TX1) (N := 5) hx hb hts hiX1 tyX1 tyX1_ok nmX1 hown hK hP hD hS 10 rfl rfl 3 (by decide) hf23 (fun _ h9 => h9) rfl (by decide +kernel) rfl rfl (Nat.le_of_ble_eq_true rfl) dX1_keepIfBetter_37 (fun H locs hP9 _ hS => ?_)
        have hP := swX_10_3 hP9
        rw [← eS8] at hP
        have hD := wX_D hD S8 L
        refine lv_aload_n hx hb dX1_keepIfBetter_40 rfl (lv_at hl 0 rfl) ?_
        refine lv_iload_n hx hb dX1_keepIfBetter_41 rfl (lv_at hl 1 rfl) ?_
        obtain ⟨S9, eS9, h⟩ := bnd_elim h
        refine va_put (D := (dC, dI)) (ci := 1) (v := .int p1) (ty := .int) (C := RX1) (T := TX1) (N := 5) hx hb hts hiX1 tyX1 tyX1_ok nmX1 hown hK hP hD hS 10 rfl rfl 4 (by decide) hf26 (fun _ h9 => h9) rfl (by decide +kernel) rfl rfl (Nat.le_of_ble_eq_true rfl) dX1_keepIfBetter_42 (fun H locs hP9 _ hS => ?_)
        have hP := swX_10_4 hP9
        rw [← eS9] at hP
        have hD := wX_D hD S9 L
        cases h
        exact W.vret hx hb hr (fun t ht hW => ⟨⟨_, rfl, rfl, by show va_P _ _ _ t.heap; rw [ht]; exact hP⟩, hS.F ht⟩) hS.2.2 dX1_keepIfBetter_45
      · replace h := it_f c6 h
        refine lv_iload_n hx hb dX1_keepIfBetter_22 rfl (lv_at hl 3 rfl) ?_
        refine lv_aload_n hx hb dX1_keepIfBetter_23 rfl (lv_at hl 0 rfl) ?_
        refine va_get (D := (dC, dI)) (ci := 1) (v := .int (S 10 3)) (C := RX1) (T := TX1) (N := 5) hx hb hts hiX1 hown hK hP 10 rfl rfl 3 (by decide) hf23 (fun _ h9 => h9) rfl dX1_keepIfBetter_24 ?_
        refine lv_icmp_ge (tgt := 45) hx hb dX1_keepIfBetter_27 (by decide) (fun c10 => ?_) (fun c10 => ?_)
        · replace h := it_t c10 h
          cases h
          exact W.vret hx hb hr (fun t ht hW => ⟨⟨_, rfl, rfl, by show va_P _ _ _ t.heap; rw [ht]; exact hP⟩, hS.F ht⟩) hS.2.2 dX1_keepIfBetter_45
        · replace h := it_f c10 h
          refine lv_aload_n hx hb dX1_keepIfBetter_30 rfl (lv_at hl 0 rfl) ?_
          refine lv_iload_n hx hb dX1_keepIfBetter_31 rfl (lv_at hl 2 rfl) ?_
          obtain ⟨S11, eS11, h⟩ := bnd_elim h
          refine va_put (D := (dC, dI)) (ci := 1) (v := .int p2) (ty := .int) (C := RX1) (T := TX1) (N := 5) hx hb hts hiX1 tyX1 tyX1_ok nmX1 hown hK hP hD hS 10 rfl rfl 2 (by decide) hf19 (fun _ h9 => h9) rfl (by decide +kernel) rfl rfl (Nat.le_of_ble_eq_true rfl) dX1_keepIfBetter_32 (fun H locs hP9 _ hS => ?_)
          have hP := swX_10_2 hP9
          rw [← eS11] at hP
          have hD := wX_D hD S11 L
          refine lv_aload_n hx hb dX1_keepIfBetter_35 rfl (lv_at hl 0 rfl) ?_
          refine lv_iload_n hx hb dX1_keepIfBetter_36 rfl (lv_at hl 3 rfl) ?_
          obtain ⟨S12, eS12, h⟩ := bnd_elim h
          refine va_put (D := (dC, dI)) (ci := 1) (v := .int p3) (ty := .int) (C := RX1) (T := TX1) (N := 5) hx hb hts hiX1 tyX1 tyX1_ok nmX1 hown hK hP hD hS 10 rfl rfl 3 (by decide) hf23 (fun _ h9 => h9) rfl (by decide +kernel) rfl rfl (Nat.le_of_ble_eq_true rfl) dX1_keepIfBetter_37 (fun H locs hP9 _ hS => ?_)
          have hP := swX_10_3 hP9
          rw [← eS12] at hP
          have hD := wX_D hD S12 L
          refine lv_aload_n hx hb dX1_keepIfBetter_40 rfl (lv_at hl 0 rfl) ?_
          refine lv_iload_n hx hb dX1_keepIfBetter_41 rfl (lv_at hl 1 rfl) ?_
          obtain ⟨S13, eS13, h⟩ := bnd_elim h
          refine va_put (D := (dC, dI)) (ci := 1) (v := .int p1) (ty := .int) (C := RX1) (T := TX1) (N := 5) hx hb hts hiX1 tyX1 tyX1_ok nmX1 hown hK hP hD hS 10 rfl rfl 4 (by decide) hf26 (fun _ h9 => h9) rfl (by decide +kernel) rfl rfl (Nat.le_of_ble_eq_true rfl) dX1_keepIfBetter_42 (fun H locs hP9 _ hS => ?_)
          have hP := swX_10_4 hP9
          rw [← eS13] at hP
          have hD := wX_D hD S13 L
          cases h
          exact W.vret hx hb hr (fun t ht hW => ⟨⟨_, rfl, rfl, by show va_P _ _ _ t.heap; rw [ht]; exact hP⟩, hS.F ht⟩) hS.2.2 dX1_keepIfBetter_45
  · replace h := it_t c1 h
    cases h
    exact W.vret hx hb hr (fun t ht hW => ⟨⟨_, rfl, rfl, by show va_P _ _ _ t.heap; rw [ht]; exact hP⟩, hS.F ht⟩) hS.2.2 dX1_keepIfBetter_5
set_option maxHeartbeats 4000000 in
set_option maxRecDepth 100000 in
theorem mX1_search (l : Launch) (dC : Nat → ClassId) (dI : Nat → Nat → Nat) (cI cJ : ClassId) (ad : Nat → Nat) (p1 : Int32) (p2 : Int32) (p3 : Int32) (p4 : Int32) (S : Nat → Nat → Int32) (L : Nat → Nat → Int64) (sz : Nat) {z : (Nat → Nat → Int32) × (Nat → Nat → Int64)} (h : sX1_search p1 p2 p3 p4 S L = some z) : Met l yX1_search wsX1_search ({ frames := 4, cells := 0, slots := 0, locals := 93 }) (va_Pc [.ref (ad 10), .int p1, .int p2, .int p3, .int p4] (QXs sz dC dI cI cJ ad S L)) (va_Qv (fun (u : (Nat → Nat → Int32) × (Nat → Nat → Int64)) => u = z) (fun (u : (Nat → Nat → Int32) × (Nat → Nat → Int64)) t => va_P (dC, dI) vwCl (wX cI cJ ad u.1 u.2) t.heap) (AX 43 ad sz)) 0 0 (AX 43 ad sz) := by
  refine Met.ofW (cc := cX1_search) (maxL := 7) (ret := none) (by decide) rfl ?_
  intro p e s m args below meth c s₁ B hml hv
  obtain ⟨rfl, hsz, hP, hK, hD0⟩ := hv
  have hx := B.exec
  have hb := B.bytes
  have hr := B.returns
  have hts := atoms_spec (ws := wsX1_search) B.pre
  have hown : s.vm.findClass RX1 = some m.cls := findClass_of_methodNamed B.named
  have hlocks := B.notSynchronized
  subst hsz
  have hD := wX_DA hD0 s.heap.size
  have hS : va_S (AX 43 ad s.heap.size) s.heap s.heap [] := va_S.rf
  have hl := lv_entry ([.ref (ad 10), .int p1, .int p2, .int p3, .int p4]) (n := 7) (Nat.le_of_ble_eq_true rfl)
  rw [lg_entry_eq]
  generalize (lg_sl ([.ref (ad 10), .int p1, .int p2, .int p3, .int p4]) ++ List.replicate (7 - (lg_sl ([.ref (ad 10), .int p1, .int p2, .int p3, .int p4])).length) Slot.unset).toArray = ls at hl ⊢
  have hl : lv_has ls 7 [(0, .ref (ad 10)), (1, .int p1), (2, .int p2), (3, .int p3), (4, .int p4)] := hl
  have hf19 := hts (.fieldLink RX1 19 "LawRings$Asking" "changes" "I") (by decide +kernel)
  have hiX1 : ∀ w ∈ u_ws RX1 TX1 5, w ∈ wsX1_search := by decide +kernel
  have hf23 := hts (.fieldLink RX1 23 "LawRings$Asking" "judge" "I") (by decide +kernel)
  have hf26 := hts (.fieldLink RX1 26 "LawRings$Asking" "number" "I") (by decide +kernel)
  have hf15 := hts (.fieldLink RX1 15 "LawRings$Asking" "allCases" "LLawRings$AllCases;") (by decide +kernel)
  have hf9 := hts (.fieldLink RX1 9 "LawRings$Asking" "cases" "LLawRings$Cases;") (by decide +kernel)
  have hf29 := hts (.fieldLink RX1 29 "LawRings$Cases" "day" "[I") (by decide +kernel)
  have hiX2 : ∀ w ∈ u_ws RX2 TX2 6, w ∈ wsX1_search := by decide +kernel
  have hf48 := hts (.fieldLink RX1 48 "LawRings$AllCases" "hearing" "LLawRings$Hearing;") (by decide +kernel)
  have hiX0 : ∀ w ∈ u_ws RX0 TX0 3, w ∈ wsX1_search := by decide +kernel
  rw [sX1_search] at h
  refine lv_aload_n hx hb dX1_search_0 rfl (lv_at hl 0 rfl) ?_
  refine lv_iconst (v := (-1)) hx hb dX1_search_1 (by decide) ?_
  obtain ⟨S1, eS1, h⟩ := bnd_elim h
  refine va_put (D := (dC, dI)) (ci := 1) (v := .int (-1)) (ty := .int) (C := RX1) (T := TX1) (N := 5) hx hb hts hiX1 tyX1 tyX1_ok nmX1 hown hK hP hD hS 10 rfl rfl 2 (by decide) hf19 (fun _ h9 => h9) rfl (by decide +kernel) rfl rfl (Nat.le_of_ble_eq_true rfl) dX1_search_2 (fun H locs hP9 _ hS => ?_)
  have hP := swX_10_2 hP9
  rw [← eS1] at hP
  have hD := wX_D hD S1 L
  refine lv_aload_n hx hb dX1_search_5 rfl (lv_at hl 0 rfl) ?_
  refine lv_iconst (v := (-1)) hx hb dX1_search_6 (by decide) ?_
  obtain ⟨S2, eS2, h⟩ := bnd_elim h
  refine va_put (D := (dC, dI)) (ci := 1) (v := .int (-1)) (ty := .int) (C := RX1) (T := TX1) (N := 5) hx hb hts hiX1 tyX1 tyX1_ok nmX1 hown hK hP hD hS 10 rfl rfl 3 (by decide) hf23 (fun _ h9 => h9) rfl (by decide +kernel) rfl rfl (Nat.le_of_ble_eq_true rfl) dX1_search_7 (fun H locs hP9 _ hS => ?_)
  have hP := swX_10_3 hP9
  rw [← eS2] at hP
  have hD := wX_D hD S2 L
  refine lv_aload_n hx hb dX1_search_10 rfl (lv_at hl 0 rfl) ?_
  refine lv_iconst (v := (-1)) hx hb dX1_search_11 (by decide) ?_
  obtain ⟨S3, eS3, h⟩ := bnd_elim h
  refine va_put (D := (dC, dI)) (ci := 1) (v := .int (-1)) (ty := .int) (C := RX1) (T := TX1) (N := 5) hx hb hts hiX1 tyX1 tyX1_ok nmX1 hown hK hP hD hS 10 rfl rfl 4 (by decide) hf26 (fun _ h9 => h9) rfl (by decide +kernel) rfl rfl (Nat.le_of_ble_eq_true rfl) dX1_search_12 (fun H locs hP9 _ hS => ?_)
  have hP := swX_10_4 hP9
  rw [← eS3] at hP
  have hD := wX_D hD S3 L
  refine lv_aload_n hx hb dX1_search_15 rfl (lv_at hl 0 rfl) ?_
  refine va_get (D := (dC, dI)) (ci := 1) (v := .ref (ad 8)) (C := RX1) (T := TX1) (N := 5) hx hb hts hiX1 hown hK hP 10 rfl rfl 1 (by decide) hf15 (fun _ h9 => h9) rfl dX1_search_16 ?_
  refine lv_aload_n hx hb dX1_search_19 rfl (lv_at hl 0 rfl) ?_
  refine va_get (D := (dC, dI)) (ci := 1) (v := .ref (ad 1)) (C := RX1) (T := TX1) (N := 5) hx hb hts hiX1 hown hK hP 10 rfl rfl 0 (by decide) hf9 (fun _ h9 => h9) rfl dX1_search_20 ?_
  refine va_get (D := (dC, dI)) (ci := 2) (v := .ref (ad 13)) (C := RX2) (T := TX2) (N := 6) hx hb hts hiX2 hown hK hP 1 rfl rfl 2 (by decide) hf29 (fun _ h9 => h9) rfl dX1_search_23 ?_
  refine lv_iload_n hx hb dX1_search_26 rfl (lv_at hl 1 rfl) ?_
  obtain ⟨b4, h⟩ := ck_elim h
  refine va_iald hx hb hK hP 13 0 rfl rfl b4 dX1_search_27 ?_
  obtain ⟨S6, L7, k5, h⟩ := ob2_elim h
  refine va_callv (va_runV (As := [.int (S3 13 p1.toNatClampNeg)]) (rest := []) ⟨hx, hb, hml, hown, hts⟩ (mX0_start l dC dI cI cJ ad (S3 13 p1.toNatClampNeg) S3 L H.size k5) (cwV 1 hts gX1_search_X0_start rfl rfl rfl (by decide +kernel) ⟨Nat.le_of_ble_eq_true rfl, Nat.le_of_ble_eq_true rfl⟩) ⟨QXs_blind, va_recv hK hP (ci := 0) (q0 := 8) rfl rfl, fun U hU hW => ⟨rfl, congrArg Array.size hU, QX_at hP hK hD hU hW⟩⟩ rfl rfl hl.1 rfl (lv_room (Nat.le_of_ble_eq_true rfl)) dX1_search_28 ⟨Nat.zero_le _, Nat.zero_le _⟩) hS (fun q _ hq => AX_mono hS.1 hq) (fun q hq => AX_mono hS.1 hq) (fun u t H1 locs ht hvm hw hB hz1 hk1 hS => ?_)
  cases hw
  rw [ht] at hB
  have hP := hB
  clear hB hk1 hz1
  generalize H1 = H at hP hS ⊢
  have hD := wX_D hD S6 L7
  refine lv_iconst (v := 0) hx hb dX1_search_31 (by decide) ?_
  refine lv_istore (lv' := [(5, .int 0), (0, .ref (ad 10)), (1, .int p1), (2, .int p2), (3, .int p3), (4, .int p4)]) hx hb dX1_search_32 hl (by decide) rfl (fun ls hl => ?_)
  refine ww_w (fun WW34 hWW34 => ?_)
  have Lh34 : ∀ (n : Nat) (v8 : Int32) (S9 : (Nat → Nat → Int32)) (L10 : (Nat → Nat → Int64)) (z : ((Nat → Nat → Int32) × (Nat → Nat → Int64))), lX1_search_34 p1 p2 p3 p4 n v8 S9 L10 = some z → ∀ (H : Heap) (locs : List Loc), va_P (dC, dI) vwCl (wX cI cJ ad S9 L10) H → va_S (AX 43 ad s.heap.size) s.heap H locs → ∀ ls : Array Slot, lv_has ls 7 [(0, .ref (ad 10)), (1, .int p1), (2, .int p2), (3, .int p3), (4, .int p4), (5, .int v8)] → (∀ (YS : (Nat → Nat → Int32)) (YL : (Nat → Nat → Int64)), z = (YS, YL) → ∀ (H : Heap) (locs : List Loc), va_P (dC, dI) vwCl (wX cI cJ ad YS YL) H → va_S (AX 43 ad s.heap.size) s.heap H locs → ∀ ls : Array Slot, lv_has ls 7 [] → WW34 H locs 116 ls) → WW34 H locs 34 ls := by
    intro n
    induction n with
    | zero => intro v8 S9 L10 z h H locs hP hS ls hl K0; rw [lX1_search_34] at h; cases h
    | succ n ih =>
      intro v8 S9 L10 z h H locs hP hS ls hl K0
      have hD := wX_D hD S9 L10
      rw [lX1_search_34] at h
      refine wi_w hWW34 ?_
      refine lv_iload hx hb dX1_search_34 (lv_at hl 5 rfl) ?_
      refine lv_sipush (v := 15625) hx hb dX1_search_36 (by decide) ?_
      refine lv_icmp_ge (tgt := 116) hx hb dX1_search_39 (by decide) (fun c11 => ?_) (fun c11 => ?_)
      · replace h := it_t c11 h
        refine wu_w hWW34 ?_
        exact K0 S9 L10 (Option.some.inj h).symm H locs hP hS ls (lv_sub hl [] rfl)
      · replace h := it_f c11 h
        refine lv_aload_n hx hb dX1_search_42 rfl (lv_at hl 0 rfl) ?_
        refine va_get (D := (dC, dI)) (ci := 1) (v := .ref (ad 8)) (C := RX1) (T := TX1) (N := 5) hx hb hts hiX1 hown hK hP 10 rfl rfl 1 (by decide) hf15 (fun _ h9 => h9) rfl dX1_search_43 ?_
        refine lv_iload hx hb dX1_search_46 (lv_at hl 5 rfl) ?_
        obtain ⟨S13, L14, k12, h⟩ := ob2_elim h
        refine va_callv (va_runV (As := [.int v8]) (rest := []) ⟨hx, hb, hml, hown, hts⟩ (mX0_setTies l dC dI cI cJ ad v8 S9 L10 H.size k12) (cwV 1 hts gX1_search_X0_setTies rfl rfl rfl (by decide +kernel) ⟨Nat.le_of_ble_eq_true rfl, Nat.le_of_ble_eq_true rfl⟩) ⟨QXs_blind, va_recv hK hP (ci := 0) (q0 := 8) rfl rfl, fun U hU hW => ⟨rfl, congrArg Array.size hU, QX_at hP hK hD hU hW⟩⟩ rfl rfl hl.1 rfl (lv_room (Nat.le_of_ble_eq_true rfl)) dX1_search_48 ⟨Nat.zero_le _, Nat.zero_le _⟩) hS (fun q _ hq => AX_mono hS.1 hq) (fun q hq => AX_mono hS.1 hq) (fun u t H1 locs ht hvm hw hB hz1 hk1 hS => ?_)
        cases hw
        rw [ht] at hB
        have hP := hB
        clear hB hk1 hz1
        generalize H1 = H at hP hS ⊢
        have hD := wX_D hD S13 L14
        refine lv_aload_n hx hb dX1_search_51 rfl (lv_at hl 0 rfl) ?_
        refine lv_iload_n hx hb dX1_search_52 rfl (lv_at hl 1 rfl) ?_
        refine lv_iload hx hb dX1_search_53 (lv_at hl 4 rfl) ?_
        obtain ⟨r16, k15, h⟩ := ob_elim h
        refine vp_callSi (W.runV (As := [.int p1, .int p4]) (rest := []) ⟨hx, hb, hml, hown, hts⟩ (mX1_tiesMade l dC dI cI cJ ad p1 p4 S13 L14 k15) (cwV 2 hts gX1_search_X1_tiesMade rfl rfl rfl (by decide +kernel) ⟨Nat.le_of_ble_eq_true rfl, Nat.le_of_ble_eq_true rfl⟩) ⟨QX_blind, va_recv hK hP (ci := 1) (q0 := 10) rfl rfl, fun U hU hW => ⟨rfl, QX_at hP hK hD hU hW⟩⟩ rfl rfl hl.1 rfl (lv_room (Nat.le_of_ble_eq_true rfl)) dX1_search_55 ⟨Nat.zero_le _, Nat.zero_le _⟩) (fun r9 er9 => ?_)
        replace er9 := er9.symm
        subst er9
        refine lv_istore (lv' := [(6, .int r16), (0, .ref (ad 10)), (1, .int p1), (2, .int p2), (3, .int p3), (4, .int p4), (5, .int v8)]) hx hb dX1_search_58 hl (by decide) rfl (fun ls hl => ?_)
        refine lv_iload hx hb dX1_search_60 (lv_at hl 0 rfl) ?_
        refine lv_iconst (v := (-1)) hx hb dX1_search_62 (by decide) ?_
        refine lv_icmp_eq (tgt := 110) hx hb dX1_search_63 (by decide) (fun c17 => ?_) (fun c17 => ?_)
        · replace h := it_t c17 h
          obtain ⟨x18, ex18, h⟩ := bnd_elim h
          refine lv_iinc (v := x18) (lv' := [(5, .int x18), (6, .int r16), (0, .ref (ad 10)), (1, .int p1), (2, .int p2), (3, .int p3), (4, .int p4)]) hx hb dX1_search_110 hl (k := 6) rfl (by rw [ex18]; rfl) (by decide) rfl (fun ls hl => ?_)
          refine lv_goto (tgt := 34) hx hb dX1_search_113 (by decide) ?_
          refine wu_w hWW34 ?_
          exact ih x18 S13 L14 z h H locs hP hS ls (lv_sub hl [2, 3, 4, 5, 6, 0] rfl) K0
        · replace h := it_f c17 h
          refine lv_aload_n hx hb dX1_search_66 rfl (lv_at hl 1 rfl) ?_
          refine va_get (D := (dC, dI)) (ci := 1) (v := .int (S13 10 2)) (C := RX1) (T := TX1) (N := 5) hx hb hts hiX1 hown hK hP 10 rfl rfl 2 (by decide) hf19 (fun _ h9 => h9) rfl dX1_search_67 ?_
          refine lv_iconst (v := (-1)) hx hb dX1_search_70 (by decide) ?_
          refine lv_icmp_eq (tgt := 86) hx hb dX1_search_71 (by decide) (fun c19 => ?_) (fun c19 => ?_)
          · replace h := it_t c19 h
            refine lv_aload_n hx hb dX1_search_86 rfl (lv_at hl 1 rfl) ?_
            refine va_get (D := (dC, dI)) (ci := 1) (v := .ref (ad 8)) (C := RX1) (T := TX1) (N := 5) hx hb hts hiX1 hown hK hP 10 rfl rfl 1 (by decide) hf15 (fun _ h9 => h9) rfl dX1_search_87 ?_
            refine va_get (D := (dC, dI)) (ci := 0) (v := .ref (ad 6)) (C := RX0) (T := TX0) (N := 3) hx hb hts hiX0 hown hK hP 8 rfl rfl 1 (by decide) hf48 (fun _ h9 => h9) rfl dX1_search_90 ?_
            refine lv_iload_n hx hb dX1_search_93 rfl (lv_at hl 3 rfl) ?_
            obtain ⟨S21, L22, k20, h⟩ := ob2_elim h
            refine va_callv (va_runV (As := [.int p2]) (rest := []) ⟨hx, hb, hml, hown, hts⟩ (mX4_readBooks l dC dI cI cJ ad p2 S13 L14 H.size k20) (cwV 1 hts gX1_search_X4_readBooks rfl rfl rfl (by decide +kernel) ⟨Nat.le_of_ble_eq_true rfl, Nat.le_of_ble_eq_true rfl⟩) ⟨QXs_blind, va_recv hK hP (ci := 4) (q0 := 6) rfl rfl, fun U hU hW => ⟨rfl, congrArg Array.size hU, QX_at hP hK hD hU hW⟩⟩ rfl rfl hl.1 rfl (lv_room (Nat.le_of_ble_eq_true rfl)) dX1_search_94 ⟨Nat.zero_le _, Nat.zero_le _⟩) hS (fun q _ hq => AX_mono hS.1 hq) (fun q hq => AX_mono hS.1 hq) (fun u t H1 locs ht hvm hw hB hz1 hk1 hS => ?_)
            cases hw
            rw [ht] at hB
            have hP := hB
            clear hB hk1 hz1
            generalize H1 = H at hP hS ⊢
            have hD := wX_D hD S21 L22
            refine lv_aload_n hx hb dX1_search_97 rfl (lv_at hl 1 rfl) ?_
            refine lv_iload hx hb dX1_search_98 (lv_at hl 6 rfl) ?_
            refine lv_iload hx hb dX1_search_100 (lv_at hl 0 rfl) ?_
            refine lv_aload_n hx hb dX1_search_102 rfl (lv_at hl 1 rfl) ?_
            refine lv_iload_n hx hb dX1_search_103 rfl (lv_at hl 4 rfl) ?_
            obtain ⟨r26, S24, L25, k23, h⟩ := ob3_elim h
            refine va_calli (va_runV (As := [.int p3]) (rest := [.int r16, .int v8, .ref (ad 10)]) ⟨hx, hb, hml, hown, hts⟩ (mX1_judgeEndingIn l dC dI cI cJ ad p3 S21 L22 H.size k23) (cwV 1 hts gX1_search_X1_judgeEndingIn rfl rfl rfl (by decide +kernel) ⟨Nat.le_of_ble_eq_true rfl, Nat.le_of_ble_eq_true rfl⟩) ⟨QXs_blind, va_recv hK hP (ci := 1) (q0 := 10) rfl rfl, fun U hU hW => ⟨rfl, congrArg Array.size hU, QX_at hP hK hD hU hW⟩⟩ rfl rfl hl.1 rfl (lv_room (Nat.le_of_ble_eq_true rfl)) dX1_search_104 ⟨Nat.zero_le _, Nat.zero_le _⟩) hS (fun q _ hq => AX_mono hS.1 hq) (fun q hq => AX_mono hS.1 hq) (fun r u t H1 locs ht hvm hw hB hz1 hk1 hS => ?_)
            cases hw
            rw [ht] at hB
            have hP := hB
            clear hB hk1 hz1
            generalize H1 = H at hP hS ⊢
            have hD := wX_D hD S24 L25
            obtain ⟨S28, L29, k27, h⟩ := ob2_elim h
            refine va_callv (va_runV (As := [.int v8, .int r16, .int r26]) (rest := []) ⟨hx, hb, hml, hown, hts⟩ (mX1_keepIfBetter l dC dI cI cJ ad v8 r16 r26 S24 L25 H.size k27) (cwV 3 hts gX1_search_X1_keepIfBetter rfl rfl rfl (by decide +kernel) ⟨Nat.le_of_ble_eq_true rfl, Nat.le_of_ble_eq_true rfl⟩) ⟨QXs_blind, va_recv hK hP (ci := 1) (q0 := 10) rfl rfl, fun U hU hW => ⟨rfl, congrArg Array.size hU, QX_at hP hK hD hU hW⟩⟩ rfl rfl hl.1 rfl (lv_room (Nat.le_of_ble_eq_true rfl)) dX1_search_107 ⟨Nat.zero_le _, Nat.zero_le _⟩) hS (fun q _ hq => AX_mono hS.1 hq) (fun q hq => AX_mono hS.1 hq) (fun u t H1 locs ht hvm hw hB hz1 hk1 hS => ?_)
            cases hw
            rw [ht] at hB
            have hP := hB
            clear hB hk1 hz1
            generalize H1 = H at hP hS ⊢
            have hD := wX_D hD S28 L29
            obtain ⟨x30, ex30, h⟩ := bnd_elim h
            refine lv_iinc (v := x30) (lv' := [(5, .int x30), (6, .int r16), (0, .ref (ad 10)), (1, .int p1), (2, .int p2), (3, .int p3), (4, .int p4)]) hx hb dX1_search_110 hl (k := 6) rfl (by rw [ex30]; rfl) (by decide) rfl (fun ls hl => ?_)
            refine lv_goto (tgt := 34) hx hb dX1_search_113 (by decide) ?_
            refine wu_w hWW34 ?_
            exact ih x30 S28 L29 z h H locs hP hS ls (lv_sub hl [2, 3, 4, 5, 6, 0] rfl) K0
          · replace h := it_f c19 h
            refine lv_iload hx hb dX1_search_74 (lv_at hl 0 rfl) ?_
            refine lv_aload_n hx hb dX1_search_76 rfl (lv_at hl 1 rfl) ?_
            refine va_get (D := (dC, dI)) (ci := 1) (v := .int (S13 10 2)) (C := RX1) (T := TX1) (N := 5) hx hb hts hiX1 hown hK hP 10 rfl rfl 2 (by decide) hf19 (fun _ h9 => h9) rfl dX1_search_77 ?_
            refine lv_icmp_le (tgt := 86) hx hb dX1_search_80 (by decide) (fun c31 => ?_) (fun c31 => ?_)
            · replace h := it_t c31 h
              refine lv_aload_n hx hb dX1_search_86 rfl (lv_at hl 1 rfl) ?_
              refine va_get (D := (dC, dI)) (ci := 1) (v := .ref (ad 8)) (C := RX1) (T := TX1) (N := 5) hx hb hts hiX1 hown hK hP 10 rfl rfl 1 (by decide) hf15 (fun _ h9 => h9) rfl dX1_search_87 ?_
              refine va_get (D := (dC, dI)) (ci := 0) (v := .ref (ad 6)) (C := RX0) (T := TX0) (N := 3) hx hb hts hiX0 hown hK hP 8 rfl rfl 1 (by decide) hf48 (fun _ h9 => h9) rfl dX1_search_90 ?_
              refine lv_iload_n hx hb dX1_search_93 rfl (lv_at hl 3 rfl) ?_
              obtain ⟨S33, L34, k32, h⟩ := ob2_elim h
              refine va_callv (va_runV (As := [.int p2]) (rest := []) ⟨hx, hb, hml, hown, hts⟩ (mX4_readBooks l dC dI cI cJ ad p2 S13 L14 H.size k32) (cwV 1 hts gX1_search_X4_readBooks rfl rfl rfl (by decide +kernel) ⟨Nat.le_of_ble_eq_true rfl, Nat.le_of_ble_eq_true rfl⟩) ⟨QXs_blind, va_recv hK hP (ci := 4) (q0 := 6) rfl rfl, fun U hU hW => ⟨rfl, congrArg Array.size hU, QX_at hP hK hD hU hW⟩⟩ rfl rfl hl.1 rfl (lv_room (Nat.le_of_ble_eq_true rfl)) dX1_search_94 ⟨Nat.zero_le _, Nat.zero_le _⟩) hS (fun q _ hq => AX_mono hS.1 hq) (fun q hq => AX_mono hS.1 hq) (fun u t H1 locs ht hvm hw hB hz1 hk1 hS => ?_)
              cases hw
              rw [ht] at hB
              have hP := hB
              clear hB hk1 hz1
              generalize H1 = H at hP hS ⊢
              have hD := wX_D hD S33 L34
              refine lv_aload_n hx hb dX1_search_97 rfl (lv_at hl 1 rfl) ?_
              refine lv_iload hx hb dX1_search_98 (lv_at hl 6 rfl) ?_
              refine lv_iload hx hb dX1_search_100 (lv_at hl 0 rfl) ?_
              refine lv_aload_n hx hb dX1_search_102 rfl (lv_at hl 1 rfl) ?_
              refine lv_iload_n hx hb dX1_search_103 rfl (lv_at hl 4 rfl) ?_
              obtain ⟨r38, S36, L37, k35, h⟩ := ob3_elim h
              refine va_calli (va_runV (As := [.int p3]) (rest := [.int r16, .int v8, .ref (ad 10)]) ⟨hx, hb, hml, hown, hts⟩ (mX1_judgeEndingIn l dC dI cI cJ ad p3 S33 L34 H.size k35) (cwV 1 hts gX1_search_X1_judgeEndingIn rfl rfl rfl (by decide +kernel) ⟨Nat.le_of_ble_eq_true rfl, Nat.le_of_ble_eq_true rfl⟩) ⟨QXs_blind, va_recv hK hP (ci := 1) (q0 := 10) rfl rfl, fun U hU hW => ⟨rfl, congrArg Array.size hU, QX_at hP hK hD hU hW⟩⟩ rfl rfl hl.1 rfl (lv_room (Nat.le_of_ble_eq_true rfl)) dX1_search_104 ⟨Nat.zero_le _, Nat.zero_le _⟩) hS (fun q _ hq => AX_mono hS.1 hq) (fun q hq => AX_mono hS.1 hq) (fun r u t H1 locs ht hvm hw hB hz1 hk1 hS => ?_)
              cases hw
              rw [ht] at hB
              have hP := hB
              clear hB hk1 hz1
              generalize H1 = H at hP hS ⊢
              have hD := wX_D hD S36 L37
              obtain ⟨S40, L41, k39, h⟩ := ob2_elim h
              refine va_callv (va_runV (As := [.int v8, .int r16, .int r38]) (rest := []) ⟨hx, hb, hml, hown, hts⟩ (mX1_keepIfBetter l dC dI cI cJ ad v8 r16 r38 S36 L37 H.size k39) (cwV 3 hts gX1_search_X1_keepIfBetter rfl rfl rfl (by decide +kernel) ⟨Nat.le_of_ble_eq_true rfl, Nat.le_of_ble_eq_true rfl⟩) ⟨QXs_blind, va_recv hK hP (ci := 1) (q0 := 10) rfl rfl, fun U hU hW => ⟨rfl, congrArg Array.size hU, QX_at hP hK hD hU hW⟩⟩ rfl rfl hl.1 rfl (lv_room (Nat.le_of_ble_eq_true rfl)) dX1_search_107 ⟨Nat.zero_le _, Nat.zero_le _⟩) hS (fun q _ hq => AX_mono hS.1 hq) (fun q hq => AX_mono hS.1 hq) (fun u t H1 locs ht hvm hw hB hz1 hk1 hS => ?_)
              cases hw
              rw [ht] at hB
              have hP := hB
              clear hB hk1 hz1
              generalize H1 = H at hP hS ⊢
              have hD := wX_D hD S40 L41
              obtain ⟨x42, ex42, h⟩ := bnd_elim h
              refine lv_iinc (v := x42) (lv' := [(5, .int x42), (6, .int r16), (0, .ref (ad 10)), (1, .int p1), (2, .int p2), (3, .int p3), (4, .int p4)]) hx hb dX1_search_110 hl (k := 6) rfl (by rw [ex42]; rfl) (by decide) rfl (fun ls hl => ?_)
              refine lv_goto (tgt := 34) hx hb dX1_search_113 (by decide) ?_
              refine wu_w hWW34 ?_
              exact ih x42 S40 L41 z h H locs hP hS ls (lv_sub hl [2, 3, 4, 5, 6, 0] rfl) K0
            · replace h := it_f c31 h
              refine lv_goto (tgt := 110) hx hb dX1_search_83 (by decide) ?_
              obtain ⟨x43, ex43, h⟩ := bnd_elim h
              refine lv_iinc (v := x43) (lv' := [(5, .int x43), (6, .int r16), (0, .ref (ad 10)), (1, .int p1), (2, .int p2), (3, .int p3), (4, .int p4)]) hx hb dX1_search_110 hl (k := 6) rfl (by rw [ex43]; rfl) (by decide) rfl (fun ls hl => ?_)
              refine lv_goto (tgt := 34) hx hb dX1_search_113 (by decide) ?_
              refine wu_w hWW34 ?_
              exact ih x43 S13 L14 z h H locs hP hS ls (lv_sub hl [2, 3, 4, 5, 6, 0] rfl) K0
  obtain ⟨S45, L46, k44, h⟩ := ob2_elim h
  refine wu_w hWW34 ?_
  refine Lh34 FU 0 S6 L7 _ k44 H locs hP hS ls (lv_sub hl [1, 2, 3, 4, 5, 0] rfl) ?_
  intro y0 y1 hy H locs hP hS ls hl
  cases hy
  have hD := wX_D hD S45 L46
  refine wi_w hWW34 ?_
  cases h
  exact W.vret hx hb hr (fun t ht hW => ⟨⟨_, rfl, rfl, by show va_P _ _ _ t.heap; rw [ht]; exact hP⟩, hS.F ht⟩) hS.2.2 dX1_search_116
set_option maxHeartbeats 4000000 in
set_option maxRecDepth 100000 in
theorem mX10_ask (l : Launch) (dC : Nat → ClassId) (dI : Nat → Nat → Nat) (cI cJ : ClassId) (ad : Nat → Nat) (p1 : Int32) (p2 : Int32) (p3 : Int32) (p4 : Int32) (p5 : Int32) (S : Nat → Nat → Int32) (L : Nat → Nat → Int64) (sz : Nat) {z : Int32 × (Nat → Nat → Int32) × (Nat → Nat → Int64)} (h : sX10_ask p1 p2 p3 p4 p5 S L = some z) : Met l yX10_ask wsX10_ask ({ frames := 5, cells := 0, slots := 0, locals := 119 }) (va_Pc [.ref (ad 0), .int p1, .int p2, .int p3, .int p4, .int p5] (QXs sz dC dI cI cJ ad S L)) (va_Qi (fun (r : Int32) (u : (Nat → Nat → Int32) × (Nat → Nat → Int64)) => (r, u) = z) (fun (u : (Nat → Nat → Int32) × (Nat → Nat → Int64)) t => va_P (dC, dI) vwCl (wX cI cJ ad u.1 u.2) t.heap) (AX 43 ad sz)) 0 0 (AX 43 ad sz) := by
  refine Met.ofW (cc := cX10_ask) (maxL := 6) (ret := (some .int)) (by decide) rfl ?_
  intro p e s m args below meth c s₁ B hml hv
  obtain ⟨rfl, hsz, hP, hK, hD0⟩ := hv
  have hx := B.exec
  have hb := B.bytes
  have hr := B.returns
  have hts := atoms_spec (ws := wsX10_ask) B.pre
  have hown : s.vm.findClass RX10 = some m.cls := findClass_of_methodNamed B.named
  have hlocks := B.notSynchronized
  subst hsz
  have hD := wX_DA hD0 s.heap.size
  have hS : va_S (AX 43 ad s.heap.size) s.heap s.heap [] := va_S.rf
  have hl := lv_entry ([.ref (ad 0), .int p1, .int p2, .int p3, .int p4, .int p5]) (n := 6) (Nat.le_of_ble_eq_true rfl)
  rw [lg_entry_eq]
  generalize (lg_sl ([.ref (ad 0), .int p1, .int p2, .int p3, .int p4, .int p5]) ++ List.replicate (6 - (lg_sl ([.ref (ad 0), .int p1, .int p2, .int p3, .int p4, .int p5])).length) Slot.unset).toArray = ls at hl ⊢
  have hl : lv_has ls 6 [(0, .ref (ad 0)), (1, .int p1), (2, .int p2), (3, .int p3), (4, .int p4), (5, .int p5)] := hl
  have hf76 := hts (.fieldLink RX10 76 "LawRings" "asking" "LLawRings$Asking;") (by decide +kernel)
  have hiX10 : ∀ w ∈ u_ws RX10 TX10 11, w ∈ wsX10_ask := by decide +kernel
  have hf261 := hts (.fieldLink RX10 261 "LawRings$Asking" "number" "I") (by decide +kernel)
  have hiX1 : ∀ w ∈ u_ws RX1 TX1 5, w ∈ wsX10_ask := by decide +kernel
  have hf258 := hts (.fieldLink RX10 258 "LawRings$Asking" "judge" "I") (by decide +kernel)
  have hf255 := hts (.fieldLink RX10 255 "LawRings$Asking" "changes" "I") (by decide +kernel)
  rw [sX10_ask] at h
  refine lv_aload_n hx hb dX10_ask_0 rfl (lv_at hl 0 rfl) ?_
  refine lv_iload_n hx hb dX10_ask_1 rfl (lv_at hl 3 rfl) ?_
  refine lv_iload_n hx hb dX10_ask_2 rfl (lv_at hl 1 rfl) ?_
  refine lv_iload_n hx hb dX10_ask_3 rfl (lv_at hl 2 rfl) ?_
  obtain ⟨r2, k1, h⟩ := ob_elim h
  refine vp_callSi (W.runV (As := [.int p3, .int p1, .int p2]) (rest := []) ⟨hx, hb, hml, hown, hts⟩ (mX10_isQuestion l dC dI cI cJ ad p3 p1 p2 S L k1) (cwV 3 hts gX10_ask_X10_isQuestion rfl rfl rfl (by decide +kernel) ⟨Nat.le_of_ble_eq_true rfl, Nat.le_of_ble_eq_true rfl⟩) ⟨QX_blind, va_recv hK hP (ci := 10) (q0 := 0) rfl rfl, fun U hU hW => ⟨rfl, QX_at hP hK hD hU hW⟩⟩ rfl rfl hl.1 rfl (lv_room (Nat.le_of_ble_eq_true rfl)) dX10_ask_4 ⟨Nat.zero_le _, Nat.zero_le _⟩) (fun r9 er9 => ?_)
  replace er9 := er9.symm
  subst er9
  refine lv_if_ne (tgt := 13) hx hb dX10_ask_7 (by decide) (fun c3 => ?_) (fun c3 => ?_)
  · replace h := it_f c3 h
    refine lv_iload hx hb dX10_ask_13 (lv_at hl 4 rfl) ?_
    refine lv_bipush (v := 64) hx hb dX10_ask_15 (by decide) ?_
    obtain ⟨r5, k4, h⟩ := ob_elim h
    refine vp_callSi (W.runS (As := [.int p4, .int 64]) (rest := []) ⟨hx, hb, hml, hown, hts⟩ (mX10_isBelow l p4 64 k4) (va_cwS 2 hts gX10_ask_X10_isBelow rfl rfl rfl (by decide +kernel) ⟨Nat.le_of_ble_eq_true rfl, Nat.le_of_ble_eq_true rfl⟩) ⟨fun _ _ _ _ q => q, fun U hU hW => ⟨rfl, trivial⟩⟩ rfl rfl hl.1 rfl (lv_room (Nat.le_of_ble_eq_true rfl)) dX10_ask_17 ⟨Nat.zero_le _, Nat.zero_le _⟩) (fun r9 er9 => ?_)
    replace er9 := er9.symm
    subst er9
    refine lv_if_eq (tgt := 32) hx hb dX10_ask_20 (by decide) (fun c6 => ?_) (fun c6 => ?_)
    · replace h := it_t c6 h
      refine lv_bipush (v := (-2)) hx hb dX10_ask_32 (by decide) ?_
      cases h
      exact W.iret hx hb hr (fun t ht hW => ⟨⟨_, _, rfl, rfl, by show va_P _ _ _ t.heap; rw [ht]; exact hP⟩, hS.F ht⟩) hS.2.2 dX10_ask_34
    · replace h := it_f c6 h
      refine lv_iload hx hb dX10_ask_23 (lv_at hl 5 rfl) ?_
      refine lv_iconst (v := 3) hx hb dX10_ask_25 (by decide) ?_
      obtain ⟨r8, k7, h⟩ := ob_elim h
      refine vp_callSi (W.runS (As := [.int p5, .int 3]) (rest := []) ⟨hx, hb, hml, hown, hts⟩ (mX10_isBelow l p5 3 k7) (va_cwS 2 hts gX10_ask_X10_isBelow rfl rfl rfl (by decide +kernel) ⟨Nat.le_of_ble_eq_true rfl, Nat.le_of_ble_eq_true rfl⟩) ⟨fun _ _ _ _ q => q, fun U hU hW => ⟨rfl, trivial⟩⟩ rfl rfl hl.1 rfl (lv_room (Nat.le_of_ble_eq_true rfl)) dX10_ask_26 ⟨Nat.zero_le _, Nat.zero_le _⟩) (fun r9 er9 => ?_)
      replace er9 := er9.symm
      subst er9
      refine lv_if_ne (tgt := 35) hx hb dX10_ask_29 (by decide) (fun c9 => ?_) (fun c9 => ?_)
      · replace h := it_f c9 h
        refine lv_aload_n hx hb dX10_ask_35 rfl (lv_at hl 0 rfl) ?_
        refine va_get (D := (dC, dI)) (ci := 10) (v := .ref (ad 10)) (C := RX10) (T := TX10) (N := 11) hx hb hts hiX10 hown hK hP 0 rfl rfl 8 (by decide) hf76 (fun _ h9 => h9) rfl dX10_ask_36 ?_
        refine lv_iload_n hx hb dX10_ask_39 rfl (lv_at hl 1 rfl) ?_
        refine lv_iload_n hx hb dX10_ask_40 rfl (lv_at hl 2 rfl) ?_
        refine lv_iload_n hx hb dX10_ask_41 rfl (lv_at hl 3 rfl) ?_
        refine lv_iload hx hb dX10_ask_42 (lv_at hl 4 rfl) ?_
        obtain ⟨S11, L12, k10, h⟩ := ob2_elim h
        refine va_callv (va_runV (As := [.int p1, .int p2, .int p3, .int p4]) (rest := []) ⟨hx, hb, hml, hown, hts⟩ (mX1_search l dC dI cI cJ ad p1 p2 p3 p4 S L s.heap.size k10) (cwV 4 hts gX10_ask_X1_search rfl rfl rfl (by decide +kernel) ⟨Nat.le_of_ble_eq_true rfl, Nat.le_of_ble_eq_true rfl⟩) ⟨QXs_blind, va_recv hK hP (ci := 1) (q0 := 10) rfl rfl, fun U hU hW => ⟨rfl, congrArg Array.size hU, QX_at hP hK hD hU hW⟩⟩ rfl rfl hl.1 rfl (lv_room (Nat.le_of_ble_eq_true rfl)) dX10_ask_44 ⟨Nat.zero_le _, Nat.zero_le _⟩) hS (fun q _ hq => AX_mono hS.1 hq) (fun q hq => AX_mono hS.1 hq) (fun u t H1 locs ht hvm hw hB hz1 hk1 hS => ?_)
        cases hw
        rw [ht] at hB
        have hP := hB
        clear hB hk1 hz1
        generalize H1 = H at hP hS ⊢
        have hD := wX_D hD S11 L12
        refine lv_iload hx hb dX10_ask_47 (lv_at hl 5 rfl) ?_
        refine lv_if_ne (tgt := 62) hx hb dX10_ask_49 (by decide) (fun c13 => ?_) (fun c13 => ?_)
        · replace h := it_f c13 h
          refine lv_iload hx hb dX10_ask_62 (lv_at hl 5 rfl) ?_
          refine lv_iconst (v := 1) hx hb dX10_ask_64 (by decide) ?_
          refine lv_icmp_ne (tgt := 78) hx hb dX10_ask_65 (by decide) (fun c14 => ?_) (fun c14 => ?_)
          · replace h := it_f c14 h
            refine lv_aload_n hx hb dX10_ask_78 rfl (lv_at hl 0 rfl) ?_
            refine va_get (D := (dC, dI)) (ci := 10) (v := .ref (ad 10)) (C := RX10) (T := TX10) (N := 11) hx hb hts hiX10 hown hK hP 0 rfl rfl 8 (by decide) hf76 (fun _ h9 => h9) rfl dX10_ask_79 ?_
            refine va_get (D := (dC, dI)) (ci := 1) (v := .int (S11 10 4)) (C := RX1) (T := TX1) (N := 5) hx hb hts hiX1 hown hK hP 10 rfl rfl 4 (by decide) hf261 (fun _ h9 => h9) rfl dX10_ask_82 ?_
            cases h
            exact W.iret hx hb hr (fun t ht hW => ⟨⟨_, _, rfl, rfl, by show va_P _ _ _ t.heap; rw [ht]; exact hP⟩, hS.F ht⟩) hS.2.2 dX10_ask_85
          · replace h := it_t c14 h
            refine lv_aload_n hx hb dX10_ask_68 rfl (lv_at hl 0 rfl) ?_
            refine va_get (D := (dC, dI)) (ci := 10) (v := .ref (ad 10)) (C := RX10) (T := TX10) (N := 11) hx hb hts hiX10 hown hK hP 0 rfl rfl 8 (by decide) hf76 (fun _ h9 => h9) rfl dX10_ask_69 ?_
            refine va_get (D := (dC, dI)) (ci := 1) (v := .int (S11 10 3)) (C := RX1) (T := TX1) (N := 5) hx hb hts hiX1 hown hK hP 10 rfl rfl 3 (by decide) hf258 (fun _ h9 => h9) rfl dX10_ask_72 ?_
            refine lv_goto (tgt := 85) hx hb dX10_ask_75 (by decide) ?_
            cases h
            exact W.iret hx hb hr (fun t ht hW => ⟨⟨_, _, rfl, rfl, by show va_P _ _ _ t.heap; rw [ht]; exact hP⟩, hS.F ht⟩) hS.2.2 dX10_ask_85
        · replace h := it_t c13 h
          refine lv_aload_n hx hb dX10_ask_52 rfl (lv_at hl 0 rfl) ?_
          refine va_get (D := (dC, dI)) (ci := 10) (v := .ref (ad 10)) (C := RX10) (T := TX10) (N := 11) hx hb hts hiX10 hown hK hP 0 rfl rfl 8 (by decide) hf76 (fun _ h9 => h9) rfl dX10_ask_53 ?_
          refine va_get (D := (dC, dI)) (ci := 1) (v := .int (S11 10 2)) (C := RX1) (T := TX1) (N := 5) hx hb hts hiX1 hown hK hP 10 rfl rfl 2 (by decide) hf255 (fun _ h9 => h9) rfl dX10_ask_56 ?_
          refine lv_goto (tgt := 85) hx hb dX10_ask_59 (by decide) ?_
          cases h
          exact W.iret hx hb hr (fun t ht hW => ⟨⟨_, _, rfl, rfl, by show va_P _ _ _ t.heap; rw [ht]; exact hP⟩, hS.F ht⟩) hS.2.2 dX10_ask_85
      · replace h := it_t c9 h
        refine lv_bipush (v := (-2)) hx hb dX10_ask_32 (by decide) ?_
        cases h
        exact W.iret hx hb hr (fun t ht hW => ⟨⟨_, _, rfl, rfl, by show va_P _ _ _ t.heap; rw [ht]; exact hP⟩, hS.F ht⟩) hS.2.2 dX10_ask_34
  · replace h := it_t c3 h
    refine lv_bipush (v := (-2)) hx hb dX10_ask_10 (by decide) ?_
    cases h
    exact W.iret hx hb hr (fun t ht hW => ⟨⟨_, _, rfl, rfl, by show va_P _ _ _ t.heap; rw [ht]; exact hP⟩, hS.F ht⟩) hS.2.2 dX10_ask_12
set_option maxHeartbeats 4000000 in
set_option maxRecDepth 100000 in
theorem mX11_other (l : Launch) (dC : Nat → ClassId) (dI : Nat → Nat → Nat) (cI cZ : ClassId) (ad : Nat → Nat) (p1 : Int32) (S : Nat → Nat → Int32) {z : Int32} (h : sX11_other p1 S = some z) : Met l yX11_other wsX11_other ({ frames := 0, cells := 0, slots := 0, locals := 0 }) (va_Pc [.ref (ad 0), .int p1] (QM dC dI cI cZ ad S)) (vp_Si (fun r => r = z)) 0 0 (fun _ => False) := by
  refine Met.ofW (cc := cX11_other) (maxL := 4) (ret := (some .int)) (by decide) rfl ?_
  intro p e s m args below meth c s₁ B hml hv
  obtain ⟨rfl, hP, hK, hD⟩ := hv
  have hx := B.exec
  have hb := B.bytes
  have hr := B.returns
  have hts := atoms_spec (ws := wsX11_other) B.pre
  have hown : s.vm.findClass RX11 = some m.cls := findClass_of_methodNamed B.named
  have hlocks := B.notSynchronized
  have hl := lv_entry ([.ref (ad 0), .int p1]) (n := 4) (Nat.le_of_ble_eq_true rfl)
  rw [lg_entry_eq]
  generalize (lg_sl ([.ref (ad 0), .int p1]) ++ List.replicate (4 - (lg_sl ([.ref (ad 0), .int p1])).length) Slot.unset).toArray = ls at hl ⊢
  have hl : lv_has ls 4 [(0, .ref (ad 0)), (1, .int p1)] := hl
  have hf13 := hts (.fieldLink RX11 13 "LawRingsModel" "ties" "[I") (by decide +kernel)
  have hiX11 : ∀ w ∈ u_ws RX11 TX11 8, w ∈ wsX11_other := by decide +kernel
  have hf26 := hts (.fieldLink RX11 26 "LawRingsModel" "had" "[I") (by decide +kernel)
  rw [sX11_other] at h
  refine lv_iconst (v := 0) hx hb dX11_other_0 (by decide) ?_
  refine lv_istore_n (lv' := [(2, .int 0), (0, .ref (ad 0)), (1, .int p1)]) hx hb dX11_other_1 rfl hl (by decide) rfl (fun ls hl => ?_)
  refine lv_iconst (v := 0) hx hb dX11_other_2 (by decide) ?_
  refine lv_istore_n (lv' := [(3, .int 0), (2, .int 0), (0, .ref (ad 0)), (1, .int p1)]) hx hb dX11_other_3 rfl hl (by decide) rfl (fun ls hl => ?_)
  refine ww_r (fun WW4 hWW4 => ?_)
  have Lh4 : ∀ (n : Nat) (v1 : Int32) (v2 : Int32) (z : (Unit ⊕ (Int32))), lX11_other_4 p1 S n v1 v2 = some z → ∀ ls : Array Slot, lv_has ls 4 [(0, .ref (ad 0)), (1, .int p1), (2, .int v1), (3, .int v2)] → (z = .inl () → ∀ ls : Array Slot, lv_has ls 4 [] → WW4  43 ls) → (∀ (y0 : Int32), z = .inr y0 → ∀ ls : Array Slot, lv_has ls 4 [(2, .int y0)] → WW4  54 ls) → WW4  4 ls := by
    intro n
    induction n with
    | zero => intro v1 v2 z h ls hl K0 K1; rw [lX11_other_4] at h; cases h
    | succ n ih =>
      intro v1 v2 z h ls hl K0 K1
      rw [lX11_other_4] at h
      refine wi_r hWW4 ?_
      refine lv_iload_n hx hb dX11_other_4 rfl (lv_at hl 3 rfl) ?_
      refine lv_bipush (v := 6) hx hb dX11_other_5 (by decide) ?_
      refine lv_icmp_ge (tgt := 54) hx hb dX11_other_7 (by decide) (fun c3 => ?_) (fun c3 => ?_)
      · replace h := it_t c3 h
        refine wu_r hWW4 ?_
        exact K1 v1 (Option.some.inj h).symm ls (lv_sub hl [2] rfl)
      · replace h := it_f c3 h
        refine lv_aload_n hx hb dX11_other_10 rfl (lv_at hl 0 rfl) ?_
        refine va_get (D := (dC, dI)) (ci := 11) (v := .ref (ad 2)) (C := RX11) (T := TX11) (N := 8) hx hb hts hiX11 hown hK hP 0 rfl rfl 1 (by decide) hf13 (fun _ h9 => h9) rfl dX11_other_11 ?_
        refine lv_iload_n hx hb dX11_other_14 rfl (lv_at hl 3 rfl) ?_
        obtain ⟨b4, h⟩ := ck_elim h
        refine va_iald hx hb hK hP 2 0 rfl rfl b4 dX11_other_15 ?_
        refine lv_aload_n hx hb dX11_other_16 rfl (lv_at hl 0 rfl) ?_
        refine va_get (D := (dC, dI)) (ci := 11) (v := .ref (ad 6)) (C := RX11) (T := TX11) (N := 8) hx hb hts hiX11 hown hK hP 0 rfl rfl 7 (by decide) hf26 (fun _ h9 => h9) rfl dX11_other_17 ?_
        refine lv_iload_n hx hb dX11_other_20 rfl (lv_at hl 3 rfl) ?_
        obtain ⟨b5, h⟩ := ck_elim h
        refine va_iald hx hb hK hP 6 0 rfl rfl b5 dX11_other_21 ?_
        refine lv_icmp_eq (tgt := 48) hx hb dX11_other_22 (by decide) (fun c6 => ?_) (fun c6 => ?_)
        · replace h := it_t c6 h
          obtain ⟨x7, ex7, h⟩ := bnd_elim h
          refine lv_iinc (v := x7) (lv' := [(3, .int x7), (0, .ref (ad 0)), (1, .int p1), (2, .int v1)]) hx hb dX11_other_48 hl (k := 3) rfl (by rw [ex7]; rfl) (by decide) rfl (fun ls hl => ?_)
          refine lv_goto (tgt := 4) hx hb dX11_other_51 (by decide) ?_
          refine wu_r hWW4 ?_
          exact ih v1 x7 z h ls (lv_sub hl [1, 2, 3, 0] rfl) K0 K1
        · replace h := it_f c6 h
          refine lv_aload_n hx hb dX11_other_25 rfl (lv_at hl 0 rfl) ?_
          refine va_get (D := (dC, dI)) (ci := 11) (v := .ref (ad 2)) (C := RX11) (T := TX11) (N := 8) hx hb hts hiX11 hown hK hP 0 rfl rfl 1 (by decide) hf13 (fun _ h9 => h9) rfl dX11_other_26 ?_
          refine lv_iload_n hx hb dX11_other_29 rfl (lv_at hl 3 rfl) ?_
          obtain ⟨b8, h⟩ := ck_elim h
          refine va_iald hx hb hK hP 2 0 rfl rfl b8 dX11_other_30 ?_
          refine lv_iconst (v := (-1)) hx hb dX11_other_31 (by decide) ?_
          refine lv_icmp_eq (tgt := 43) hx hb dX11_other_32 (by decide) (fun c9 => ?_) (fun c9 => ?_)
          · replace h := it_t c9 h
            refine wu_r hWW4 ?_
            exact K0 (Option.some.inj h).symm ls (lv_sub hl [] rfl)
          · replace h := it_f c9 h
            refine lv_iload_n hx hb dX11_other_35 rfl (lv_at hl 1 rfl) ?_
            refine lv_iload_n hx hb dX11_other_36 rfl (lv_at hl 3 rfl) ?_
            refine lv_ishr hx hb dX11_other_37 ?_
            refine lv_iconst (v := 1) hx hb dX11_other_38 (by decide) ?_
            refine lv_iand hx hb dX11_other_39 ?_
            refine lv_if_ne (tgt := 45) hx hb dX11_other_40 (by decide) (fun c10 => ?_) (fun c10 => ?_)
            · replace h := it_f c10 h
              obtain ⟨x11, ex11, h⟩ := bnd_elim h
              refine lv_iinc (v := x11) (lv' := [(2, .int x11), (0, .ref (ad 0)), (1, .int p1), (3, .int v2)]) hx hb dX11_other_45 hl (k := 2) rfl (by rw [ex11]; rfl) (by decide) rfl (fun ls hl => ?_)
              obtain ⟨x12, ex12, h⟩ := bnd_elim h
              refine lv_iinc (v := x12) (lv' := [(3, .int x12), (2, .int x11), (0, .ref (ad 0)), (1, .int p1)]) hx hb dX11_other_48 hl (k := 3) rfl (by rw [ex12]; rfl) (by decide) rfl (fun ls hl => ?_)
              refine lv_goto (tgt := 4) hx hb dX11_other_51 (by decide) ?_
              refine wu_r hWW4 ?_
              exact ih x11 x12 z h ls (lv_sub hl [2, 3, 1, 0] rfl) K0 K1
            · replace h := it_t c10 h
              refine wu_r hWW4 ?_
              exact K0 (Option.some.inj h).symm ls (lv_sub hl [] rfl)
  obtain ⟨q9, k13, h⟩ | ⟨q9, k13, h⟩ := os2_elim h
  · refine wu_r hWW4 ?_
    refine Lh4 FU 0 0 _ k13 ls (lv_sub hl [2, 3, 1, 0] rfl) ?_ (fun _ hy => by cases hy)
    intro hy ls hl
    cases hy
    refine wi_r hWW4 ?_
    refine lv_iconst (v := (-1)) hx hb dX11_other_43 (by decide) ?_
    cases h
    exact W.iret hx hb hr (fun t ht hW => ⟨_, rfl, rfl, ht⟩) (fun q hq => absurd hq List.not_mem_nil) dX11_other_44
  · obtain ⟨w14, rfl⟩ : ∃ y, y = q9 := ⟨_, rfl⟩
    refine wu_r hWW4 ?_
    refine Lh4 FU 0 0 _ k13 ls (lv_sub hl [2, 3, 1, 0] rfl) (fun hy => by cases hy) ?_
    intro y0 hy ls hl
    cases hy
    refine wi_r hWW4 ?_
    refine lv_iload_n hx hb dX11_other_54 rfl (lv_at hl 0 rfl) ?_
    cases h
    exact W.iret hx hb hr (fun t ht hW => ⟨_, rfl, rfl, ht⟩) (fun q hq => absurd hq List.not_mem_nil) dX11_other_55
