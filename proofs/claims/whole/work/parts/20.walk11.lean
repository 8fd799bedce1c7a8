set_option maxHeartbeats 4000000 in
set_option maxRecDepth 100000 in
theorem mX5_kindsSorted (l : Launch) (dC : Nat → ClassId) (dI : Nat → Nat → Nat) (cI cJ : ClassId) (ad : Nat → Nat) (p1 : Int32) (S : Nat → Nat → Int32) (L : Nat → Nat → Int64) {z : Int32} (h : sX5_kindsSorted p1 S L = some z) : Met l yX5_kindsSorted wsX5_kindsSorted ({ frames := 1, cells := 0, slots := 0, locals := 22 }) (va_Pc [.ref (ad 3), .int p1] (QX dC dI cI cJ ad S L)) (vp_Si (fun r => r = z)) 0 0 (fun _ => False) := by
  refine Met.ofW (cc := cX5_kindsSorted) (maxL := 4) (ret := (some .int)) (by decide) rfl ?_
  intro p e s m args below meth c s₁ B hml hv
  obtain ⟨rfl, hP, hK, hD⟩ := hv
  have hx := B.exec
  have hb := B.bytes
  have hr := B.returns
  have hts := atoms_spec (ws := wsX5_kindsSorted) B.pre
  have hown : s.vm.findClass RX5 = some m.cls := findClass_of_methodNamed B.named
  have hlocks := B.notSynchronized
  have hl := lv_entry ([.ref (ad 3), .int p1]) (n := 4) (Nat.le_of_ble_eq_true rfl)
  rw [lg_entry_eq]
  generalize (lg_sl ([.ref (ad 3), .int p1]) ++ List.replicate (4 - (lg_sl ([.ref (ad 3), .int p1])).length) Slot.unset).toArray = ls at hl ⊢
  have hl : lv_has ls 4 [(0, .ref (ad 3)), (1, .int p1)] := hl
  rw [sX5_kindsSorted] at h
  refine lv_iconst (v := 0) hx hb dX5_kindsSorted_0 (by decide) ?_
  refine lv_istore_n (lv' := [(2, .int 0), (0, .ref (ad 3)), (1, .int p1)]) hx hb dX5_kindsSorted_1 rfl hl (by decide) rfl (fun ls hl => ?_)
  refine lv_iconst (v := 0) hx hb dX5_kindsSorted_2 (by decide) ?_
  refine lv_istore_n (lv' := [(3, .int 0), (2, .int 0), (0, .ref (ad 3)), (1, .int p1)]) hx hb dX5_kindsSorted_3 rfl hl (by decide) rfl (fun ls hl => ?_)
  refine ww_r (fun WW4 hWW4 => ?_)
  have Lh4 : ∀ (n : Nat) (v1 : Int32) (v2 : Int32) (z : (Int32)), lX5_kindsSorted_4 p1 S L n v1 v2 = some z → ∀ ls : Array Slot, lv_has ls 4 [(0, .ref (ad 3)), (1, .int p1), (2, .int v1), (3, .int v2)] → (∀ (y0 : Int32), z = y0 → ∀ ls : Array Slot, lv_has ls 4 [(2, .int y0)] → WW4  26 ls) → WW4  4 ls := by
    intro n
    induction n with
    | zero => intro v1 v2 z h ls hl K0; rw [lX5_kindsSorted_4] at h; cases h
    | succ n ih =>
      intro v1 v2 z h ls hl K0
      rw [lX5_kindsSorted_4] at h
      refine wi_r hWW4 ?_
      refine lv_iload_n hx hb dX5_kindsSorted_4 rfl (lv_at hl 3 rfl) ?_
      refine lv_iconst (v := 3) hx hb dX5_kindsSorted_5 (by decide) ?_
      refine lv_icmp_ge (tgt := 26) hx hb dX5_kindsSorted_6 (by decide) (fun c3 => ?_) (fun c3 => ?_)
      · replace h := it_t c3 h
        refine wu_r hWW4 ?_
        exact K0 v1 (Option.some.inj h).symm ls (lv_sub hl [2] rfl)
      · replace h := it_f c3 h
        refine lv_iload_n hx hb dX5_kindsSorted_9 rfl (lv_at hl 2 rfl) ?_
        refine lv_iconst (v := 1) hx hb dX5_kindsSorted_10 (by decide) ?_
        refine lv_aload_n hx hb dX5_kindsSorted_11 rfl (lv_at hl 0 rfl) ?_
        refine lv_iload_n hx hb dX5_kindsSorted_12 rfl (lv_at hl 1 rfl) ?_
        refine lv_iload_n hx hb dX5_kindsSorted_13 rfl (lv_at hl 3 rfl) ?_
        obtain ⟨r5, k4, h⟩ := ob_elim h
        refine vp_callSi (W.runV (As := [.int p1, .int v2]) (rest := [.int 1, .int v1]) ⟨hx, hb, hml, hown, hts⟩ (mX5_ownKind l dC dI cI cJ ad p1 v2 S L k4) (cwV 2 hts gX5_kindsSorted_X5_ownKind rfl rfl rfl (by decide +kernel) ⟨Nat.le_of_ble_eq_true rfl, Nat.le_of_ble_eq_true rfl⟩) ⟨QX_blind, va_recv hK hP (ci := 5) (q0 := 3) rfl rfl, fun U hU hW => ⟨rfl, QX_at hP hK hD hU hW⟩⟩ rfl rfl hl.1 rfl (lv_room (Nat.le_of_ble_eq_true rfl)) dX5_kindsSorted_14 ⟨Nat.zero_le _, Nat.zero_le _⟩) (fun r9 er9 => ?_)
        replace er9 := er9.symm
        subst er9
        refine lv_ishl hx hb dX5_kindsSorted_17 ?_
        refine lv_ior hx hb dX5_kindsSorted_18 ?_
        obtain ⟨x6, ex6, h⟩ := bnd_elim h
        refine nm_i ex6 ?_
        refine lv_istore_n (lv' := [(2, .int x6), (0, .ref (ad 3)), (1, .int p1), (3, .int v2)]) hx hb dX5_kindsSorted_19 rfl hl (by decide) rfl (fun ls hl => ?_)
        obtain ⟨x7, ex7, h⟩ := bnd_elim h
        refine lv_iinc (v := x7) (lv' := [(3, .int x7), (2, .int x6), (0, .ref (ad 3)), (1, .int p1)]) hx hb dX5_kindsSorted_20 hl (k := 3) rfl (by rw [ex7]; rfl) (by decide) rfl (fun ls hl => ?_)
        refine lv_goto (tgt := 4) hx hb dX5_kindsSorted_23 (by decide) ?_
        refine wu_r hWW4 ?_
        exact ih x6 x7 z h ls (lv_sub hl [2, 3, 1, 0] rfl) K0
  obtain ⟨w9, k8, h⟩ := ob_elim h
  refine wu_r hWW4 ?_
  refine Lh4 FU 0 0 _ k8 ls (lv_sub hl [2, 3, 1, 0] rfl) ?_
  intro y0 hy ls hl
  cases hy
  refine wi_r hWW4 ?_
  refine lv_iload_n hx hb dX5_kindsSorted_26 rfl (lv_at hl 0 rfl) ?_
  cases h
  exact W.iret hx hb hr (fun t ht hW => ⟨_, rfl, rfl, ht⟩) (fun q hq => absurd hq List.not_mem_nil) dX5_kindsSorted_27
set_option maxHeartbeats 4000000 in
set_option maxRecDepth 100000 in
theorem mX0_everFirst (l : Launch) (dC : Nat → ClassId) (dI : Nat → Nat → Nat) (cI cJ : ClassId) (ad : Nat → Nat) (p1 : Int32) (p2 : Int32) (p3 : Int32) (S : Nat → Nat → Int32) (L : Nat → Nat → Int64) (sz : Nat) {z : Int64 × (Nat → Nat → Int32) × (Nat → Nat → Int64)} (h : sX0_everFirst p1 p2 p3 S L = some z) : Met l yX0_everFirst wsX0_everFirst ({ frames := 3, cells := 0, slots := 0, locals := 72 }) (va_Pc [.ref (ad 8), .int p1, .int p2, .int p3] (QXs sz dC dI cI cJ ad S L)) (va_Ql (fun (r : Int64) (u : (Nat → Nat → Int32) × (Nat → Nat → Int64)) => (r, u) = z) (fun (u : (Nat → Nat → Int32) × (Nat → Nat → Int64)) t => va_P (dC, dI) vwCl (wX cI cJ ad u.1 u.2) t.heap) (AX 43 ad sz)) 0 0 (AX 43 ad sz) := by
  refine Met.ofW (cc := cX0_everFirst) (maxL := 9) (ret := (some .long)) (by decide) rfl ?_
  intro p e s m args below meth c s₁ B hml hv
  obtain ⟨rfl, hsz, hP, hK, hD0⟩ := hv
  have hx := B.exec
  have hb := B.bytes
  have hr := B.returns
  have hts := atoms_spec (ws := wsX0_everFirst) B.pre
  have hown : s.vm.findClass RX0 = some m.cls := findClass_of_methodNamed B.named
  have hlocks := B.notSynchronized
  subst hsz
  have hD := wX_DA hD0 s.heap.size
  have hS : va_S (AX 43 ad s.heap.size) s.heap s.heap [] := va_S.rf
  have hl := lv_entry ([.ref (ad 8), .int p1, .int p2, .int p3]) (n := 9) (Nat.le_of_ble_eq_true rfl)
  rw [lg_entry_eq]
  generalize (lg_sl ([.ref (ad 8), .int p1, .int p2, .int p3]) ++ List.replicate (9 - (lg_sl ([.ref (ad 8), .int p1, .int p2, .int p3])).length) Slot.unset).toArray = ls at hl ⊢
  have hl : lv_has ls 9 [(0, .ref (ad 8)), (1, .int p1), (2, .int p2), (3, .int p3)] := hl
  have hf15 := hts (.fieldLink RX0 15 "LawRings$AllCases" "rules" "LLawRings$Rules;") (by decide +kernel)
  have hiX0 : ∀ w ∈ u_ws RX0 TX0 3, w ∈ wsX0_everFirst := by decide +kernel
  have hf19 := hts (.fieldLink RX0 19 "LawRings$AllCases" "hearing" "LLawRings$Hearing;") (by decide +kernel)
  have hf55 := hts (.fieldLink RX0 55 "LawRings$Hearing" "held" "J") (by decide +kernel)
  have hiX4 : ∀ w ∈ u_ws RX4 TX4 9, w ∈ wsX0_everFirst := by decide +kernel
  rw [sX0_everFirst] at h
  refine lv_lconst (v := 0) hx hb dX0_everFirst_0 (by decide) ?_
  refine lv_lstore (lv' := [(4, .long 0), (0, .ref (ad 8)), (1, .int p1), (2, .int p2), (3, .int p3)]) hx hb dX0_everFirst_1 hl (by decide) rfl (fun ls hl => ?_)
  refine lv_aload_n hx hb dX0_everFirst_3 rfl (lv_at hl 1 rfl) ?_
  refine lv_iload_n hx hb dX0_everFirst_4 rfl (lv_at hl 3 rfl) ?_
  obtain ⟨S2, L3, k1, h⟩ := ob2_elim h
  refine va_callv (va_runV (As := [.int p2]) (rest := []) ⟨hx, hb, hml, hown, hts⟩ (mX0_start l dC dI cI cJ ad p2 S L s.heap.size k1) (cwV 1 hts gX0_everFirst_X0_start rfl rfl rfl (by decide +kernel) ⟨Nat.le_of_ble_eq_true rfl, Nat.le_of_ble_eq_true rfl⟩) ⟨QXs_blind, va_recv hK hP (ci := 0) (q0 := 8) rfl rfl, fun U hU hW => ⟨rfl, congrArg Array.size hU, QX_at hP hK hD hU hW⟩⟩ rfl rfl hl.1 rfl (lv_room (Nat.le_of_ble_eq_true rfl)) dX0_everFirst_5 ⟨Nat.zero_le _, Nat.zero_le _⟩) hS (fun q _ hq => AX_mono hS.1 hq) (fun q hq => AX_mono hS.1 hq) (fun u t H1 locs ht hvm hw hB hz1 hk1 hS => ?_)
  cases hw
  rw [ht] at hB
  have hP := hB
  clear hB hk1 hz1
  generalize H1 = H at hP hS ⊢
  have hD := wX_D hD S2 L3
  refine lv_iconst (v := 0) hx hb dX0_everFirst_8 (by decide) ?_
  refine lv_istore (lv' := [(6, .int 0), (4, .long 0), (0, .ref (ad 8)), (1, .int p1), (2, .int p2), (3, .int p3)]) hx hb dX0_everFirst_9 hl (by decide) rfl (fun ls hl => ?_)
  refine ww_w (fun WW11 hWW11 => ?_)
  have Lh11 : ∀ (n : Nat) (v4 : Int64) (v5 : Int32) (S6 : (Nat → Nat → Int32)) (L7 : (Nat → Nat → Int64)) (z : (Int64 × (Nat → Nat → Int32) × (Nat → Nat → Int64))), lX0_everFirst_11 p1 p3 n v4 v5 S6 L7 = some z → ∀ (H : Heap) (locs : List Loc), va_P (dC, dI) vwCl (wX cI cJ ad S6 L7) H → va_S (AX 43 ad s.heap.size) s.heap H locs → ∀ ls : Array Slot, lv_has ls 9 [(0, .ref (ad 8)), (1, .int p1), (3, .int p3), (4, .long v4), (6, .int v5)] → (∀ (y0 : Int64) (YS : (Nat → Nat → Int32)) (YL : (Nat → Nat → Int64)), z = (y0, YS, YL) → ∀ (H : Heap) (locs : List Loc), va_P (dC, dI) vwCl (wX cI cJ ad YS YL) H → va_S (AX 43 ad s.heap.size) s.heap H locs → ∀ ls : Array Slot, lv_has ls 9 [(4, .long y0)] → WW11 H locs 93 ls) → WW11 H locs 11 ls := by
    intro n
    induction n with
    | zero => intro v4 v5 S6 L7 z h H locs hP hS ls hl K0; rw [lX0_everFirst_11] at h; cases h
    | succ n ih =>
      intro v4 v5 S6 L7 z h H locs hP hS ls hl K0
      have hD := wX_D hD S6 L7
      rw [lX0_everFirst_11] at h
      refine wi_w hWW11 ?_
      refine lv_iload hx hb dX0_everFirst_11 (lv_at hl 4 rfl) ?_
      refine lv_sipush (v := 15625) hx hb dX0_everFirst_13 (by decide) ?_
      refine lv_icmp_ge (tgt := 93) hx hb dX0_everFirst_16 (by decide) (fun c8 => ?_) (fun c8 => ?_)
      · replace h := it_t c8 h
        refine wu_w hWW11 ?_
        exact K0 v4 S6 L7 (Option.some.inj h).symm H locs hP hS ls (lv_sub hl [3] rfl)
      · replace h := it_f c8 h
        refine lv_aload_n hx hb dX0_everFirst_19 rfl (lv_at hl 0 rfl) ?_
        refine lv_iload hx hb dX0_everFirst_20 (lv_at hl 4 rfl) ?_
        obtain ⟨S10, L11, k9, h⟩ := ob2_elim h
        refine va_callv (va_runV (As := [.int v5]) (rest := []) ⟨hx, hb, hml, hown, hts⟩ (mX0_setTies l dC dI cI cJ ad v5 S6 L7 H.size k9) (cwV 1 hts gX0_everFirst_X0_setTies rfl rfl rfl (by decide +kernel) ⟨Nat.le_of_ble_eq_true rfl, Nat.le_of_ble_eq_true rfl⟩) ⟨QXs_blind, va_recv hK hP (ci := 0) (q0 := 8) rfl rfl, fun U hU hW => ⟨rfl, congrArg Array.size hU, QX_at hP hK hD hU hW⟩⟩ rfl rfl hl.1 rfl (lv_room (Nat.le_of_ble_eq_true rfl)) dX0_everFirst_22 ⟨Nat.zero_le _, Nat.zero_le _⟩) hS (fun q _ hq => AX_mono hS.1 hq) (fun q hq => AX_mono hS.1 hq) (fun u t H1 locs ht hvm hw hB hz1 hk1 hS => ?_)
        cases hw
        rw [ht] at hB
        have hP := hB
        clear hB hk1 hz1
        generalize H1 = H at hP hS ⊢
        have hD := wX_D hD S10 L11
        refine lv_iconst (v := 0) hx hb dX0_everFirst_25 (by decide) ?_
        refine lv_istore (lv' := [(7, .int 0), (0, .ref (ad 8)), (1, .int p1), (3, .int p3), (4, .long v4), (6, .int v5)]) hx hb dX0_everFirst_26 hl (by decide) rfl (fun ls hl => ?_)
        refine ww_r (fun WW28 hWW28 => ?_)
        have Lh28 : ∀ (n : Nat) (v12 : Int64) (v13 : Int32) (z : (Int64)), lX0_everFirst_28 p1 p3 v5 S10 L11 n v12 v13 = some z → ∀ ls : Array Slot, lv_has ls 9 [(0, .ref (ad 8)), (1, .int p1), (3, .int p3), (4, .long v12), (6, .int v5), (7, .int v13)] → (∀ (y0 : Int64), z = y0 → ∀ ls : Array Slot, lv_has ls 9 [(0, .ref (ad 8)), (1, .int p1), (3, .int p3), (4, .long y0), (6, .int v5)] → WW28  87 ls) → WW28  28 ls := by
          intro n
          induction n with
          | zero => intro v12 v13 z h ls hl K0; rw [lX0_everFirst_28] at h; cases h
          | succ n ih =>
            intro v12 v13 z h ls hl K0
            rw [lX0_everFirst_28] at h
            refine wi_r hWW28 ?_
            refine lv_iload hx hb dX0_everFirst_28 (lv_at hl 5 rfl) ?_
            refine lv_iconst (v := 3) hx hb dX0_everFirst_30 (by decide) ?_
            refine lv_icmp_ge (tgt := 87) hx hb dX0_everFirst_31 (by decide) (fun c14 => ?_) (fun c14 => ?_)
            · replace h := it_t c14 h
              refine wu_r hWW28 ?_
              exact K0 v12 (Option.some.inj h).symm ls (lv_sub hl [0, 1, 2, 3, 4] rfl)
            · replace h := it_f c14 h
              refine lv_iload_n hx hb dX0_everFirst_34 rfl (lv_at hl 2 rfl) ?_
              refine lv_iload hx hb dX0_everFirst_35 (lv_at hl 5 rfl) ?_
              refine lv_iushr (v := iush p3 v13) hx hb dX0_everFirst_37 rfl ?_
              refine lv_iconst (v := 1) hx hb dX0_everFirst_38 (by decide) ?_
              refine lv_iand hx hb dX0_everFirst_39 ?_
              refine lv_if_ne (tgt := 47) hx hb dX0_everFirst_40 (by decide) (fun c15 => ?_) (fun c15 => ?_)
              · replace h := it_f c15 h
                refine lv_aload_n hx hb dX0_everFirst_47 rfl (lv_at hl 0 rfl) ?_
                refine va_get (D := (dC, dI)) (ci := 0) (v := .ref (ad 2)) (C := RX0) (T := TX0) (N := 3) hx hb hts hiX0 hown hK hP 8 rfl rfl 0 (by decide) hf15 (fun _ h9 => h9) rfl dX0_everFirst_48 ?_
                refine lv_aload_n hx hb dX0_everFirst_51 rfl (lv_at hl 0 rfl) ?_
                refine va_get (D := (dC, dI)) (ci := 0) (v := .ref (ad 6)) (C := RX0) (T := TX0) (N := 3) hx hb hts hiX0 hown hK hP 8 rfl rfl 1 (by decide) hf19 (fun _ h9 => h9) rfl dX0_everFirst_52 ?_
                refine va_get (D := (dC, dI)) (ci := 4) (v := .long (L11 6 4)) (C := RX4) (T := TX4) (N := 9) hx hb hts hiX4 hown hK hP 6 rfl rfl 4 (by decide) hf55 (fun _ h9 => h9) rfl dX0_everFirst_55 ?_
                refine lv_iload_n hx hb dX0_everFirst_58 rfl (lv_at hl 1 rfl) ?_
                refine lv_iload hx hb dX0_everFirst_59 (lv_at hl 5 rfl) ?_
                obtain ⟨r17, k16, h⟩ := ob_elim h
                refine vp_callSi (W.runV (As := [.long (L11 6 4), .int p1, .int v13]) (rest := []) ⟨hx, hb, hml, hown, hts⟩ (mX6_first l dC dI cI cJ ad (L11 6 4) p1 v13 S10 L11 k16) (cwV 3 hts gX0_everFirst_X6_first rfl rfl rfl (by decide +kernel) ⟨Nat.le_of_ble_eq_true rfl, Nat.le_of_ble_eq_true rfl⟩) ⟨QX_blind, va_recv hK hP (ci := 6) (q0 := 2) rfl rfl, fun U hU hW => ⟨rfl, QX_at hP hK hD hU hW⟩⟩ rfl rfl hl.1 rfl (lv_room (Nat.le_of_ble_eq_true rfl)) dX0_everFirst_61 ⟨Nat.zero_le _, Nat.zero_le _⟩) (fun r9 er9 => ?_)
                replace er9 := er9.symm
                subst er9
                refine lv_istore (lv' := [(8, .int r17), (0, .ref (ad 8)), (1, .int p1), (3, .int p3), (4, .long v12), (6, .int v5), (7, .int v13)]) hx hb dX0_everFirst_64 hl (by decide) rfl (fun ls hl => ?_)
                refine lv_iload hx hb dX0_everFirst_66 (lv_at hl 0 rfl) ?_
                refine lv_iconst (v := (-1)) hx hb dX0_everFirst_68 (by decide) ?_
                refine lv_icmp_eq (tgt := 81) hx hb dX0_everFirst_69 (by decide) (fun c18 => ?_) (fun c18 => ?_)
                · replace h := it_t c18 h
                  obtain ⟨x19, ex19, h⟩ := bnd_elim h
                  refine lv_iinc (v := x19) (lv' := [(7, .int x19), (8, .int r17), (0, .ref (ad 8)), (1, .int p1), (3, .int p3), (4, .long v12), (6, .int v5)]) hx hb dX0_everFirst_81 hl (k := 6) rfl (by rw [ex19]; rfl) (by decide) rfl (fun ls hl => ?_)
                  refine lv_goto (tgt := 28) hx hb dX0_everFirst_84 (by decide) ?_
                  refine wu_r hWW28 ?_
                  exact ih v12 x19 z h ls (lv_sub hl [2, 3, 4, 5, 6, 0] rfl) K0
                · replace h := it_f c18 h
                  refine lv_lload hx hb dX0_everFirst_72 (lv_at hl 4 rfl) ?_
                  refine lv_lconst (v := 1) hx hb dX0_everFirst_74 (by decide) ?_
                  refine lv_iload hx hb dX0_everFirst_75 (lv_at hl 0 rfl) ?_
                  refine lv_lshl (v := lsh 1 r17) hx hb dX0_everFirst_77 rfl ?_
                  refine lv_lor hx hb dX0_everFirst_78 ?_
                  obtain ⟨x20, ex20, h⟩ := bnd_elim h
                  refine nm_l ex20 ?_
                  refine lv_lstore (lv' := [(4, .long x20), (8, .int r17), (0, .ref (ad 8)), (1, .int p1), (3, .int p3), (6, .int v5), (7, .int v13)]) hx hb dX0_everFirst_79 hl (by decide) rfl (fun ls hl => ?_)
                  obtain ⟨x21, ex21, h⟩ := bnd_elim h
                  refine lv_iinc (v := x21) (lv' := [(7, .int x21), (4, .long x20), (8, .int r17), (0, .ref (ad 8)), (1, .int p1), (3, .int p3), (6, .int v5)]) hx hb dX0_everFirst_81 hl (k := 6) rfl (by rw [ex21]; rfl) (by decide) rfl (fun ls hl => ?_)
                  refine lv_goto (tgt := 28) hx hb dX0_everFirst_84 (by decide) ?_
                  refine wu_r hWW28 ?_
                  exact ih x20 x21 z h ls (lv_sub hl [3, 4, 5, 1, 6, 0] rfl) K0
              · replace h := it_t c15 h
                refine lv_iconst (v := (-1)) hx hb dX0_everFirst_43 (by decide) ?_
                refine lv_goto (tgt := 64) hx hb dX0_everFirst_44 (by decide) ?_
                refine lv_istore (lv' := [(8, .int (-1)), (0, .ref (ad 8)), (1, .int p1), (3, .int p3), (4, .long v12), (6, .int v5), (7, .int v13)]) hx hb dX0_everFirst_64 hl (by decide) rfl (fun ls hl => ?_)
                refine lv_iload hx hb dX0_everFirst_66 (lv_at hl 0 rfl) ?_
                refine lv_iconst (v := (-1)) hx hb dX0_everFirst_68 (by decide) ?_
                refine lv_icmp_eq (tgt := 81) hx hb dX0_everFirst_69 (by decide) (fun c22 => ?_) (fun c22 => absurd c22 (by decide))
                obtain ⟨x23, ex23, h⟩ := bnd_elim h
                refine lv_iinc (v := x23) (lv' := [(7, .int x23), (8, .int (-1)), (0, .ref (ad 8)), (1, .int p1), (3, .int p3), (4, .long v12), (6, .int v5)]) hx hb dX0_everFirst_81 hl (k := 6) rfl (by rw [ex23]; rfl) (by decide) rfl (fun ls hl => ?_)
                refine lv_goto (tgt := 28) hx hb dX0_everFirst_84 (by decide) ?_
                refine wu_r hWW28 ?_
                exact ih v12 x23 z h ls (lv_sub hl [2, 3, 4, 5, 6, 0] rfl) K0
        obtain ⟨w25, k24, h⟩ := ob_elim h
        refine wu_r hWW28 ?_
        refine Lh28 FU v4 0 _ k24 ls (lv_sub hl [1, 2, 3, 4, 5, 0] rfl) ?_
        intro y0 hy ls hl
        cases hy
        refine wi_r hWW28 ?_
        obtain ⟨x26, ex26, h⟩ := bnd_elim h
        refine lv_iinc (v := x26) (lv' := [(6, .int x26), (0, .ref (ad 8)), (1, .int p1), (3, .int p3), (4, .long w25)]) hx hb dX0_everFirst_87 hl (k := 4) rfl (by rw [ex26]; rfl) (by decide) rfl (fun ls hl => ?_)
        refine lv_goto (tgt := 11) hx hb dX0_everFirst_90 (by decide) ?_
        refine wu_w hWW11 ?_
        exact ih w25 x26 S10 L11 z h H locs hP hS ls (lv_sub hl [1, 2, 3, 4, 0] rfl) K0
  obtain ⟨w28, S29, L30, k27, h⟩ := ob3_elim h
  refine wu_w hWW11 ?_
  refine Lh11 FU 0 0 S2 L3 _ k27 H locs hP hS ls (lv_sub hl [2, 3, 5, 1, 0] rfl) ?_
  intro y0 y1 y2 hy H locs hP hS ls hl
  cases hy
  have hD := wX_D hD S29 L30
  refine wi_w hWW11 ?_
  refine lv_lload hx hb dX0_everFirst_93 (lv_at hl 0 rfl) ?_
  cases h
  exact W.lret hx hb hr (fun t ht hW => ⟨⟨_, _, rfl, rfl, by show va_P _ _ _ t.heap; rw [ht]; exact hP⟩, hS.F ht⟩) hS.2.2 dX0_everFirst_95
set_option maxHeartbeats 4000000 in
set_option maxRecDepth 100000 in
theorem mX6_placesWithout (l : Launch) (dC : Nat → ClassId) (dI : Nat → Nat → Nat) (cI cJ : ClassId) (ad : Nat → Nat) (p1 : Int64) (p2 : Int32) (p3 : Int32) (S : Nat → Nat → Int32) (L : Nat → Nat → Int64) {z : Int32} (h : sX6_placesWithout p1 p2 p3 S L = some z) : Met l yX6_placesWithout wsX6_placesWithout ({ frames := 1, cells := 0, slots := 0, locals := 22 }) (va_Pc [.ref (ad 2), .long p1, .int p2, .int p3] (QX dC dI cI cJ ad S L)) (vp_Si (fun r => r = z)) 0 0 (fun _ => False) := by
  refine Met.ofW (cc := cX6_placesWithout) (maxL := 8) (ret := (some .int)) (by decide) rfl ?_
  intro p e s m args below meth c s₁ B hml hv
  obtain ⟨rfl, hP, hK, hD⟩ := hv
  have hx := B.exec
  have hb := B.bytes
  have hr := B.returns
  have hts := atoms_spec (ws := wsX6_placesWithout) B.pre
  have hown : s.vm.findClass RX6 = some m.cls := findClass_of_methodNamed B.named
  have hlocks := B.notSynchronized
  have hl := lv_entry ([.ref (ad 2), .long p1, .int p2, .int p3]) (n := 8) (Nat.le_of_ble_eq_true rfl)
  rw [lg_entry_eq]
  generalize (lg_sl ([.ref (ad 2), .long p1, .int p2, .int p3]) ++ List.replicate (8 - (lg_sl ([.ref (ad 2), .long p1, .int p2, .int p3])).length) Slot.unset).toArray = ls at hl ⊢
  have hl : lv_has ls 8 [(0, .ref (ad 2)), (1, .long p1), (3, .int p2), (4, .int p3)] := hl
  have hf49 := hts (.fieldLink RX6 49 "LawRings$Rules" "size" "I") (by decide +kernel)
  have hiX6 : ∀ w ∈ u_ws RX6 TX6 13, w ∈ wsX6_placesWithout := by decide +kernel
  have hf9 := hts (.fieldLink RX6 9 "LawRings$Rules" "land" "[I") (by decide +kernel)
  rw [sX6_placesWithout] at h
  refine lv_iconst (v := 0) hx hb dX6_placesWithout_0 (by decide) ?_
  refine lv_istore (lv' := [(5, .int 0), (0, .ref (ad 2)), (1, .long p1), (3, .int p2), (4, .int p3)]) hx hb dX6_placesWithout_1 hl (by decide) rfl (fun ls hl => ?_)
  refine lv_iconst (v := 0) hx hb dX6_placesWithout_3 (by decide) ?_
  refine lv_istore (lv' := [(6, .int 0), (5, .int 0), (0, .ref (ad 2)), (1, .long p1), (3, .int p2), (4, .int p3)]) hx hb dX6_placesWithout_4 hl (by decide) rfl (fun ls hl => ?_)
  refine lv_iconst (v := 0) hx hb dX6_placesWithout_6 (by decide) ?_
  refine lv_istore (lv' := [(7, .int 0), (6, .int 0), (5, .int 0), (0, .ref (ad 2)), (1, .long p1), (3, .int p2), (4, .int p3)]) hx hb dX6_placesWithout_7 hl (by decide) rfl (fun ls hl => ?_)
  refine ww_r (fun WW9 hWW9 => ?_)
  have Lh9 : ∀ (n : Nat) (v1 : Int32) (v2 : Int32) (v3 : Int32) (z : (Int32)), lX6_placesWithout_9 p1 p2 p3 S L n v1 v2 v3 = some z → ∀ ls : Array Slot, lv_has ls 8 [(0, .ref (ad 2)), (1, .long p1), (3, .int p2), (4, .int p3), (5, .int v1), (6, .int v2), (7, .int v3)] → (∀ (y0 : Int32), z = y0 → ∀ ls : Array Slot, lv_has ls 8 [(5, .int y0)] → WW9  79 ls) → WW9  9 ls := by
    intro n
    induction n with
    | zero => intro v1 v2 v3 z h ls hl K0; rw [lX6_placesWithout_9] at h; cases h
    | succ n ih =>
      intro v1 v2 v3 z h ls hl K0
      rw [lX6_placesWithout_9] at h
      refine wi_r hWW9 ?_
      refine lv_iload hx hb dX6_placesWithout_9 (lv_at hl 6 rfl) ?_
      refine lv_aload_n hx hb dX6_placesWithout_11 rfl (lv_at hl 0 rfl) ?_
      refine va_get (D := (dC, dI)) (ci := 6) (v := .int (S 2 0)) (C := RX6) (T := TX6) (N := 13) hx hb hts hiX6 hown hK hP 2 rfl rfl 0 (by decide) hf49 (fun _ h9 => h9) rfl dX6_placesWithout_12 ?_
      refine lv_icmp_ge (tgt := 79) hx hb dX6_placesWithout_15 (by decide) (fun c4 => ?_) (fun c4 => ?_)
      · replace h := it_t c4 h
        refine wu_r hWW9 ?_
        exact K0 v1 (Option.some.inj h).symm ls (lv_sub hl [4] rfl)
      · replace h := it_f c4 h
        refine lv_aload_n hx hb dX6_placesWithout_18 rfl (lv_at hl 0 rfl) ?_
        refine va_get (D := (dC, dI)) (ci := 6) (v := .ref (ad 17)) (C := RX6) (T := TX6) (N := 13) hx hb hts hiX6 hown hK hP 2 rfl rfl 1 (by decide) hf9 (fun _ h9 => h9) rfl dX6_placesWithout_19 ?_
        refine lv_iload hx hb dX6_placesWithout_22 (lv_at hl 6 rfl) ?_
        obtain ⟨b5, h⟩ := ck_elim h
        refine va_iald hx hb hK hP 17 0 rfl rfl b5 dX6_placesWithout_24 ?_
        refine lv_iload_n hx hb dX6_placesWithout_25 rfl (lv_at hl 2 rfl) ?_
        refine lv_icmp_ne (tgt := 73) hx hb dX6_placesWithout_26 (by decide) (fun c6 => ?_) (fun c6 => ?_)
        · replace h := it_f c6 h
          obtain ⟨x7, ex7, h⟩ := bnd_elim h
          refine lv_iinc (v := x7) (lv' := [(7, .int x7), (0, .ref (ad 2)), (1, .long p1), (3, .int p2), (4, .int p3), (5, .int v1), (6, .int v2)]) hx hb dX6_placesWithout_73 hl (k := 6) rfl (by rw [ex7]; rfl) (by decide) rfl (fun ls hl => ?_)
          refine lv_goto (tgt := 9) hx hb dX6_placesWithout_76 (by decide) ?_
          refine wu_r hWW9 ?_
          exact ih v1 v2 x7 z h ls (lv_sub hl [1, 2, 3, 4, 5, 6, 0] rfl) K0
        · replace h := it_t c6 h
          refine lv_aload_n hx hb dX6_placesWithout_29 rfl (lv_at hl 0 rfl) ?_
          refine lv_iload hx hb dX6_placesWithout_30 (lv_at hl 6 rfl) ?_
          refine lv_iload hx hb dX6_placesWithout_32 (lv_at hl 3 rfl) ?_
          obtain ⟨r9, k8, h⟩ := ob_elim h
          refine vp_callSi (W.runV (As := [.int v3, .int p3]) (rest := []) ⟨hx, hb, hml, hown, hts⟩ (mX6_stands l dC dI cI cJ ad v3 p3 S L k8) (cwV 2 hts gX6_placesWithout_X6_stands rfl rfl rfl (by decide +kernel) ⟨Nat.le_of_ble_eq_true rfl, Nat.le_of_ble_eq_true rfl⟩) ⟨QX_blind, va_recv hK hP (ci := 6) (q0 := 2) rfl rfl, fun U hU hW => ⟨rfl, QX_at hP hK hD hU hW⟩⟩ rfl rfl hl.1 rfl (lv_room (Nat.le_of_ble_eq_true rfl)) dX6_placesWithout_34 ⟨Nat.zero_le _, Nat.zero_le _⟩) (fun r9 er9 => ?_)
          replace er9 := er9.symm
          subst er9
          refine lv_if_ne (tgt := 43) hx hb dX6_placesWithout_37 (by decide) (fun c10 => ?_) (fun c10 => ?_)
          · replace h := it_f c10 h
            refine lv_iload hx hb dX6_placesWithout_43 (lv_at hl 5 rfl) ?_
            refine lv_bipush (v := 30) hx hb dX6_placesWithout_45 (by decide) ?_
            refine lv_icmp_ge (tgt := 70) hx hb dX6_placesWithout_47 (by decide) (fun c11 => ?_) (fun c11 => ?_)
            · replace h := it_t c11 h
              obtain ⟨x12, ex12, h⟩ := bnd_elim h
              refine lv_iinc (v := x12) (lv' := [(6, .int x12), (0, .ref (ad 2)), (1, .long p1), (3, .int p2), (4, .int p3), (5, .int v1), (7, .int v3)]) hx hb dX6_placesWithout_70 hl (k := 5) rfl (by rw [ex12]; rfl) (by decide) rfl (fun ls hl => ?_)
              obtain ⟨x13, ex13, h⟩ := bnd_elim h
              refine lv_iinc (v := x13) (lv' := [(7, .int x13), (6, .int x12), (0, .ref (ad 2)), (1, .long p1), (3, .int p2), (4, .int p3), (5, .int v1)]) hx hb dX6_placesWithout_73 hl (k := 6) rfl (by rw [ex13]; rfl) (by decide) rfl (fun ls hl => ?_)
              refine lv_goto (tgt := 9) hx hb dX6_placesWithout_76 (by decide) ?_
              refine wu_r hWW9 ?_
              exact ih v1 x12 x13 z h ls (lv_sub hl [2, 3, 4, 5, 6, 1, 0] rfl) K0
            · replace h := it_f c11 h
              refine lv_lload_n hx hb dX6_placesWithout_50 rfl (lv_at hl 1 rfl) ?_
              refine lv_iload hx hb dX6_placesWithout_51 (lv_at hl 6 rfl) ?_
              refine lv_lushr (v := lush p1 v3) hx hb dX6_placesWithout_53 rfl ?_
              refine lv_lconst (v := 1) hx hb dX6_placesWithout_54 (by decide) ?_
              refine lv_land hx hb dX6_placesWithout_55 ?_
              refine lv_lconst (v := 0) hx hb dX6_placesWithout_56 (by decide) ?_
              refine W.lcmp hx hb dX6_placesWithout_57 ?_
              refine lv_if_ne (tgt := 70) hx hb dX6_placesWithout_58 (by decide) (fun c14 => ?_) (fun c14 => ?_)
              · replace h := it_f c14 h
                obtain ⟨x15, ex15, h⟩ := bnd_elim h
                refine lv_iinc (v := x15) (lv' := [(6, .int x15), (0, .ref (ad 2)), (1, .long p1), (3, .int p2), (4, .int p3), (5, .int v1), (7, .int v3)]) hx hb dX6_placesWithout_70 hl (k := 5) rfl (by rw [ex15]; rfl) (by decide) rfl (fun ls hl => ?_)
                obtain ⟨x16, ex16, h⟩ := bnd_elim h
                refine lv_iinc (v := x16) (lv' := [(7, .int x16), (6, .int x15), (0, .ref (ad 2)), (1, .long p1), (3, .int p2), (4, .int p3), (5, .int v1)]) hx hb dX6_placesWithout_73 hl (k := 6) rfl (by rw [ex16]; rfl) (by decide) rfl (fun ls hl => ?_)
                refine lv_goto (tgt := 9) hx hb dX6_placesWithout_76 (by decide) ?_
                refine wu_r hWW9 ?_
                exact ih v1 x15 x16 z h ls (lv_sub hl [2, 3, 4, 5, 6, 1, 0] rfl) K0
              · replace h := it_t c14 h
                refine lv_iload hx hb dX6_placesWithout_61 (lv_at hl 4 rfl) ?_
                refine lv_iconst (v := 1) hx hb dX6_placesWithout_63 (by decide) ?_
                refine lv_iload hx hb dX6_placesWithout_64 (lv_at hl 5 rfl) ?_
                refine lv_ishl hx hb dX6_placesWithout_66 ?_
                refine lv_ior hx hb dX6_placesWithout_67 ?_
                obtain ⟨x17, ex17, h⟩ := bnd_elim h
                refine nm_i ex17 ?_
                refine lv_istore (lv' := [(5, .int x17), (0, .ref (ad 2)), (1, .long p1), (3, .int p2), (4, .int p3), (6, .int v2), (7, .int v3)]) hx hb dX6_placesWithout_68 hl (by decide) rfl (fun ls hl => ?_)
                obtain ⟨x18, ex18, h⟩ := bnd_elim h
                refine lv_iinc (v := x18) (lv' := [(6, .int x18), (5, .int x17), (0, .ref (ad 2)), (1, .long p1), (3, .int p2), (4, .int p3), (7, .int v3)]) hx hb dX6_placesWithout_70 hl (k := 5) rfl (by rw [ex18]; rfl) (by decide) rfl (fun ls hl => ?_)
                obtain ⟨x19, ex19, h⟩ := bnd_elim h
                refine lv_iinc (v := x19) (lv' := [(7, .int x19), (6, .int x18), (5, .int x17), (0, .ref (ad 2)), (1, .long p1), (3, .int p2), (4, .int p3)]) hx hb dX6_placesWithout_73 hl (k := 6) rfl (by rw [ex19]; rfl) (by decide) rfl (fun ls hl => ?_)
                refine lv_goto (tgt := 9) hx hb dX6_placesWithout_76 (by decide) ?_
                refine wu_r hWW9 ?_
                exact ih x17 x18 x19 z h ls (lv_sub hl [3, 4, 5, 6, 2, 1, 0] rfl) K0
          · replace h := it_t c10 h
            refine lv_goto (tgt := 73) hx hb dX6_placesWithout_40 (by decide) ?_
            obtain ⟨x20, ex20, h⟩ := bnd_elim h
            refine lv_iinc (v := x20) (lv' := [(7, .int x20), (0, .ref (ad 2)), (1, .long p1), (3, .int p2), (4, .int p3), (5, .int v1), (6, .int v2)]) hx hb dX6_placesWithout_73 hl (k := 6) rfl (by rw [ex20]; rfl) (by decide) rfl (fun ls hl => ?_)
            refine lv_goto (tgt := 9) hx hb dX6_placesWithout_76 (by decide) ?_
            refine wu_r hWW9 ?_
            exact ih v1 v2 x20 z h ls (lv_sub hl [1, 2, 3, 4, 5, 6, 0] rfl) K0
  obtain ⟨w22, k21, h⟩ := ob_elim h
  refine wu_r hWW9 ?_
  refine Lh9 FU 0 0 0 _ k21 ls (lv_sub hl [3, 4, 5, 6, 2, 1, 0] rfl) ?_
  intro y0 hy ls hl
  cases hy
  refine wi_r hWW9 ?_
  refine lv_iload hx hb dX6_placesWithout_79 (lv_at hl 0 rfl) ?_
  cases h
  exact W.iret hx hb hr (fun t ht hW => ⟨_, rfl, rfl, ht⟩) (fun q hq => absurd hq List.not_mem_nil) dX6_placesWithout_81
set_option maxHeartbeats 4000000 in
set_option maxRecDepth 100000 in
theorem mX10_dead (l : Launch) (dC : Nat → ClassId) (dI : Nat → Nat → Nat) (cI cJ : ClassId) (ad : Nat → Nat) (p1 : Int32) (p2 : Int32) (S : Nat → Nat → Int32) (L : Nat → Nat → Int64) (sz : Nat) {z : Int32 × (Nat → Nat → Int32) × (Nat → Nat → Int64)} (h : sX10_dead p1 p2 S L = some z) : Met l yX10_dead wsX10_dead ({ frames := 4, cells := 0, slots := 0, locals := 100 }) (va_Pc [.ref (ad 0), .int p1, .int p2] (QXs sz dC dI cI cJ ad S L)) (va_Qi (fun (r : Int32) (u : (Nat → Nat → Int32) × (Nat → Nat → Int64)) => (r, u) = z) (fun (u : (Nat → Nat → Int32) × (Nat → Nat → Int64)) t => va_P (dC, dI) vwCl (wX cI cJ ad u.1 u.2) t.heap) (AX 43 ad sz)) 0 0 (AX 43 ad sz) := by
  refine Met.ofW (cc := cX10_dead) (maxL := 5) (ret := (some .int)) (by decide) rfl ?_
  intro p e s m args below meth c s₁ B hml hv
  obtain ⟨rfl, hsz, hP, hK, hD0⟩ := hv
  have hx := B.exec
  have hb := B.bytes
  have hr := B.returns
  have hts := atoms_spec (ws := wsX10_dead) B.pre
  have hown : s.vm.findClass RX10 = some m.cls := findClass_of_methodNamed B.named
  have hlocks := B.notSynchronized
  subst hsz
  have hD := wX_DA hD0 s.heap.size
  have hS : va_S (AX 43 ad s.heap.size) s.heap s.heap [] := va_S.rf
  have hl := lv_entry ([.ref (ad 0), .int p1, .int p2]) (n := 5) (Nat.le_of_ble_eq_true rfl)
  rw [lg_entry_eq]
  generalize (lg_sl ([.ref (ad 0), .int p1, .int p2]) ++ List.replicate (5 - (lg_sl ([.ref (ad 0), .int p1, .int p2])).length) Slot.unset).toArray = ls at hl ⊢
  have hl : lv_has ls 5 [(0, .ref (ad 0)), (1, .int p1), (2, .int p2)] := hl
  have hf58 := hts (.fieldLink RX10 58 "LawRings" "allCases" "LLawRings$AllCases;") (by decide +kernel)
  have hiX10 : ∀ w ∈ u_ws RX10 TX10 11, w ∈ wsX10_dead := by decide +kernel
  have hf26 := hts (.fieldLink RX10 26 "LawRings" "lands" "LLawRings$Lands;") (by decide +kernel)
  have hf19 := hts (.fieldLink RX10 19 "LawRings" "rules" "LLawRings$Rules;") (by decide +kernel)
  rw [sX10_dead] at h
  refine lv_iload_n hx hb dX10_dead_0 rfl (lv_at hl 1 rfl) ?_
  obtain ⟨r2, k1, h⟩ := ob_elim h
  refine vp_callSi (W.runS (As := [.int p1]) (rest := []) ⟨hx, hb, hml, hown, hts⟩ (mX10_isLand l p1 k1) (va_cwS 1 hts gX10_dead_X10_isLand rfl rfl rfl (by decide +kernel) ⟨Nat.le_of_ble_eq_true rfl, Nat.le_of_ble_eq_true rfl⟩) ⟨fun _ _ _ _ q => q, fun U hU hW => ⟨rfl, trivial⟩⟩ rfl rfl hl.1 rfl (lv_room (Nat.le_of_ble_eq_true rfl)) dX10_dead_1 ⟨Nat.zero_le _, Nat.zero_le _⟩) (fun r9 er9 => ?_)
  replace er9 := er9.symm
  subst er9
  refine lv_if_eq (tgt := 14) hx hb dX10_dead_4 (by decide) (fun c3 => ?_) (fun c3 => ?_)
  · replace h := it_t c3 h
    refine lv_bipush (v := (-2)) hx hb dX10_dead_14 (by decide) ?_
    cases h
    exact W.iret hx hb hr (fun t ht hW => ⟨⟨_, _, rfl, rfl, by show va_P _ _ _ t.heap; rw [ht]; exact hP⟩, hS.F ht⟩) hS.2.2 dX10_dead_16
  · replace h := it_f c3 h
    refine lv_iload_n hx hb dX10_dead_7 rfl (lv_at hl 2 rfl) ?_
    obtain ⟨r5, k4, h⟩ := ob_elim h
    refine vp_callSi (W.runS (As := [.int p2]) (rest := []) ⟨hx, hb, hml, hown, hts⟩ (mX10_isDay l p2 k4) (va_cwS 1 hts gX10_dead_X10_isDay rfl rfl rfl (by decide +kernel) ⟨Nat.le_of_ble_eq_true rfl, Nat.le_of_ble_eq_true rfl⟩) ⟨fun _ _ _ _ q => q, fun U hU hW => ⟨rfl, trivial⟩⟩ rfl rfl hl.1 rfl (lv_room (Nat.le_of_ble_eq_true rfl)) dX10_dead_8 ⟨Nat.zero_le _, Nat.zero_le _⟩) (fun r9 er9 => ?_)
    replace er9 := er9.symm
    subst er9
    refine lv_if_ne (tgt := 17) hx hb dX10_dead_11 (by decide) (fun c6 => ?_) (fun c6 => ?_)
    · replace h := it_f c6 h
      refine lv_aload_n hx hb dX10_dead_17 rfl (lv_at hl 0 rfl) ?_
      refine va_get (D := (dC, dI)) (ci := 10) (v := .ref (ad 8)) (C := RX10) (T := TX10) (N := 11) hx hb hts hiX10 hown hK hP 0 rfl rfl 6 (by decide) hf58 (fun _ h9 => h9) rfl dX10_dead_18 ?_
      refine lv_iload_n hx hb dX10_dead_21 rfl (lv_at hl 1 rfl) ?_
      refine lv_iload_n hx hb dX10_dead_22 rfl (lv_at hl 2 rfl) ?_
      refine lv_aload_n hx hb dX10_dead_23 rfl (lv_at hl 0 rfl) ?_
      refine va_get (D := (dC, dI)) (ci := 10) (v := .ref (ad 3)) (C := RX10) (T := TX10) (N := 11) hx hb hts hiX10 hown hK hP 0 rfl rfl 2 (by decide) hf26 (fun _ h9 => h9) rfl dX10_dead_24 ?_
      refine lv_iload_n hx hb dX10_dead_27 rfl (lv_at hl 1 rfl) ?_
      obtain ⟨r8, k7, h⟩ := ob_elim h
      refine vp_callSi (W.runV (As := [.int p1]) (rest := [.int p2, .int p1, .ref (ad 8)]) ⟨hx, hb, hml, hown, hts⟩ (mX5_kindsSorted l dC dI cI cJ ad p1 S L k7) (cwV 1 hts gX10_dead_X5_kindsSorted rfl rfl rfl (by decide +kernel) ⟨Nat.le_of_ble_eq_true rfl, Nat.le_of_ble_eq_true rfl⟩) ⟨QX_blind, va_recv hK hP (ci := 5) (q0 := 3) rfl rfl, fun U hU hW => ⟨rfl, QX_at hP hK hD hU hW⟩⟩ rfl rfl hl.1 rfl (lv_room (Nat.le_of_ble_eq_true rfl)) dX10_dead_28 ⟨Nat.zero_le _, Nat.zero_le _⟩) (fun r9 er9 => ?_)
      replace er9 := er9.symm
      subst er9
      obtain ⟨r12, S10, L11, k9, h⟩ := ob3_elim h
      refine va_calll (va_runV (As := [.int p1, .int p2, .int r8]) (rest := []) ⟨hx, hb, hml, hown, hts⟩ (mX0_everFirst l dC dI cI cJ ad p1 p2 r8 S L s.heap.size k9) (cwV 3 hts gX10_dead_X0_everFirst rfl rfl rfl (by decide +kernel) ⟨Nat.le_of_ble_eq_true rfl, Nat.le_of_ble_eq_true rfl⟩) ⟨QXs_blind, va_recv hK hP (ci := 0) (q0 := 8) rfl rfl, fun U hU hW => ⟨rfl, congrArg Array.size hU, QX_at hP hK hD hU hW⟩⟩ rfl rfl hl.1 rfl (lv_room (Nat.le_of_ble_eq_true rfl)) dX10_dead_31 ⟨Nat.zero_le _, Nat.zero_le _⟩) hS (fun q _ hq => AX_mono hS.1 hq) (fun q hq => AX_mono hS.1 hq) (fun r u t H1 locs ht hvm hw hB hz1 hk1 hS => ?_)
      cases hw
      rw [ht] at hB
      have hP := hB
      clear hB hk1 hz1
      generalize H1 = H at hP hS ⊢
      have hD := wX_D hD S10 L11
      refine lv_lstore_n (lv' := [(3, .long r12), (0, .ref (ad 0)), (1, .int p1), (2, .int p2)]) hx hb dX10_dead_34 rfl hl (by decide) rfl (fun ls hl => ?_)
      refine lv_aload_n hx hb dX10_dead_35 rfl (lv_at hl 1 rfl) ?_
      refine va_get (D := (dC, dI)) (ci := 10) (v := .ref (ad 2)) (C := RX10) (T := TX10) (N := 11) hx hb hts hiX10 hown hK hP 0 rfl rfl 1 (by decide) hf19 (fun _ h9 => h9) rfl dX10_dead_36 ?_
      refine lv_lload_n hx hb dX10_dead_39 rfl (lv_at hl 0 rfl) ?_
      refine lv_iload_n hx hb dX10_dead_40 rfl (lv_at hl 2 rfl) ?_
      refine lv_iload_n hx hb dX10_dead_41 rfl (lv_at hl 3 rfl) ?_
      obtain ⟨r14, k13, h⟩ := ob_elim h
      refine vp_callSi (W.runV (As := [.long r12, .int p1, .int p2]) (rest := []) ⟨hx, hb, hml, hown, hts⟩ (mX6_placesWithout l dC dI cI cJ ad r12 p1 p2 S10 L11 k13) (cwV 3 hts gX10_dead_X6_placesWithout rfl rfl rfl (by decide +kernel) ⟨Nat.le_of_ble_eq_true rfl, Nat.le_of_ble_eq_true rfl⟩) ⟨QX_blind, va_recv hK hP (ci := 6) (q0 := 2) rfl rfl, fun U hU hW => ⟨rfl, QX_at hP hK hD hU hW⟩⟩ rfl rfl hl.1 rfl (lv_room (Nat.le_of_ble_eq_true rfl)) dX10_dead_42 ⟨Nat.zero_le _, Nat.zero_le _⟩) (fun r9 er9 => ?_)
      replace er9 := er9.symm
      subst er9
      cases h
      exact W.iret hx hb hr (fun t ht hW => ⟨⟨_, _, rfl, rfl, by show va_P _ _ _ t.heap; rw [ht]; exact hP⟩, hS.F ht⟩) hS.2.2 dX10_dead_45
    · replace h := it_t c6 h
      refine lv_bipush (v := (-2)) hx hb dX10_dead_14 (by decide) ?_
      cases h
      exact W.iret hx hb hr (fun t ht hW => ⟨⟨_, _, rfl, rfl, by show va_P _ _ _ t.heap; rw [ht]; exact hP⟩, hS.F ht⟩) hS.2.2 dX10_dead_16
set_option maxHeartbeats 4000000 in
set_option maxRecDepth 100000 in
theorem mX11_dead (l : Launch) (dC : Nat → ClassId) (dI : Nat → Nat → Nat) (cI cZ : ClassId) (ad : Nat → Nat) (p1 : Int32) (p2 : Int32) (S : Nat → Nat → Int32) (sz : Nat) {z : Int32 × (Nat → Nat → Int32)} (h : sX11_dead p1 p2 S = some z) : Met l yX11_dead wsX11_dead ({ frames := 5, cells := 0, slots := 0, locals := 112 }) (va_Pc [.ref (ad 0), .int p1, .int p2] (QMs sz dC dI cI cZ ad S)) (va_Qi (fun (r : Int32) (u : (Nat → Nat → Int32)) => (r, u) = z) (fun (u : (Nat → Nat → Int32)) t => va_P (dC, dI) vwCl (wM cI cZ ad u) t.heap) (AX 7 ad sz)) 0 0 (AX 7 ad sz) := by
  refine Met.ofW (cc := cX11_dead) (maxL := 6) (ret := (some .int)) (by decide) rfl ?_
  intro p e s m args below meth c s₁ B hml hv
  obtain ⟨rfl, hsz, hP, hK, hD0⟩ := hv
  have hx := B.exec
  have hb := B.bytes
  have hr := B.returns
  have hts := atoms_spec (ws := wsX11_dead) B.pre
  have hown : s.vm.findClass RX11 = some m.cls := findClass_of_methodNamed B.named
  have hlocks := B.notSynchronized
  subst hsz
  have hD := wM_DA hD0 s.heap.size
  have hS : va_S (AX 7 ad s.heap.size) s.heap s.heap [] := va_S.rf
  have hl := lv_entry ([.ref (ad 0), .int p1, .int p2]) (n := 6) (Nat.le_of_ble_eq_true rfl)
  rw [lg_entry_eq]
  generalize (lg_sl ([.ref (ad 0), .int p1, .int p2]) ++ List.replicate (6 - (lg_sl ([.ref (ad 0), .int p1, .int p2])).length) Slot.unset).toArray = ls at hl ⊢
  have hl : lv_has ls 6 [(0, .ref (ad 0)), (1, .int p1), (2, .int p2)] := hl
  have hf23 := hts (.fieldLink RX11 23 "LawRingsModel" "isFirst" "[Z") (by decide +kernel)
  have hiX11 : ∀ w ∈ u_ws RX11 TX11 8, w ∈ wsX11_dead := by decide +kernel
  have hf7 := hts (.fieldLink RX11 7 "LawRingsModel" "st" "[I") (by decide +kernel)
  rw [sX11_dead] at h
  refine lv_iload_n hx hb dX11_dead_0 rfl (lv_at hl 1 rfl) ?_
  obtain ⟨r2, k1, h⟩ := ob_elim h
  refine vp_callSi (W.runS (As := [.int p1]) (rest := []) ⟨hx, hb, hml, hown, hts⟩ (mX11_isLand l p1 k1) (va_cwS 1 hts gX11_dead_X11_isLand rfl rfl rfl (by decide +kernel) ⟨Nat.le_of_ble_eq_true rfl, Nat.le_of_ble_eq_true rfl⟩) ⟨fun _ _ _ _ q => q, fun U hU hW => ⟨rfl, trivial⟩⟩ rfl rfl hl.1 rfl (lv_room (Nat.le_of_ble_eq_true rfl)) dX11_dead_1 ⟨Nat.zero_le _, Nat.zero_le _⟩) (fun r9 er9 => ?_)
  replace er9 := er9.symm
  subst er9
  refine lv_if_eq (tgt := 14) hx hb dX11_dead_4 (by decide) (fun c3 => ?_) (fun c3 => ?_)
  · replace h := it_t c3 h
    refine lv_bipush (v := (-2)) hx hb dX11_dead_14 (by decide) ?_
    cases h
    exact W.iret hx hb hr (fun t ht hW => ⟨⟨_, _, rfl, rfl, by show va_P _ _ _ t.heap; rw [ht]; exact hP⟩, hS.F ht⟩) hS.2.2 dX11_dead_16
  · replace h := it_f c3 h
    refine lv_iload_n hx hb dX11_dead_7 rfl (lv_at hl 2 rfl) ?_
    obtain ⟨r5, k4, h⟩ := ob_elim h
    refine vp_callSi (W.runS (As := [.int p2]) (rest := []) ⟨hx, hb, hml, hown, hts⟩ (mX11_isDay l p2 k4) (va_cwS 1 hts gX11_dead_X11_isDay rfl rfl rfl (by decide +kernel) ⟨Nat.le_of_ble_eq_true rfl, Nat.le_of_ble_eq_true rfl⟩) ⟨fun _ _ _ _ q => q, fun U hU hW => ⟨rfl, trivial⟩⟩ rfl rfl hl.1 rfl (lv_room (Nat.le_of_ble_eq_true rfl)) dX11_dead_8 ⟨Nat.zero_le _, Nat.zero_le _⟩) (fun r9 er9 => ?_)
    replace er9 := er9.symm
    subst er9
    refine lv_if_ne (tgt := 17) hx hb dX11_dead_11 (by decide) (fun c6 => ?_) (fun c6 => ?_)
    · replace h := it_f c6 h
      refine lv_iconst (v := 0) hx hb dX11_dead_17 (by decide) ?_
      refine lv_istore_n (lv' := [(3, .int 0), (0, .ref (ad 0)), (1, .int p1), (2, .int p2)]) hx hb dX11_dead_18 rfl hl (by decide) rfl (fun ls hl => ?_)
      refine ww_w (fun WW19 hWW19 => ?_)
      have Lh19 : ∀ (n : Nat) (v7 : Int32) (S8 : (Nat → Nat → Int32)) (z : ((Nat → Nat → Int32))), lX11_dead_19 p1 p2 n v7 S8 = some z → ∀ (H : Heap) (locs : List Loc), va_P (dC, dI) vwCl (wM cI cZ ad S8) H → va_S (AX 7 ad s.heap.size) s.heap H locs → ∀ ls : Array Slot, lv_has ls 6 [(0, .ref (ad 0)), (1, .int p1), (2, .int p2), (3, .int v7)] → (∀ (YS : (Nat → Nat → Int32)), z = YS → ∀ (H : Heap) (locs : List Loc), va_P (dC, dI) vwCl (wM cI cZ ad YS) H → va_S (AX 7 ad s.heap.size) s.heap H locs → ∀ ls : Array Slot, lv_has ls 6 [(0, .ref (ad 0)), (1, .int p1), (2, .int p2)] → WW19 H locs 38 ls) → WW19 H locs 19 ls := by
        intro n
        induction n with
        | zero => intro v7 S8 z h H locs hP hS ls hl K0; rw [lX11_dead_19] at h; cases h
        | succ n ih =>
          intro v7 S8 z h H locs hP hS ls hl K0
          have hD := wM_D hD S8
          rw [lX11_dead_19] at h
          refine wi_w hWW19 ?_
          refine lv_iload_n hx hb dX11_dead_19 rfl (lv_at hl 3 rfl) ?_
          refine lv_bipush (v := 60) hx hb dX11_dead_20 (by decide) ?_
          refine lv_icmp_ge (tgt := 38) hx hb dX11_dead_22 (by decide) (fun c9 => ?_) (fun c9 => ?_)
          · replace h := it_t c9 h
            refine wu_w hWW19 ?_
            exact K0 S8 (Option.some.inj h).symm H locs hP hS ls (lv_sub hl [0, 1, 2] rfl)
          · replace h := it_f c9 h
            refine lv_aload_n hx hb dX11_dead_25 rfl (lv_at hl 0 rfl) ?_
            refine va_get (D := (dC, dI)) (ci := 11) (v := .ref (ad 5)) (C := RX11) (T := TX11) (N := 8) hx hb hts hiX11 hown hK hP 0 rfl rfl 6 (by decide) hf23 (fun _ h9 => h9) rfl dX11_dead_26 ?_
            refine lv_iload_n hx hb dX11_dead_29 rfl (lv_at hl 3 rfl) ?_
            refine lv_iconst (v := 0) hx hb dX11_dead_30 (by decide) ?_
            obtain ⟨b10, h⟩ := ck_elim h
            obtain ⟨S11, eS11, h⟩ := bnd_elim h
            refine va_zast hx hb hK hP hD hS 5 1 rfl rfl b10 dX11_dead_31 (fun H locs hP9 _ hS => ?_)
            have hP := swM_5 hP9
            rw [← eS11] at hP
            have hD := wM_D hD S11
            obtain ⟨x12, ex12, h⟩ := bnd_elim h
            refine lv_iinc (v := x12) (lv' := [(3, .int x12), (0, .ref (ad 0)), (1, .int p1), (2, .int p2)]) hx hb dX11_dead_32 hl (k := 3) rfl (by rw [ex12]; rfl) (by decide) rfl (fun ls hl => ?_)
            refine lv_goto (tgt := 19) hx hb dX11_dead_35 (by decide) ?_
            refine wu_w hWW19 ?_
            exact ih x12 S11 z h H locs hP hS ls (lv_sub hl [1, 2, 3, 0] rfl) K0
      obtain ⟨S14, k13, h⟩ := ob_elim h
      refine wu_w hWW19 ?_
      refine Lh19 FU 0 S _ k13 s.heap [] hP hS ls (lv_sub hl [1, 2, 3, 0] rfl) ?_
      intro y0 hy H locs hP hS ls hl
      cases hy
      have hD := wM_D hD S14
      refine wi_w hWW19 ?_
      refine lv_iconst (v := 0) hx hb dX11_dead_38 (by decide) ?_
      refine lv_istore_n (lv' := [(3, .int 0), (0, .ref (ad 0)), (1, .int p1), (2, .int p2)]) hx hb dX11_dead_39 rfl hl (by decide) rfl (fun ls hl => ?_)
      refine ww_w (fun WW40 hWW40 => ?_)
      have Lh40 : ∀ (n : Nat) (v15 : Int32) (S16 : (Nat → Nat → Int32)) (z : ((Nat → Nat → Int32))), lX11_dead_40 p1 p2 n v15 S16 = some z → ∀ (H : Heap) (locs : List Loc), va_P (dC, dI) vwCl (wM cI cZ ad S16) H → va_S (AX 7 ad s.heap.size) s.heap H locs → ∀ ls : Array Slot, lv_has ls 6 [(0, .ref (ad 0)), (1, .int p1), (2, .int p2), (3, .int v15)] → (∀ (YS : (Nat → Nat → Int32)), z = YS → ∀ (H : Heap) (locs : List Loc), va_P (dC, dI) vwCl (wM cI cZ ad YS) H → va_S (AX 7 ad s.heap.size) s.heap H locs → ∀ ls : Array Slot, lv_has ls 6 [(0, .ref (ad 0)), (1, .int p1)] → WW40 H locs 97 ls) → WW40 H locs 40 ls := by
        intro n
        induction n with
        | zero => intro v15 S16 z h H locs hP hS ls hl K0; rw [lX11_dead_40] at h; cases h
        | succ n ih =>
          intro v15 S16 z h H locs hP hS ls hl K0
          have hD := wM_D hD S16
          rw [lX11_dead_40] at h
          refine wi_w hWW40 ?_
          refine lv_iload_n hx hb dX11_dead_40 rfl (lv_at hl 3 rfl) ?_
          refine lv_sipush (v := 15625) hx hb dX11_dead_41 (by decide) ?_
          refine lv_icmp_ge (tgt := 97) hx hb dX11_dead_44 (by decide) (fun c17 => ?_) (fun c17 => ?_)
          · replace h := it_t c17 h
            refine wu_w hWW40 ?_
            exact K0 S16 (Option.some.inj h).symm H locs hP hS ls (lv_sub hl [0, 1] rfl)
          · replace h := it_f c17 h
            refine lv_aload_n hx hb dX11_dead_47 rfl (lv_at hl 0 rfl) ?_
            refine lv_iload_n hx hb dX11_dead_48 rfl (lv_at hl 3 rfl) ?_
            refine lv_iload_n hx hb dX11_dead_49 rfl (lv_at hl 2 rfl) ?_
            obtain ⟨S19, k18, h⟩ := ob_elim h
            refine va_callv (va_runV (As := [.int v15, .int p2]) (rest := []) ⟨hx, hb, hml, hown, hts⟩ (mX11_looksAtNumber l dC dI cI cZ ad v15 p2 S16 H.size k18) (cwV 2 hts gX11_dead_X11_looksAtNumber rfl rfl rfl (by decide +kernel) ⟨Nat.le_of_ble_eq_true rfl, Nat.le_of_ble_eq_true rfl⟩) ⟨QMs_blind, va_recv hK hP (ci := 11) (q0 := 0) rfl rfl, fun U hU hW => ⟨rfl, congrArg Array.size hU, QM_at hP hK hD hU hW⟩⟩ rfl rfl hl.1 rfl (lv_room (Nat.le_of_ble_eq_true rfl)) dX11_dead_50 ⟨Nat.zero_le _, Nat.zero_le _⟩) hS (fun q _ hq => AX_mono hS.1 hq) (fun q hq => AX_mono hS.1 hq) (fun u t H1 locs ht hvm hw hB hz1 hk1 hS => ?_)
            cases hw
            rw [ht] at hB
            have hP := hB
            clear hB hk1 hz1
            generalize H1 = H at hP hS ⊢
            have hD := wM_D hD S19
            refine lv_iconst (v := 0) hx hb dX11_dead_53 (by decide) ?_
            refine lv_istore (lv' := [(4, .int 0), (0, .ref (ad 0)), (1, .int p1), (2, .int p2), (3, .int v15)]) hx hb dX11_dead_54 hl (by decide) rfl (fun ls hl => ?_)
            refine ww_w (fun WW56 hWW56 => ?_)
            have Lh56 : ∀ (n : Nat) (v20 : Int32) (S21 : (Nat → Nat → Int32)) (z : ((Nat → Nat → Int32))), lX11_dead_56 p1 p2 v15 n v20 S21 = some z → ∀ (H : Heap) (locs : List Loc), va_P (dC, dI) vwCl (wM cI cZ ad S21) H → va_S (AX 7 ad s.heap.size) s.heap H locs → ∀ ls : Array Slot, lv_has ls 6 [(0, .ref (ad 0)), (1, .int p1), (2, .int p2), (3, .int v15), (4, .int v20)] → (∀ (YS : (Nat → Nat → Int32)), z = YS → ∀ (H : Heap) (locs : List Loc), va_P (dC, dI) vwCl (wM cI cZ ad YS) H → va_S (AX 7 ad s.heap.size) s.heap H locs → ∀ ls : Array Slot, lv_has ls 6 [(0, .ref (ad 0)), (1, .int p1), (2, .int p2), (3, .int v15)] → WW56 H locs 91 ls) → WW56 H locs 56 ls := by
              intro n
              induction n with
              | zero => intro v20 S21 z h H locs hP hS ls hl K0; rw [lX11_dead_56] at h; cases h
              | succ n ih =>
                intro v20 S21 z h H locs hP hS ls hl K0
                have hD := wM_D hD S21
                rw [lX11_dead_56] at h
                refine wi_w hWW56 ?_
                refine lv_iload hx hb dX11_dead_56 (lv_at hl 4 rfl) ?_
                refine lv_iconst (v := 3) hx hb dX11_dead_58 (by decide) ?_
                refine lv_icmp_ge (tgt := 91) hx hb dX11_dead_59 (by decide) (fun c22 => ?_) (fun c22 => ?_)
                · replace h := it_t c22 h
                  refine wu_w hWW56 ?_
                  exact K0 S21 (Option.some.inj h).symm H locs hP hS ls (lv_sub hl [0, 1, 2, 3] rfl)
                · replace h := it_f c22 h
                  refine lv_aload_n hx hb dX11_dead_62 rfl (lv_at hl 0 rfl) ?_
                  refine lv_iload_n hx hb dX11_dead_63 rfl (lv_at hl 1 rfl) ?_
                  refine lv_iload hx hb dX11_dead_64 (lv_at hl 4 rfl) ?_
                  obtain ⟨r24, k23, h⟩ := ob_elim h
                  refine vp_callSi (W.runV (As := [.int p1, .int v20]) (rest := []) ⟨hx, hb, hml, hown, hts⟩ (mX11_ruleBy l dC dI cI cZ ad p1 v20 S21 k23) (cwV 2 hts gX11_dead_X11_ruleBy rfl rfl rfl (by decide +kernel) ⟨Nat.le_of_ble_eq_true rfl, Nat.le_of_ble_eq_true rfl⟩) ⟨QM_blind, va_recv hK hP (ci := 11) (q0 := 0) rfl rfl, fun U hU hW => ⟨rfl, QM_at hP hK hD hU hW⟩⟩ rfl rfl hl.1 rfl (lv_room (Nat.le_of_ble_eq_true rfl)) dX11_dead_66 ⟨Nat.zero_le _, Nat.zero_le _⟩) (fun r9 er9 => ?_)
                  replace er9 := er9.symm
                  subst er9
                  refine lv_istore (lv' := [(5, .int r24), (0, .ref (ad 0)), (1, .int p1), (2, .int p2), (3, .int v15), (4, .int v20)]) hx hb dX11_dead_69 hl (by decide) rfl (fun ls hl => ?_)
                  refine lv_iload hx hb dX11_dead_71 (lv_at hl 0 rfl) ?_
                  refine lv_iconst (v := (-1)) hx hb dX11_dead_73 (by decide) ?_
                  refine lv_icmp_eq (tgt := 85) hx hb dX11_dead_74 (by decide) (fun c25 => ?_) (fun c25 => ?_)
                  · replace h := it_t c25 h
                    obtain ⟨x26, ex26, h⟩ := bnd_elim h
                    refine lv_iinc (v := x26) (lv' := [(4, .int x26), (5, .int r24), (0, .ref (ad 0)), (1, .int p1), (2, .int p2), (3, .int v15)]) hx hb dX11_dead_85 hl (k := 5) rfl (by rw [ex26]; rfl) (by decide) rfl (fun ls hl => ?_)
                    refine lv_goto (tgt := 56) hx hb dX11_dead_88 (by decide) ?_
                    refine wu_w hWW56 ?_
                    exact ih x26 S21 z h H locs hP hS ls (lv_sub hl [2, 3, 4, 5, 0] rfl) K0
                  · replace h := it_f c25 h
                    refine lv_aload_n hx hb dX11_dead_77 rfl (lv_at hl 1 rfl) ?_
                    refine va_get (D := (dC, dI)) (ci := 11) (v := .ref (ad 5)) (C := RX11) (T := TX11) (N := 8) hx hb hts hiX11 hown hK hP 0 rfl rfl 6 (by decide) hf23 (fun _ h9 => h9) rfl dX11_dead_78 ?_
                    refine lv_iload hx hb dX11_dead_81 (lv_at hl 0 rfl) ?_
                    refine lv_iconst (v := 1) hx hb dX11_dead_83 (by decide) ?_
                    obtain ⟨b27, h⟩ := ck_elim h
                    obtain ⟨S28, eS28, h⟩ := bnd_elim h
                    refine va_zast hx hb hK hP hD hS 5 1 rfl rfl b27 dX11_dead_84 (fun H locs hP9 _ hS => ?_)
                    have hP := swM_5 hP9
                    rw [← eS28] at hP
                    have hD := wM_D hD S28
                    obtain ⟨x29, ex29, h⟩ := bnd_elim h
                    refine lv_iinc (v := x29) (lv' := [(4, .int x29), (5, .int r24), (0, .ref (ad 0)), (1, .int p1), (2, .int p2), (3, .int v15)]) hx hb dX11_dead_85 hl (k := 5) rfl (by rw [ex29]; rfl) (by decide) rfl (fun ls hl => ?_)
                    refine lv_goto (tgt := 56) hx hb dX11_dead_88 (by decide) ?_
                    refine wu_w hWW56 ?_
                    exact ih x29 S28 z h H locs hP hS ls (lv_sub hl [2, 3, 4, 5, 0] rfl) K0
            obtain ⟨S31, k30, h⟩ := ob_elim h
            refine wu_w hWW56 ?_
            refine Lh56 FU 0 S19 _ k30 H locs hP hS ls (lv_sub hl [1, 2, 3, 4, 0] rfl) ?_
            intro y0 hy H locs hP hS ls hl
            cases hy
            have hD := wM_D hD S31
            refine wi_w hWW56 ?_
            obtain ⟨x32, ex32, h⟩ := bnd_elim h
            refine lv_iinc (v := x32) (lv' := [(3, .int x32), (0, .ref (ad 0)), (1, .int p1), (2, .int p2)]) hx hb dX11_dead_91 hl (k := 3) rfl (by rw [ex32]; rfl) (by decide) rfl (fun ls hl => ?_)
            refine lv_goto (tgt := 40) hx hb dX11_dead_94 (by decide) ?_
            refine wu_w hWW40 ?_
            exact ih x32 S31 z h H locs hP hS ls (lv_sub hl [1, 2, 3, 0] rfl) K0
      obtain ⟨S34, k33, h⟩ := ob_elim h
      refine wu_w hWW40 ?_
      refine Lh40 FU 0 S14 _ k33 H locs hP hS ls (lv_sub hl [1, 2, 3, 0] rfl) ?_
      intro y0 hy H locs hP hS ls hl
      cases hy
      have hD := wM_D hD S34
      refine wi_w hWW40 ?_
      refine lv_iconst (v := 0) hx hb dX11_dead_97 (by decide) ?_
      refine lv_istore_n (lv' := [(3, .int 0), (0, .ref (ad 0)), (1, .int p1)]) hx hb dX11_dead_98 rfl hl (by decide) rfl (fun ls hl => ?_)
      refine lv_iconst (v := 0) hx hb dX11_dead_99 (by decide) ?_
      refine lv_istore (lv' := [(4, .int 0), (3, .int 0), (0, .ref (ad 0)), (1, .int p1)]) hx hb dX11_dead_100 hl (by decide) rfl (fun ls hl => ?_)
      refine lv_iconst (v := 0) hx hb dX11_dead_102 (by decide) ?_
      refine lv_istore (lv' := [(5, .int 0), (4, .int 0), (3, .int 0), (0, .ref (ad 0)), (1, .int p1)]) hx hb dX11_dead_103 hl (by decide) rfl (fun ls hl => ?_)
      refine ww_r (fun WW105 hWW105 => ?_)
      have Lh105 : ∀ (n : Nat) (v35 : Int32) (v36 : Int32) (v37 : Int32) (z : (Int32)), lX11_dead_105 p1 S34 n v35 v36 v37 = some z → ∀ ls : Array Slot, lv_has ls 6 [(0, .ref (ad 0)), (1, .int p1), (3, .int v35), (4, .int v36), (5, .int v37)] → (∀ (y0 : Int32), z = y0 → ∀ ls : Array Slot, lv_has ls 6 [(3, .int y0)] → WW105  173 ls) → WW105  105 ls := by
        intro n
        induction n with
        | zero => intro v35 v36 v37 z h ls hl K0; rw [lX11_dead_105] at h; cases h
        | succ n ih =>
          intro v35 v36 v37 z h ls hl K0
          rw [lX11_dead_105] at h
          refine wi_r hWW105 ?_
          refine lv_iload hx hb dX11_dead_105 (lv_at hl 4 rfl) ?_
          refine lv_aload_n hx hb dX11_dead_107 rfl (lv_at hl 0 rfl) ?_
          refine va_get (D := (dC, dI)) (ci := 11) (v := .ref (ad 1)) (C := RX11) (T := TX11) (N := 8) hx hb hts hiX11 hown hK hP 0 rfl rfl 0 (by decide) hf7 (fun _ h9 => h9) rfl dX11_dead_108 ?_
          refine lv_iconst (v := 2) hx hb dX11_dead_111 (by decide) ?_
          obtain ⟨b38, h⟩ := ck_elim h
          refine va_iald hx hb hK hP 1 0 rfl rfl b38 dX11_dead_112 ?_
          refine lv_icmp_ge (tgt := 173) hx hb dX11_dead_113 (by decide) (fun c39 => ?_) (fun c39 => ?_)
          · replace h := it_t c39 h
            refine wu_r hWW105 ?_
            exact K0 v35 (Option.some.inj h).symm ls (lv_sub hl [2] rfl)
          · replace h := it_f c39 h
            refine lv_iload hx hb dX11_dead_116 (lv_at hl 3 rfl) ?_
            refine lv_bipush (v := 30) hx hb dX11_dead_118 (by decide) ?_
            refine lv_icmp_ge (tgt := 173) hx hb dX11_dead_120 (by decide) (fun c40 => ?_) (fun c40 => ?_)
            · replace h := it_t c40 h
              refine wu_r hWW105 ?_
              exact K0 v35 (Option.some.inj h).symm ls (lv_sub hl [2] rfl)
            · replace h := it_f c40 h
              refine lv_aload_n hx hb dX11_dead_123 rfl (lv_at hl 0 rfl) ?_
              refine lv_iload hx hb dX11_dead_124 (lv_at hl 4 rfl) ?_
              refine lv_iconst (v := 0) hx hb dX11_dead_126 (by decide) ?_
              obtain ⟨r42, k41, h⟩ := ob_elim h
              refine vp_callSi (W.runV (As := [.int v37, .int 0]) (rest := []) ⟨hx, hb, hml, hown, hts⟩ (mX11_ruleOf l dC dI cI cZ ad v37 0 S34 k41) (cwV 2 hts gX11_dead_X11_ruleOf rfl rfl rfl (by decide +kernel) ⟨Nat.le_of_ble_eq_true rfl, Nat.le_of_ble_eq_true rfl⟩) ⟨QM_blind, va_recv hK hP (ci := 11) (q0 := 0) rfl rfl, fun U hU hW => ⟨rfl, QM_at hP hK hD hU hW⟩⟩ rfl rfl hl.1 rfl (lv_room (Nat.le_of_ble_eq_true rfl)) dX11_dead_127 ⟨Nat.zero_le _, Nat.zero_le _⟩) (fun r9 er9 => ?_)
              replace er9 := er9.symm
              subst er9
              refine lv_iload_n hx hb dX11_dead_130 rfl (lv_at hl 1 rfl) ?_
              refine lv_icmp_ne (tgt := 167) hx hb dX11_dead_131 (by decide) (fun c43 => ?_) (fun c43 => ?_)
              · replace h := it_f c43 h
                obtain ⟨x44, ex44, h⟩ := bnd_elim h
                refine lv_iinc (v := x44) (lv' := [(5, .int x44), (0, .ref (ad 0)), (1, .int p1), (3, .int v35), (4, .int v36)]) hx hb dX11_dead_167 hl (k := 4) rfl (by rw [ex44]; rfl) (by decide) rfl (fun ls hl => ?_)
                refine lv_goto (tgt := 105) hx hb dX11_dead_170 (by decide) ?_
                refine wu_r hWW105 ?_
                exact ih v35 v36 x44 z h ls (lv_sub hl [1, 2, 3, 4, 0] rfl) K0
              · replace h := it_t c43 h
                refine lv_aload_n hx hb dX11_dead_134 rfl (lv_at hl 0 rfl) ?_
                refine lv_iload hx hb dX11_dead_135 (lv_at hl 4 rfl) ?_
                obtain ⟨r46, k45, h⟩ := ob_elim h
                refine vp_callSi (W.runV (As := [.int v37]) (rest := []) ⟨hx, hb, hml, hown, hts⟩ (mX11_stands l dC dI cI cZ ad v37 S34 k45) (cwV 1 hts gX11_dead_X11_stands rfl rfl rfl (by decide +kernel) ⟨Nat.le_of_ble_eq_true rfl, Nat.le_of_ble_eq_true rfl⟩) ⟨QM_blind, va_recv hK hP (ci := 11) (q0 := 0) rfl rfl, fun U hU hW => ⟨rfl, QM_at hP hK hD hU hW⟩⟩ rfl rfl hl.1 rfl (lv_room (Nat.le_of_ble_eq_true rfl)) dX11_dead_137 ⟨Nat.zero_le _, Nat.zero_le _⟩) (fun r9 er9 => ?_)
                replace er9 := er9.symm
                subst er9
                refine lv_if_eq (tgt := 167) hx hb dX11_dead_140 (by decide) (fun c47 => ?_) (fun c47 => ?_)
                · replace h := it_t c47 h
                  obtain ⟨x48, ex48, h⟩ := bnd_elim h
                  refine lv_iinc (v := x48) (lv' := [(5, .int x48), (0, .ref (ad 0)), (1, .int p1), (3, .int v35), (4, .int v36)]) hx hb dX11_dead_167 hl (k := 4) rfl (by rw [ex48]; rfl) (by decide) rfl (fun ls hl => ?_)
                  refine lv_goto (tgt := 105) hx hb dX11_dead_170 (by decide) ?_
                  refine wu_r hWW105 ?_
                  exact ih v35 v36 x48 z h ls (lv_sub hl [1, 2, 3, 4, 0] rfl) K0
                · replace h := it_f c47 h
                  refine lv_iload_n hx hb dX11_dead_143 rfl (lv_at hl 2 rfl) ?_
                  refine lv_aload_n hx hb dX11_dead_144 rfl (lv_at hl 0 rfl) ?_
                  refine va_get (D := (dC, dI)) (ci := 11) (v := .ref (ad 5)) (C := RX11) (T := TX11) (N := 8) hx hb hts hiX11 hown hK hP 0 rfl rfl 6 (by decide) hf23 (fun _ h9 => h9) rfl dX11_dead_145 ?_
                  refine lv_iload hx hb dX11_dead_148 (lv_at hl 4 rfl) ?_
                  obtain ⟨b49, h⟩ := ck_elim h
                  refine va_zald hx hb hK hP 5 1 rfl rfl b49 dX11_dead_150 ?_
                  refine lv_if_eq (tgt := 158) hx hb dX11_dead_151 (by decide) (fun c50 => ?_) (fun c50 => ?_)
                  · replace h := it_t c50 h
                    refine lv_iconst (v := 1) hx hb dX11_dead_158 (by decide) ?_
                    refine lv_iload hx hb dX11_dead_159 (lv_at hl 3 rfl) ?_
                    refine lv_ishl hx hb dX11_dead_161 ?_
                    refine lv_ior hx hb dX11_dead_162 ?_
                    obtain ⟨x51, ex51, h⟩ := bnd_elim h
                    refine nm_i ex51 ?_
                    refine lv_istore_n (lv' := [(3, .int x51), (0, .ref (ad 0)), (1, .int p1), (4, .int v36), (5, .int v37)]) hx hb dX11_dead_163 rfl hl (by decide) rfl (fun ls hl => ?_)
                    obtain ⟨x52, ex52, h⟩ := bnd_elim h
                    refine lv_iinc (v := x52) (lv' := [(4, .int x52), (3, .int x51), (0, .ref (ad 0)), (1, .int p1), (5, .int v37)]) hx hb dX11_dead_164 hl (k := 3) rfl (by rw [ex52]; rfl) (by decide) rfl (fun ls hl => ?_)
                    obtain ⟨x53, ex53, h⟩ := bnd_elim h
                    refine lv_iinc (v := x53) (lv' := [(5, .int x53), (4, .int x52), (3, .int x51), (0, .ref (ad 0)), (1, .int p1)]) hx hb dX11_dead_167 hl (k := 4) rfl (by rw [ex53]; rfl) (by decide) rfl (fun ls hl => ?_)
                    refine lv_goto (tgt := 105) hx hb dX11_dead_170 (by decide) ?_
                    refine wu_r hWW105 ?_
                    exact ih x51 x52 x53 z h ls (lv_sub hl [3, 4, 2, 1, 0] rfl) K0
                  · replace h := it_f c50 h
                    refine lv_iconst (v := 0) hx hb dX11_dead_154 (by decide) ?_
                    refine lv_goto (tgt := 162) hx hb dX11_dead_155 (by decide) ?_
                    refine lv_ior hx hb dX11_dead_162 ?_
                    obtain ⟨x54, ex54, h⟩ := bnd_elim h
                    refine nm_i ex54 ?_
                    refine lv_istore_n (lv' := [(3, .int x54), (0, .ref (ad 0)), (1, .int p1), (4, .int v36), (5, .int v37)]) hx hb dX11_dead_163 rfl hl (by decide) rfl (fun ls hl => ?_)
                    obtain ⟨x55, ex55, h⟩ := bnd_elim h
                    refine lv_iinc (v := x55) (lv' := [(4, .int x55), (3, .int x54), (0, .ref (ad 0)), (1, .int p1), (5, .int v37)]) hx hb dX11_dead_164 hl (k := 3) rfl (by rw [ex55]; rfl) (by decide) rfl (fun ls hl => ?_)
                    obtain ⟨x56, ex56, h⟩ := bnd_elim h
                    refine lv_iinc (v := x56) (lv' := [(5, .int x56), (4, .int x55), (3, .int x54), (0, .ref (ad 0)), (1, .int p1)]) hx hb dX11_dead_167 hl (k := 4) rfl (by rw [ex56]; rfl) (by decide) rfl (fun ls hl => ?_)
                    refine lv_goto (tgt := 105) hx hb dX11_dead_170 (by decide) ?_
                    refine wu_r hWW105 ?_
                    exact ih x54 x55 x56 z h ls (lv_sub hl [3, 4, 2, 1, 0] rfl) K0
      obtain ⟨w58, k57, h⟩ := ob_elim h
      refine wu_r hWW105 ?_
      refine Lh105 FU 0 0 0 _ k57 ls (lv_sub hl [3, 4, 2, 1, 0] rfl) ?_
      intro y0 hy ls hl
      cases hy
      refine wi_r hWW105 ?_
      refine lv_iload_n hx hb dX11_dead_173 rfl (lv_at hl 0 rfl) ?_
      cases h
      exact W.iret hx hb hr (fun t ht hW => ⟨⟨_, _, rfl, rfl, by show va_P _ _ _ t.heap; rw [ht]; exact hP⟩, hS.F ht⟩) hS.2.2 dX11_dead_174
    · replace h := it_t c6 h
      refine lv_bipush (v := (-2)) hx hb dX11_dead_14 (by decide) ?_
      cases h
      exact W.iret hx hb hr (fun t ht hW => ⟨⟨_, _, rfl, rfl, by show va_P _ _ _ t.heap; rw [ht]; exact hP⟩, hS.F ht⟩) hS.2.2 dX11_dead_16
set_option maxHeartbeats 4000000 in
set_option maxRecDepth 100000 in
theorem mX9_has (l : Launch) (dC : Nat → ClassId) (dI : Nat → Nat → Nat) (cI cJ : ClassId) (ad : Nat → Nat) (p1 : Int32) (S : Nat → Nat → Int32) (L : Nat → Nat → Int64) {z : Int32} (h : sX9_has p1 S L = some z) : Met l yX9_has wsX9_has ({ frames := 0, cells := 0, slots := 0, locals := 0 }) (va_Pc [.ref (ad 5), .int p1] (QX dC dI cI cJ ad S L)) (vp_Si (fun r => r = z)) 0 0 (fun _ => False) := by
  refine Met.ofW (cc := cX9_has) (maxL := 3) (ret := (some .boolean)) (by decide) rfl ?_
  intro p e s m args below meth c s₁ B hml hv
  obtain ⟨rfl, hP, hK, hD⟩ := hv
  have hx := B.exec
  have hb := B.bytes
  have hr := B.returns
  have hts := atoms_spec (ws := wsX9_has) B.pre
  have hown : s.vm.findClass RX9 = some m.cls := findClass_of_methodNamed B.named
  have hlocks := B.notSynchronized
  have hl := lv_entry ([.ref (ad 5), .int p1]) (n := 3) (Nat.le_of_ble_eq_true rfl)
  rw [lg_entry_eq]
  generalize (lg_sl ([.ref (ad 5), .int p1]) ++ List.replicate (3 - (lg_sl ([.ref (ad 5), .int p1])).length) Slot.unset).toArray = ls at hl ⊢
  have hl : lv_has ls 3 [(0, .ref (ad 5)), (1, .int p1)] := hl
  have hf15 := hts (.fieldLink RX9 15 "LawRings$Trials" "size" "I") (by decide +kernel)
  have hiX9 : ∀ w ∈ u_ws RX9 TX9 2, w ∈ wsX9_has := by decide +kernel
  have hf9 := hts (.fieldLink RX9 9 "LawRings$Trials" "rule" "[I") (by decide +kernel)
  rw [sX9_has] at h
  refine lv_iconst (v := 0) hx hb dX9_has_0 (by decide) ?_
  refine lv_istore_n (lv' := [(2, .int 0), (0, .ref (ad 5)), (1, .int p1)]) hx hb dX9_has_1 rfl hl (by decide) rfl (fun ls hl => ?_)
  refine ww_r (fun WW2 hWW2 => ?_)
  have Lh2 : ∀ (n : Nat) (v1 : Int32) (z : (Unit ⊕ Unit)), lX9_has_2 p1 S L n v1 = some z → ∀ ls : Array Slot, lv_has ls 3 [(0, .ref (ad 5)), (1, .int p1), (2, .int v1)] → (z = .inl () → ∀ ls : Array Slot, lv_has ls 3 [] → WW2  20 ls) → (z = .inr () → ∀ ls : Array Slot, lv_has ls 3 [] → WW2  28 ls) → WW2  2 ls := by
    intro n
    induction n with
    | zero => intro v1 z h ls hl K0 K1; rw [lX9_has_2] at h; cases h
    | succ n ih =>
      intro v1 z h ls hl K0 K1
      rw [lX9_has_2] at h
      refine wi_r hWW2 ?_
      refine lv_iload_n hx hb dX9_has_2 rfl (lv_at hl 2 rfl) ?_
      refine lv_aload_n hx hb dX9_has_3 rfl (lv_at hl 0 rfl) ?_
      refine va_get (D := (dC, dI)) (ci := 9) (v := .int (S 5 0)) (C := RX9) (T := TX9) (N := 2) hx hb hts hiX9 hown hK hP 5 rfl rfl 0 (by decide) hf15 (fun _ h9 => h9) rfl dX9_has_4 ?_
      refine lv_icmp_ge (tgt := 28) hx hb dX9_has_7 (by decide) (fun c2 => ?_) (fun c2 => ?_)
      · replace h := it_t c2 h
        refine wu_r hWW2 ?_
        exact K1 (Option.some.inj h).symm ls (lv_sub hl [] rfl)
      · replace h := it_f c2 h
        refine lv_aload_n hx hb dX9_has_10 rfl (lv_at hl 0 rfl) ?_
        refine va_get (D := (dC, dI)) (ci := 9) (v := .ref (ad 34)) (C := RX9) (T := TX9) (N := 2) hx hb hts hiX9 hown hK hP 5 rfl rfl 1 (by decide) hf9 (fun _ h9 => h9) rfl dX9_has_11 ?_
        refine lv_iload_n hx hb dX9_has_14 rfl (lv_at hl 2 rfl) ?_
        obtain ⟨b3, h⟩ := ck_elim h
        refine va_iald hx hb hK hP 34 0 rfl rfl b3 dX9_has_15 ?_
        refine lv_iload_n hx hb dX9_has_16 rfl (lv_at hl 1 rfl) ?_
        refine lv_icmp_ne (tgt := 22) hx hb dX9_has_17 (by decide) (fun c4 => ?_) (fun c4 => ?_)
        · replace h := it_f c4 h
          obtain ⟨x5, ex5, h⟩ := bnd_elim h
          refine lv_iinc (v := x5) (lv' := [(2, .int x5), (0, .ref (ad 5)), (1, .int p1)]) hx hb dX9_has_22 hl (k := 2) rfl (by rw [ex5]; rfl) (by decide) rfl (fun ls hl => ?_)
          refine lv_goto (tgt := 2) hx hb dX9_has_25 (by decide) ?_
          refine wu_r hWW2 ?_
          exact ih x5 z h ls (lv_sub hl [1, 2, 0] rfl) K0 K1
        · replace h := it_t c4 h
          refine wu_r hWW2 ?_
          exact K0 (Option.some.inj h).symm ls (lv_sub hl [] rfl)
  obtain ⟨q9, k6, h⟩ | ⟨q9, k6, h⟩ := os2_elim h
  · refine wu_r hWW2 ?_
    refine Lh2 FU 0 _ k6 ls (lv_sub hl [1, 2, 0] rfl) ?_ (fun hy => by cases hy)
    intro hy ls hl
    cases hy
    refine wi_r hWW2 ?_
    refine lv_iconst (v := 1) hx hb dX9_has_20 (by decide) ?_
    cases h
    exact W.zret hx hb hr rfl (fun t ht hW => ⟨_, rfl, rfl, ht⟩) (fun q hq => absurd hq List.not_mem_nil) dX9_has_21
  · refine wu_r hWW2 ?_
    refine Lh2 FU 0 _ k6 ls (lv_sub hl [1, 2, 0] rfl) (fun hy => by cases hy) ?_
    intro hy ls hl
    cases hy
    refine wi_r hWW2 ?_
    refine lv_iconst (v := 0) hx hb dX9_has_28 (by decide) ?_
    cases h
    exact W.zret hx hb hr rfl (fun t ht hW => ⟨_, rfl, rfl, ht⟩) (fun q hq => absurd hq List.not_mem_nil) dX9_has_29
set_option maxHeartbeats 4000000 in
set_option maxRecDepth 100000 in
theorem mX9_add (l : Launch) (dC : Nat → ClassId) (dI : Nat → Nat → Nat) (cI cJ : ClassId) (ad : Nat → Nat) (p1 : Int32) (S : Nat → Nat → Int32) (L : Nat → Nat → Int64) (sz : Nat) {z : Int32 × (Nat → Nat → Int32) × (Nat → Nat → Int64)} (h : sX9_add p1 S L = some z) : Met l yX9_add wsX9_add ({ frames := 0, cells := 0, slots := 0, locals := 0 }) (va_Pc [.ref (ad 5), .int p1] (QXs sz dC dI cI cJ ad S L)) (va_Qi (fun (r : Int32) (u : (Nat → Nat → Int32) × (Nat → Nat → Int64)) => (r, u) = z) (fun (u : (Nat → Nat → Int32) × (Nat → Nat → Int64)) t => va_P (dC, dI) vwCl (wX cI cJ ad u.1 u.2) t.heap) (AX 43 ad sz)) 0 0 (AX 43 ad sz) := by
  refine Met.ofW (cc := cX9_add) (maxL := 2) (ret := (some .int)) (by decide) rfl ?_
  intro p e s m args below meth c s₁ B hml hv
  obtain ⟨rfl, hsz, hP, hK, hD0⟩ := hv
  have hx := B.exec
  have hb := B.bytes
  have hr := B.returns
  have hts := atoms_spec (ws := wsX9_add) B.pre
  have hown : s.vm.findClass RX9 = some m.cls := findClass_of_methodNamed B.named
  have hlocks := B.notSynchronized
  subst hsz
  have hD := wX_DA hD0 s.heap.size
  have hS : va_S (AX 43 ad s.heap.size) s.heap s.heap [] := va_S.rf
  have hl := lv_entry ([.ref (ad 5), .int p1]) (n := 2) (Nat.le_of_ble_eq_true rfl)
  rw [lg_entry_eq]
  generalize (lg_sl ([.ref (ad 5), .int p1]) ++ List.replicate (2 - (lg_sl ([.ref (ad 5), .int p1])).length) Slot.unset).toArray = ls at hl ⊢
  have hl : lv_has ls 2 [(0, .ref (ad 5)), (1, .int p1)] := hl
  have hf9 := hts (.fieldLink RX9 9 "LawRings$Trials" "rule" "[I") (by decide +kernel)
  have hiX9 : ∀ w ∈ u_ws RX9 TX9 2, w ∈ wsX9_add := by decide +kernel
  have hf15 := hts (.fieldLink RX9 15 "LawRings$Trials" "size" "I") (by decide +kernel)
  rw [sX9_add] at h
  refine lv_aload_n hx hb dX9_add_0 rfl (lv_at hl 0 rfl) ?_
  refine va_get (D := (dC, dI)) (ci := 9) (v := .ref (ad 34)) (C := RX9) (T := TX9) (N := 2) hx hb hts hiX9 hown hK hP 5 rfl rfl 1 (by decide) hf9 (fun _ h9 => h9) rfl dX9_add_1 ?_
  refine lv_aload_n hx hb dX9_add_4 rfl (lv_at hl 0 rfl) ?_
  refine va_get (D := (dC, dI)) (ci := 9) (v := .int (S 5 0)) (C := RX9) (T := TX9) (N := 2) hx hb hts hiX9 hown hK hP 5 rfl rfl 0 (by decide) hf15 (fun _ h9 => h9) rfl dX9_add_5 ?_
  refine lv_iload_n hx hb dX9_add_8 rfl (lv_at hl 1 rfl) ?_
  obtain ⟨b1, h⟩ := ck_elim h
  obtain ⟨S2, eS2, h⟩ := bnd_elim h
  refine va_iast hx hb hK hP hD hS 34 0 rfl rfl b1 dX9_add_9 (fun H locs hP9 _ hS => ?_)
  have hP := swX_34 hP9
  rw [← eS2] at hP
  have hD := wX_D hD S2 L
  refine lv_aload_n hx hb dX9_add_10 rfl (lv_at hl 0 rfl) ?_
  refine lv_dup hx hb dX9_add_11 rfl ?_
  refine va_get (D := (dC, dI)) (ci := 9) (v := .int (S2 5 0)) (C := RX9) (T := TX9) (N := 2) hx hb hts hiX9 hown hK hP 5 rfl rfl 0 (by decide) hf15 (fun _ h9 => h9) rfl dX9_add_12 ?_
  refine lv_iconst (v := 1) hx hb dX9_add_15 (by decide) ?_
  refine lv_iadd hx hb dX9_add_16 ?_
  obtain ⟨S3, eS3, h⟩ := bnd_elim h
  refine va_put (D := (dC, dI)) (ci := 9) (v := .int ((S2 5 0) + 1)) (ty := .int) (C := RX9) (T := TX9) (N := 2) hx hb hts hiX9 tyX9 tyX9_ok nmX9 hown hK hP hD hS 5 rfl rfl 0 (by decide) hf15 (fun _ h9 => h9) rfl (by decide +kernel) rfl rfl (Nat.le_of_ble_eq_true rfl) dX9_add_17 (fun H locs hP9 _ hS => ?_)
  have hP := swX_5_0 hP9
  rw [← eS3] at hP
  have hD := wX_D hD S3 L
  refine lv_aload_n hx hb dX9_add_20 rfl (lv_at hl 0 rfl) ?_
  refine va_get (D := (dC, dI)) (ci := 9) (v := .int (S3 5 0)) (C := RX9) (T := TX9) (N := 2) hx hb hts hiX9 hown hK hP 5 rfl rfl 0 (by decide) hf15 (fun _ h9 => h9) rfl dX9_add_21 ?_
  cases h
  exact W.iret hx hb hr (fun t ht hW => ⟨⟨_, _, rfl, rfl, by show va_P _ _ _ t.heap; rw [ht]; exact hP⟩, hS.F ht⟩) hS.2.2 dX9_add_24
set_option maxHeartbeats 4000000 in
set_option maxRecDepth 100000 in
theorem mX10_trial (l : Launch) (dC : Nat → ClassId) (dI : Nat → Nat → Nat) (cI cJ : ClassId) (ad : Nat → Nat) (p1 : Int32) (S : Nat → Nat → Int32) (L : Nat → Nat → Int64) (sz : Nat) {z : Int32 × (Nat → Nat → Int32) × (Nat → Nat → Int64)} (h : sX10_trial p1 S L = some z) : Met l yX10_trial wsX10_trial ({ frames := 2, cells := 0, slots := 0, locals := 42 }) (va_Pc [.ref (ad 0), .int p1] (QXs sz dC dI cI cJ ad S L)) (va_Qi (fun (r : Int32) (u : (Nat → Nat → Int32) × (Nat → Nat → Int64)) => (r, u) = z) (fun (u : (Nat → Nat → Int32) × (Nat → Nat → Int64)) t => va_P (dC, dI) vwCl (wX cI cJ ad u.1 u.2) t.heap) (AX 43 ad sz)) 0 0 (AX 43 ad sz) := by
  refine Met.ofW (cc := cX10_trial) (maxL := 2) (ret := (some .int)) (by decide) rfl ?_
  intro p e s m args below meth c s₁ B hml hv
  obtain ⟨rfl, hsz, hP, hK, hD0⟩ := hv
  have hx := B.exec
  have hb := B.bytes
  have hr := B.returns
  have hts := atoms_spec (ws := wsX10_trial) B.pre
  have hown : s.vm.findClass RX10 = some m.cls := findClass_of_methodNamed B.named
  have hlocks := B.notSynchronized
  subst hsz
  have hD := wX_DA hD0 s.heap.size
  have hS : va_S (AX 43 ad s.heap.size) s.heap s.heap [] := va_S.rf
  have hl := lv_entry ([.ref (ad 0), .int p1]) (n := 2) (Nat.le_of_ble_eq_true rfl)
  rw [lg_entry_eq]
  generalize (lg_sl ([.ref (ad 0), .int p1]) ++ List.replicate (2 - (lg_sl ([.ref (ad 0), .int p1])).length) Slot.unset).toArray = ls at hl ⊢
  have hl : lv_has ls 2 [(0, .ref (ad 0)), (1, .int p1)] := hl
  have hf40 := hts (.fieldLink RX10 40 "LawRings" "trials" "LLawRings$Trials;") (by decide +kernel)
  have hiX10 : ∀ w ∈ u_ws RX10 TX10 11, w ∈ wsX10_trial := by decide +kernel
  have hf242 := hts (.fieldLink RX10 242 "LawRings$Trials" "size" "I") (by decide +kernel)
  have hiX9 : ∀ w ∈ u_ws RX9 TX9 2, w ∈ wsX10_trial := by decide +kernel
  rw [sX10_trial] at h
  refine lv_aload_n hx hb dX10_trial_0 rfl (lv_at hl 0 rfl) ?_
  refine lv_iload_n hx hb dX10_trial_1 rfl (lv_at hl 1 rfl) ?_
  obtain ⟨r2, k1, h⟩ := ob_elim h
  refine vp_callSi (W.runV (As := [.int p1]) (rest := []) ⟨hx, hb, hml, hown, hts⟩ (mX10_isRule l dC dI cI cJ ad p1 S L k1) (cwV 1 hts gX10_trial_X10_isRule rfl rfl rfl (by decide +kernel) ⟨Nat.le_of_ble_eq_true rfl, Nat.le_of_ble_eq_true rfl⟩) ⟨QX_blind, va_recv hK hP (ci := 10) (q0 := 0) rfl rfl, fun U hU hW => ⟨rfl, QX_at hP hK hD hU hW⟩⟩ rfl rfl hl.1 rfl (lv_room (Nat.le_of_ble_eq_true rfl)) dX10_trial_2 ⟨Nat.zero_le _, Nat.zero_le _⟩) (fun r9 er9 => ?_)
  replace er9 := er9.symm
  subst er9
  refine lv_if_eq (tgt := 19) hx hb dX10_trial_5 (by decide) (fun c3 => ?_) (fun c3 => ?_)
  · replace h := it_t c3 h
    refine lv_bipush (v := (-2)) hx hb dX10_trial_19 (by decide) ?_
    cases h
    exact W.iret hx hb hr (fun t ht hW => ⟨⟨_, _, rfl, rfl, by show va_P _ _ _ t.heap; rw [ht]; exact hP⟩, hS.F ht⟩) hS.2.2 dX10_trial_21
  · replace h := it_f c3 h
    refine lv_aload_n hx hb dX10_trial_8 rfl (lv_at hl 0 rfl) ?_
    refine va_get (D := (dC, dI)) (ci := 10) (v := .ref (ad 5)) (C := RX10) (T := TX10) (N := 11) hx hb hts hiX10 hown hK hP 0 rfl rfl 4 (by decide) hf40 (fun _ h9 => h9) rfl dX10_trial_9 ?_
    refine lv_iload_n hx hb dX10_trial_12 rfl (lv_at hl 1 rfl) ?_
    obtain ⟨r5, k4, h⟩ := ob_elim h
    refine vp_callSi (W.runV (As := [.int p1]) (rest := []) ⟨hx, hb, hml, hown, hts⟩ (mX9_has l dC dI cI cJ ad p1 S L k4) (cwV 1 hts gX10_trial_X9_has rfl rfl rfl (by decide +kernel) ⟨Nat.le_of_ble_eq_true rfl, Nat.le_of_ble_eq_true rfl⟩) ⟨QX_blind, va_recv hK hP (ci := 9) (q0 := 5) rfl rfl, fun U hU hW => ⟨rfl, QX_at hP hK hD hU hW⟩⟩ rfl rfl hl.1 rfl (lv_room (Nat.le_of_ble_eq_true rfl)) dX10_trial_13 ⟨Nat.zero_le _, Nat.zero_le _⟩) (fun r9 er9 => ?_)
    replace er9 := er9.symm
    subst er9
    refine lv_if_eq (tgt := 22) hx hb dX10_trial_16 (by decide) (fun c6 => ?_) (fun c6 => ?_)
    · replace h := it_t c6 h
      refine lv_aload_n hx hb dX10_trial_22 rfl (lv_at hl 0 rfl) ?_
      refine va_get (D := (dC, dI)) (ci := 10) (v := .ref (ad 5)) (C := RX10) (T := TX10) (N := 11) hx hb hts hiX10 hown hK hP 0 rfl rfl 4 (by decide) hf40 (fun _ h9 => h9) rfl dX10_trial_23 ?_
      refine va_get (D := (dC, dI)) (ci := 9) (v := .int (S 5 0)) (C := RX9) (T := TX9) (N := 2) hx hb hts hiX9 hown hK hP 5 rfl rfl 0 (by decide) hf242 (fun _ h9 => h9) rfl dX10_trial_26 ?_
      refine lv_bipush (v := 12) hx hb dX10_trial_29 (by decide) ?_
      refine lv_icmp_lt (tgt := 37) hx hb dX10_trial_31 (by decide) (fun c7 => ?_) (fun c7 => ?_)
      · replace h := it_t c7 h
        refine lv_aload_n hx hb dX10_trial_37 rfl (lv_at hl 0 rfl) ?_
        refine va_get (D := (dC, dI)) (ci := 10) (v := .ref (ad 5)) (C := RX10) (T := TX10) (N := 11) hx hb hts hiX10 hown hK hP 0 rfl rfl 4 (by decide) hf40 (fun _ h9 => h9) rfl dX10_trial_38 ?_
        refine lv_iload_n hx hb dX10_trial_41 rfl (lv_at hl 1 rfl) ?_
        obtain ⟨r11, S9, L10, k8, h⟩ := ob3_elim h
        refine va_calli (va_runV (As := [.int p1]) (rest := []) ⟨hx, hb, hml, hown, hts⟩ (mX9_add l dC dI cI cJ ad p1 S L s.heap.size k8) (cwV 1 hts gX10_trial_X9_add rfl rfl rfl (by decide +kernel) ⟨Nat.le_of_ble_eq_true rfl, Nat.le_of_ble_eq_true rfl⟩) ⟨QXs_blind, va_recv hK hP (ci := 9) (q0 := 5) rfl rfl, fun U hU hW => ⟨rfl, congrArg Array.size hU, QX_at hP hK hD hU hW⟩⟩ rfl rfl hl.1 rfl (lv_room (Nat.le_of_ble_eq_true rfl)) dX10_trial_42 ⟨Nat.zero_le _, Nat.zero_le _⟩) hS (fun q _ hq => AX_mono hS.1 hq) (fun q hq => AX_mono hS.1 hq) (fun r u t H1 locs ht hvm hw hB hz1 hk1 hS => ?_)
        cases hw
        rw [ht] at hB
        have hP := hB
        clear hB hk1 hz1
        generalize H1 = H at hP hS ⊢
        have hD := wX_D hD S9 L10
        cases h
        exact W.iret hx hb hr (fun t ht hW => ⟨⟨_, _, rfl, rfl, by show va_P _ _ _ t.heap; rw [ht]; exact hP⟩, hS.F ht⟩) hS.2.2 dX10_trial_45
      · replace h := it_f c7 h
        refine lv_bipush (v := (-4)) hx hb dX10_trial_34 (by decide) ?_
        cases h
        exact W.iret hx hb hr (fun t ht hW => ⟨⟨_, _, rfl, rfl, by show va_P _ _ _ t.heap; rw [ht]; exact hP⟩, hS.F ht⟩) hS.2.2 dX10_trial_36
    · replace h := it_f c6 h
      refine lv_bipush (v := (-2)) hx hb dX10_trial_19 (by decide) ?_
      cases h
      exact W.iret hx hb hr (fun t ht hW => ⟨⟨_, _, rfl, rfl, by show va_P _ _ _ t.heap; rw [ht]; exact hP⟩, hS.F ht⟩) hS.2.2 dX10_trial_21
