set_option maxHeartbeats 4000000 in
set_option maxRecDepth 100000 in
theorem mX11_ends (l : Launch) (dC : Nat → ClassId) (dI : Nat → Nat → Nat) (cI cZ : ClassId) (ad : Nat → Nat) (p1 : Int32) (p2 : Int32) (p3 : Int32) (S : Nat → Nat → Int32) (sz : Nat) {z : Int32 × (Nat → Nat → Int32)} (h : sX11_ends p1 p2 p3 S = some z) : Met l yX11_ends wsX11_ends ({ frames := 8, cells := 0, slots := 0, locals := 190 }) (va_Pc [.ref (ad 0), .int p1, .int p2, .int p3] (QMs sz dC dI cI cZ ad S)) (va_Qi (fun (r : Int32) (u : (Nat → Nat → Int32)) => (r, u) = z) (fun (u : (Nat → Nat → Int32)) t => va_P (dC, dI) vwCl (wM cI cZ ad u) t.heap) (AX 7 ad sz)) 0 0 (AX 7 ad sz) := by
  refine Met.ofW (cc := cX11_ends) (maxL := 4) (ret := (some .int)) (by decide) rfl ?_
  intro p e s m args below meth c s₁ B hml hv
  obtain ⟨rfl, hsz, hP, hK, hD0⟩ := hv
  have hx := B.exec
  have hb := B.bytes
  have hr := B.returns
  have hts := atoms_spec (ws := wsX11_ends) B.pre
  have hown : s.vm.findClass RX11 = some m.cls := findClass_of_methodNamed B.named
  have hlocks := B.notSynchronized
  subst hsz
  have hD := wM_DA hD0 s.heap.size
  have hS : va_S (AX 7 ad s.heap.size) s.heap s.heap [] := va_S.rf
  have hl := lv_entry ([.ref (ad 0), .int p1, .int p2, .int p3]) (n := 4) (Nat.le_of_ble_eq_true rfl)
  rw [lg_entry_eq]
  generalize (lg_sl ([.ref (ad 0), .int p1, .int p2, .int p3]) ++ List.replicate (4 - (lg_sl ([.ref (ad 0), .int p1, .int p2, .int p3])).length) Slot.unset).toArray = ls at hl ⊢
  have hl : lv_has ls 4 [(0, .ref (ad 0)), (1, .int p1), (2, .int p2), (3, .int p3)] := hl
  rw [sX11_ends] at h
  refine lv_aload_n hx hb dX11_ends_0 rfl (lv_at hl 0 rfl) ?_
  refine lv_iload_n hx hb dX11_ends_1 rfl (lv_at hl 1 rfl) ?_
  refine lv_iload_n hx hb dX11_ends_2 rfl (lv_at hl 2 rfl) ?_
  refine lv_iload_n hx hb dX11_ends_3 rfl (lv_at hl 3 rfl) ?_
  obtain ⟨r2, k1, h⟩ := ob_elim h
  refine vp_callSi (W.runV (As := [.int p1, .int p2, .int p3]) (rest := []) ⟨hx, hb, hml, hown, hts⟩ (mX11_isAsked l dC dI cI cZ ad p1 p2 p3 S k1) (cwV 3 hts gX11_ends_X11_isAsked rfl rfl rfl (by decide +kernel) ⟨Nat.le_of_ble_eq_true rfl, Nat.le_of_ble_eq_true rfl⟩) ⟨QM_blind, va_recv hK hP (ci := 11) (q0 := 0) rfl rfl, fun U hU hW => ⟨rfl, QM_at hP hK hD hU hW⟩⟩ rfl rfl hl.1 rfl (lv_room (Nat.le_of_ble_eq_true rfl)) dX11_ends_4 ⟨Nat.zero_le _, Nat.zero_le _⟩) (fun r9 er9 => ?_)
  replace er9 := er9.symm
  subst er9
  refine lv_if_ne (tgt := 13) hx hb dX11_ends_7 (by decide) (fun c3 => ?_) (fun c3 => ?_)
  · replace h := it_f c3 h
    refine lv_aload_n hx hb dX11_ends_13 rfl (lv_at hl 0 rfl) ?_
    refine lv_iload_n hx hb dX11_ends_14 rfl (lv_at hl 2 rfl) ?_
    obtain ⟨S5, k4, h⟩ := ob_elim h
    refine va_callv (va_runV (As := [.int p2]) (rest := []) ⟨hx, hb, hml, hown, hts⟩ (mX11_looksAt l dC dI cI cZ ad p2 S s.heap.size k4) (cwV 1 hts gX11_ends_X11_looksAt rfl rfl rfl (by decide +kernel) ⟨Nat.le_of_ble_eq_true rfl, Nat.le_of_ble_eq_true rfl⟩) ⟨QMs_blind, va_recv hK hP (ci := 11) (q0 := 0) rfl rfl, fun U hU hW => ⟨rfl, congrArg Array.size hU, QM_at hP hK hD hU hW⟩⟩ rfl rfl hl.1 rfl (lv_room (Nat.le_of_ble_eq_true rfl)) dX11_ends_15 ⟨Nat.zero_le _, Nat.zero_le _⟩) hS (fun q _ hq => AX_mono hS.1 hq) (fun q hq => AX_mono hS.1 hq) (fun u t H1 locs ht hvm hw hB hz1 hk1 hS => ?_)
    cases hw
    rw [ht] at hB
    have hP := hB
    clear hB hk1 hz1
    generalize H1 = H at hP hS ⊢
    have hD := wM_D hD S5
    refine lv_aload_n hx hb dX11_ends_18 rfl (lv_at hl 0 rfl) ?_
    refine lv_iload_n hx hb dX11_ends_19 rfl (lv_at hl 1 rfl) ?_
    refine lv_iload_n hx hb dX11_ends_20 rfl (lv_at hl 3 rfl) ?_
    obtain ⟨r7, k6, h⟩ := ob_elim h
    refine vp_callSi (W.runV (As := [.int p1, .int p3]) (rest := []) ⟨hx, hb, hml, hown, hts⟩ (mX11_endsOf l dC dI cI cZ ad p1 p3 S5 k6) (cwV 2 hts gX11_ends_X11_endsOf rfl rfl rfl (by decide +kernel) ⟨Nat.le_of_ble_eq_true rfl, Nat.le_of_ble_eq_true rfl⟩) ⟨QM_blind, va_recv hK hP (ci := 11) (q0 := 0) rfl rfl, fun U hU hW => ⟨rfl, QM_at hP hK hD hU hW⟩⟩ rfl rfl hl.1 rfl (lv_room (Nat.le_of_ble_eq_true rfl)) dX11_ends_21 ⟨Nat.zero_le _, Nat.zero_le _⟩) (fun r9 er9 => ?_)
    replace er9 := er9.symm
    subst er9
    cases h
    exact W.iret hx hb hr (fun t ht hW => ⟨⟨_, _, rfl, rfl, by show va_P _ _ _ t.heap; rw [ht]; exact hP⟩, hS.F ht⟩) hS.2.2 dX11_ends_24
  · replace h := it_t c3 h
    refine lv_bipush (v := (-2)) hx hb dX11_ends_10 (by decide) ?_
    cases h
    exact W.iret hx hb hr (fun t ht hW => ⟨⟨_, _, rfl, rfl, by show va_P _ _ _ t.heap; rw [ht]; exact hP⟩, hS.F ht⟩) hS.2.2 dX11_ends_12
set_option maxHeartbeats 4000000 in
set_option maxRecDepth 100000 in
theorem mX3_follow_11_6 (l : Launch) (dC : Nat → ClassId) (dI : Nat → Nat → Nat) (cI cJ : ClassId) (ad : Nat → Nat) (p2 : Int32) (S : Nat → Nat → Int32) (L : Nat → Nat → Int64) (sz : Nat) {z : (Nat → Nat → Int32) × (Nat → Nat → Int64)} (h : sX3_follow_11_6 p2 S L = some z) : Met l yX3_follow wsX3_follow ({ frames := 0, cells := 0, slots := 0, locals := 0 }) (va_Pc [.ref (ad 11), .ref (ad 6), .int p2] (QXs sz dC dI cI cJ ad S L)) (va_Qv (fun (u : (Nat → Nat → Int32) × (Nat → Nat → Int64)) => u = z) (fun (u : (Nat → Nat → Int32) × (Nat → Nat → Int64)) t => va_P (dC, dI) vwCl (wX cI cJ ad u.1 u.2) t.heap) (AX 43 ad sz)) 0 0 (AX 43 ad sz) := by
  refine Met.ofW (cc := cX3_follow) (maxL := 6) (ret := none) (by decide) rfl ?_
  intro p e s m args below meth c s₁ B hml hv
  obtain ⟨rfl, hsz, hP, hK, hD0⟩ := hv
  have hx := B.exec
  have hb := B.bytes
  have hr := B.returns
  have hts := atoms_spec (ws := wsX3_follow) B.pre
  have hown : s.vm.findClass RX3 = some m.cls := findClass_of_methodNamed B.named
  have hlocks := B.notSynchronized
  subst hsz
  have hD := wX_DA hD0 s.heap.size
  have hS : va_S (AX 43 ad s.heap.size) s.heap s.heap [] := va_S.rf
  have hl := lv_entry ([.ref (ad 11), .ref (ad 6), .int p2]) (n := 6) (Nat.le_of_ble_eq_true rfl)
  rw [lg_entry_eq]
  generalize (lg_sl ([.ref (ad 11), .ref (ad 6), .int p2]) ++ List.replicate (6 - (lg_sl ([.ref (ad 11), .ref (ad 6), .int p2])).length) Slot.unset).toArray = ls at hl ⊢
  have hl : lv_has ls 6 [(0, .ref (ad 11)), (1, .ref (ad 6)), (2, .int p2)] := hl
  have hf9 := hts (.fieldLink RX3 9 "LawRings$Chain" "lands" "[I") (by decide +kernel)
  have hiX3 : ∀ w ∈ u_ws RX3 TX3 4, w ∈ wsX3_follow := by decide +kernel
  have hf15 := hts (.fieldLink RX3 15 "LawRings$Chain" "size" "I") (by decide +kernel)
  have hf19 := hts (.fieldLink RX3 19 "LawRings$Hearing" "end" "[I") (by decide +kernel)
  have hiX4 : ∀ w ∈ u_ws RX4 TX4 9, w ∈ wsX3_follow := by decide +kernel
  have hf24 := hts (.fieldLink RX3 24 "LawRings$Chain" "back" "I") (by decide +kernel)
  have hf27 := hts (.fieldLink RX3 27 "LawRings$Hearing" "to" "[I") (by decide +kernel)
  have hf30 := hts (.fieldLink RX3 30 "LawRings$Chain" "last" "I") (by decide +kernel)
  rw [sX3_follow_11_6] at h
  refine lv_iconst (v := 1) hx hb dX3_follow_0 (by decide) ?_
  refine lv_iload_n hx hb dX3_follow_1 rfl (lv_at hl 2 rfl) ?_
  refine lv_ishl hx hb dX3_follow_2 ?_
  obtain ⟨x1, ex1, h⟩ := bnd_elim h
  refine nm_i ex1 ?_
  refine lv_istore_n (lv' := [(3, .int x1), (0, .ref (ad 11)), (1, .ref (ad 6)), (2, .int p2)]) hx hb dX3_follow_3 rfl hl (by decide) rfl (fun ls hl => ?_)
  refine lv_aload_n hx hb dX3_follow_4 rfl (lv_at hl 1 rfl) ?_
  refine va_get (D := (dC, dI)) (ci := 3) (v := .ref (ad 41)) (C := RX3) (T := TX3) (N := 4) hx hb hts hiX3 hown hK hP 11 rfl rfl 0 (by decide) hf9 (fun _ h9 => h9) rfl dX3_follow_5 ?_
  refine lv_iconst (v := 0) hx hb dX3_follow_8 (by decide) ?_
  refine lv_iload_n hx hb dX3_follow_9 rfl (lv_at hl 3 rfl) ?_
  obtain ⟨b2, h⟩ := ck_elim h
  obtain ⟨S3, eS3, h⟩ := bnd_elim h
  refine va_iast hx hb hK hP hD hS 41 0 rfl rfl b2 dX3_follow_10 (fun H locs hP9 _ hS => ?_)
  have hP := swX_41 hP9
  rw [← eS3] at hP
  have hD := wX_D hD S3 L
  refine lv_aload_n hx hb dX3_follow_11 rfl (lv_at hl 1 rfl) ?_
  refine lv_iconst (v := 1) hx hb dX3_follow_12 (by decide) ?_
  obtain ⟨S4, eS4, h⟩ := bnd_elim h
  refine va_put (D := (dC, dI)) (ci := 3) (v := .int 1) (ty := .int) (C := RX3) (T := TX3) (N := 4) hx hb hts hiX3 tyX3 tyX3_ok nmX3 hown hK hP hD hS 11 rfl rfl 1 (by decide) hf15 (fun _ h9 => h9) rfl (by decide +kernel) rfl rfl (Nat.le_of_ble_eq_true rfl) dX3_follow_13 (fun H locs hP9 _ hS => ?_)
  have hP := swX_11_1 hP9
  rw [← eS4] at hP
  have hD := wX_D hD S4 L
  refine lv_iconst (v := 0) hx hb dX3_follow_16 (by decide) ?_
  refine lv_istore (lv' := [(4, .int 0), (3, .int x1), (0, .ref (ad 11)), (1, .ref (ad 6)), (2, .int p2)]) hx hb dX3_follow_17 hl (by decide) rfl (fun ls hl => ?_)
  refine ww_w (fun WW19 hWW19 => ?_)
  have Lh19 : ∀ (n : Nat) (v5 : Int32) (v6 : Int32) (S7 : (Nat → Nat → Int32)) (L8 : (Nat → Nat → Int64)) (z : (((Nat → Nat → Int32) × (Nat → Nat → Int64)) ⊕ ((Nat → Nat → Int32) × (Nat → Nat → Int64)))), lX3_follow_11_6_19 n v5 v6 S7 L8 = some z → ∀ (H : Heap) (locs : List Loc), va_P (dC, dI) vwCl (wX cI cJ ad S7 L8) H → va_S (AX 43 ad s.heap.size) s.heap H locs → ∀ ls : Array Slot, lv_has ls 6 [(0, .ref (ad 11)), (1, .ref (ad 6)), (3, .int v5), (4, .int v6)] → (∀ (YS : (Nat → Nat → Int32)) (YL : (Nat → Nat → Int64)), z = .inl (YS, YL) → ∀ (H : Heap) (locs : List Loc), va_P (dC, dI) vwCl (wX cI cJ ad YS YL) H → va_S (AX 43 ad s.heap.size) s.heap H locs → ∀ ls : Array Slot, lv_has ls 6 [] → WW19 H locs 86 ls) → (∀ (YS : (Nat → Nat → Int32)) (YL : (Nat → Nat → Int64)), z = .inr (YS, YL) → ∀ (H : Heap) (locs : List Loc), va_P (dC, dI) vwCl (wX cI cJ ad YS YL) H → va_S (AX 43 ad s.heap.size) s.heap H locs → ∀ ls : Array Slot, lv_has ls 6 [] → WW19 H locs 125 ls) → WW19 H locs 19 ls := by
    intro n
    induction n with
    | zero => intro v5 v6 S7 L8 z h H locs hP hS ls hl K0 K1; rw [lX3_follow_11_6_19] at h; cases h
    | succ n ih =>
      intro v5 v6 S7 L8 z h H locs hP hS ls hl K0 K1
      have hD := wX_D hD S7 L8
      rw [lX3_follow_11_6_19] at h
      refine wi_w hWW19 ?_
      refine lv_iload hx hb dX3_follow_19 (lv_at hl 3 rfl) ?_
      refine lv_iconst (v := 4) hx hb dX3_follow_21 (by decide) ?_
      refine lv_icmp_ge (tgt := 125) hx hb dX3_follow_22 (by decide) (fun c9 => ?_) (fun c9 => ?_)
      · replace h := it_t c9 h
        refine wu_w hWW19 ?_
        exact K1 S7 L8 (Option.some.inj h).symm H locs hP hS ls (lv_sub hl [] rfl)
      · replace h := it_f c9 h
        refine lv_aload_n hx hb dX3_follow_25 rfl (lv_at hl 0 rfl) ?_
        refine va_get (D := (dC, dI)) (ci := 3) (v := .ref (ad 41)) (C := RX3) (T := TX3) (N := 4) hx hb hts hiX3 hown hK hP 11 rfl rfl 0 (by decide) hf9 (fun _ h9 => h9) rfl dX3_follow_26 ?_
        refine lv_aload_n hx hb dX3_follow_29 rfl (lv_at hl 0 rfl) ?_
        refine va_get (D := (dC, dI)) (ci := 3) (v := .int (S7 11 1)) (C := RX3) (T := TX3) (N := 4) hx hb hts hiX3 hown hK hP 11 rfl rfl 1 (by decide) hf15 (fun _ h9 => h9) rfl dX3_follow_30 ?_
        refine lv_iconst (v := 1) hx hb dX3_follow_33 (by decide) ?_
        refine lv_isub hx hb dX3_follow_34 ?_
        obtain ⟨b10, h⟩ := ck_elim h
        refine va_iald hx hb hK hP 41 0 rfl rfl b10 dX3_follow_35 ?_
        obtain ⟨x11, ex11, h⟩ := bnd_elim h
        refine nm_i ex11 ?_
        refine lv_istore (lv' := [(5, .int x11), (0, .ref (ad 11)), (1, .ref (ad 6)), (3, .int v5), (4, .int v6)]) hx hb dX3_follow_36 hl (by decide) rfl (fun ls hl => ?_)
        refine lv_aload_n hx hb dX3_follow_38 rfl (lv_at hl 1 rfl) ?_
        refine lv_aload_n hx hb dX3_follow_39 rfl (lv_at hl 2 rfl) ?_
        refine va_get (D := (dC, dI)) (ci := 4) (v := .ref (ad 36)) (C := RX4) (T := TX4) (N := 9) hx hb hts hiX4 hown hK hP 6 rfl rfl 6 (by decide) hf19 (fun _ h9 => h9) rfl dX3_follow_40 ?_
        refine lv_iload hx hb dX3_follow_43 (lv_at hl 0 rfl) ?_
        obtain ⟨b12, h⟩ := ck_elim h
        refine va_iald hx hb hK hP 36 0 rfl rfl b12 dX3_follow_45 ?_
        obtain ⟨S13, eS13, h⟩ := bnd_elim h
        refine va_put (D := (dC, dI)) (ci := 3) (v := .int (S7 36 x11.toNatClampNeg)) (ty := .int) (C := RX3) (T := TX3) (N := 4) hx hb hts hiX3 tyX3 tyX3_ok nmX3 hown hK hP hD hS 11 rfl rfl 2 (by decide) hf24 (fun _ h9 => h9) rfl (by decide +kernel) rfl rfl (Nat.le_of_ble_eq_true rfl) dX3_follow_46 (fun H locs hP9 _ hS => ?_)
        have hP := swX_11_2 hP9
        rw [← eS13] at hP
        have hD := wX_D hD S13 L8
        refine lv_aload_n hx hb dX3_follow_49 rfl (lv_at hl 1 rfl) ?_
        refine lv_aload_n hx hb dX3_follow_50 rfl (lv_at hl 2 rfl) ?_
        refine va_get (D := (dC, dI)) (ci := 4) (v := .ref (ad 37)) (C := RX4) (T := TX4) (N := 9) hx hb hts hiX4 hown hK hP 6 rfl rfl 7 (by decide) hf27 (fun _ h9 => h9) rfl dX3_follow_51 ?_
        refine lv_iload hx hb dX3_follow_54 (lv_at hl 0 rfl) ?_
        obtain ⟨b14, h⟩ := ck_elim h
        refine va_iald hx hb hK hP 37 0 rfl rfl b14 dX3_follow_56 ?_
        obtain ⟨S15, eS15, h⟩ := bnd_elim h
        refine va_put (D := (dC, dI)) (ci := 3) (v := .int (S13 37 x11.toNatClampNeg)) (ty := .int) (C := RX3) (T := TX3) (N := 4) hx hb hts hiX3 tyX3 tyX3_ok nmX3 hown hK hP hD hS 11 rfl rfl 3 (by decide) hf30 (fun _ h9 => h9) rfl (by decide +kernel) rfl rfl (Nat.le_of_ble_eq_true rfl) dX3_follow_57 (fun H locs hP9 _ hS => ?_)
        have hP := swX_11_3 hP9
        rw [← eS15] at hP
        have hD := wX_D hD S15 L8
        refine lv_aload_n hx hb dX3_follow_60 rfl (lv_at hl 1 rfl) ?_
        refine va_get (D := (dC, dI)) (ci := 3) (v := .int (S15 11 2)) (C := RX3) (T := TX3) (N := 4) hx hb hts hiX3 hown hK hP 11 rfl rfl 2 (by decide) hf24 (fun _ h9 => h9) rfl dX3_follow_61 ?_
        refine lv_if_eq (tgt := 86) hx hb dX3_follow_64 (by decide) (fun c16 => ?_) (fun c16 => ?_)
        · replace h := it_t c16 h
          refine wu_w hWW19 ?_
          exact K0 S15 L8 (Option.some.inj h).symm H locs hP hS ls (lv_sub hl [] rfl)
        · replace h := it_f c16 h
          refine lv_iload_n hx hb dX3_follow_67 rfl (lv_at hl 3 rfl) ?_
          refine lv_aload_n hx hb dX3_follow_68 rfl (lv_at hl 1 rfl) ?_
          refine va_get (D := (dC, dI)) (ci := 3) (v := .int (S15 11 3)) (C := RX3) (T := TX3) (N := 4) hx hb hts hiX3 hown hK hP 11 rfl rfl 3 (by decide) hf30 (fun _ h9 => h9) rfl dX3_follow_69 ?_
          refine lv_iushr (v := iush v5 (S15 11 3)) hx hb dX3_follow_72 rfl ?_
          refine lv_iconst (v := 1) hx hb dX3_follow_73 (by decide) ?_
          refine lv_iand hx hb dX3_follow_74 ?_
          refine lv_if_ne (tgt := 86) hx hb dX3_follow_75 (by decide) (fun c17 => ?_) (fun c17 => ?_)
          · replace h := it_f c17 h
            refine wu_w hWW19 ?_
            exact K0 S15 L8 (Option.some.inj h).symm H locs hP hS ls (lv_sub hl [] rfl)
          · replace h := it_t c17 h
            refine lv_aload_n hx hb dX3_follow_78 rfl (lv_at hl 1 rfl) ?_
            refine va_get (D := (dC, dI)) (ci := 3) (v := .int (S15 11 1)) (C := RX3) (T := TX3) (N := 4) hx hb hts hiX3 hown hK hP 11 rfl rfl 1 (by decide) hf15 (fun _ h9 => h9) rfl dX3_follow_79 ?_
            refine lv_iconst (v := 4) hx hb dX3_follow_82 (by decide) ?_
            refine lv_icmp_lt (tgt := 87) hx hb dX3_follow_83 (by decide) (fun c18 => ?_) (fun c18 => ?_)
            · replace h := it_t c18 h
              refine lv_iload_n hx hb dX3_follow_87 rfl (lv_at hl 3 rfl) ?_
              refine lv_iconst (v := 1) hx hb dX3_follow_88 (by decide) ?_
              refine lv_aload_n hx hb dX3_follow_89 rfl (lv_at hl 1 rfl) ?_
              refine va_get (D := (dC, dI)) (ci := 3) (v := .int (S15 11 3)) (C := RX3) (T := TX3) (N := 4) hx hb hts hiX3 hown hK hP 11 rfl rfl 3 (by decide) hf30 (fun _ h9 => h9) rfl dX3_follow_90 ?_
              refine lv_ishl hx hb dX3_follow_93 ?_
              refine lv_ior hx hb dX3_follow_94 ?_
              obtain ⟨x19, ex19, h⟩ := bnd_elim h
              refine nm_i ex19 ?_
              refine lv_istore_n (lv' := [(3, .int x19), (5, .int x11), (0, .ref (ad 11)), (1, .ref (ad 6)), (4, .int v6)]) hx hb dX3_follow_95 rfl hl (by decide) rfl (fun ls hl => ?_)
              refine lv_aload_n hx hb dX3_follow_96 rfl (lv_at hl 2 rfl) ?_
              refine va_get (D := (dC, dI)) (ci := 3) (v := .ref (ad 41)) (C := RX3) (T := TX3) (N := 4) hx hb hts hiX3 hown hK hP 11 rfl rfl 0 (by decide) hf9 (fun _ h9 => h9) rfl dX3_follow_97 ?_
              refine lv_aload_n hx hb dX3_follow_100 rfl (lv_at hl 2 rfl) ?_
              refine va_get (D := (dC, dI)) (ci := 3) (v := .int (S15 11 1)) (C := RX3) (T := TX3) (N := 4) hx hb hts hiX3 hown hK hP 11 rfl rfl 1 (by decide) hf15 (fun _ h9 => h9) rfl dX3_follow_101 ?_
              refine lv_aload_n hx hb dX3_follow_104 rfl (lv_at hl 2 rfl) ?_
              refine va_get (D := (dC, dI)) (ci := 3) (v := .int (S15 11 3)) (C := RX3) (T := TX3) (N := 4) hx hb hts hiX3 hown hK hP 11 rfl rfl 3 (by decide) hf30 (fun _ h9 => h9) rfl dX3_follow_105 ?_
              obtain ⟨b20, h⟩ := ck_elim h
              obtain ⟨S21, eS21, h⟩ := bnd_elim h
              refine va_iast hx hb hK hP hD hS 41 0 rfl rfl b20 dX3_follow_108 (fun H locs hP9 _ hS => ?_)
              have hP := swX_41 hP9
              rw [← eS21] at hP
              have hD := wX_D hD S21 L8
              refine lv_aload_n hx hb dX3_follow_109 rfl (lv_at hl 2 rfl) ?_
              refine lv_dup hx hb dX3_follow_110 rfl ?_
              refine va_get (D := (dC, dI)) (ci := 3) (v := .int (S21 11 1)) (C := RX3) (T := TX3) (N := 4) hx hb hts hiX3 hown hK hP 11 rfl rfl 1 (by decide) hf15 (fun _ h9 => h9) rfl dX3_follow_111 ?_
              refine lv_iconst (v := 1) hx hb dX3_follow_114 (by decide) ?_
              refine lv_iadd hx hb dX3_follow_115 ?_
              obtain ⟨S22, eS22, h⟩ := bnd_elim h
              refine va_put (D := (dC, dI)) (ci := 3) (v := .int ((S21 11 1) + 1)) (ty := .int) (C := RX3) (T := TX3) (N := 4) hx hb hts hiX3 tyX3 tyX3_ok nmX3 hown hK hP hD hS 11 rfl rfl 1 (by decide) hf15 (fun _ h9 => h9) rfl (by decide +kernel) rfl rfl (Nat.le_of_ble_eq_true rfl) dX3_follow_116 (fun H locs hP9 _ hS => ?_)
              have hP := swX_11_1 hP9
              rw [← eS22] at hP
              have hD := wX_D hD S22 L8
              obtain ⟨x23, ex23, h⟩ := bnd_elim h
              refine lv_iinc (v := x23) (lv' := [(4, .int x23), (3, .int x19), (5, .int x11), (0, .ref (ad 11)), (1, .ref (ad 6))]) hx hb dX3_follow_119 hl (k := 4) rfl (by rw [ex23]; rfl) (by decide) rfl (fun ls hl => ?_)
              refine lv_goto (tgt := 19) hx hb dX3_follow_122 (by decide) ?_
              refine wu_w hWW19 ?_
              exact ih x19 x23 S22 L8 z h H locs hP hS ls (lv_sub hl [3, 4, 1, 0] rfl) K0 K1
            · replace h := it_f c18 h
              refine wu_w hWW19 ?_
              exact K0 S15 L8 (Option.some.inj h).symm H locs hP hS ls (lv_sub hl [] rfl)
  obtain ⟨q9, k24, h⟩ | ⟨q9, k24, h⟩ := os2_elim h
  · obtain ⟨S25, L26⟩ := q9
    replace h := un2_e h
    refine wu_w hWW19 ?_
    refine Lh19 FU x1 0 S4 L _ k24 H locs hP hS ls (lv_sub hl [2, 3, 1, 0] rfl) ?_ (fun _ _ hy => by cases hy)
    intro y0 y1 hy H locs hP hS ls hl
    cases hy
    have hD := wX_D hD S25 L26
    refine wi_w hWW19 ?_
    cases h
    exact W.vret hx hb hr (fun t ht hW => ⟨⟨_, rfl, rfl, by show va_P _ _ _ t.heap; rw [ht]; exact hP⟩, hS.F ht⟩) hS.2.2 dX3_follow_86
  · obtain ⟨S27, L28⟩ := q9
    replace h := un2_e h
    refine wu_w hWW19 ?_
    refine Lh19 FU x1 0 S4 L _ k24 H locs hP hS ls (lv_sub hl [2, 3, 1, 0] rfl) (fun _ _ hy => by cases hy) ?_
    intro y0 y1 hy H locs hP hS ls hl
    cases hy
    have hD := wX_D hD S27 L28
    refine wi_w hWW19 ?_
    cases h
    exact W.vret hx hb hr (fun t ht hW => ⟨⟨_, rfl, rfl, by show va_P _ _ _ t.heap; rw [ht]; exact hP⟩, hS.F ht⟩) hS.2.2 dX3_follow_125
set_option maxHeartbeats 4000000 in
set_option maxRecDepth 100000 in
theorem mX10_chain (l : Launch) (dC : Nat → ClassId) (dI : Nat → Nat → Nat) (cI cJ : ClassId) (ad : Nat → Nat) (p1 : Int32) (p2 : Int32) (p3 : Int32) (p4 : Int32) (S : Nat → Nat → Int32) (L : Nat → Nat → Int64) (sz : Nat) {z : Int32 × (Nat → Nat → Int32) × (Nat → Nat → Int64)} (h : sX10_chain p1 p2 p3 p4 S L = some z) : Met l yX10_chain wsX10_chain ({ frames := 4, cells := 0, slots := 0, locals := 92 }) (va_Pc [.ref (ad 0), .int p1, .int p2, .int p3, .int p4] (QXs sz dC dI cI cJ ad S L)) (va_Qi (fun (r : Int32) (u : (Nat → Nat → Int32) × (Nat → Nat → Int64)) => (r, u) = z) (fun (u : (Nat → Nat → Int32) × (Nat → Nat → Int64)) t => va_P (dC, dI) vwCl (wX cI cJ ad u.1 u.2) t.heap) (AX 43 ad sz)) 0 0 (AX 43 ad sz) := by
  refine Met.ofW (cc := cX10_chain) (maxL := 5) (ret := (some .int)) (by decide) rfl ?_
  intro p e s m args below meth c s₁ B hml hv
  obtain ⟨rfl, hsz, hP, hK, hD0⟩ := hv
  have hx := B.exec
  have hb := B.bytes
  have hr := B.returns
  have hts := atoms_spec (ws := wsX10_chain) B.pre
  have hown : s.vm.findClass RX10 = some m.cls := findClass_of_methodNamed B.named
  have hlocks := B.notSynchronized
  subst hsz
  have hD := wX_DA hD0 s.heap.size
  have hS : va_S (AX 43 ad s.heap.size) s.heap s.heap [] := va_S.rf
  have hl := lv_entry ([.ref (ad 0), .int p1, .int p2, .int p3, .int p4]) (n := 5) (Nat.le_of_ble_eq_true rfl)
  rw [lg_entry_eq]
  generalize (lg_sl ([.ref (ad 0), .int p1, .int p2, .int p3, .int p4]) ++ List.replicate (5 - (lg_sl ([.ref (ad 0), .int p1, .int p2, .int p3, .int p4])).length) Slot.unset).toArray = ls at hl ⊢
  have hl : lv_has ls 5 [(0, .ref (ad 0)), (1, .int p1), (2, .int p2), (3, .int p3), (4, .int p4)] := hl
  have hf83 := hts (.fieldLink RX10 83 "LawRings" "oneChain" "LLawRings$Chain;") (by decide +kernel)
  have hiX10 : ∀ w ∈ u_ws RX10 TX10 11, w ∈ wsX10_chain := by decide +kernel
  have hf49 := hts (.fieldLink RX10 49 "LawRings" "hearing" "LLawRings$Hearing;") (by decide +kernel)
  have hf192 := hts (.fieldLink RX10 192 "LawRings$Chain" "size" "I") (by decide +kernel)
  have hiX3 : ∀ w ∈ u_ws RX3 TX3 4, w ∈ wsX10_chain := by decide +kernel
  have hf199 := hts (.fieldLink RX10 199 "LawRings$Chain" "lands" "[I") (by decide +kernel)
  have hf193 := hts (.fieldLink RX10 193 "LawRings$Chain" "back" "I") (by decide +kernel)
  have hf196 := hts (.fieldLink RX10 196 "LawRings$Chain" "last" "I") (by decide +kernel)
  rw [sX10_chain] at h
  refine lv_aload_n hx hb dX10_chain_0 rfl (lv_at hl 0 rfl) ?_
  refine lv_iload_n hx hb dX10_chain_1 rfl (lv_at hl 1 rfl) ?_
  refine lv_iload_n hx hb dX10_chain_2 rfl (lv_at hl 2 rfl) ?_
  refine lv_iload_n hx hb dX10_chain_3 rfl (lv_at hl 3 rfl) ?_
  obtain ⟨r2, k1, h⟩ := ob_elim h
  refine vp_callSi (W.runV (As := [.int p1, .int p2, .int p3]) (rest := []) ⟨hx, hb, hml, hown, hts⟩ (mX10_isQuestion l dC dI cI cJ ad p1 p2 p3 S L k1) (cwV 3 hts gX10_chain_X10_isQuestion rfl rfl rfl (by decide +kernel) ⟨Nat.le_of_ble_eq_true rfl, Nat.le_of_ble_eq_true rfl⟩) ⟨QX_blind, va_recv hK hP (ci := 10) (q0 := 0) rfl rfl, fun U hU hW => ⟨rfl, QX_at hP hK hD hU hW⟩⟩ rfl rfl hl.1 rfl (lv_room (Nat.le_of_ble_eq_true rfl)) dX10_chain_4 ⟨Nat.zero_le _, Nat.zero_le _⟩) (fun r9 er9 => ?_)
  replace er9 := er9.symm
  subst er9
  refine lv_if_ne (tgt := 13) hx hb dX10_chain_7 (by decide) (fun c3 => ?_) (fun c3 => ?_)
  · replace h := it_f c3 h
    refine lv_iload hx hb dX10_chain_13 (lv_at hl 4 rfl) ?_
    refine lv_if_ge (tgt := 34) hx hb dX10_chain_15 (by decide) (fun c4 => ?_) (fun c4 => ?_)
    · replace h := it_t c4 h
      refine lv_aload_n hx hb dX10_chain_34 rfl (lv_at hl 0 rfl) ?_
      refine lv_iload_n hx hb dX10_chain_35 rfl (lv_at hl 2 rfl) ?_
      refine lv_iload_n hx hb dX10_chain_36 rfl (lv_at hl 3 rfl) ?_
      obtain ⟨S6, L7, k5, h⟩ := ob2_elim h
      refine va_callv (va_runV (As := [.int p2, .int p3]) (rest := []) ⟨hx, hb, hml, hown, hts⟩ (mX10_hear l dC dI cI cJ ad p2 p3 S L s.heap.size k5) (cwV 2 hts gX10_chain_X10_hear rfl rfl rfl (by decide +kernel) ⟨Nat.le_of_ble_eq_true rfl, Nat.le_of_ble_eq_true rfl⟩) ⟨QXs_blind, va_recv hK hP (ci := 10) (q0 := 0) rfl rfl, fun U hU hW => ⟨rfl, congrArg Array.size hU, QX_at hP hK hD hU hW⟩⟩ rfl rfl hl.1 rfl (lv_room (Nat.le_of_ble_eq_true rfl)) dX10_chain_37 ⟨Nat.zero_le _, Nat.zero_le _⟩) hS (fun q _ hq => AX_mono hS.1 hq) (fun q hq => AX_mono hS.1 hq) (fun u t H1 locs ht hvm hw hB hz1 hk1 hS => ?_)
      cases hw
      rw [ht] at hB
      have hP := hB
      clear hB hk1 hz1
      generalize H1 = H at hP hS ⊢
      have hD := wX_D hD S6 L7
      refine lv_aload_n hx hb dX10_chain_40 rfl (lv_at hl 0 rfl) ?_
      refine va_get (D := (dC, dI)) (ci := 10) (v := .ref (ad 11)) (C := RX10) (T := TX10) (N := 11) hx hb hts hiX10 hown hK hP 0 rfl rfl 9 (by decide) hf83 (fun _ h9 => h9) rfl dX10_chain_41 ?_
      refine lv_aload_n hx hb dX10_chain_44 rfl (lv_at hl 0 rfl) ?_
      refine va_get (D := (dC, dI)) (ci := 10) (v := .ref (ad 6)) (C := RX10) (T := TX10) (N := 11) hx hb hts hiX10 hown hK hP 0 rfl rfl 5 (by decide) hf49 (fun _ h9 => h9) rfl dX10_chain_45 ?_
      refine lv_iload_n hx hb dX10_chain_48 rfl (lv_at hl 1 rfl) ?_
      obtain ⟨S9, L10, k8, h⟩ := ob2_elim h
      refine va_callv (va_runV (As := [.ref (ad 6), .int p1]) (rest := []) ⟨hx, hb, hml, hown, hts⟩ (mX3_follow_11_6 l dC dI cI cJ ad p1 S6 L7 H.size k8) (cwV 2 hts gX10_chain_X3_follow rfl rfl rfl (by decide +kernel) ⟨Nat.le_of_ble_eq_true rfl, Nat.le_of_ble_eq_true rfl⟩) ⟨QXs_blind, va_recv hK hP (ci := 3) (q0 := 11) rfl rfl, fun U hU hW => ⟨rfl, congrArg Array.size hU, QX_at hP hK hD hU hW⟩⟩ rfl rfl hl.1 rfl (lv_room (Nat.le_of_ble_eq_true rfl)) dX10_chain_49 ⟨Nat.zero_le _, Nat.zero_le _⟩) hS (fun q _ hq => AX_mono hS.1 hq) (fun q hq => AX_mono hS.1 hq) (fun u t H1 locs ht hvm hw hB hz1 hk1 hS => ?_)
      cases hw
      rw [ht] at hB
      have hP := hB
      clear hB hk1 hz1
      generalize H1 = H at hP hS ⊢
      have hD := wX_D hD S9 L10
      refine lv_iload hx hb dX10_chain_52 (lv_at hl 4 rfl) ?_
      refine lv_iconst (v := (-1)) hx hb dX10_chain_54 (by decide) ?_
      refine lv_icmp_ne (tgt := 66) hx hb dX10_chain_55 (by decide) (fun c11 => ?_) (fun c11 => ?_)
      · replace h := it_f c11 h
        refine lv_iload hx hb dX10_chain_66 (lv_at hl 4 rfl) ?_
        refine lv_bipush (v := (-3)) hx hb dX10_chain_68 (by decide) ?_
        refine lv_icmp_ne (tgt := 92) hx hb dX10_chain_70 (by decide) (fun c12 => ?_) (fun c12 => ?_)
        · replace h := it_f c12 h
          refine lv_iload hx hb dX10_chain_92 (lv_at hl 4 rfl) ?_
          refine lv_aload_n hx hb dX10_chain_94 rfl (lv_at hl 0 rfl) ?_
          refine va_get (D := (dC, dI)) (ci := 10) (v := .ref (ad 11)) (C := RX10) (T := TX10) (N := 11) hx hb hts hiX10 hown hK hP 0 rfl rfl 9 (by decide) hf83 (fun _ h9 => h9) rfl dX10_chain_95 ?_
          refine va_get (D := (dC, dI)) (ci := 3) (v := .int (S9 11 1)) (C := RX3) (T := TX3) (N := 4) hx hb hts hiX3 hown hK hP 11 rfl rfl 1 (by decide) hf192 (fun _ h9 => h9) rfl dX10_chain_98 ?_
          refine lv_icmp_ge (tgt := 117) hx hb dX10_chain_101 (by decide) (fun c13 => ?_) (fun c13 => ?_)
          · replace h := it_t c13 h
            refine lv_bipush (v := (-5)) hx hb dX10_chain_117 (by decide) ?_
            cases h
            exact W.iret hx hb hr (fun t ht hW => ⟨⟨_, _, rfl, rfl, by show va_P _ _ _ t.heap; rw [ht]; exact hP⟩, hS.F ht⟩) hS.2.2 dX10_chain_119
          · replace h := it_f c13 h
            refine lv_aload_n hx hb dX10_chain_104 rfl (lv_at hl 0 rfl) ?_
            refine va_get (D := (dC, dI)) (ci := 10) (v := .ref (ad 11)) (C := RX10) (T := TX10) (N := 11) hx hb hts hiX10 hown hK hP 0 rfl rfl 9 (by decide) hf83 (fun _ h9 => h9) rfl dX10_chain_105 ?_
            refine va_get (D := (dC, dI)) (ci := 3) (v := .ref (ad 41)) (C := RX3) (T := TX3) (N := 4) hx hb hts hiX3 hown hK hP 11 rfl rfl 0 (by decide) hf199 (fun _ h9 => h9) rfl dX10_chain_108 ?_
            refine lv_iload hx hb dX10_chain_111 (lv_at hl 4 rfl) ?_
            obtain ⟨b14, h⟩ := ck_elim h
            refine va_iald hx hb hK hP 41 0 rfl rfl b14 dX10_chain_113 ?_
            refine lv_goto (tgt := 119) hx hb dX10_chain_114 (by decide) ?_
            cases h
            exact W.iret hx hb hr (fun t ht hW => ⟨⟨_, _, rfl, rfl, by show va_P _ _ _ t.heap; rw [ht]; exact hP⟩, hS.F ht⟩) hS.2.2 dX10_chain_119
        · replace h := it_t c12 h
          refine lv_bipush (v := 10) hx hb dX10_chain_73 (by decide) ?_
          refine lv_aload_n hx hb dX10_chain_75 rfl (lv_at hl 0 rfl) ?_
          refine va_get (D := (dC, dI)) (ci := 10) (v := .ref (ad 11)) (C := RX10) (T := TX10) (N := 11) hx hb hts hiX10 hown hK hP 0 rfl rfl 9 (by decide) hf83 (fun _ h9 => h9) rfl dX10_chain_76 ?_
          refine va_get (D := (dC, dI)) (ci := 3) (v := .int (S9 11 2)) (C := RX3) (T := TX3) (N := 4) hx hb hts hiX3 hown hK hP 11 rfl rfl 2 (by decide) hf193 (fun _ h9 => h9) rfl dX10_chain_79 ?_
          refine lv_imul hx hb dX10_chain_82 ?_
          refine lv_aload_n hx hb dX10_chain_83 rfl (lv_at hl 0 rfl) ?_
          refine va_get (D := (dC, dI)) (ci := 10) (v := .ref (ad 11)) (C := RX10) (T := TX10) (N := 11) hx hb hts hiX10 hown hK hP 0 rfl rfl 9 (by decide) hf83 (fun _ h9 => h9) rfl dX10_chain_84 ?_
          refine va_get (D := (dC, dI)) (ci := 3) (v := .int (S9 11 3)) (C := RX3) (T := TX3) (N := 4) hx hb hts hiX3 hown hK hP 11 rfl rfl 3 (by decide) hf196 (fun _ h9 => h9) rfl dX10_chain_87 ?_
          refine lv_iadd hx hb dX10_chain_90 ?_
          cases h
          exact W.iret hx hb hr (fun t ht hW => ⟨⟨_, _, rfl, rfl, by show va_P _ _ _ t.heap; rw [ht]; exact hP⟩, hS.F ht⟩) hS.2.2 dX10_chain_91
      · replace h := it_t c11 h
        refine lv_aload_n hx hb dX10_chain_58 rfl (lv_at hl 0 rfl) ?_
        refine va_get (D := (dC, dI)) (ci := 10) (v := .ref (ad 11)) (C := RX10) (T := TX10) (N := 11) hx hb hts hiX10 hown hK hP 0 rfl rfl 9 (by decide) hf83 (fun _ h9 => h9) rfl dX10_chain_59 ?_
        refine va_get (D := (dC, dI)) (ci := 3) (v := .int (S9 11 1)) (C := RX3) (T := TX3) (N := 4) hx hb hts hiX3 hown hK hP 11 rfl rfl 1 (by decide) hf192 (fun _ h9 => h9) rfl dX10_chain_62 ?_
        cases h
        exact W.iret hx hb hr (fun t ht hW => ⟨⟨_, _, rfl, rfl, by show va_P _ _ _ t.heap; rw [ht]; exact hP⟩, hS.F ht⟩) hS.2.2 dX10_chain_65
    · replace h := it_f c4 h
      refine lv_iload hx hb dX10_chain_18 (lv_at hl 4 rfl) ?_
      refine lv_iconst (v := (-1)) hx hb dX10_chain_20 (by decide) ?_
      refine lv_icmp_eq (tgt := 34) hx hb dX10_chain_21 (by decide) (fun c15 => ?_) (fun c15 => ?_)
      · replace h := it_t c15 h
        refine lv_aload_n hx hb dX10_chain_34 rfl (lv_at hl 0 rfl) ?_
        refine lv_iload_n hx hb dX10_chain_35 rfl (lv_at hl 2 rfl) ?_
        refine lv_iload_n hx hb dX10_chain_36 rfl (lv_at hl 3 rfl) ?_
        obtain ⟨S17, L18, k16, h⟩ := ob2_elim h
        refine va_callv (va_runV (As := [.int p2, .int p3]) (rest := []) ⟨hx, hb, hml, hown, hts⟩ (mX10_hear l dC dI cI cJ ad p2 p3 S L s.heap.size k16) (cwV 2 hts gX10_chain_X10_hear rfl rfl rfl (by decide +kernel) ⟨Nat.le_of_ble_eq_true rfl, Nat.le_of_ble_eq_true rfl⟩) ⟨QXs_blind, va_recv hK hP (ci := 10) (q0 := 0) rfl rfl, fun U hU hW => ⟨rfl, congrArg Array.size hU, QX_at hP hK hD hU hW⟩⟩ rfl rfl hl.1 rfl (lv_room (Nat.le_of_ble_eq_true rfl)) dX10_chain_37 ⟨Nat.zero_le _, Nat.zero_le _⟩) hS (fun q _ hq => AX_mono hS.1 hq) (fun q hq => AX_mono hS.1 hq) (fun u t H1 locs ht hvm hw hB hz1 hk1 hS => ?_)
        cases hw
        rw [ht] at hB
        have hP := hB
        clear hB hk1 hz1
        generalize H1 = H at hP hS ⊢
        have hD := wX_D hD S17 L18
        refine lv_aload_n hx hb dX10_chain_40 rfl (lv_at hl 0 rfl) ?_
        refine va_get (D := (dC, dI)) (ci := 10) (v := .ref (ad 11)) (C := RX10) (T := TX10) (N := 11) hx hb hts hiX10 hown hK hP 0 rfl rfl 9 (by decide) hf83 (fun _ h9 => h9) rfl dX10_chain_41 ?_
        refine lv_aload_n hx hb dX10_chain_44 rfl (lv_at hl 0 rfl) ?_
        refine va_get (D := (dC, dI)) (ci := 10) (v := .ref (ad 6)) (C := RX10) (T := TX10) (N := 11) hx hb hts hiX10 hown hK hP 0 rfl rfl 5 (by decide) hf49 (fun _ h9 => h9) rfl dX10_chain_45 ?_
        refine lv_iload_n hx hb dX10_chain_48 rfl (lv_at hl 1 rfl) ?_
        obtain ⟨S20, L21, k19, h⟩ := ob2_elim h
        refine va_callv (va_runV (As := [.ref (ad 6), .int p1]) (rest := []) ⟨hx, hb, hml, hown, hts⟩ (mX3_follow_11_6 l dC dI cI cJ ad p1 S17 L18 H.size k19) (cwV 2 hts gX10_chain_X3_follow rfl rfl rfl (by decide +kernel) ⟨Nat.le_of_ble_eq_true rfl, Nat.le_of_ble_eq_true rfl⟩) ⟨QXs_blind, va_recv hK hP (ci := 3) (q0 := 11) rfl rfl, fun U hU hW => ⟨rfl, congrArg Array.size hU, QX_at hP hK hD hU hW⟩⟩ rfl rfl hl.1 rfl (lv_room (Nat.le_of_ble_eq_true rfl)) dX10_chain_49 ⟨Nat.zero_le _, Nat.zero_le _⟩) hS (fun q _ hq => AX_mono hS.1 hq) (fun q hq => AX_mono hS.1 hq) (fun u t H1 locs ht hvm hw hB hz1 hk1 hS => ?_)
        cases hw
        rw [ht] at hB
        have hP := hB
        clear hB hk1 hz1
        generalize H1 = H at hP hS ⊢
        have hD := wX_D hD S20 L21
        refine lv_iload hx hb dX10_chain_52 (lv_at hl 4 rfl) ?_
        refine lv_iconst (v := (-1)) hx hb dX10_chain_54 (by decide) ?_
        refine lv_icmp_ne (tgt := 66) hx hb dX10_chain_55 (by decide) (fun c22 => ?_) (fun c22 => ?_)
        · replace h := it_f c22 h
          refine lv_iload hx hb dX10_chain_66 (lv_at hl 4 rfl) ?_
          refine lv_bipush (v := (-3)) hx hb dX10_chain_68 (by decide) ?_
          refine lv_icmp_ne (tgt := 92) hx hb dX10_chain_70 (by decide) (fun c23 => ?_) (fun c23 => ?_)
          · replace h := it_f c23 h
            refine lv_iload hx hb dX10_chain_92 (lv_at hl 4 rfl) ?_
            refine lv_aload_n hx hb dX10_chain_94 rfl (lv_at hl 0 rfl) ?_
            refine va_get (D := (dC, dI)) (ci := 10) (v := .ref (ad 11)) (C := RX10) (T := TX10) (N := 11) hx hb hts hiX10 hown hK hP 0 rfl rfl 9 (by decide) hf83 (fun _ h9 => h9) rfl dX10_chain_95 ?_
            refine va_get (D := (dC, dI)) (ci := 3) (v := .int (S20 11 1)) (C := RX3) (T := TX3) (N := 4) hx hb hts hiX3 hown hK hP 11 rfl rfl 1 (by decide) hf192 (fun _ h9 => h9) rfl dX10_chain_98 ?_
            refine lv_icmp_ge (tgt := 117) hx hb dX10_chain_101 (by decide) (fun c24 => ?_) (fun c24 => ?_)
            · replace h := it_t c24 h
              refine lv_bipush (v := (-5)) hx hb dX10_chain_117 (by decide) ?_
              cases h
              exact W.iret hx hb hr (fun t ht hW => ⟨⟨_, _, rfl, rfl, by show va_P _ _ _ t.heap; rw [ht]; exact hP⟩, hS.F ht⟩) hS.2.2 dX10_chain_119
            · replace h := it_f c24 h
              refine lv_aload_n hx hb dX10_chain_104 rfl (lv_at hl 0 rfl) ?_
              refine va_get (D := (dC, dI)) (ci := 10) (v := .ref (ad 11)) (C := RX10) (T := TX10) (N := 11) hx hb hts hiX10 hown hK hP 0 rfl rfl 9 (by decide) hf83 (fun _ h9 => h9) rfl dX10_chain_105 ?_
              refine va_get (D := (dC, dI)) (ci := 3) (v := .ref (ad 41)) (C := RX3) (T := TX3) (N := 4) hx hb hts hiX3 hown hK hP 11 rfl rfl 0 (by decide) hf199 (fun _ h9 => h9) rfl dX10_chain_108 ?_
              refine lv_iload hx hb dX10_chain_111 (lv_at hl 4 rfl) ?_
              obtain ⟨b25, h⟩ := ck_elim h
              refine va_iald hx hb hK hP 41 0 rfl rfl b25 dX10_chain_113 ?_
              refine lv_goto (tgt := 119) hx hb dX10_chain_114 (by decide) ?_
              cases h
              exact W.iret hx hb hr (fun t ht hW => ⟨⟨_, _, rfl, rfl, by show va_P _ _ _ t.heap; rw [ht]; exact hP⟩, hS.F ht⟩) hS.2.2 dX10_chain_119
          · replace h := it_t c23 h
            refine lv_bipush (v := 10) hx hb dX10_chain_73 (by decide) ?_
            refine lv_aload_n hx hb dX10_chain_75 rfl (lv_at hl 0 rfl) ?_
            refine va_get (D := (dC, dI)) (ci := 10) (v := .ref (ad 11)) (C := RX10) (T := TX10) (N := 11) hx hb hts hiX10 hown hK hP 0 rfl rfl 9 (by decide) hf83 (fun _ h9 => h9) rfl dX10_chain_76 ?_
            refine va_get (D := (dC, dI)) (ci := 3) (v := .int (S20 11 2)) (C := RX3) (T := TX3) (N := 4) hx hb hts hiX3 hown hK hP 11 rfl rfl 2 (by decide) hf193 (fun _ h9 => h9) rfl dX10_chain_79 ?_
            refine lv_imul hx hb dX10_chain_82 ?_
            refine lv_aload_n hx hb dX10_chain_83 rfl (lv_at hl 0 rfl) ?_
            refine va_get (D := (dC, dI)) (ci := 10) (v := .ref (ad 11)) (C := RX10) (T := TX10) (N := 11) hx hb hts hiX10 hown hK hP 0 rfl rfl 9 (by decide) hf83 (fun _ h9 => h9) rfl dX10_chain_84 ?_
            refine va_get (D := (dC, dI)) (ci := 3) (v := .int (S20 11 3)) (C := RX3) (T := TX3) (N := 4) hx hb hts hiX3 hown hK hP 11 rfl rfl 3 (by decide) hf196 (fun _ h9 => h9) rfl dX10_chain_87 ?_
            refine lv_iadd hx hb dX10_chain_90 ?_
            cases h
            exact W.iret hx hb hr (fun t ht hW => ⟨⟨_, _, rfl, rfl, by show va_P _ _ _ t.heap; rw [ht]; exact hP⟩, hS.F ht⟩) hS.2.2 dX10_chain_91
        · replace h := it_t c22 h
          refine lv_aload_n hx hb dX10_chain_58 rfl (lv_at hl 0 rfl) ?_
          refine va_get (D := (dC, dI)) (ci := 10) (v := .ref (ad 11)) (C := RX10) (T := TX10) (N := 11) hx hb hts hiX10 hown hK hP 0 rfl rfl 9 (by decide) hf83 (fun _ h9 => h9) rfl dX10_chain_59 ?_
          refine va_get (D := (dC, dI)) (ci := 3) (v := .int (S20 11 1)) (C := RX3) (T := TX3) (N := 4) hx hb hts hiX3 hown hK hP 11 rfl rfl 1 (by decide) hf192 (fun _ h9 => h9) rfl dX10_chain_62 ?_
          cases h
          exact W.iret hx hb hr (fun t ht hW => ⟨⟨_, _, rfl, rfl, by show va_P _ _ _ t.heap; rw [ht]; exact hP⟩, hS.F ht⟩) hS.2.2 dX10_chain_65
      · replace h := it_f c15 h
        refine lv_iload hx hb dX10_chain_24 (lv_at hl 4 rfl) ?_
        refine lv_bipush (v := (-3)) hx hb dX10_chain_26 (by decide) ?_
        refine lv_icmp_eq (tgt := 34) hx hb dX10_chain_28 (by decide) (fun c26 => ?_) (fun c26 => ?_)
        · replace h := it_t c26 h
          refine lv_aload_n hx hb dX10_chain_34 rfl (lv_at hl 0 rfl) ?_
          refine lv_iload_n hx hb dX10_chain_35 rfl (lv_at hl 2 rfl) ?_
          refine lv_iload_n hx hb dX10_chain_36 rfl (lv_at hl 3 rfl) ?_
          obtain ⟨S28, L29, k27, h⟩ := ob2_elim h
          refine va_callv (va_runV (As := [.int p2, .int p3]) (rest := []) ⟨hx, hb, hml, hown, hts⟩ (mX10_hear l dC dI cI cJ ad p2 p3 S L s.heap.size k27) (cwV 2 hts gX10_chain_X10_hear rfl rfl rfl (by decide +kernel) ⟨Nat.le_of_ble_eq_true rfl, Nat.le_of_ble_eq_true rfl⟩) ⟨QXs_blind, va_recv hK hP (ci := 10) (q0 := 0) rfl rfl, fun U hU hW => ⟨rfl, congrArg Array.size hU, QX_at hP hK hD hU hW⟩⟩ rfl rfl hl.1 rfl (lv_room (Nat.le_of_ble_eq_true rfl)) dX10_chain_37 ⟨Nat.zero_le _, Nat.zero_le _⟩) hS (fun q _ hq => AX_mono hS.1 hq) (fun q hq => AX_mono hS.1 hq) (fun u t H1 locs ht hvm hw hB hz1 hk1 hS => ?_)
          cases hw
          rw [ht] at hB
          have hP := hB
          clear hB hk1 hz1
          generalize H1 = H at hP hS ⊢
          have hD := wX_D hD S28 L29
          refine lv_aload_n hx hb dX10_chain_40 rfl (lv_at hl 0 rfl) ?_
          refine va_get (D := (dC, dI)) (ci := 10) (v := .ref (ad 11)) (C := RX10) (T := TX10) (N := 11) hx hb hts hiX10 hown hK hP 0 rfl rfl 9 (by decide) hf83 (fun _ h9 => h9) rfl dX10_chain_41 ?_
          refine lv_aload_n hx hb dX10_chain_44 rfl (lv_at hl 0 rfl) ?_
          refine va_get (D := (dC, dI)) (ci := 10) (v := .ref (ad 6)) (C := RX10) (T := TX10) (N := 11) hx hb hts hiX10 hown hK hP 0 rfl rfl 5 (by decide) hf49 (fun _ h9 => h9) rfl dX10_chain_45 ?_
          refine lv_iload_n hx hb dX10_chain_48 rfl (lv_at hl 1 rfl) ?_
          obtain ⟨S31, L32, k30, h⟩ := ob2_elim h
          refine va_callv (va_runV (As := [.ref (ad 6), .int p1]) (rest := []) ⟨hx, hb, hml, hown, hts⟩ (mX3_follow_11_6 l dC dI cI cJ ad p1 S28 L29 H.size k30) (cwV 2 hts gX10_chain_X3_follow rfl rfl rfl (by decide +kernel) ⟨Nat.le_of_ble_eq_true rfl, Nat.le_of_ble_eq_true rfl⟩) ⟨QXs_blind, va_recv hK hP (ci := 3) (q0 := 11) rfl rfl, fun U hU hW => ⟨rfl, congrArg Array.size hU, QX_at hP hK hD hU hW⟩⟩ rfl rfl hl.1 rfl (lv_room (Nat.le_of_ble_eq_true rfl)) dX10_chain_49 ⟨Nat.zero_le _, Nat.zero_le _⟩) hS (fun q _ hq => AX_mono hS.1 hq) (fun q hq => AX_mono hS.1 hq) (fun u t H1 locs ht hvm hw hB hz1 hk1 hS => ?_)
          cases hw
          rw [ht] at hB
          have hP := hB
          clear hB hk1 hz1
          generalize H1 = H at hP hS ⊢
          have hD := wX_D hD S31 L32
          refine lv_iload hx hb dX10_chain_52 (lv_at hl 4 rfl) ?_
          refine lv_iconst (v := (-1)) hx hb dX10_chain_54 (by decide) ?_
          refine lv_icmp_ne (tgt := 66) hx hb dX10_chain_55 (by decide) (fun c33 => ?_) (fun c33 => ?_)
          · replace h := it_f c33 h
            refine lv_iload hx hb dX10_chain_66 (lv_at hl 4 rfl) ?_
            refine lv_bipush (v := (-3)) hx hb dX10_chain_68 (by decide) ?_
            refine lv_icmp_ne (tgt := 92) hx hb dX10_chain_70 (by decide) (fun c34 => ?_) (fun c34 => ?_)
            · replace h := it_f c34 h
              refine lv_iload hx hb dX10_chain_92 (lv_at hl 4 rfl) ?_
              refine lv_aload_n hx hb dX10_chain_94 rfl (lv_at hl 0 rfl) ?_
              refine va_get (D := (dC, dI)) (ci := 10) (v := .ref (ad 11)) (C := RX10) (T := TX10) (N := 11) hx hb hts hiX10 hown hK hP 0 rfl rfl 9 (by decide) hf83 (fun _ h9 => h9) rfl dX10_chain_95 ?_
              refine va_get (D := (dC, dI)) (ci := 3) (v := .int (S31 11 1)) (C := RX3) (T := TX3) (N := 4) hx hb hts hiX3 hown hK hP 11 rfl rfl 1 (by decide) hf192 (fun _ h9 => h9) rfl dX10_chain_98 ?_
              refine lv_icmp_ge (tgt := 117) hx hb dX10_chain_101 (by decide) (fun c35 => ?_) (fun c35 => ?_)
              · replace h := it_t c35 h
                refine lv_bipush (v := (-5)) hx hb dX10_chain_117 (by decide) ?_
                cases h
                exact W.iret hx hb hr (fun t ht hW => ⟨⟨_, _, rfl, rfl, by show va_P _ _ _ t.heap; rw [ht]; exact hP⟩, hS.F ht⟩) hS.2.2 dX10_chain_119
              · replace h := it_f c35 h
                refine lv_aload_n hx hb dX10_chain_104 rfl (lv_at hl 0 rfl) ?_
                refine va_get (D := (dC, dI)) (ci := 10) (v := .ref (ad 11)) (C := RX10) (T := TX10) (N := 11) hx hb hts hiX10 hown hK hP 0 rfl rfl 9 (by decide) hf83 (fun _ h9 => h9) rfl dX10_chain_105 ?_
                refine va_get (D := (dC, dI)) (ci := 3) (v := .ref (ad 41)) (C := RX3) (T := TX3) (N := 4) hx hb hts hiX3 hown hK hP 11 rfl rfl 0 (by decide) hf199 (fun _ h9 => h9) rfl dX10_chain_108 ?_
                refine lv_iload hx hb dX10_chain_111 (lv_at hl 4 rfl) ?_
                obtain ⟨b36, h⟩ := ck_elim h
                refine va_iald hx hb hK hP 41 0 rfl rfl b36 dX10_chain_113 ?_
                refine lv_goto (tgt := 119) hx hb dX10_chain_114 (by decide) ?_
                cases h
                exact W.iret hx hb hr (fun t ht hW => ⟨⟨_, _, rfl, rfl, by show va_P _ _ _ t.heap; rw [ht]; exact hP⟩, hS.F ht⟩) hS.2.2 dX10_chain_119
            · replace h := it_t c34 h
              refine lv_bipush (v := 10) hx hb dX10_chain_73 (by decide) ?_
              refine lv_aload_n hx hb dX10_chain_75 rfl (lv_at hl 0 rfl) ?_
              refine va_get (D := (dC, dI)) (ci := 10) (v := .ref (ad 11)) (C := RX10) (T := TX10) (N := 11) hx hb hts hiX10 hown hK hP 0 rfl rfl 9 (by decide) hf83 (fun _ h9 => h9) rfl dX10_chain_76 ?_
              refine va_get (D := (dC, dI)) (ci := 3) (v := .int (S31 11 2)) (C := RX3) (T := TX3) (N := 4) hx hb hts hiX3 hown hK hP 11 rfl rfl 2 (by decide) hf193 (fun _ h9 => h9) rfl dX10_chain_79 ?_
              refine lv_imul hx hb dX10_chain_82 ?_
              refine lv_aload_n hx hb dX10_chain_83 rfl (lv_at hl 0 rfl) ?_
              refine va_get (D := (dC, dI)) (ci := 10) (v := .ref (ad 11)) (C := RX10) (T := TX10) (N := 11) hx hb hts hiX10 hown hK hP 0 rfl rfl 9 (by decide) hf83 (fun _ h9 => h9) rfl dX10_chain_84 ?_
              refine va_get (D := (dC, dI)) (ci := 3) (v := .int (S31 11 3)) (C := RX3) (T := TX3) (N := 4) hx hb hts hiX3 hown hK hP 11 rfl rfl 3 (by decide) hf196 (fun _ h9 => h9) rfl dX10_chain_87 ?_
              refine lv_iadd hx hb dX10_chain_90 ?_
              cases h
              exact W.iret hx hb hr (fun t ht hW => ⟨⟨_, _, rfl, rfl, by show va_P _ _ _ t.heap; rw [ht]; exact hP⟩, hS.F ht⟩) hS.2.2 dX10_chain_91
          · replace h := it_t c33 h
            refine lv_aload_n hx hb dX10_chain_58 rfl (lv_at hl 0 rfl) ?_
            refine va_get (D := (dC, dI)) (ci := 10) (v := .ref (ad 11)) (C := RX10) (T := TX10) (N := 11) hx hb hts hiX10 hown hK hP 0 rfl rfl 9 (by decide) hf83 (fun _ h9 => h9) rfl dX10_chain_59 ?_
            refine va_get (D := (dC, dI)) (ci := 3) (v := .int (S31 11 1)) (C := RX3) (T := TX3) (N := 4) hx hb hts hiX3 hown hK hP 11 rfl rfl 1 (by decide) hf192 (fun _ h9 => h9) rfl dX10_chain_62 ?_
            cases h
            exact W.iret hx hb hr (fun t ht hW => ⟨⟨_, _, rfl, rfl, by show va_P _ _ _ t.heap; rw [ht]; exact hP⟩, hS.F ht⟩) hS.2.2 dX10_chain_65
        · replace h := it_f c26 h
          refine lv_bipush (v := (-10)) hx hb dX10_chain_31 (by decide) ?_
          cases h
          exact W.iret hx hb hr (fun t ht hW => ⟨⟨_, _, rfl, rfl, by show va_P _ _ _ t.heap; rw [ht]; exact hP⟩, hS.F ht⟩) hS.2.2 dX10_chain_33
  · replace h := it_t c3 h
    refine lv_bipush (v := (-10)) hx hb dX10_chain_10 (by decide) ?_
    cases h
    exact W.iret hx hb hr (fun t ht hW => ⟨⟨_, _, rfl, rfl, by show va_P _ _ _ t.heap; rw [ht]; exact hP⟩, hS.F ht⟩) hS.2.2 dX10_chain_12
set_option maxHeartbeats 4000000 in
set_option maxRecDepth 100000 in
theorem mX11_findChain (l : Launch) (dC : Nat → ClassId) (dI : Nat → Nat → Nat) (cI cZ : ClassId) (ad : Nat → Nat) (p1 : Int32) (p2 : Int32) (p3 : Int32) (S : Nat → Nat → Int32) (sz : Nat) {z : (Nat → Nat → Int32)} (h : sX11_findChain p1 p2 p3 S = some z) : Met l yX11_findChain wsX11_findChain ({ frames := 6, cells := 0, slots := 0, locals := 135 }) (va_Pc [.ref (ad 0), .int p1, .int p2, .int p3] (QMs sz dC dI cI cZ ad S)) (va_Qv (fun (u : (Nat → Nat → Int32)) => u = z) (fun (u : (Nat → Nat → Int32)) t => va_P (dC, dI) vwCl (wM cI cZ ad u) t.heap) (AX 7 ad sz)) 0 0 (AX 7 ad sz) := by
  refine Met.ofW (cc := cX11_findChain) (maxL := 9) (ret := none) (by decide) rfl ?_
  intro p e s m args below meth c s₁ B hml hv
  obtain ⟨rfl, hsz, hP, hK, hD0⟩ := hv
  have hx := B.exec
  have hb := B.bytes
  have hr := B.returns
  have hts := atoms_spec (ws := wsX11_findChain) B.pre
  have hown : s.vm.findClass RX11 = some m.cls := findClass_of_methodNamed B.named
  have hlocks := B.notSynchronized
  subst hsz
  have hD := wM_DA hD0 s.heap.size
  have hS : va_S (AX 7 ad s.heap.size) s.heap s.heap [] := va_S.rf
  have hl := lv_entry ([.ref (ad 0), .int p1, .int p2, .int p3]) (n := 9) (Nat.le_of_ble_eq_true rfl)
  rw [lg_entry_eq]
  generalize (lg_sl ([.ref (ad 0), .int p1, .int p2, .int p3]) ++ List.replicate (9 - (lg_sl ([.ref (ad 0), .int p1, .int p2, .int p3])).length) Slot.unset).toArray = ls at hl ⊢
  have hl : lv_has ls 9 [(0, .ref (ad 0)), (1, .int p1), (2, .int p2), (3, .int p3)] := hl
  have hf103 := hts (.fieldLink RX11 103 "LawRingsModel" "links" "I") (by decide +kernel)
  have hiX11 : ∀ w ∈ u_ws RX11 TX11 8, w ∈ wsX11_findChain := by decide +kernel
  have hf20 := hts (.fieldLink RX11 20 "LawRingsModel" "chain" "[I") (by decide +kernel)
  rw [sX11_findChain] at h
  refine lv_iconst (v := 1) hx hb dX11_findChain_0 (by decide) ?_
  refine lv_iload_n hx hb dX11_findChain_1 rfl (lv_at hl 1 rfl) ?_
  refine lv_ishl hx hb dX11_findChain_2 ?_
  obtain ⟨x1, ex1, h⟩ := bnd_elim h
  refine nm_i ex1 ?_
  refine lv_istore (lv' := [(4, .int x1), (0, .ref (ad 0)), (1, .int p1), (2, .int p2), (3, .int p3)]) hx hb dX11_findChain_3 hl (by decide) rfl (fun ls hl => ?_)
  refine lv_iload_n hx hb dX11_findChain_5 rfl (lv_at hl 2 rfl) ?_
  refine lv_istore (lv' := [(5, .int p1), (4, .int x1), (0, .ref (ad 0)), (1, .int p1), (2, .int p2), (3, .int p3)]) hx hb dX11_findChain_6 hl (by decide) rfl (fun ls hl => ?_)
  refine lv_aload_n hx hb dX11_findChain_8 rfl (lv_at hl 2 rfl) ?_
  refine lv_iconst (v := 1) hx hb dX11_findChain_9 (by decide) ?_
  obtain ⟨S2, eS2, h⟩ := bnd_elim h
  refine va_put (D := (dC, dI)) (ci := 11) (v := .int 1) (ty := .int) (C := RX11) (T := TX11) (N := 8) hx hb hts hiX11 tyX11 tyX11_ok nmX11 hown hK hP hD hS 0 rfl rfl 5 (by decide) hf103 (fun _ h9 => h9) rfl (by decide +kernel) rfl rfl (Nat.le_of_ble_eq_true rfl) dX11_findChain_10 (fun H locs hP9 _ hS => ?_)
  have hP := swM_0_5 hP9
  rw [← eS2] at hP
  have hD := wM_D hD S2
  refine lv_aload_n hx hb dX11_findChain_13 rfl (lv_at hl 2 rfl) ?_
  refine va_get (D := (dC, dI)) (ci := 11) (v := .ref (ad 4)) (C := RX11) (T := TX11) (N := 8) hx hb hts hiX11 hown hK hP 0 rfl rfl 4 (by decide) hf20 (fun _ h9 => h9) rfl dX11_findChain_14 ?_
  refine lv_iload_n hx hb dX11_findChain_17 rfl (lv_at hl 5 rfl) ?_
  refine lv_iload_n hx hb dX11_findChain_18 rfl (lv_at hl 3 rfl) ?_
  obtain ⟨b3, h⟩ := ck_elim h
  obtain ⟨S4, eS4, h⟩ := bnd_elim h
  refine va_iast hx hb hK hP hD hS 4 0 rfl rfl b3 dX11_findChain_19 (fun H locs hP9 _ hS => ?_)
  have hP := swM_4 hP9
  rw [← eS4] at hP
  have hD := wM_D hD S4
  refine lv_iconst (v := 1) hx hb dX11_findChain_20 (by decide) ?_
  refine lv_istore (lv' := [(6, .int 1), (5, .int p1), (4, .int x1), (0, .ref (ad 0)), (1, .int p1), (2, .int p2), (3, .int p3)]) hx hb dX11_findChain_21 hl (by decide) rfl (fun ls hl => ?_)
  refine ww_w (fun WW23 hWW23 => ?_)
  have Lh23 : ∀ (n : Nat) (v5 : Int32) (v6 : Int32) (v7 : Int32) (S8 : (Nat → Nat → Int32)) (z : ((Nat → Nat → Int32))), lX11_findChain_23 p2 p3 n v5 v6 v7 S8 = some z → ∀ (H : Heap) (locs : List Loc), va_P (dC, dI) vwCl (wM cI cZ ad S8) H → va_S (AX 7 ad s.heap.size) s.heap H locs → ∀ ls : Array Slot, lv_has ls 9 [(0, .ref (ad 0)), (2, .int p2), (3, .int p3), (4, .int v5), (5, .int v6), (6, .int v7)] → (∀ (YS : (Nat → Nat → Int32)), z = YS → ∀ (H : Heap) (locs : List Loc), va_P (dC, dI) vwCl (wM cI cZ ad YS) H → va_S (AX 7 ad s.heap.size) s.heap H locs → ∀ ls : Array Slot, lv_has ls 9 [] → WW23 H locs 131 ls) → WW23 H locs 23 ls := by
    intro n
    induction n with
    | zero => intro v5 v6 v7 S8 z h H locs hP hS ls hl K0; rw [lX11_findChain_23] at h; cases h
    | succ n ih =>
      intro v5 v6 v7 S8 z h H locs hP hS ls hl K0
      have hD := wM_D hD S8
      rw [lX11_findChain_23] at h
      refine wi_w hWW23 ?_
      refine lv_iload hx hb dX11_findChain_23 (lv_at hl 5 rfl) ?_
      refine lv_if_eq (tgt := 131) hx hb dX11_findChain_25 (by decide) (fun c9 => ?_) (fun c9 => ?_)
      · replace h := it_t c9 h
        refine wu_w hWW23 ?_
        exact K0 S8 (Option.some.inj h).symm H locs hP hS ls (lv_sub hl [] rfl)
      · replace h := it_f c9 h
        refine lv_aload_n hx hb dX11_findChain_28 rfl (lv_at hl 0 rfl) ?_
        refine lv_iload hx hb dX11_findChain_29 (lv_at hl 4 rfl) ?_
        refine lv_iload_n hx hb dX11_findChain_31 rfl (lv_at hl 1 rfl) ?_
        obtain ⟨r11, k10, h⟩ := ob_elim h
        refine vp_callSi (W.runV (As := [.int v6, .int p2]) (rest := []) ⟨hx, hb, hml, hown, hts⟩ (mX11_saying l dC dI cI cZ ad v6 p2 S8 k10) (cwV 2 hts gX11_findChain_X11_saying rfl rfl rfl (by decide +kernel) ⟨Nat.le_of_ble_eq_true rfl, Nat.le_of_ble_eq_true rfl⟩) ⟨QM_blind, va_recv hK hP (ci := 11) (q0 := 0) rfl rfl, fun U hU hW => ⟨rfl, QM_at hP hK hD hU hW⟩⟩ rfl rfl hl.1 rfl (lv_room (Nat.le_of_ble_eq_true rfl)) dX11_findChain_32 ⟨Nat.zero_le _, Nat.zero_le _⟩) (fun r9 er9 => ?_)
        replace er9 := er9.symm
        subst er9
        refine lv_istore (lv' := [(7, .int r11), (0, .ref (ad 0)), (2, .int p2), (3, .int p3), (4, .int v5), (5, .int v6), (6, .int v7)]) hx hb dX11_findChain_35 hl (by decide) rfl (fun ls hl => ?_)
        refine lv_iload hx hb dX11_findChain_37 (lv_at hl 0 rfl) ?_
        refine lv_bipush (v := 10) hx hb dX11_findChain_39 (by decide) ?_
        refine lv_irem hx hb dX11_findChain_41 (by decide) ?_
        refine nm_i (x := irm r11 10) rfl ?_
        obtain ⟨x12, ex12, h⟩ := bnd_elim h
        refine nm_i ex12 ?_
        refine lv_istore (lv' := [(8, .int x12), (7, .int r11), (0, .ref (ad 0)), (2, .int p2), (3, .int p3), (4, .int v5), (5, .int v6), (6, .int v7)]) hx hb dX11_findChain_42 hl (by decide) rfl (fun ls hl => ?_)
        refine lv_iload hx hb dX11_findChain_44 (lv_at hl 1 rfl) ?_
        refine lv_bipush (v := 10) hx hb dX11_findChain_46 (by decide) ?_
        refine lv_icmp_lt (tgt := 65) hx hb dX11_findChain_48 (by decide) (fun c13 => ?_) (fun c13 => ?_)
        · replace h := it_t c13 h
          refine lv_iconst (v := 0) hx hb dX11_findChain_65 (by decide) ?_
          refine lv_istore (lv' := [(6, .int 0), (8, .int x12), (7, .int r11), (0, .ref (ad 0)), (2, .int p2), (3, .int p3), (4, .int v5), (5, .int v6)]) hx hb dX11_findChain_66 hl (by decide) rfl (fun ls hl => ?_)
          refine lv_iload hx hb dX11_findChain_68 (lv_at hl 0 rfl) ?_
          refine lv_if_eq (tgt := 112) hx hb dX11_findChain_70 (by decide) (fun c14 => ?_) (fun c14 => absurd c14 (by decide))
          refine lv_aload_n hx hb dX11_findChain_112 rfl (lv_at hl 3 rfl) ?_
          refine va_get (D := (dC, dI)) (ci := 11) (v := .ref (ad 4)) (C := RX11) (T := TX11) (N := 8) hx hb hts hiX11 hown hK hP 0 rfl rfl 4 (by decide) hf20 (fun _ h9 => h9) rfl dX11_findChain_113 ?_
          refine lv_iload_n hx hb dX11_findChain_116 rfl (lv_at hl 5 rfl) ?_
          refine lv_aload_n hx hb dX11_findChain_117 rfl (lv_at hl 3 rfl) ?_
          refine va_get (D := (dC, dI)) (ci := 11) (v := .int (S8 0 5)) (C := RX11) (T := TX11) (N := 8) hx hb hts hiX11 hown hK hP 0 rfl rfl 5 (by decide) hf103 (fun _ h9 => h9) rfl dX11_findChain_118 ?_
          refine lv_iadd hx hb dX11_findChain_121 ?_
          refine lv_bipush (v := 100) hx hb dX11_findChain_122 (by decide) ?_
          refine lv_iload hx hb dX11_findChain_124 (lv_at hl 2 rfl) ?_
          refine lv_iadd hx hb dX11_findChain_126 ?_
          obtain ⟨b15, h⟩ := ck_elim h
          obtain ⟨S16, eS16, h⟩ := bnd_elim h
          refine va_iast hx hb hK hP hD hS 4 0 rfl rfl b15 dX11_findChain_127 (fun H locs hP9 _ hS => ?_)
          have hP := swM_4 hP9
          rw [← eS16] at hP
          have hD := wM_D hD S16
          refine lv_goto (tgt := 23) hx hb dX11_findChain_128 (by decide) ?_
          refine wu_w hWW23 ?_
          exact ih v5 v6 0 S16 z h H locs hP hS ls (lv_sub hl [3, 4, 5, 6, 7, 0] rfl) K0
        · replace h := it_f c13 h
          refine lv_iload hx hb dX11_findChain_51 (lv_at hl 5 rfl) ?_
          refine lv_iload hx hb dX11_findChain_53 (lv_at hl 0 rfl) ?_
          refine lv_ishr hx hb dX11_findChain_55 ?_
          refine lv_iconst (v := 1) hx hb dX11_findChain_56 (by decide) ?_
          refine lv_iand hx hb dX11_findChain_57 ?_
          refine lv_if_ne (tgt := 65) hx hb dX11_findChain_58 (by decide) (fun c17 => ?_) (fun c17 => ?_)
          · replace h := it_f c17 h
            refine lv_iconst (v := 0) hx hb dX11_findChain_65 (by decide) ?_
            refine lv_istore (lv' := [(6, .int 0), (8, .int x12), (7, .int r11), (0, .ref (ad 0)), (2, .int p2), (3, .int p3), (4, .int v5), (5, .int v6)]) hx hb dX11_findChain_66 hl (by decide) rfl (fun ls hl => ?_)
            refine lv_iload hx hb dX11_findChain_68 (lv_at hl 0 rfl) ?_
            refine lv_if_eq (tgt := 112) hx hb dX11_findChain_70 (by decide) (fun c18 => ?_) (fun c18 => absurd c18 (by decide))
            refine lv_aload_n hx hb dX11_findChain_112 rfl (lv_at hl 3 rfl) ?_
            refine va_get (D := (dC, dI)) (ci := 11) (v := .ref (ad 4)) (C := RX11) (T := TX11) (N := 8) hx hb hts hiX11 hown hK hP 0 rfl rfl 4 (by decide) hf20 (fun _ h9 => h9) rfl dX11_findChain_113 ?_
            refine lv_iload_n hx hb dX11_findChain_116 rfl (lv_at hl 5 rfl) ?_
            refine lv_aload_n hx hb dX11_findChain_117 rfl (lv_at hl 3 rfl) ?_
            refine va_get (D := (dC, dI)) (ci := 11) (v := .int (S8 0 5)) (C := RX11) (T := TX11) (N := 8) hx hb hts hiX11 hown hK hP 0 rfl rfl 5 (by decide) hf103 (fun _ h9 => h9) rfl dX11_findChain_118 ?_
            refine lv_iadd hx hb dX11_findChain_121 ?_
            refine lv_bipush (v := 100) hx hb dX11_findChain_122 (by decide) ?_
            refine lv_iload hx hb dX11_findChain_124 (lv_at hl 2 rfl) ?_
            refine lv_iadd hx hb dX11_findChain_126 ?_
            obtain ⟨b19, h⟩ := ck_elim h
            obtain ⟨S20, eS20, h⟩ := bnd_elim h
            refine va_iast hx hb hK hP hD hS 4 0 rfl rfl b19 dX11_findChain_127 (fun H locs hP9 _ hS => ?_)
            have hP := swM_4 hP9
            rw [← eS20] at hP
            have hD := wM_D hD S20
            refine lv_goto (tgt := 23) hx hb dX11_findChain_128 (by decide) ?_
            refine wu_w hWW23 ?_
            exact ih v5 v6 0 S20 z h H locs hP hS ls (lv_sub hl [3, 4, 5, 6, 7, 0] rfl) K0
          · replace h := it_t c17 h
            refine lv_iconst (v := 1) hx hb dX11_findChain_61 (by decide) ?_
            refine lv_goto (tgt := 66) hx hb dX11_findChain_62 (by decide) ?_
            refine lv_istore (lv' := [(6, .int 1), (8, .int x12), (7, .int r11), (0, .ref (ad 0)), (2, .int p2), (3, .int p3), (4, .int v5), (5, .int v6)]) hx hb dX11_findChain_66 hl (by decide) rfl (fun ls hl => ?_)
            refine lv_iload hx hb dX11_findChain_68 (lv_at hl 0 rfl) ?_
            refine lv_if_eq (tgt := 112) hx hb dX11_findChain_70 (by decide) (fun c21 => absurd c21 (by decide)) (fun c21 => ?_)
            refine lv_aload_n hx hb dX11_findChain_73 rfl (lv_at hl 3 rfl) ?_
            refine va_get (D := (dC, dI)) (ci := 11) (v := .ref (ad 4)) (C := RX11) (T := TX11) (N := 8) hx hb hts hiX11 hown hK hP 0 rfl rfl 4 (by decide) hf20 (fun _ h9 => h9) rfl dX11_findChain_74 ?_
            refine lv_iload_n hx hb dX11_findChain_77 rfl (lv_at hl 5 rfl) ?_
            refine lv_aload_n hx hb dX11_findChain_78 rfl (lv_at hl 3 rfl) ?_
            refine va_get (D := (dC, dI)) (ci := 11) (v := .int (S8 0 5)) (C := RX11) (T := TX11) (N := 8) hx hb hts hiX11 hown hK hP 0 rfl rfl 5 (by decide) hf103 (fun _ h9 => h9) rfl dX11_findChain_79 ?_
            refine lv_iadd hx hb dX11_findChain_82 ?_
            refine lv_iload hx hb dX11_findChain_83 (lv_at hl 1 rfl) ?_
            obtain ⟨b22, h⟩ := ck_elim h
            obtain ⟨S23, eS23, h⟩ := bnd_elim h
            refine va_iast hx hb hK hP hD hS 4 0 rfl rfl b22 dX11_findChain_85 (fun H locs hP9 _ hS => ?_)
            have hP := swM_4 hP9
            rw [← eS23] at hP
            have hD := wM_D hD S23
            refine lv_aload_n hx hb dX11_findChain_86 rfl (lv_at hl 3 rfl) ?_
            refine lv_dup hx hb dX11_findChain_87 rfl ?_
            refine va_get (D := (dC, dI)) (ci := 11) (v := .int (S23 0 5)) (C := RX11) (T := TX11) (N := 8) hx hb hts hiX11 hown hK hP 0 rfl rfl 5 (by decide) hf103 (fun _ h9 => h9) rfl dX11_findChain_88 ?_
            refine lv_iconst (v := 1) hx hb dX11_findChain_91 (by decide) ?_
            refine lv_iadd hx hb dX11_findChain_92 ?_
            obtain ⟨S24, eS24, h⟩ := bnd_elim h
            refine va_put (D := (dC, dI)) (ci := 11) (v := .int ((S23 0 5) + 1)) (ty := .int) (C := RX11) (T := TX11) (N := 8) hx hb hts hiX11 tyX11 tyX11_ok nmX11 hown hK hP hD hS 0 rfl rfl 5 (by decide) hf103 (fun _ h9 => h9) rfl (by decide +kernel) rfl rfl (Nat.le_of_ble_eq_true rfl) dX11_findChain_93 (fun H locs hP9 _ hS => ?_)
            have hP := swM_0_5 hP9
            rw [← eS24] at hP
            have hD := wM_D hD S24
            refine lv_iload hx hb dX11_findChain_96 (lv_at hl 6 rfl) ?_
            refine lv_iconst (v := 1) hx hb dX11_findChain_98 (by decide) ?_
            refine lv_iload hx hb dX11_findChain_99 (lv_at hl 1 rfl) ?_
            refine lv_ishl hx hb dX11_findChain_101 ?_
            refine lv_ior hx hb dX11_findChain_102 ?_
            obtain ⟨x25, ex25, h⟩ := bnd_elim h
            refine nm_i ex25 ?_
            refine lv_istore (lv' := [(4, .int x25), (6, .int 1), (8, .int x12), (7, .int r11), (0, .ref (ad 0)), (2, .int p2), (3, .int p3), (5, .int v6)]) hx hb dX11_findChain_103 hl (by decide) rfl (fun ls hl => ?_)
            refine lv_iload hx hb dX11_findChain_105 (lv_at hl 2 rfl) ?_
            refine lv_istore (lv' := [(5, .int x12), (4, .int x25), (6, .int 1), (8, .int x12), (7, .int r11), (0, .ref (ad 0)), (2, .int p2), (3, .int p3)]) hx hb dX11_findChain_107 hl (by decide) rfl (fun ls hl => ?_)
            refine lv_goto (tgt := 128) hx hb dX11_findChain_109 (by decide) ?_
            refine lv_goto (tgt := 23) hx hb dX11_findChain_128 (by decide) ?_
            refine wu_w hWW23 ?_
            exact ih x25 x12 1 S24 z h H locs hP hS ls (lv_sub hl [5, 6, 7, 1, 0, 2] rfl) K0
  obtain ⟨S27, k26, h⟩ := ob_elim h
  refine wu_w hWW23 ?_
  refine Lh23 FU x1 p1 1 S4 _ k26 H locs hP hS ls (lv_sub hl [3, 5, 6, 2, 1, 0] rfl) ?_
  intro y0 hy H locs hP hS ls hl
  cases hy
  have hD := wM_D hD S27
  refine wi_w hWW23 ?_
  cases h
  exact W.vret hx hb hr (fun t ht hW => ⟨⟨_, rfl, rfl, by show va_P _ _ _ t.heap; rw [ht]; exact hP⟩, hS.F ht⟩) hS.2.2 dX11_findChain_131
set_option maxHeartbeats 4000000 in
set_option maxRecDepth 100000 in
theorem mX11_chain (l : Launch) (dC : Nat → ClassId) (dI : Nat → Nat → Nat) (cI cZ : ClassId) (ad : Nat → Nat) (p1 : Int32) (p2 : Int32) (p3 : Int32) (p4 : Int32) (S : Nat → Nat → Int32) (sz : Nat) {z : Int32 × (Nat → Nat → Int32)} (h : sX11_chain p1 p2 p3 p4 S = some z) : Met l yX11_chain wsX11_chain ({ frames := 7, cells := 0, slots := 0, locals := 163 }) (va_Pc [.ref (ad 0), .int p1, .int p2, .int p3, .int p4] (QMs sz dC dI cI cZ ad S)) (va_Qi (fun (r : Int32) (u : (Nat → Nat → Int32)) => (r, u) = z) (fun (u : (Nat → Nat → Int32)) t => va_P (dC, dI) vwCl (wM cI cZ ad u) t.heap) (AX 7 ad sz)) 0 0 (AX 7 ad sz) := by
  refine Met.ofW (cc := cX11_chain) (maxL := 5) (ret := (some .int)) (by decide) rfl ?_
  intro p e s m args below meth c s₁ B hml hv
  obtain ⟨rfl, hsz, hP, hK, hD0⟩ := hv
  have hx := B.exec
  have hb := B.bytes
  have hr := B.returns
  have hts := atoms_spec (ws := wsX11_chain) B.pre
  have hown : s.vm.findClass RX11 = some m.cls := findClass_of_methodNamed B.named
  have hlocks := B.notSynchronized
  subst hsz
  have hD := wM_DA hD0 s.heap.size
  have hS : va_S (AX 7 ad s.heap.size) s.heap s.heap [] := va_S.rf
  have hl := lv_entry ([.ref (ad 0), .int p1, .int p2, .int p3, .int p4]) (n := 5) (Nat.le_of_ble_eq_true rfl)
  rw [lg_entry_eq]
  generalize (lg_sl ([.ref (ad 0), .int p1, .int p2, .int p3, .int p4]) ++ List.replicate (5 - (lg_sl ([.ref (ad 0), .int p1, .int p2, .int p3, .int p4])).length) Slot.unset).toArray = ls at hl ⊢
  have hl : lv_has ls 5 [(0, .ref (ad 0)), (1, .int p1), (2, .int p2), (3, .int p3), (4, .int p4)] := hl
  have hf103 := hts (.fieldLink RX11 103 "LawRingsModel" "links" "I") (by decide +kernel)
  have hiX11 : ∀ w ∈ u_ws RX11 TX11 8, w ∈ wsX11_chain := by decide +kernel
  have hf20 := hts (.fieldLink RX11 20 "LawRingsModel" "chain" "[I") (by decide +kernel)
  rw [sX11_chain] at h
  refine lv_aload_n hx hb dX11_chain_0 rfl (lv_at hl 0 rfl) ?_
  refine lv_iload_n hx hb dX11_chain_1 rfl (lv_at hl 1 rfl) ?_
  refine lv_iload_n hx hb dX11_chain_2 rfl (lv_at hl 2 rfl) ?_
  refine lv_iload_n hx hb dX11_chain_3 rfl (lv_at hl 3 rfl) ?_
  obtain ⟨r2, k1, h⟩ := ob_elim h
  refine vp_callSi (W.runV (As := [.int p1, .int p2, .int p3]) (rest := []) ⟨hx, hb, hml, hown, hts⟩ (mX11_isAsked l dC dI cI cZ ad p1 p2 p3 S k1) (cwV 3 hts gX11_chain_X11_isAsked rfl rfl rfl (by decide +kernel) ⟨Nat.le_of_ble_eq_true rfl, Nat.le_of_ble_eq_true rfl⟩) ⟨QM_blind, va_recv hK hP (ci := 11) (q0 := 0) rfl rfl, fun U hU hW => ⟨rfl, QM_at hP hK hD hU hW⟩⟩ rfl rfl hl.1 rfl (lv_room (Nat.le_of_ble_eq_true rfl)) dX11_chain_4 ⟨Nat.zero_le _, Nat.zero_le _⟩) (fun r9 er9 => ?_)
  replace er9 := er9.symm
  subst er9
  refine lv_if_eq (tgt := 23) hx hb dX11_chain_7 (by decide) (fun c3 => ?_) (fun c3 => ?_)
  · replace h := it_t c3 h
    refine lv_bipush (v := (-10)) hx hb dX11_chain_23 (by decide) ?_
    cases h
    exact W.iret hx hb hr (fun t ht hW => ⟨⟨_, _, rfl, rfl, by show va_P _ _ _ t.heap; rw [ht]; exact hP⟩, hS.F ht⟩) hS.2.2 dX11_chain_25
  · replace h := it_f c3 h
    refine lv_iload hx hb dX11_chain_10 (lv_at hl 4 rfl) ?_
    refine lv_iconst (v := (-1)) hx hb dX11_chain_12 (by decide) ?_
    refine lv_icmp_ge (tgt := 26) hx hb dX11_chain_13 (by decide) (fun c4 => ?_) (fun c4 => ?_)
    · replace h := it_t c4 h
      refine lv_aload_n hx hb dX11_chain_26 rfl (lv_at hl 0 rfl) ?_
      refine lv_iload_n hx hb dX11_chain_27 rfl (lv_at hl 2 rfl) ?_
      obtain ⟨S6, k5, h⟩ := ob_elim h
      refine va_callv (va_runV (As := [.int p2]) (rest := []) ⟨hx, hb, hml, hown, hts⟩ (mX11_looksAt l dC dI cI cZ ad p2 S s.heap.size k5) (cwV 1 hts gX11_chain_X11_looksAt rfl rfl rfl (by decide +kernel) ⟨Nat.le_of_ble_eq_true rfl, Nat.le_of_ble_eq_true rfl⟩) ⟨QMs_blind, va_recv hK hP (ci := 11) (q0 := 0) rfl rfl, fun U hU hW => ⟨rfl, congrArg Array.size hU, QM_at hP hK hD hU hW⟩⟩ rfl rfl hl.1 rfl (lv_room (Nat.le_of_ble_eq_true rfl)) dX11_chain_28 ⟨Nat.zero_le _, Nat.zero_le _⟩) hS (fun q _ hq => AX_mono hS.1 hq) (fun q hq => AX_mono hS.1 hq) (fun u t H1 locs ht hvm hw hB hz1 hk1 hS => ?_)
      cases hw
      rw [ht] at hB
      have hP := hB
      clear hB hk1 hz1
      generalize H1 = H at hP hS ⊢
      have hD := wM_D hD S6
      refine lv_aload_n hx hb dX11_chain_31 rfl (lv_at hl 0 rfl) ?_
      refine lv_iload_n hx hb dX11_chain_32 rfl (lv_at hl 1 rfl) ?_
      refine lv_iload_n hx hb dX11_chain_33 rfl (lv_at hl 3 rfl) ?_
      refine lv_iconst (v := 0) hx hb dX11_chain_34 (by decide) ?_
      obtain ⟨S8, k7, h⟩ := ob_elim h
      refine va_callv (va_runV (As := [.int p1, .int p3, .int 0]) (rest := []) ⟨hx, hb, hml, hown, hts⟩ (mX11_findChain l dC dI cI cZ ad p1 p3 0 S6 H.size k7) (cwV 3 hts gX11_chain_X11_findChain rfl rfl rfl (by decide +kernel) ⟨Nat.le_of_ble_eq_true rfl, Nat.le_of_ble_eq_true rfl⟩) ⟨QMs_blind, va_recv hK hP (ci := 11) (q0 := 0) rfl rfl, fun U hU hW => ⟨rfl, congrArg Array.size hU, QM_at hP hK hD hU hW⟩⟩ rfl rfl hl.1 rfl (lv_room (Nat.le_of_ble_eq_true rfl)) dX11_chain_35 ⟨Nat.zero_le _, Nat.zero_le _⟩) hS (fun q _ hq => AX_mono hS.1 hq) (fun q hq => AX_mono hS.1 hq) (fun u t H1 locs ht hvm hw hB hz1 hk1 hS => ?_)
      cases hw
      rw [ht] at hB
      have hP := hB
      clear hB hk1 hz1
      generalize H1 = H at hP hS ⊢
      have hD := wM_D hD S8
      refine lv_iload hx hb dX11_chain_38 (lv_at hl 4 rfl) ?_
      refine lv_if_ge (tgt := 69) hx hb dX11_chain_40 (by decide) (fun c9 => ?_) (fun c9 => ?_)
      · replace h := it_t c9 h
        refine lv_iload hx hb dX11_chain_69 (lv_at hl 4 rfl) ?_
        refine lv_aload_n hx hb dX11_chain_71 rfl (lv_at hl 0 rfl) ?_
        refine va_get (D := (dC, dI)) (ci := 11) (v := .int (S8 0 5)) (C := RX11) (T := TX11) (N := 8) hx hb hts hiX11 hown hK hP 0 rfl rfl 5 (by decide) hf103 (fun _ h9 => h9) rfl dX11_chain_72 ?_
        refine lv_icmp_ge (tgt := 88) hx hb dX11_chain_75 (by decide) (fun c10 => ?_) (fun c10 => ?_)
        · replace h := it_t c10 h
          refine lv_bipush (v := (-5)) hx hb dX11_chain_88 (by decide) ?_
          cases h
          exact W.iret hx hb hr (fun t ht hW => ⟨⟨_, _, rfl, rfl, by show va_P _ _ _ t.heap; rw [ht]; exact hP⟩, hS.F ht⟩) hS.2.2 dX11_chain_90
        · replace h := it_f c10 h
          refine lv_aload_n hx hb dX11_chain_78 rfl (lv_at hl 0 rfl) ?_
          refine va_get (D := (dC, dI)) (ci := 11) (v := .ref (ad 4)) (C := RX11) (T := TX11) (N := 8) hx hb hts hiX11 hown hK hP 0 rfl rfl 4 (by decide) hf20 (fun _ h9 => h9) rfl dX11_chain_79 ?_
          refine lv_iload hx hb dX11_chain_82 (lv_at hl 4 rfl) ?_
          obtain ⟨b11, h⟩ := ck_elim h
          refine va_iald hx hb hK hP 4 0 rfl rfl b11 dX11_chain_84 ?_
          refine lv_goto (tgt := 90) hx hb dX11_chain_85 (by decide) ?_
          cases h
          exact W.iret hx hb hr (fun t ht hW => ⟨⟨_, _, rfl, rfl, by show va_P _ _ _ t.heap; rw [ht]; exact hP⟩, hS.F ht⟩) hS.2.2 dX11_chain_90
      · replace h := it_f c9 h
        refine lv_iload hx hb dX11_chain_43 (lv_at hl 4 rfl) ?_
        refine lv_iconst (v := (-1)) hx hb dX11_chain_45 (by decide) ?_
        refine lv_icmp_ne (tgt := 56) hx hb dX11_chain_46 (by decide) (fun c12 => ?_) (fun c12 => ?_)
        · replace h := it_f c12 h
          refine lv_aload_n hx hb dX11_chain_56 rfl (lv_at hl 0 rfl) ?_
          refine va_get (D := (dC, dI)) (ci := 11) (v := .ref (ad 4)) (C := RX11) (T := TX11) (N := 8) hx hb hts hiX11 hown hK hP 0 rfl rfl 4 (by decide) hf20 (fun _ h9 => h9) rfl dX11_chain_57 ?_
          refine lv_aload_n hx hb dX11_chain_60 rfl (lv_at hl 0 rfl) ?_
          refine va_get (D := (dC, dI)) (ci := 11) (v := .int (S8 0 5)) (C := RX11) (T := TX11) (N := 8) hx hb hts hiX11 hown hK hP 0 rfl rfl 5 (by decide) hf103 (fun _ h9 => h9) rfl dX11_chain_61 ?_
          obtain ⟨b13, h⟩ := ck_elim h
          refine va_iald hx hb hK hP 4 0 rfl rfl b13 dX11_chain_64 ?_
          refine lv_bipush (v := 100) hx hb dX11_chain_65 (by decide) ?_
          refine lv_isub hx hb dX11_chain_67 ?_
          cases h
          exact W.iret hx hb hr (fun t ht hW => ⟨⟨_, _, rfl, rfl, by show va_P _ _ _ t.heap; rw [ht]; exact hP⟩, hS.F ht⟩) hS.2.2 dX11_chain_68
        · replace h := it_t c12 h
          refine lv_aload_n hx hb dX11_chain_49 rfl (lv_at hl 0 rfl) ?_
          refine va_get (D := (dC, dI)) (ci := 11) (v := .int (S8 0 5)) (C := RX11) (T := TX11) (N := 8) hx hb hts hiX11 hown hK hP 0 rfl rfl 5 (by decide) hf103 (fun _ h9 => h9) rfl dX11_chain_50 ?_
          refine lv_goto (tgt := 68) hx hb dX11_chain_53 (by decide) ?_
          cases h
          exact W.iret hx hb hr (fun t ht hW => ⟨⟨_, _, rfl, rfl, by show va_P _ _ _ t.heap; rw [ht]; exact hP⟩, hS.F ht⟩) hS.2.2 dX11_chain_68
    · replace h := it_f c4 h
      refine lv_iload hx hb dX11_chain_16 (lv_at hl 4 rfl) ?_
      refine lv_bipush (v := (-3)) hx hb dX11_chain_18 (by decide) ?_
      refine lv_icmp_eq (tgt := 26) hx hb dX11_chain_20 (by decide) (fun c14 => ?_) (fun c14 => ?_)
      · replace h := it_t c14 h
        refine lv_aload_n hx hb dX11_chain_26 rfl (lv_at hl 0 rfl) ?_
        refine lv_iload_n hx hb dX11_chain_27 rfl (lv_at hl 2 rfl) ?_
        obtain ⟨S16, k15, h⟩ := ob_elim h
        refine va_callv (va_runV (As := [.int p2]) (rest := []) ⟨hx, hb, hml, hown, hts⟩ (mX11_looksAt l dC dI cI cZ ad p2 S s.heap.size k15) (cwV 1 hts gX11_chain_X11_looksAt rfl rfl rfl (by decide +kernel) ⟨Nat.le_of_ble_eq_true rfl, Nat.le_of_ble_eq_true rfl⟩) ⟨QMs_blind, va_recv hK hP (ci := 11) (q0 := 0) rfl rfl, fun U hU hW => ⟨rfl, congrArg Array.size hU, QM_at hP hK hD hU hW⟩⟩ rfl rfl hl.1 rfl (lv_room (Nat.le_of_ble_eq_true rfl)) dX11_chain_28 ⟨Nat.zero_le _, Nat.zero_le _⟩) hS (fun q _ hq => AX_mono hS.1 hq) (fun q hq => AX_mono hS.1 hq) (fun u t H1 locs ht hvm hw hB hz1 hk1 hS => ?_)
        cases hw
        rw [ht] at hB
        have hP := hB
        clear hB hk1 hz1
        generalize H1 = H at hP hS ⊢
        have hD := wM_D hD S16
        refine lv_aload_n hx hb dX11_chain_31 rfl (lv_at hl 0 rfl) ?_
        refine lv_iload_n hx hb dX11_chain_32 rfl (lv_at hl 1 rfl) ?_
        refine lv_iload_n hx hb dX11_chain_33 rfl (lv_at hl 3 rfl) ?_
        refine lv_iconst (v := 0) hx hb dX11_chain_34 (by decide) ?_
        obtain ⟨S18, k17, h⟩ := ob_elim h
        refine va_callv (va_runV (As := [.int p1, .int p3, .int 0]) (rest := []) ⟨hx, hb, hml, hown, hts⟩ (mX11_findChain l dC dI cI cZ ad p1 p3 0 S16 H.size k17) (cwV 3 hts gX11_chain_X11_findChain rfl rfl rfl (by decide +kernel) ⟨Nat.le_of_ble_eq_true rfl, Nat.le_of_ble_eq_true rfl⟩) ⟨QMs_blind, va_recv hK hP (ci := 11) (q0 := 0) rfl rfl, fun U hU hW => ⟨rfl, congrArg Array.size hU, QM_at hP hK hD hU hW⟩⟩ rfl rfl hl.1 rfl (lv_room (Nat.le_of_ble_eq_true rfl)) dX11_chain_35 ⟨Nat.zero_le _, Nat.zero_le _⟩) hS (fun q _ hq => AX_mono hS.1 hq) (fun q hq => AX_mono hS.1 hq) (fun u t H1 locs ht hvm hw hB hz1 hk1 hS => ?_)
        cases hw
        rw [ht] at hB
        have hP := hB
        clear hB hk1 hz1
        generalize H1 = H at hP hS ⊢
        have hD := wM_D hD S18
        refine lv_iload hx hb dX11_chain_38 (lv_at hl 4 rfl) ?_
        refine lv_if_ge (tgt := 69) hx hb dX11_chain_40 (by decide) (fun c19 => ?_) (fun c19 => ?_)
        · replace h := it_t c19 h
          refine lv_iload hx hb dX11_chain_69 (lv_at hl 4 rfl) ?_
          refine lv_aload_n hx hb dX11_chain_71 rfl (lv_at hl 0 rfl) ?_
          refine va_get (D := (dC, dI)) (ci := 11) (v := .int (S18 0 5)) (C := RX11) (T := TX11) (N := 8) hx hb hts hiX11 hown hK hP 0 rfl rfl 5 (by decide) hf103 (fun _ h9 => h9) rfl dX11_chain_72 ?_
          refine lv_icmp_ge (tgt := 88) hx hb dX11_chain_75 (by decide) (fun c20 => ?_) (fun c20 => ?_)
          · replace h := it_t c20 h
            refine lv_bipush (v := (-5)) hx hb dX11_chain_88 (by decide) ?_
            cases h
            exact W.iret hx hb hr (fun t ht hW => ⟨⟨_, _, rfl, rfl, by show va_P _ _ _ t.heap; rw [ht]; exact hP⟩, hS.F ht⟩) hS.2.2 dX11_chain_90
          · replace h := it_f c20 h
            refine lv_aload_n hx hb dX11_chain_78 rfl (lv_at hl 0 rfl) ?_
            refine va_get (D := (dC, dI)) (ci := 11) (v := .ref (ad 4)) (C := RX11) (T := TX11) (N := 8) hx hb hts hiX11 hown hK hP 0 rfl rfl 4 (by decide) hf20 (fun _ h9 => h9) rfl dX11_chain_79 ?_
            refine lv_iload hx hb dX11_chain_82 (lv_at hl 4 rfl) ?_
            obtain ⟨b21, h⟩ := ck_elim h
            refine va_iald hx hb hK hP 4 0 rfl rfl b21 dX11_chain_84 ?_
            refine lv_goto (tgt := 90) hx hb dX11_chain_85 (by decide) ?_
            cases h
            exact W.iret hx hb hr (fun t ht hW => ⟨⟨_, _, rfl, rfl, by show va_P _ _ _ t.heap; rw [ht]; exact hP⟩, hS.F ht⟩) hS.2.2 dX11_chain_90
        · replace h := it_f c19 h
          refine lv_iload hx hb dX11_chain_43 (lv_at hl 4 rfl) ?_
          refine lv_iconst (v := (-1)) hx hb dX11_chain_45 (by decide) ?_
          refine lv_icmp_ne (tgt := 56) hx hb dX11_chain_46 (by decide) (fun c22 => ?_) (fun c22 => ?_)
          · replace h := it_f c22 h
            refine lv_aload_n hx hb dX11_chain_56 rfl (lv_at hl 0 rfl) ?_
            refine va_get (D := (dC, dI)) (ci := 11) (v := .ref (ad 4)) (C := RX11) (T := TX11) (N := 8) hx hb hts hiX11 hown hK hP 0 rfl rfl 4 (by decide) hf20 (fun _ h9 => h9) rfl dX11_chain_57 ?_
            refine lv_aload_n hx hb dX11_chain_60 rfl (lv_at hl 0 rfl) ?_
            refine va_get (D := (dC, dI)) (ci := 11) (v := .int (S18 0 5)) (C := RX11) (T := TX11) (N := 8) hx hb hts hiX11 hown hK hP 0 rfl rfl 5 (by decide) hf103 (fun _ h9 => h9) rfl dX11_chain_61 ?_
            obtain ⟨b23, h⟩ := ck_elim h
            refine va_iald hx hb hK hP 4 0 rfl rfl b23 dX11_chain_64 ?_
            refine lv_bipush (v := 100) hx hb dX11_chain_65 (by decide) ?_
            refine lv_isub hx hb dX11_chain_67 ?_
            cases h
            exact W.iret hx hb hr (fun t ht hW => ⟨⟨_, _, rfl, rfl, by show va_P _ _ _ t.heap; rw [ht]; exact hP⟩, hS.F ht⟩) hS.2.2 dX11_chain_68
          · replace h := it_t c22 h
            refine lv_aload_n hx hb dX11_chain_49 rfl (lv_at hl 0 rfl) ?_
            refine va_get (D := (dC, dI)) (ci := 11) (v := .int (S18 0 5)) (C := RX11) (T := TX11) (N := 8) hx hb hts hiX11 hown hK hP 0 rfl rfl 5 (by decide) hf103 (fun _ h9 => h9) rfl dX11_chain_50 ?_
            refine lv_goto (tgt := 68) hx hb dX11_chain_53 (by decide) ?_
            cases h
            exact W.iret hx hb hr (fun t ht hW => ⟨⟨_, _, rfl, rfl, by show va_P _ _ _ t.heap; rw [ht]; exact hP⟩, hS.F ht⟩) hS.2.2 dX11_chain_68
      · replace h := it_f c14 h
        refine lv_bipush (v := (-10)) hx hb dX11_chain_23 (by decide) ?_
        cases h
        exact W.iret hx hb hr (fun t ht hW => ⟨⟨_, _, rfl, rfl, by show va_P _ _ _ t.heap; rw [ht]; exact hP⟩, hS.F ht⟩) hS.2.2 dX11_chain_25
set_option maxHeartbeats 4000000 in
set_option maxRecDepth 100000 in
theorem mX10_isOther (l : Launch) (p0 : Int32) (p1 : Int32) {z : Int32} (h : sX10_isOther p0 p1 = some z) : Met l yX10_isOther wsX10_isOther ({ frames := 2, cells := 0, slots := 0, locals := 41 }) (va_Pc [.int p0, .int p1] (fun _ => True)) (vp_Si (fun r => r = z)) 0 0 (fun _ => False) := by
  refine Met.ofW (cc := cX10_isOther) (maxL := 2) (ret := (some .boolean)) (by decide) rfl ?_
  intro p e s m args below meth c s₁ B hml hv
  obtain ⟨rfl, -⟩ := hv
  have hx := B.exec
  have hb := B.bytes
  have hr := B.returns
  have hts := atoms_spec (ws := wsX10_isOther) B.pre
  have hown : s.vm.findClass RX10 = some m.cls := findClass_of_methodNamed B.named
  have hlocks := B.notSynchronized
  have hl := lv_entry ([.int p0, .int p1]) (n := 2) (Nat.le_of_ble_eq_true rfl)
  rw [lg_entry_eq]
  generalize (lg_sl ([.int p0, .int p1]) ++ List.replicate (2 - (lg_sl ([.int p0, .int p1])).length) Slot.unset).toArray = ls at hl ⊢
  have hl : lv_has ls 2 [(0, .int p0), (1, .int p1)] := hl
  rw [sX10_isOther] at h
  refine lv_iload_n hx hb dX10_isOther_0 rfl (lv_at hl 1 rfl) ?_
  obtain ⟨r2, k1, h⟩ := ob_elim h
  refine vp_callSi (W.runS (As := [.int p1]) (rest := []) ⟨hx, hb, hml, hown, hts⟩ (mX10_isLand l p1 k1) (va_cwS 1 hts gX10_isOther_X10_isLand rfl rfl rfl (by decide +kernel) ⟨Nat.le_of_ble_eq_true rfl, Nat.le_of_ble_eq_true rfl⟩) ⟨fun _ _ _ _ q => q, fun U hU hW => ⟨rfl, trivial⟩⟩ rfl rfl hl.1 rfl (lv_room (Nat.le_of_ble_eq_true rfl)) dX10_isOther_1 ⟨Nat.zero_le _, Nat.zero_le _⟩) (fun r9 er9 => ?_)
  replace er9 := er9.symm
  subst er9
  refine lv_if_eq (tgt := 16) hx hb dX10_isOther_4 (by decide) (fun c3 => ?_) (fun c3 => ?_)
  · replace h := it_t c3 h
    refine lv_iconst (v := 0) hx hb dX10_isOther_16 (by decide) ?_
    cases h
    exact W.zret hx hb hr rfl (fun t ht hW => ⟨_, rfl, rfl, ht⟩) (fun q hq => absurd hq List.not_mem_nil) dX10_isOther_17
  · replace h := it_f c3 h
    refine lv_iload_n hx hb dX10_isOther_7 rfl (lv_at hl 0 rfl) ?_
    refine lv_iload_n hx hb dX10_isOther_8 rfl (lv_at hl 1 rfl) ?_
    refine lv_icmp_eq (tgt := 16) hx hb dX10_isOther_9 (by decide) (fun c4 => ?_) (fun c4 => ?_)
    · replace h := it_t c4 h
      refine lv_iconst (v := 0) hx hb dX10_isOther_16 (by decide) ?_
      cases h
      exact W.zret hx hb hr rfl (fun t ht hW => ⟨_, rfl, rfl, ht⟩) (fun q hq => absurd hq List.not_mem_nil) dX10_isOther_17
    · replace h := it_f c4 h
      refine lv_iconst (v := 1) hx hb dX10_isOther_12 (by decide) ?_
      refine lv_goto (tgt := 17) hx hb dX10_isOther_13 (by decide) ?_
      cases h
      exact W.zret hx hb hr rfl (fun t ht hW => ⟨_, rfl, rfl, ht⟩) (fun q hq => absurd hq List.not_mem_nil) dX10_isOther_17
