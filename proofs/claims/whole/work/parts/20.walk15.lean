set_option maxHeartbeats 4000000 in
set_option maxRecDepth 100000 in
theorem mX10_mixAll_29 (l : Launch) (dC : Nat → ClassId) (dI : Nat → Nat → Nat) (cI cJ : ClassId) (ad : Nat → Nat) (p0 : Int64) (p2 : Int32) (S : Nat → Nat → Int32) (L : Nat → Nat → Int64) {z : Int64} (h : sX10_mixAll_29 p0 p2 S L = some z) : Met l yX10_mixAll wsX10_mixAll ({ frames := 1, cells := 0, slots := 0, locals := 22 }) (va_Pc [.long p0, .ref (ad 29), .int p2] (QX dC dI cI cJ ad S L)) (vp_Sl (fun r => r = z)) 0 0 (fun _ => False) := by
  refine Met.ofW (cc := cX10_mixAll) (maxL := 7) (ret := (some .long)) (by decide) rfl ?_
  intro p e s m args below meth c s₁ B hml hv
  obtain ⟨rfl, hP, hK, hD⟩ := hv
  have hx := B.exec
  have hb := B.bytes
  have hr := B.returns
  have hts := atoms_spec (ws := wsX10_mixAll) B.pre
  have hown : s.vm.findClass RX10 = some m.cls := findClass_of_methodNamed B.named
  have hlocks := B.notSynchronized
  have hl := lv_entry ([.long p0, .ref (ad 29), .int p2]) (n := 7) (Nat.le_of_ble_eq_true rfl)
  rw [lg_entry_eq]
  generalize (lg_sl ([.long p0, .ref (ad 29), .int p2]) ++ List.replicate (7 - (lg_sl ([.long p0, .ref (ad 29), .int p2])).length) Slot.unset).toArray = ls at hl ⊢
  have hl : lv_has ls 7 [(0, .long p0), (2, .ref (ad 29)), (3, .int p2)] := hl
  rw [sX10_mixAll_29] at h
  refine lv_lload_n hx hb dX10_mixAll_0 rfl (lv_at hl 0 rfl) ?_
  refine lv_lstore (lv' := [(4, .long p0), (0, .long p0), (2, .ref (ad 29)), (3, .int p2)]) hx hb dX10_mixAll_1 hl (by decide) rfl (fun ls hl => ?_)
  refine lv_iconst (v := 0) hx hb dX10_mixAll_3 (by decide) ?_
  refine lv_istore (lv' := [(6, .int 0), (4, .long p0), (0, .long p0), (2, .ref (ad 29)), (3, .int p2)]) hx hb dX10_mixAll_4 hl (by decide) rfl (fun ls hl => ?_)
  refine ww_r (fun WW6 hWW6 => ?_)
  have Lh6 : ∀ (n : Nat) (v1 : Int64) (v2 : Int32) (z : (Int64)), lX10_mixAll_29_6 p2 S L n v1 v2 = some z → ∀ ls : Array Slot, lv_has ls 7 [(2, .ref (ad 29)), (3, .int p2), (4, .long v1), (6, .int v2)] → (∀ (y0 : Int64), z = y0 → ∀ ls : Array Slot, lv_has ls 7 [(4, .long y0)] → WW6  29 ls) → WW6  6 ls := by
    intro n
    induction n with
    | zero => intro v1 v2 z h ls hl K0; rw [lX10_mixAll_29_6] at h; cases h
    | succ n ih =>
      intro v1 v2 z h ls hl K0
      rw [lX10_mixAll_29_6] at h
      refine wi_r hWW6 ?_
      refine lv_iload hx hb dX10_mixAll_6 (lv_at hl 3 rfl) ?_
      refine lv_iload_n hx hb dX10_mixAll_8 rfl (lv_at hl 1 rfl) ?_
      refine lv_icmp_ge (tgt := 29) hx hb dX10_mixAll_9 (by decide) (fun c3 => ?_) (fun c3 => ?_)
      · replace h := it_t c3 h
        refine wu_r hWW6 ?_
        exact K0 v1 (Option.some.inj h).symm ls (lv_sub hl [2] rfl)
      · replace h := it_f c3 h
        refine lv_lload hx hb dX10_mixAll_12 (lv_at hl 2 rfl) ?_
        refine lv_aload_n hx hb dX10_mixAll_14 rfl (lv_at hl 0 rfl) ?_
        refine lv_iload hx hb dX10_mixAll_15 (lv_at hl 3 rfl) ?_
        obtain ⟨b4, h⟩ := ck_elim h
        refine va_iald hx hb hK hP 29 0 rfl rfl b4 dX10_mixAll_17 ?_
        obtain ⟨r6, k5, h⟩ := ob_elim h
        refine vp_callSl (W.runS (As := [.long v1, .int (S 29 v2.toNatClampNeg)]) (rest := []) ⟨hx, hb, hml, hown, hts⟩ (mX10_mix l v1 (S 29 v2.toNatClampNeg) k5) (va_cwS 2 hts gX10_mixAll_X10_mix rfl rfl rfl (by decide +kernel) ⟨Nat.le_of_ble_eq_true rfl, Nat.le_of_ble_eq_true rfl⟩) ⟨fun _ _ _ _ q => q, fun U hU hW => ⟨rfl, trivial⟩⟩ rfl rfl hl.1 rfl (lv_room (Nat.le_of_ble_eq_true rfl)) dX10_mixAll_18 ⟨Nat.zero_le _, Nat.zero_le _⟩) (fun r9 er9 => ?_)
        replace er9 := er9.symm
        subst er9
        refine lv_lstore (lv' := [(4, .long r6), (2, .ref (ad 29)), (3, .int p2), (6, .int v2)]) hx hb dX10_mixAll_21 hl (by decide) rfl (fun ls hl => ?_)
        obtain ⟨x7, ex7, h⟩ := bnd_elim h
        refine lv_iinc (v := x7) (lv' := [(6, .int x7), (4, .long r6), (2, .ref (ad 29)), (3, .int p2)]) hx hb dX10_mixAll_23 hl (k := 3) rfl (by rw [ex7]; rfl) (by decide) rfl (fun ls hl => ?_)
        refine lv_goto (tgt := 6) hx hb dX10_mixAll_26 (by decide) ?_
        refine wu_r hWW6 ?_
        exact ih r6 x7 z h ls (lv_sub hl [2, 3, 1, 0] rfl) K0
  obtain ⟨w9, k8, h⟩ := ob_elim h
  refine wu_r hWW6 ?_
  refine Lh6 FU p0 0 _ k8 ls (lv_sub hl [3, 4, 1, 0] rfl) ?_
  intro y0 hy ls hl
  cases hy
  refine wi_r hWW6 ?_
  refine lv_lload hx hb dX10_mixAll_29 (lv_at hl 0 rfl) ?_
  cases h
  exact W.lret hx hb hr (fun t ht hW => ⟨_, rfl, rfl, ht⟩) (fun q hq => absurd hq List.not_mem_nil) dX10_mixAll_31
set_option maxHeartbeats 4000000 in
set_option maxRecDepth 100000 in
theorem mX10_mixAll_30 (l : Launch) (dC : Nat → ClassId) (dI : Nat → Nat → Nat) (cI cJ : ClassId) (ad : Nat → Nat) (p0 : Int64) (p2 : Int32) (S : Nat → Nat → Int32) (L : Nat → Nat → Int64) {z : Int64} (h : sX10_mixAll_30 p0 p2 S L = some z) : Met l yX10_mixAll wsX10_mixAll ({ frames := 1, cells := 0, slots := 0, locals := 22 }) (va_Pc [.long p0, .ref (ad 30), .int p2] (QX dC dI cI cJ ad S L)) (vp_Sl (fun r => r = z)) 0 0 (fun _ => False) := by
  refine Met.ofW (cc := cX10_mixAll) (maxL := 7) (ret := (some .long)) (by decide) rfl ?_
  intro p e s m args below meth c s₁ B hml hv
  obtain ⟨rfl, hP, hK, hD⟩ := hv
  have hx := B.exec
  have hb := B.bytes
  have hr := B.returns
  have hts := atoms_spec (ws := wsX10_mixAll) B.pre
  have hown : s.vm.findClass RX10 = some m.cls := findClass_of_methodNamed B.named
  have hlocks := B.notSynchronized
  have hl := lv_entry ([.long p0, .ref (ad 30), .int p2]) (n := 7) (Nat.le_of_ble_eq_true rfl)
  rw [lg_entry_eq]
  generalize (lg_sl ([.long p0, .ref (ad 30), .int p2]) ++ List.replicate (7 - (lg_sl ([.long p0, .ref (ad 30), .int p2])).length) Slot.unset).toArray = ls at hl ⊢
  have hl : lv_has ls 7 [(0, .long p0), (2, .ref (ad 30)), (3, .int p2)] := hl
  rw [sX10_mixAll_30] at h
  refine lv_lload_n hx hb dX10_mixAll_0 rfl (lv_at hl 0 rfl) ?_
  refine lv_lstore (lv' := [(4, .long p0), (0, .long p0), (2, .ref (ad 30)), (3, .int p2)]) hx hb dX10_mixAll_1 hl (by decide) rfl (fun ls hl => ?_)
  refine lv_iconst (v := 0) hx hb dX10_mixAll_3 (by decide) ?_
  refine lv_istore (lv' := [(6, .int 0), (4, .long p0), (0, .long p0), (2, .ref (ad 30)), (3, .int p2)]) hx hb dX10_mixAll_4 hl (by decide) rfl (fun ls hl => ?_)
  refine ww_r (fun WW6 hWW6 => ?_)
  have Lh6 : ∀ (n : Nat) (v1 : Int64) (v2 : Int32) (z : (Int64)), lX10_mixAll_30_6 p2 S L n v1 v2 = some z → ∀ ls : Array Slot, lv_has ls 7 [(2, .ref (ad 30)), (3, .int p2), (4, .long v1), (6, .int v2)] → (∀ (y0 : Int64), z = y0 → ∀ ls : Array Slot, lv_has ls 7 [(4, .long y0)] → WW6  29 ls) → WW6  6 ls := by
    intro n
    induction n with
    | zero => intro v1 v2 z h ls hl K0; rw [lX10_mixAll_30_6] at h; cases h
    | succ n ih =>
      intro v1 v2 z h ls hl K0
      rw [lX10_mixAll_30_6] at h
      refine wi_r hWW6 ?_
      refine lv_iload hx hb dX10_mixAll_6 (lv_at hl 3 rfl) ?_
      refine lv_iload_n hx hb dX10_mixAll_8 rfl (lv_at hl 1 rfl) ?_
      refine lv_icmp_ge (tgt := 29) hx hb dX10_mixAll_9 (by decide) (fun c3 => ?_) (fun c3 => ?_)
      · replace h := it_t c3 h
        refine wu_r hWW6 ?_
        exact K0 v1 (Option.some.inj h).symm ls (lv_sub hl [2] rfl)
      · replace h := it_f c3 h
        refine lv_lload hx hb dX10_mixAll_12 (lv_at hl 2 rfl) ?_
        refine lv_aload_n hx hb dX10_mixAll_14 rfl (lv_at hl 0 rfl) ?_
        refine lv_iload hx hb dX10_mixAll_15 (lv_at hl 3 rfl) ?_
        obtain ⟨b4, h⟩ := ck_elim h
        refine va_iald hx hb hK hP 30 0 rfl rfl b4 dX10_mixAll_17 ?_
        obtain ⟨r6, k5, h⟩ := ob_elim h
        refine vp_callSl (W.runS (As := [.long v1, .int (S 30 v2.toNatClampNeg)]) (rest := []) ⟨hx, hb, hml, hown, hts⟩ (mX10_mix l v1 (S 30 v2.toNatClampNeg) k5) (va_cwS 2 hts gX10_mixAll_X10_mix rfl rfl rfl (by decide +kernel) ⟨Nat.le_of_ble_eq_true rfl, Nat.le_of_ble_eq_true rfl⟩) ⟨fun _ _ _ _ q => q, fun U hU hW => ⟨rfl, trivial⟩⟩ rfl rfl hl.1 rfl (lv_room (Nat.le_of_ble_eq_true rfl)) dX10_mixAll_18 ⟨Nat.zero_le _, Nat.zero_le _⟩) (fun r9 er9 => ?_)
        replace er9 := er9.symm
        subst er9
        refine lv_lstore (lv' := [(4, .long r6), (2, .ref (ad 30)), (3, .int p2), (6, .int v2)]) hx hb dX10_mixAll_21 hl (by decide) rfl (fun ls hl => ?_)
        obtain ⟨x7, ex7, h⟩ := bnd_elim h
        refine lv_iinc (v := x7) (lv' := [(6, .int x7), (4, .long r6), (2, .ref (ad 30)), (3, .int p2)]) hx hb dX10_mixAll_23 hl (k := 3) rfl (by rw [ex7]; rfl) (by decide) rfl (fun ls hl => ?_)
        refine lv_goto (tgt := 6) hx hb dX10_mixAll_26 (by decide) ?_
        refine wu_r hWW6 ?_
        exact ih r6 x7 z h ls (lv_sub hl [2, 3, 1, 0] rfl) K0
  obtain ⟨w9, k8, h⟩ := ob_elim h
  refine wu_r hWW6 ?_
  refine Lh6 FU p0 0 _ k8 ls (lv_sub hl [3, 4, 1, 0] rfl) ?_
  intro y0 hy ls hl
  cases hy
  refine wi_r hWW6 ?_
  refine lv_lload hx hb dX10_mixAll_29 (lv_at hl 0 rfl) ?_
  cases h
  exact W.lret hx hb hr (fun t ht hW => ⟨_, rfl, rfl, ht⟩) (fun q hq => absurd hq List.not_mem_nil) dX10_mixAll_31
set_option maxHeartbeats 4000000 in
set_option maxRecDepth 100000 in
theorem mX10_mixTreaty (l : Launch) (dC : Nat → ClassId) (dI : Nat → Nat → Nat) (cI cJ : ClassId) (ad : Nat → Nat) (p1 : Int64) (p2 : Int32) (S : Nat → Nat → Int32) (L : Nat → Nat → Int64) {z : Int64} (h : sX10_mixTreaty p1 p2 S L = some z) : Met l yX10_mixTreaty wsX10_mixTreaty ({ frames := 1, cells := 0, slots := 0, locals := 22 }) (va_Pc [.ref (ad 0), .long p1, .int p2] (QX dC dI cI cJ ad S L)) (vp_Sl (fun r => r = z)) 0 0 (fun _ => False) := by
  refine Met.ofW (cc := cX10_mixTreaty) (maxL := 4) (ret := (some .long)) (by decide) rfl ?_
  intro p e s m args below meth c s₁ B hml hv
  obtain ⟨rfl, hP, hK, hD⟩ := hv
  have hx := B.exec
  have hb := B.bytes
  have hr := B.returns
  have hts := atoms_spec (ws := wsX10_mixTreaty) B.pre
  have hown : s.vm.findClass RX10 = some m.cls := findClass_of_methodNamed B.named
  have hlocks := B.notSynchronized
  have hl := lv_entry ([.ref (ad 0), .long p1, .int p2]) (n := 4) (Nat.le_of_ble_eq_true rfl)
  rw [lg_entry_eq]
  generalize (lg_sl ([.ref (ad 0), .long p1, .int p2]) ++ List.replicate (4 - (lg_sl ([.ref (ad 0), .long p1, .int p2])).length) Slot.unset).toArray = ls at hl ⊢
  have hl : lv_has ls 4 [(0, .ref (ad 0)), (1, .long p1), (3, .int p2)] := hl
  have hf33 := hts (.fieldLink RX10 33 "LawRings" "treaties" "LLawRings$Treaties;") (by decide +kernel)
  have hiX10 : ∀ w ∈ u_ws RX10 TX10 11, w ∈ wsX10_mixTreaty := by decide +kernel
  have hf315 := hts (.fieldLink RX10 315 "LawRings$Treaties" "kind" "[I") (by decide +kernel)
  have hiX8 : ∀ w ∈ u_ws RX8 TX8 4, w ∈ wsX10_mixTreaty := by decide +kernel
  have hf316 := hts (.fieldLink RX10 316 "LawRings$Treaties" "lands" "[I") (by decide +kernel)
  have hf317 := hts (.fieldLink RX10 317 "LawRings$Treaties" "tie" "[I") (by decide +kernel)
  rw [sX10_mixTreaty] at h
  refine lv_lload_n hx hb dX10_mixTreaty_0 rfl (lv_at hl 1 rfl) ?_
  refine lv_aload_n hx hb dX10_mixTreaty_1 rfl (lv_at hl 0 rfl) ?_
  refine va_get (D := (dC, dI)) (ci := 10) (v := .ref (ad 4)) (C := RX10) (T := TX10) (N := 11) hx hb hts hiX10 hown hK hP 0 rfl rfl 3 (by decide) hf33 (fun _ h9 => h9) rfl dX10_mixTreaty_2 ?_
  refine va_get (D := (dC, dI)) (ci := 8) (v := .ref (ad 31)) (C := RX8) (T := TX8) (N := 4) hx hb hts hiX8 hown hK hP 4 rfl rfl 1 (by decide) hf315 (fun _ h9 => h9) rfl dX10_mixTreaty_5 ?_
  refine lv_iload_n hx hb dX10_mixTreaty_8 rfl (lv_at hl 2 rfl) ?_
  obtain ⟨b1, h⟩ := ck_elim h
  refine va_iald hx hb hK hP 31 0 rfl rfl b1 dX10_mixTreaty_9 ?_
  obtain ⟨r3, k2, h⟩ := ob_elim h
  refine vp_callSl (W.runS (As := [.long p1, .int (S 31 p2.toNatClampNeg)]) (rest := []) ⟨hx, hb, hml, hown, hts⟩ (mX10_mix l p1 (S 31 p2.toNatClampNeg) k2) (va_cwS 2 hts gX10_mixTreaty_X10_mix rfl rfl rfl (by decide +kernel) ⟨Nat.le_of_ble_eq_true rfl, Nat.le_of_ble_eq_true rfl⟩) ⟨fun _ _ _ _ q => q, fun U hU hW => ⟨rfl, trivial⟩⟩ rfl rfl hl.1 rfl (lv_room (Nat.le_of_ble_eq_true rfl)) dX10_mixTreaty_10 ⟨Nat.zero_le _, Nat.zero_le _⟩) (fun r9 er9 => ?_)
  replace er9 := er9.symm
  subst er9
  refine lv_aload_n hx hb dX10_mixTreaty_13 rfl (lv_at hl 0 rfl) ?_
  refine va_get (D := (dC, dI)) (ci := 10) (v := .ref (ad 4)) (C := RX10) (T := TX10) (N := 11) hx hb hts hiX10 hown hK hP 0 rfl rfl 3 (by decide) hf33 (fun _ h9 => h9) rfl dX10_mixTreaty_14 ?_
  refine va_get (D := (dC, dI)) (ci := 8) (v := .ref (ad 32)) (C := RX8) (T := TX8) (N := 4) hx hb hts hiX8 hown hK hP 4 rfl rfl 2 (by decide) hf316 (fun _ h9 => h9) rfl dX10_mixTreaty_17 ?_
  refine lv_iload_n hx hb dX10_mixTreaty_20 rfl (lv_at hl 2 rfl) ?_
  obtain ⟨b4, h⟩ := ck_elim h
  refine va_iald hx hb hK hP 32 0 rfl rfl b4 dX10_mixTreaty_21 ?_
  obtain ⟨r6, k5, h⟩ := ob_elim h
  refine vp_callSl (W.runS (As := [.long r3, .int (S 32 p2.toNatClampNeg)]) (rest := []) ⟨hx, hb, hml, hown, hts⟩ (mX10_mix l r3 (S 32 p2.toNatClampNeg) k5) (va_cwS 2 hts gX10_mixTreaty_X10_mix rfl rfl rfl (by decide +kernel) ⟨Nat.le_of_ble_eq_true rfl, Nat.le_of_ble_eq_true rfl⟩) ⟨fun _ _ _ _ q => q, fun U hU hW => ⟨rfl, trivial⟩⟩ rfl rfl hl.1 rfl (lv_room (Nat.le_of_ble_eq_true rfl)) dX10_mixTreaty_22 ⟨Nat.zero_le _, Nat.zero_le _⟩) (fun r9 er9 => ?_)
  replace er9 := er9.symm
  subst er9
  refine lv_aload_n hx hb dX10_mixTreaty_25 rfl (lv_at hl 0 rfl) ?_
  refine va_get (D := (dC, dI)) (ci := 10) (v := .ref (ad 4)) (C := RX10) (T := TX10) (N := 11) hx hb hts hiX10 hown hK hP 0 rfl rfl 3 (by decide) hf33 (fun _ h9 => h9) rfl dX10_mixTreaty_26 ?_
  refine va_get (D := (dC, dI)) (ci := 8) (v := .ref (ad 33)) (C := RX8) (T := TX8) (N := 4) hx hb hts hiX8 hown hK hP 4 rfl rfl 3 (by decide) hf317 (fun _ h9 => h9) rfl dX10_mixTreaty_29 ?_
  refine lv_iload_n hx hb dX10_mixTreaty_32 rfl (lv_at hl 2 rfl) ?_
  obtain ⟨b7, h⟩ := ck_elim h
  refine va_iald hx hb hK hP 33 0 rfl rfl b7 dX10_mixTreaty_33 ?_
  obtain ⟨r9, k8, h⟩ := ob_elim h
  refine vp_callSl (W.runS (As := [.long r6, .int (S 33 p2.toNatClampNeg)]) (rest := []) ⟨hx, hb, hml, hown, hts⟩ (mX10_mix l r6 (S 33 p2.toNatClampNeg) k8) (va_cwS 2 hts gX10_mixTreaty_X10_mix rfl rfl rfl (by decide +kernel) ⟨Nat.le_of_ble_eq_true rfl, Nat.le_of_ble_eq_true rfl⟩) ⟨fun _ _ _ _ q => q, fun U hU hW => ⟨rfl, trivial⟩⟩ rfl rfl hl.1 rfl (lv_room (Nat.le_of_ble_eq_true rfl)) dX10_mixTreaty_34 ⟨Nat.zero_le _, Nat.zero_le _⟩) (fun r9 er9 => ?_)
  replace er9 := er9.symm
  subst er9
  cases h
  exact W.lret hx hb hr (fun t ht hW => ⟨_, rfl, rfl, ht⟩) (fun q hq => absurd hq List.not_mem_nil) dX10_mixTreaty_37
set_option maxHeartbeats 4000000 in
set_option maxRecDepth 100000 in
theorem mX10_mixAll_34 (l : Launch) (dC : Nat → ClassId) (dI : Nat → Nat → Nat) (cI cJ : ClassId) (ad : Nat → Nat) (p0 : Int64) (p2 : Int32) (S : Nat → Nat → Int32) (L : Nat → Nat → Int64) {z : Int64} (h : sX10_mixAll_34 p0 p2 S L = some z) : Met l yX10_mixAll wsX10_mixAll ({ frames := 1, cells := 0, slots := 0, locals := 22 }) (va_Pc [.long p0, .ref (ad 34), .int p2] (QX dC dI cI cJ ad S L)) (vp_Sl (fun r => r = z)) 0 0 (fun _ => False) := by
  refine Met.ofW (cc := cX10_mixAll) (maxL := 7) (ret := (some .long)) (by decide) rfl ?_
  intro p e s m args below meth c s₁ B hml hv
  obtain ⟨rfl, hP, hK, hD⟩ := hv
  have hx := B.exec
  have hb := B.bytes
  have hr := B.returns
  have hts := atoms_spec (ws := wsX10_mixAll) B.pre
  have hown : s.vm.findClass RX10 = some m.cls := findClass_of_methodNamed B.named
  have hlocks := B.notSynchronized
  have hl := lv_entry ([.long p0, .ref (ad 34), .int p2]) (n := 7) (Nat.le_of_ble_eq_true rfl)
  rw [lg_entry_eq]
  generalize (lg_sl ([.long p0, .ref (ad 34), .int p2]) ++ List.replicate (7 - (lg_sl ([.long p0, .ref (ad 34), .int p2])).length) Slot.unset).toArray = ls at hl ⊢
  have hl : lv_has ls 7 [(0, .long p0), (2, .ref (ad 34)), (3, .int p2)] := hl
  rw [sX10_mixAll_34] at h
  refine lv_lload_n hx hb dX10_mixAll_0 rfl (lv_at hl 0 rfl) ?_
  refine lv_lstore (lv' := [(4, .long p0), (0, .long p0), (2, .ref (ad 34)), (3, .int p2)]) hx hb dX10_mixAll_1 hl (by decide) rfl (fun ls hl => ?_)
  refine lv_iconst (v := 0) hx hb dX10_mixAll_3 (by decide) ?_
  refine lv_istore (lv' := [(6, .int 0), (4, .long p0), (0, .long p0), (2, .ref (ad 34)), (3, .int p2)]) hx hb dX10_mixAll_4 hl (by decide) rfl (fun ls hl => ?_)
  refine ww_r (fun WW6 hWW6 => ?_)
  have Lh6 : ∀ (n : Nat) (v1 : Int64) (v2 : Int32) (z : (Int64)), lX10_mixAll_34_6 p2 S L n v1 v2 = some z → ∀ ls : Array Slot, lv_has ls 7 [(2, .ref (ad 34)), (3, .int p2), (4, .long v1), (6, .int v2)] → (∀ (y0 : Int64), z = y0 → ∀ ls : Array Slot, lv_has ls 7 [(4, .long y0)] → WW6  29 ls) → WW6  6 ls := by
    intro n
    induction n with
    | zero => intro v1 v2 z h ls hl K0; rw [lX10_mixAll_34_6] at h; cases h
    | succ n ih =>
      intro v1 v2 z h ls hl K0
      rw [lX10_mixAll_34_6] at h
      refine wi_r hWW6 ?_
      refine lv_iload hx hb dX10_mixAll_6 (lv_at hl 3 rfl) ?_
      refine lv_iload_n hx hb dX10_mixAll_8 rfl (lv_at hl 1 rfl) ?_
      refine lv_icmp_ge (tgt := 29) hx hb dX10_mixAll_9 (by decide) (fun c3 => ?_) (fun c3 => ?_)
      · replace h := it_t c3 h
        refine wu_r hWW6 ?_
        exact K0 v1 (Option.some.inj h).symm ls (lv_sub hl [2] rfl)
      · replace h := it_f c3 h
        refine lv_lload hx hb dX10_mixAll_12 (lv_at hl 2 rfl) ?_
        refine lv_aload_n hx hb dX10_mixAll_14 rfl (lv_at hl 0 rfl) ?_
        refine lv_iload hx hb dX10_mixAll_15 (lv_at hl 3 rfl) ?_
        obtain ⟨b4, h⟩ := ck_elim h
        refine va_iald hx hb hK hP 34 0 rfl rfl b4 dX10_mixAll_17 ?_
        obtain ⟨r6, k5, h⟩ := ob_elim h
        refine vp_callSl (W.runS (As := [.long v1, .int (S 34 v2.toNatClampNeg)]) (rest := []) ⟨hx, hb, hml, hown, hts⟩ (mX10_mix l v1 (S 34 v2.toNatClampNeg) k5) (va_cwS 2 hts gX10_mixAll_X10_mix rfl rfl rfl (by decide +kernel) ⟨Nat.le_of_ble_eq_true rfl, Nat.le_of_ble_eq_true rfl⟩) ⟨fun _ _ _ _ q => q, fun U hU hW => ⟨rfl, trivial⟩⟩ rfl rfl hl.1 rfl (lv_room (Nat.le_of_ble_eq_true rfl)) dX10_mixAll_18 ⟨Nat.zero_le _, Nat.zero_le _⟩) (fun r9 er9 => ?_)
        replace er9 := er9.symm
        subst er9
        refine lv_lstore (lv' := [(4, .long r6), (2, .ref (ad 34)), (3, .int p2), (6, .int v2)]) hx hb dX10_mixAll_21 hl (by decide) rfl (fun ls hl => ?_)
        obtain ⟨x7, ex7, h⟩ := bnd_elim h
        refine lv_iinc (v := x7) (lv' := [(6, .int x7), (4, .long r6), (2, .ref (ad 34)), (3, .int p2)]) hx hb dX10_mixAll_23 hl (k := 3) rfl (by rw [ex7]; rfl) (by decide) rfl (fun ls hl => ?_)
        refine lv_goto (tgt := 6) hx hb dX10_mixAll_26 (by decide) ?_
        refine wu_r hWW6 ?_
        exact ih r6 x7 z h ls (lv_sub hl [2, 3, 1, 0] rfl) K0
  obtain ⟨w9, k8, h⟩ := ob_elim h
  refine wu_r hWW6 ?_
  refine Lh6 FU p0 0 _ k8 ls (lv_sub hl [3, 4, 1, 0] rfl) ?_
  intro y0 hy ls hl
  cases hy
  refine wi_r hWW6 ?_
  refine lv_lload hx hb dX10_mixAll_29 (lv_at hl 0 rfl) ?_
  cases h
  exact W.lret hx hb hr (fun t ht hW => ⟨_, rfl, rfl, ht⟩) (fun q hq => absurd hq List.not_mem_nil) dX10_mixAll_31
set_option maxHeartbeats 4000000 in
set_option maxRecDepth 100000 in
theorem mX10_digest (l : Launch) (dC : Nat → ClassId) (dI : Nat → Nat → Nat) (cI cJ : ClassId) (ad : Nat → Nat)  (S : Nat → Nat → Int32) (L : Nat → Nat → Int64) (sz : Nat) {z : Int64 × (Nat → Nat → Int32) × (Nat → Nat → Int64)} (h : sX10_digest S L = some z) : Met l yX10_digest wsX10_digest ({ frames := 4, cells := 0, slots := 0, locals := 98 }) (va_Pc [.ref (ad 0)] (QXs sz dC dI cI cJ ad S L)) (va_Ql (fun (r : Int64) (u : (Nat → Nat → Int32) × (Nat → Nat → Int64)) => (r, u) = z) (fun (u : (Nat → Nat → Int32) × (Nat → Nat → Int64)) t => va_P (dC, dI) vwCl (wX cI cJ ad u.1 u.2) t.heap) (AX 43 ad sz)) 0 0 (AX 43 ad sz) := by
  refine Met.ofW (cc := cX10_digest) (maxL := 4) (ret := (some .long)) (by decide) rfl ?_
  intro p e s m args below meth c s₁ B hml hv
  obtain ⟨rfl, hsz, hP, hK, hD0⟩ := hv
  have hx := B.exec
  have hb := B.bytes
  have hr := B.returns
  have hts := atoms_spec (ws := wsX10_digest) B.pre
  have hown : s.vm.findClass RX10 = some m.cls := findClass_of_methodNamed B.named
  have hlocks := B.notSynchronized
  subst hsz
  have hD := wX_DA hD0 s.heap.size
  have hS : va_S (AX 43 ad s.heap.size) s.heap s.heap [] := va_S.rf
  have hl := lv_entry ([.ref (ad 0)]) (n := 4) (Nat.le_of_ble_eq_true rfl)
  rw [lg_entry_eq]
  generalize (lg_sl ([.ref (ad 0)]) ++ List.replicate (4 - (lg_sl ([.ref (ad 0)])).length) Slot.unset).toArray = ls at hl ⊢
  have hl : lv_has ls 4 [(0, .ref (ad 0))] := hl
  have hk264 := hts (.constantLong RX10 264 (397)) (by decide +kernel)
  have hf12 := hts (.fieldLink RX10 12 "LawRings" "cases" "LLawRings$Cases;") (by decide +kernel)
  have hiX10 : ∀ w ∈ u_ws RX10 TX10 11, w ∈ wsX10_digest := by decide +kernel
  have hf94 := hts (.fieldLink RX10 94 "LawRings$Cases" "size" "I") (by decide +kernel)
  have hiX2 : ∀ w ∈ u_ws RX2 TX2 6, w ∈ wsX10_digest := by decide +kernel
  have hf19 := hts (.fieldLink RX10 19 "LawRings" "rules" "LLawRings$Rules;") (by decide +kernel)
  have hf129 := hts (.fieldLink RX10 129 "LawRings$Rules" "size" "I") (by decide +kernel)
  have hiX6 : ∀ w ∈ u_ws RX6 TX6 13, w ∈ wsX10_digest := by decide +kernel
  have hf26 := hts (.fieldLink RX10 26 "LawRings" "lands" "LLawRings$Lands;") (by decide +kernel)
  have hf150 := hts (.fieldLink RX10 150 "LawRings$Lands" "sorts" "[I") (by decide +kernel)
  have hiX5 : ∀ w ∈ u_ws RX5 TX5 2, w ∈ wsX10_digest := by decide +kernel
  have hf153 := hts (.fieldLink RX10 153 "LawRings$Lands" "ways" "[I") (by decide +kernel)
  have hf33 := hts (.fieldLink RX10 33 "LawRings" "treaties" "LLawRings$Treaties;") (by decide +kernel)
  have hf156 := hts (.fieldLink RX10 156 "LawRings$Treaties" "size" "I") (by decide +kernel)
  have hiX8 : ∀ w ∈ u_ws RX8 TX8 4, w ∈ wsX10_digest := by decide +kernel
  have hf40 := hts (.fieldLink RX10 40 "LawRings" "trials" "LLawRings$Trials;") (by decide +kernel)
  have hf286 := hts (.fieldLink RX10 286 "LawRings$Trials" "rule" "[I") (by decide +kernel)
  have hiX9 : ∀ w ∈ u_ws RX9 TX9 2, w ∈ wsX10_digest := by decide +kernel
  have hf242 := hts (.fieldLink RX10 242 "LawRings$Trials" "size" "I") (by decide +kernel)
  rw [sX10_digest] at h
  refine lv_ldc2 (v := 397) hx hb hown hk264 dX10_digest_0 ?_
  refine lv_lstore_n (lv' := [(1, .long 397), (0, .ref (ad 0))]) hx hb dX10_digest_3 rfl hl (by decide) rfl (fun ls hl => ?_)
  refine lv_iconst (v := 0) hx hb dX10_digest_4 (by decide) ?_
  refine lv_istore_n (lv' := [(3, .int 0), (1, .long 397), (0, .ref (ad 0))]) hx hb dX10_digest_5 rfl hl (by decide) rfl (fun ls hl => ?_)
  refine ww_r (fun WW6 hWW6 => ?_)
  have Lh6 : ∀ (n : Nat) (v1 : Int64) (v2 : Int32) (z : (Int64)), lX10_digest_6 S L n v1 v2 = some z → ∀ ls : Array Slot, lv_has ls 4 [(0, .ref (ad 0)), (1, .long v1), (3, .int v2)] → (∀ (y0 : Int64), z = y0 → ∀ ls : Array Slot, lv_has ls 4 [(0, .ref (ad 0)), (1, .long y0)] → WW6  27 ls) → WW6  6 ls := by
    intro n
    induction n with
    | zero => intro v1 v2 z h ls hl K0; rw [lX10_digest_6] at h; cases h
    | succ n ih =>
      intro v1 v2 z h ls hl K0
      rw [lX10_digest_6] at h
      refine wi_r hWW6 ?_
      refine lv_iload_n hx hb dX10_digest_6 rfl (lv_at hl 2 rfl) ?_
      refine lv_iconst (v := 5) hx hb dX10_digest_7 (by decide) ?_
      refine lv_icmp_ge (tgt := 27) hx hb dX10_digest_8 (by decide) (fun c3 => ?_) (fun c3 => ?_)
      · replace h := it_t c3 h
        refine wu_r hWW6 ?_
        exact K0 v1 (Option.some.inj h).symm ls (lv_sub hl [0, 1] rfl)
      · replace h := it_f c3 h
        refine lv_lload_n hx hb dX10_digest_11 rfl (lv_at hl 1 rfl) ?_
        refine lv_aload_n hx hb dX10_digest_12 rfl (lv_at hl 0 rfl) ?_
        refine lv_iload_n hx hb dX10_digest_13 rfl (lv_at hl 2 rfl) ?_
        obtain ⟨r5, k4, h⟩ := ob_elim h
        refine vp_callSi (W.runV (As := [.int v2]) (rest := [.long v1]) ⟨hx, hb, hml, hown, hts⟩ (mX10_count l dC dI cI cJ ad v2 S L k4) (cwV 1 hts gX10_digest_X10_count rfl rfl rfl (by decide +kernel) ⟨Nat.le_of_ble_eq_true rfl, Nat.le_of_ble_eq_true rfl⟩) ⟨QX_blind, va_recv hK hP (ci := 10) (q0 := 0) rfl rfl, fun U hU hW => ⟨rfl, QX_at hP hK hD hU hW⟩⟩ rfl rfl hl.1 rfl (lv_room (Nat.le_of_ble_eq_true rfl)) dX10_digest_14 ⟨Nat.zero_le _, Nat.zero_le _⟩) (fun r9 er9 => ?_)
        replace er9 := er9.symm
        subst er9
        obtain ⟨r7, k6, h⟩ := ob_elim h
        refine vp_callSl (W.runS (As := [.long v1, .int r5]) (rest := []) ⟨hx, hb, hml, hown, hts⟩ (mX10_mix l v1 r5 k6) (va_cwS 2 hts gX10_digest_X10_mix rfl rfl rfl (by decide +kernel) ⟨Nat.le_of_ble_eq_true rfl, Nat.le_of_ble_eq_true rfl⟩) ⟨fun _ _ _ _ q => q, fun U hU hW => ⟨rfl, trivial⟩⟩ rfl rfl hl.1 rfl (lv_room (Nat.le_of_ble_eq_true rfl)) dX10_digest_17 ⟨Nat.zero_le _, Nat.zero_le _⟩) (fun r9 er9 => ?_)
        replace er9 := er9.symm
        subst er9
        refine lv_lstore_n (lv' := [(1, .long r7), (0, .ref (ad 0)), (3, .int v2)]) hx hb dX10_digest_20 rfl hl (by decide) rfl (fun ls hl => ?_)
        obtain ⟨x8, ex8, h⟩ := bnd_elim h
        refine lv_iinc (v := x8) (lv' := [(3, .int x8), (1, .long r7), (0, .ref (ad 0))]) hx hb dX10_digest_21 hl (k := 2) rfl (by rw [ex8]; rfl) (by decide) rfl (fun ls hl => ?_)
        refine lv_goto (tgt := 6) hx hb dX10_digest_24 (by decide) ?_
        refine wu_r hWW6 ?_
        exact ih r7 x8 z h ls (lv_sub hl [2, 1, 0] rfl) K0
  obtain ⟨w10, k9, h⟩ := ob_elim h
  refine wu_r hWW6 ?_
  refine Lh6 FU 397 0 _ k9 ls (lv_sub hl [2, 1, 0] rfl) ?_
  intro y0 hy ls hl
  cases hy
  refine wi_r hWW6 ?_
  refine lv_iconst (v := 0) hx hb dX10_digest_27 (by decide) ?_
  refine lv_istore_n (lv' := [(3, .int 0), (0, .ref (ad 0)), (1, .long w10)]) hx hb dX10_digest_28 rfl hl (by decide) rfl (fun ls hl => ?_)
  refine ww_w (fun WW29 hWW29 => ?_)
  have Lh29 : ∀ (n : Nat) (v11 : Int64) (v12 : Int32) (S13 : (Nat → Nat → Int32)) (L14 : (Nat → Nat → Int64)) (z : (Int64 × (Nat → Nat → Int32) × (Nat → Nat → Int64))), lX10_digest_29 n v11 v12 S13 L14 = some z → ∀ (H : Heap) (locs : List Loc), va_P (dC, dI) vwCl (wX cI cJ ad S13 L14) H → va_S (AX 43 ad s.heap.size) s.heap H locs → ∀ ls : Array Slot, lv_has ls 4 [(0, .ref (ad 0)), (1, .long v11), (3, .int v12)] → (∀ (y0 : Int64) (YS : (Nat → Nat → Int32)) (YL : (Nat → Nat → Int64)), z = (y0, YS, YL) → ∀ (H : Heap) (locs : List Loc), va_P (dC, dI) vwCl (wX cI cJ ad YS YL) H → va_S (AX 43 ad s.heap.size) s.heap H locs → ∀ ls : Array Slot, lv_has ls 4 [(0, .ref (ad 0)), (1, .long y0)] → WW29 H locs 53 ls) → WW29 H locs 29 ls := by
    intro n
    induction n with
    | zero => intro v11 v12 S13 L14 z h H locs hP hS ls hl K0; rw [lX10_digest_29] at h; cases h
    | succ n ih =>
      intro v11 v12 S13 L14 z h H locs hP hS ls hl K0
      have hD := wX_D hD S13 L14
      rw [lX10_digest_29] at h
      refine wi_w hWW29 ?_
      refine lv_iload_n hx hb dX10_digest_29 rfl (lv_at hl 2 rfl) ?_
      refine lv_aload_n hx hb dX10_digest_30 rfl (lv_at hl 0 rfl) ?_
      refine va_get (D := (dC, dI)) (ci := 10) (v := .ref (ad 1)) (C := RX10) (T := TX10) (N := 11) hx hb hts hiX10 hown hK hP 0 rfl rfl 0 (by decide) hf12 (fun _ h9 => h9) rfl dX10_digest_31 ?_
      refine va_get (D := (dC, dI)) (ci := 2) (v := .int (S13 1 0)) (C := RX2) (T := TX2) (N := 6) hx hb hts hiX2 hown hK hP 1 rfl rfl 0 (by decide) hf94 (fun _ h9 => h9) rfl dX10_digest_34 ?_
      refine lv_icmp_ge (tgt := 53) hx hb dX10_digest_37 (by decide) (fun c15 => ?_) (fun c15 => ?_)
      · replace h := it_t c15 h
        refine wu_w hWW29 ?_
        exact K0 v11 S13 L14 (Option.some.inj h).symm H locs hP hS ls (lv_sub hl [0, 1] rfl)
      · replace h := it_f c15 h
        refine lv_aload_n hx hb dX10_digest_40 rfl (lv_at hl 0 rfl) ?_
        refine lv_lload_n hx hb dX10_digest_41 rfl (lv_at hl 1 rfl) ?_
        refine lv_iload_n hx hb dX10_digest_42 rfl (lv_at hl 2 rfl) ?_
        obtain ⟨r19, S17, L18, k16, h⟩ := ob3_elim h
        refine va_calll (va_runV (As := [.long v11, .int v12]) (rest := []) ⟨hx, hb, hml, hown, hts⟩ (mX10_mixCase l dC dI cI cJ ad v11 v12 S13 L14 H.size k16) (cwV 2 hts gX10_digest_X10_mixCase rfl rfl rfl (by decide +kernel) ⟨Nat.le_of_ble_eq_true rfl, Nat.le_of_ble_eq_true rfl⟩) ⟨QXs_blind, va_recv hK hP (ci := 10) (q0 := 0) rfl rfl, fun U hU hW => ⟨rfl, congrArg Array.size hU, QX_at hP hK hD hU hW⟩⟩ rfl rfl hl.1 rfl (lv_room (Nat.le_of_ble_eq_true rfl)) dX10_digest_43 ⟨Nat.zero_le _, Nat.zero_le _⟩) hS (fun q _ hq => AX_mono hS.1 hq) (fun q hq => AX_mono hS.1 hq) (fun r u t H1 locs ht hvm hw hB hz1 hk1 hS => ?_)
        cases hw
        rw [ht] at hB
        have hP := hB
        clear hB hk1 hz1
        generalize H1 = H at hP hS ⊢
        have hD := wX_D hD S17 L18
        refine lv_lstore_n (lv' := [(1, .long r19), (0, .ref (ad 0)), (3, .int v12)]) hx hb dX10_digest_46 rfl hl (by decide) rfl (fun ls hl => ?_)
        obtain ⟨x20, ex20, h⟩ := bnd_elim h
        refine lv_iinc (v := x20) (lv' := [(3, .int x20), (1, .long r19), (0, .ref (ad 0))]) hx hb dX10_digest_47 hl (k := 2) rfl (by rw [ex20]; rfl) (by decide) rfl (fun ls hl => ?_)
        refine lv_goto (tgt := 29) hx hb dX10_digest_50 (by decide) ?_
        refine wu_w hWW29 ?_
        exact ih r19 x20 S17 L18 z h H locs hP hS ls (lv_sub hl [2, 1, 0] rfl) K0
  obtain ⟨w22, S23, L24, k21, h⟩ := ob3_elim h
  refine wu_w hWW29 ?_
  refine Lh29 FU w10 0 S L _ k21 s.heap [] hP hS ls (lv_sub hl [1, 2, 0] rfl) ?_
  intro y0 y1 y2 hy H locs hP hS ls hl
  cases hy
  have hD := wX_D hD S23 L24
  refine wi_w hWW29 ?_
  refine lv_iconst (v := 0) hx hb dX10_digest_53 (by decide) ?_
  refine lv_istore_n (lv' := [(3, .int 0), (0, .ref (ad 0)), (1, .long w22)]) hx hb dX10_digest_54 rfl hl (by decide) rfl (fun ls hl => ?_)
  refine ww_r (fun WW55 hWW55 => ?_)
  have Lh55 : ∀ (n : Nat) (v25 : Int64) (v26 : Int32) (z : (Int64)), lX10_digest_55 S23 L24 n v25 v26 = some z → ∀ ls : Array Slot, lv_has ls 4 [(0, .ref (ad 0)), (1, .long v25), (3, .int v26)] → (∀ (y0 : Int64), z = y0 → ∀ ls : Array Slot, lv_has ls 4 [(0, .ref (ad 0)), (1, .long y0)] → WW55  79 ls) → WW55  55 ls := by
    intro n
    induction n with
    | zero => intro v25 v26 z h ls hl K0; rw [lX10_digest_55] at h; cases h
    | succ n ih =>
      intro v25 v26 z h ls hl K0
      rw [lX10_digest_55] at h
      refine wi_r hWW55 ?_
      refine lv_iload_n hx hb dX10_digest_55 rfl (lv_at hl 2 rfl) ?_
      refine lv_aload_n hx hb dX10_digest_56 rfl (lv_at hl 0 rfl) ?_
      refine va_get (D := (dC, dI)) (ci := 10) (v := .ref (ad 2)) (C := RX10) (T := TX10) (N := 11) hx hb hts hiX10 hown hK hP 0 rfl rfl 1 (by decide) hf19 (fun _ h9 => h9) rfl dX10_digest_57 ?_
      refine va_get (D := (dC, dI)) (ci := 6) (v := .int (S23 2 0)) (C := RX6) (T := TX6) (N := 13) hx hb hts hiX6 hown hK hP 2 rfl rfl 0 (by decide) hf129 (fun _ h9 => h9) rfl dX10_digest_60 ?_
      refine lv_icmp_ge (tgt := 79) hx hb dX10_digest_63 (by decide) (fun c27 => ?_) (fun c27 => ?_)
      · replace h := it_t c27 h
        refine wu_r hWW55 ?_
        exact K0 v25 (Option.some.inj h).symm ls (lv_sub hl [0, 1] rfl)
      · replace h := it_f c27 h
        refine lv_aload_n hx hb dX10_digest_66 rfl (lv_at hl 0 rfl) ?_
        refine lv_lload_n hx hb dX10_digest_67 rfl (lv_at hl 1 rfl) ?_
        refine lv_iload_n hx hb dX10_digest_68 rfl (lv_at hl 2 rfl) ?_
        obtain ⟨r29, k28, h⟩ := ob_elim h
        refine vp_callSl (W.runV (As := [.long v25, .int v26]) (rest := []) ⟨hx, hb, hml, hown, hts⟩ (mX10_mixRule l dC dI cI cJ ad v25 v26 S23 L24 k28) (cwV 2 hts gX10_digest_X10_mixRule rfl rfl rfl (by decide +kernel) ⟨Nat.le_of_ble_eq_true rfl, Nat.le_of_ble_eq_true rfl⟩) ⟨QX_blind, va_recv hK hP (ci := 10) (q0 := 0) rfl rfl, fun U hU hW => ⟨rfl, QX_at hP hK hD hU hW⟩⟩ rfl rfl hl.1 rfl (lv_room (Nat.le_of_ble_eq_true rfl)) dX10_digest_69 ⟨Nat.zero_le _, Nat.zero_le _⟩) (fun r9 er9 => ?_)
        replace er9 := er9.symm
        subst er9
        refine lv_lstore_n (lv' := [(1, .long r29), (0, .ref (ad 0)), (3, .int v26)]) hx hb dX10_digest_72 rfl hl (by decide) rfl (fun ls hl => ?_)
        obtain ⟨x30, ex30, h⟩ := bnd_elim h
        refine lv_iinc (v := x30) (lv' := [(3, .int x30), (1, .long r29), (0, .ref (ad 0))]) hx hb dX10_digest_73 hl (k := 2) rfl (by rw [ex30]; rfl) (by decide) rfl (fun ls hl => ?_)
        refine lv_goto (tgt := 55) hx hb dX10_digest_76 (by decide) ?_
        refine wu_r hWW55 ?_
        exact ih r29 x30 z h ls (lv_sub hl [2, 1, 0] rfl) K0
  obtain ⟨w32, k31, h⟩ := ob_elim h
  refine wu_r hWW55 ?_
  refine Lh55 FU w22 0 _ k31 ls (lv_sub hl [1, 2, 0] rfl) ?_
  intro y0 hy ls hl
  cases hy
  refine wi_r hWW55 ?_
  refine lv_lload_n hx hb dX10_digest_79 rfl (lv_at hl 1 rfl) ?_
  refine lv_aload_n hx hb dX10_digest_80 rfl (lv_at hl 0 rfl) ?_
  refine va_get (D := (dC, dI)) (ci := 10) (v := .ref (ad 3)) (C := RX10) (T := TX10) (N := 11) hx hb hts hiX10 hown hK hP 0 rfl rfl 2 (by decide) hf26 (fun _ h9 => h9) rfl dX10_digest_81 ?_
  refine va_get (D := (dC, dI)) (ci := 5) (v := .ref (ad 29)) (C := RX5) (T := TX5) (N := 2) hx hb hts hiX5 hown hK hP 3 rfl rfl 0 (by decide) hf150 (fun _ h9 => h9) rfl dX10_digest_84 ?_
  refine lv_aload_n hx hb dX10_digest_87 rfl (lv_at hl 0 rfl) ?_
  refine va_get (D := (dC, dI)) (ci := 10) (v := .ref (ad 3)) (C := RX10) (T := TX10) (N := 11) hx hb hts hiX10 hown hK hP 0 rfl rfl 2 (by decide) hf26 (fun _ h9 => h9) rfl dX10_digest_88 ?_
  refine va_get (D := (dC, dI)) (ci := 5) (v := .ref (ad 29)) (C := RX5) (T := TX5) (N := 2) hx hb hts hiX5 hown hK hP 3 rfl rfl 0 (by decide) hf150 (fun _ h9 => h9) rfl dX10_digest_91 ?_
  refine va_alen (v := 12) hx hb hK hP 29 0 rfl rfl rfl dX10_digest_94 ?_
  obtain ⟨r34, k33, h⟩ := ob_elim h
  refine vp_callSl (W.runS (As := [.long w32, .ref (ad 29), .int 12]) (rest := []) ⟨hx, hb, hml, hown, hts⟩ (mX10_mixAll_29 l dC dI cI cJ ad w32 12 S23 L24 k33) (va_cwS 3 hts gX10_digest_X10_mixAll rfl rfl rfl (by decide +kernel) ⟨Nat.le_of_ble_eq_true rfl, Nat.le_of_ble_eq_true rfl⟩) ⟨QX_blind, fun U hU hW => ⟨rfl, QX_at hP hK hD hU hW⟩⟩ rfl rfl hl.1 rfl (lv_room (Nat.le_of_ble_eq_true rfl)) dX10_digest_95 ⟨Nat.zero_le _, Nat.zero_le _⟩) (fun r9 er9 => ?_)
  replace er9 := er9.symm
  subst er9
  refine lv_lstore_n (lv' := [(1, .long r34), (0, .ref (ad 0))]) hx hb dX10_digest_98 rfl hl (by decide) rfl (fun ls hl => ?_)
  refine lv_lload_n hx hb dX10_digest_99 rfl (lv_at hl 0 rfl) ?_
  refine lv_aload_n hx hb dX10_digest_100 rfl (lv_at hl 1 rfl) ?_
  refine va_get (D := (dC, dI)) (ci := 10) (v := .ref (ad 3)) (C := RX10) (T := TX10) (N := 11) hx hb hts hiX10 hown hK hP 0 rfl rfl 2 (by decide) hf26 (fun _ h9 => h9) rfl dX10_digest_101 ?_
  refine va_get (D := (dC, dI)) (ci := 5) (v := .ref (ad 30)) (C := RX5) (T := TX5) (N := 2) hx hb hts hiX5 hown hK hP 3 rfl rfl 1 (by decide) hf153 (fun _ h9 => h9) rfl dX10_digest_104 ?_
  refine lv_aload_n hx hb dX10_digest_107 rfl (lv_at hl 1 rfl) ?_
  refine va_get (D := (dC, dI)) (ci := 10) (v := .ref (ad 3)) (C := RX10) (T := TX10) (N := 11) hx hb hts hiX10 hown hK hP 0 rfl rfl 2 (by decide) hf26 (fun _ h9 => h9) rfl dX10_digest_108 ?_
  refine va_get (D := (dC, dI)) (ci := 5) (v := .ref (ad 30)) (C := RX5) (T := TX5) (N := 2) hx hb hts hiX5 hown hK hP 3 rfl rfl 1 (by decide) hf153 (fun _ h9 => h9) rfl dX10_digest_111 ?_
  refine va_alen (v := 4) hx hb hK hP 30 0 rfl rfl rfl dX10_digest_114 ?_
  obtain ⟨r36, k35, h⟩ := ob_elim h
  refine vp_callSl (W.runS (As := [.long r34, .ref (ad 30), .int 4]) (rest := []) ⟨hx, hb, hml, hown, hts⟩ (mX10_mixAll_30 l dC dI cI cJ ad r34 4 S23 L24 k35) (va_cwS 3 hts gX10_digest_X10_mixAll rfl rfl rfl (by decide +kernel) ⟨Nat.le_of_ble_eq_true rfl, Nat.le_of_ble_eq_true rfl⟩) ⟨QX_blind, fun U hU hW => ⟨rfl, QX_at hP hK hD hU hW⟩⟩ rfl rfl hl.1 rfl (lv_room (Nat.le_of_ble_eq_true rfl)) dX10_digest_115 ⟨Nat.zero_le _, Nat.zero_le _⟩) (fun r9 er9 => ?_)
  replace er9 := er9.symm
  subst er9
  refine lv_lstore_n (lv' := [(1, .long r36), (0, .ref (ad 0))]) hx hb dX10_digest_118 rfl hl (by decide) rfl (fun ls hl => ?_)
  refine lv_iconst (v := 0) hx hb dX10_digest_119 (by decide) ?_
  refine lv_istore_n (lv' := [(3, .int 0), (1, .long r36), (0, .ref (ad 0))]) hx hb dX10_digest_120 rfl hl (by decide) rfl (fun ls hl => ?_)
  refine ww_r (fun WW121 hWW121 => ?_)
  have Lh121 : ∀ (n : Nat) (v37 : Int64) (v38 : Int32) (z : (Int64)), lX10_digest_121 S23 L24 n v37 v38 = some z → ∀ ls : Array Slot, lv_has ls 4 [(0, .ref (ad 0)), (1, .long v37), (3, .int v38)] → (∀ (y0 : Int64), z = y0 → ∀ ls : Array Slot, lv_has ls 4 [(0, .ref (ad 0)), (1, .long y0)] → WW121  145 ls) → WW121  121 ls := by
    intro n
    induction n with
    | zero => intro v37 v38 z h ls hl K0; rw [lX10_digest_121] at h; cases h
    | succ n ih =>
      intro v37 v38 z h ls hl K0
      rw [lX10_digest_121] at h
      refine wi_r hWW121 ?_
      refine lv_iload_n hx hb dX10_digest_121 rfl (lv_at hl 2 rfl) ?_
      refine lv_aload_n hx hb dX10_digest_122 rfl (lv_at hl 0 rfl) ?_
      refine va_get (D := (dC, dI)) (ci := 10) (v := .ref (ad 4)) (C := RX10) (T := TX10) (N := 11) hx hb hts hiX10 hown hK hP 0 rfl rfl 3 (by decide) hf33 (fun _ h9 => h9) rfl dX10_digest_123 ?_
      refine va_get (D := (dC, dI)) (ci := 8) (v := .int (S23 4 0)) (C := RX8) (T := TX8) (N := 4) hx hb hts hiX8 hown hK hP 4 rfl rfl 0 (by decide) hf156 (fun _ h9 => h9) rfl dX10_digest_126 ?_
      refine lv_icmp_ge (tgt := 145) hx hb dX10_digest_129 (by decide) (fun c39 => ?_) (fun c39 => ?_)
      · replace h := it_t c39 h
        refine wu_r hWW121 ?_
        exact K0 v37 (Option.some.inj h).symm ls (lv_sub hl [0, 1] rfl)
      · replace h := it_f c39 h
        refine lv_aload_n hx hb dX10_digest_132 rfl (lv_at hl 0 rfl) ?_
        refine lv_lload_n hx hb dX10_digest_133 rfl (lv_at hl 1 rfl) ?_
        refine lv_iload_n hx hb dX10_digest_134 rfl (lv_at hl 2 rfl) ?_
        obtain ⟨r41, k40, h⟩ := ob_elim h
        refine vp_callSl (W.runV (As := [.long v37, .int v38]) (rest := []) ⟨hx, hb, hml, hown, hts⟩ (mX10_mixTreaty l dC dI cI cJ ad v37 v38 S23 L24 k40) (cwV 2 hts gX10_digest_X10_mixTreaty rfl rfl rfl (by decide +kernel) ⟨Nat.le_of_ble_eq_true rfl, Nat.le_of_ble_eq_true rfl⟩) ⟨QX_blind, va_recv hK hP (ci := 10) (q0 := 0) rfl rfl, fun U hU hW => ⟨rfl, QX_at hP hK hD hU hW⟩⟩ rfl rfl hl.1 rfl (lv_room (Nat.le_of_ble_eq_true rfl)) dX10_digest_135 ⟨Nat.zero_le _, Nat.zero_le _⟩) (fun r9 er9 => ?_)
        replace er9 := er9.symm
        subst er9
        refine lv_lstore_n (lv' := [(1, .long r41), (0, .ref (ad 0)), (3, .int v38)]) hx hb dX10_digest_138 rfl hl (by decide) rfl (fun ls hl => ?_)
        obtain ⟨x42, ex42, h⟩ := bnd_elim h
        refine lv_iinc (v := x42) (lv' := [(3, .int x42), (1, .long r41), (0, .ref (ad 0))]) hx hb dX10_digest_139 hl (k := 2) rfl (by rw [ex42]; rfl) (by decide) rfl (fun ls hl => ?_)
        refine lv_goto (tgt := 121) hx hb dX10_digest_142 (by decide) ?_
        refine wu_r hWW121 ?_
        exact ih r41 x42 z h ls (lv_sub hl [2, 1, 0] rfl) K0
  obtain ⟨w44, k43, h⟩ := ob_elim h
  refine wu_r hWW121 ?_
  refine Lh121 FU r36 0 _ k43 ls (lv_sub hl [2, 1, 0] rfl) ?_
  intro y0 hy ls hl
  cases hy
  refine wi_r hWW121 ?_
  refine lv_lload_n hx hb dX10_digest_145 rfl (lv_at hl 1 rfl) ?_
  refine lv_aload_n hx hb dX10_digest_146 rfl (lv_at hl 0 rfl) ?_
  refine va_get (D := (dC, dI)) (ci := 10) (v := .ref (ad 5)) (C := RX10) (T := TX10) (N := 11) hx hb hts hiX10 hown hK hP 0 rfl rfl 4 (by decide) hf40 (fun _ h9 => h9) rfl dX10_digest_147 ?_
  refine va_get (D := (dC, dI)) (ci := 9) (v := .ref (ad 34)) (C := RX9) (T := TX9) (N := 2) hx hb hts hiX9 hown hK hP 5 rfl rfl 1 (by decide) hf286 (fun _ h9 => h9) rfl dX10_digest_150 ?_
  refine lv_aload_n hx hb dX10_digest_153 rfl (lv_at hl 0 rfl) ?_
  refine va_get (D := (dC, dI)) (ci := 10) (v := .ref (ad 5)) (C := RX10) (T := TX10) (N := 11) hx hb hts hiX10 hown hK hP 0 rfl rfl 4 (by decide) hf40 (fun _ h9 => h9) rfl dX10_digest_154 ?_
  refine va_get (D := (dC, dI)) (ci := 9) (v := .int (S23 5 0)) (C := RX9) (T := TX9) (N := 2) hx hb hts hiX9 hown hK hP 5 rfl rfl 0 (by decide) hf242 (fun _ h9 => h9) rfl dX10_digest_157 ?_
  obtain ⟨r46, k45, h⟩ := ob_elim h
  refine vp_callSl (W.runS (As := [.long w44, .ref (ad 34), .int (S23 5 0)]) (rest := []) ⟨hx, hb, hml, hown, hts⟩ (mX10_mixAll_34 l dC dI cI cJ ad w44 (S23 5 0) S23 L24 k45) (va_cwS 3 hts gX10_digest_X10_mixAll rfl rfl rfl (by decide +kernel) ⟨Nat.le_of_ble_eq_true rfl, Nat.le_of_ble_eq_true rfl⟩) ⟨QX_blind, fun U hU hW => ⟨rfl, QX_at hP hK hD hU hW⟩⟩ rfl rfl hl.1 rfl (lv_room (Nat.le_of_ble_eq_true rfl)) dX10_digest_160 ⟨Nat.zero_le _, Nat.zero_le _⟩) (fun r9 er9 => ?_)
  replace er9 := er9.symm
  subst er9
  cases h
  exact W.lret hx hb hr (fun t ht hW => ⟨⟨_, _, rfl, rfl, by show va_P _ _ _ t.heap; rw [ht]; exact hP⟩, hS.F ht⟩) hS.2.2 dX10_digest_163
set_option maxHeartbeats 4000000 in
set_option maxRecDepth 100000 in
theorem mX11_mixed (l : Launch) (dC : Nat → ClassId) (dI : Nat → Nat → Nat) (cI cZ : ClassId) (ad : Nat → Nat) (p1 : Int64) (p2 : Int32) (p3 : Int32) (S : Nat → Nat → Int32) {z : Int64} (h : sX11_mixed p1 p2 p3 S = some z) : Met l yX11_mixed wsX11_mixed ({ frames := 0, cells := 0, slots := 0, locals := 0 }) (va_Pc [.ref (ad 0), .long p1, .int p2, .int p3] (QM dC dI cI cZ ad S)) (vp_Sl (fun r => r = z)) 0 0 (fun _ => False) := by
  refine Met.ofW (cc := cX11_mixed) (maxL := 8) (ret := (some .long)) (by decide) rfl ?_
  intro p e s m args below meth c s₁ B hml hv
  obtain ⟨rfl, hP, hK, hD⟩ := hv
  have hx := B.exec
  have hb := B.bytes
  have hr := B.returns
  have hts := atoms_spec (ws := wsX11_mixed) B.pre
  have hown : s.vm.findClass RX11 = some m.cls := findClass_of_methodNamed B.named
  have hlocks := B.notSynchronized
  have hl := lv_entry ([.ref (ad 0), .long p1, .int p2, .int p3]) (n := 8) (Nat.le_of_ble_eq_true rfl)
  rw [lg_entry_eq]
  generalize (lg_sl ([.ref (ad 0), .long p1, .int p2, .int p3]) ++ List.replicate (8 - (lg_sl ([.ref (ad 0), .long p1, .int p2, .int p3])).length) Slot.unset).toArray = ls at hl ⊢
  have hl : lv_has ls 8 [(0, .ref (ad 0)), (1, .long p1), (3, .int p2), (4, .int p3)] := hl
  have hk133 := hts (.constantLong RX11 133 (31)) (by decide +kernel)
  have hf7 := hts (.fieldLink RX11 7 "LawRingsModel" "st" "[I") (by decide +kernel)
  have hiX11 : ∀ w ∈ u_ws RX11 TX11 8, w ∈ wsX11_mixed := by decide +kernel
  rw [sX11_mixed] at h
  refine lv_lload_n hx hb dX11_mixed_0 rfl (lv_at hl 1 rfl) ?_
  refine lv_lstore (lv' := [(5, .long p1), (0, .ref (ad 0)), (1, .long p1), (3, .int p2), (4, .int p3)]) hx hb dX11_mixed_1 hl (by decide) rfl (fun ls hl => ?_)
  refine lv_iconst (v := 0) hx hb dX11_mixed_3 (by decide) ?_
  refine lv_istore (lv' := [(7, .int 0), (5, .long p1), (0, .ref (ad 0)), (1, .long p1), (3, .int p2), (4, .int p3)]) hx hb dX11_mixed_4 hl (by decide) rfl (fun ls hl => ?_)
  refine ww_r (fun WW6 hWW6 => ?_)
  have Lh6 : ∀ (n : Nat) (v1 : Int64) (v2 : Int32) (z : (Int64)), lX11_mixed_6 p2 p3 S n v1 v2 = some z → ∀ ls : Array Slot, lv_has ls 8 [(0, .ref (ad 0)), (3, .int p2), (4, .int p3), (5, .long v1), (7, .int v2)] → (∀ (y0 : Int64), z = y0 → ∀ ls : Array Slot, lv_has ls 8 [(5, .long y0)] → WW6  38 ls) → WW6  6 ls := by
    intro n
    induction n with
    | zero => intro v1 v2 z h ls hl K0; rw [lX11_mixed_6] at h; cases h
    | succ n ih =>
      intro v1 v2 z h ls hl K0
      rw [lX11_mixed_6] at h
      refine wi_r hWW6 ?_
      refine lv_iload hx hb dX11_mixed_6 (lv_at hl 4 rfl) ?_
      refine lv_iload hx hb dX11_mixed_8 (lv_at hl 2 rfl) ?_
      refine lv_icmp_ge (tgt := 38) hx hb dX11_mixed_10 (by decide) (fun c3 => ?_) (fun c3 => ?_)
      · replace h := it_t c3 h
        refine wu_r hWW6 ?_
        exact K0 v1 (Option.some.inj h).symm ls (lv_sub hl [3] rfl)
      · replace h := it_f c3 h
        refine lv_ldc2 (v := 31) hx hb hown hk133 dX11_mixed_13 ?_
        refine lv_lload hx hb dX11_mixed_16 (lv_at hl 3 rfl) ?_
        refine lv_lmul hx hb dX11_mixed_18 ?_
        refine lv_aload_n hx hb dX11_mixed_19 rfl (lv_at hl 0 rfl) ?_
        refine va_get (D := (dC, dI)) (ci := 11) (v := .ref (ad 1)) (C := RX11) (T := TX11) (N := 8) hx hb hts hiX11 hown hK hP 0 rfl rfl 0 (by decide) hf7 (fun _ h9 => h9) rfl dX11_mixed_20 ?_
        refine lv_iload_n hx hb dX11_mixed_23 rfl (lv_at hl 1 rfl) ?_
        refine lv_iload hx hb dX11_mixed_24 (lv_at hl 4 rfl) ?_
        refine lv_iadd hx hb dX11_mixed_26 ?_
        obtain ⟨b4, h⟩ := ck_elim h
        refine va_iald hx hb hK hP 1 0 rfl rfl b4 dX11_mixed_27 ?_
        refine lv_i2l (v := (S 1 (p2 + v2).toNatClampNeg).toInt64) hx hb dX11_mixed_28 rfl ?_
        refine lv_ladd hx hb dX11_mixed_29 ?_
        obtain ⟨x5, ex5, h⟩ := bnd_elim h
        refine nm_l ex5 ?_
        refine lv_lstore (lv' := [(5, .long x5), (0, .ref (ad 0)), (3, .int p2), (4, .int p3), (7, .int v2)]) hx hb dX11_mixed_30 hl (by decide) rfl (fun ls hl => ?_)
        obtain ⟨x6, ex6, h⟩ := bnd_elim h
        refine lv_iinc (v := x6) (lv' := [(7, .int x6), (5, .long x5), (0, .ref (ad 0)), (3, .int p2), (4, .int p3)]) hx hb dX11_mixed_32 hl (k := 4) rfl (by rw [ex6]; rfl) (by decide) rfl (fun ls hl => ?_)
        refine lv_goto (tgt := 6) hx hb dX11_mixed_35 (by decide) ?_
        refine wu_r hWW6 ?_
        exact ih x5 x6 z h ls (lv_sub hl [2, 3, 4, 1, 0] rfl) K0
  obtain ⟨w8, k7, h⟩ := ob_elim h
  refine wu_r hWW6 ?_
  refine Lh6 FU p1 0 _ k7 ls (lv_sub hl [2, 4, 5, 1, 0] rfl) ?_
  intro y0 hy ls hl
  cases hy
  refine wi_r hWW6 ?_
  refine lv_lload hx hb dX11_mixed_38 (lv_at hl 0 rfl) ?_
  cases h
  exact W.lret hx hb hr (fun t ht hW => ⟨_, rfl, rfl, ht⟩) (fun q hq => absurd hq List.not_mem_nil) dX11_mixed_40
set_option maxHeartbeats 4000000 in
set_option maxRecDepth 100000 in
theorem mX11_digest (l : Launch) (dC : Nat → ClassId) (dI : Nat → Nat → Nat) (cI cZ : ClassId) (ad : Nat → Nat)  (S : Nat → Nat → Int32) (sz : Nat) {z : Int64 × (Nat → Nat → Int32)} (h : sX11_digest S = some z) : Met l yX11_digest wsX11_digest ({ frames := 8, cells := 0, slots := 0, locals := 190 }) (va_Pc [.ref (ad 0)] (QMs sz dC dI cI cZ ad S)) (va_Ql (fun (r : Int64) (u : (Nat → Nat → Int32)) => (r, u) = z) (fun (u : (Nat → Nat → Int32)) t => va_P (dC, dI) vwCl (wM cI cZ ad u) t.heap) (AX 7 ad sz)) 0 0 (AX 7 ad sz) := by
  refine Met.ofW (cc := cX11_digest) (maxL := 5) (ret := (some .long)) (by decide) rfl ?_
  intro p e s m args below meth c s₁ B hml hv
  obtain ⟨rfl, hsz, hP, hK, hD0⟩ := hv
  have hx := B.exec
  have hb := B.bytes
  have hr := B.returns
  have hts := atoms_spec (ws := wsX11_digest) B.pre
  have hown : s.vm.findClass RX11 = some m.cls := findClass_of_methodNamed B.named
  have hlocks := B.notSynchronized
  subst hsz
  have hD := wM_DA hD0 s.heap.size
  have hS : va_S (AX 7 ad s.heap.size) s.heap s.heap [] := va_S.rf
  have hl := lv_entry ([.ref (ad 0)]) (n := 5) (Nat.le_of_ble_eq_true rfl)
  rw [lg_entry_eq]
  generalize (lg_sl ([.ref (ad 0)]) ++ List.replicate (5 - (lg_sl ([.ref (ad 0)])).length) Slot.unset).toArray = ls at hl ⊢
  have hl : lv_has ls 5 [(0, .ref (ad 0))] := hl
  have hk135 := hts (.constantLong RX11 135 (397)) (by decide +kernel)
  have hf7 := hts (.fieldLink RX11 7 "LawRingsModel" "st" "[I") (by decide +kernel)
  have hiX11 : ∀ w ∈ u_ws RX11 TX11 8, w ∈ wsX11_digest := by decide +kernel
  have hk133 := hts (.constantLong RX11 133 (31)) (by decide +kernel)
  have hf13 := hts (.fieldLink RX11 13 "LawRingsModel" "ties" "[I") (by decide +kernel)
  rw [sX11_digest] at h
  refine lv_aload_n hx hb dX11_digest_0 rfl (lv_at hl 0 rfl) ?_
  refine lv_ldc2 (v := 397) hx hb hown hk135 dX11_digest_1 ?_
  refine lv_iconst (v := 0) hx hb dX11_digest_4 (by decide) ?_
  refine lv_iconst (v := 5) hx hb dX11_digest_5 (by decide) ?_
  obtain ⟨r2, k1, h⟩ := ob_elim h
  refine vp_callSl (W.runV (As := [.long 397, .int 0, .int 5]) (rest := []) ⟨hx, hb, hml, hown, hts⟩ (mX11_mixed l dC dI cI cZ ad 397 0 5 S k1) (cwV 3 hts gX11_digest_X11_mixed rfl rfl rfl (by decide +kernel) ⟨Nat.le_of_ble_eq_true rfl, Nat.le_of_ble_eq_true rfl⟩) ⟨QM_blind, va_recv hK hP (ci := 11) (q0 := 0) rfl rfl, fun U hU hW => ⟨rfl, QM_at hP hK hD hU hW⟩⟩ rfl rfl hl.1 rfl (lv_room (Nat.le_of_ble_eq_true rfl)) dX11_digest_6 ⟨Nat.zero_le _, Nat.zero_le _⟩) (fun r9 er9 => ?_)
  replace er9 := er9.symm
  subst er9
  refine lv_lstore_n (lv' := [(1, .long r2), (0, .ref (ad 0))]) hx hb dX11_digest_9 rfl hl (by decide) rfl (fun ls hl => ?_)
  refine lv_iconst (v := 0) hx hb dX11_digest_10 (by decide) ?_
  refine lv_istore_n (lv' := [(3, .int 0), (1, .long r2), (0, .ref (ad 0))]) hx hb dX11_digest_11 rfl hl (by decide) rfl (fun ls hl => ?_)
  refine ww_w (fun WW12 hWW12 => ?_)
  have Lh12 : ∀ (n : Nat) (v3 : Int64) (v4 : Int32) (S5 : (Nat → Nat → Int32)) (z : (Int64 × (Nat → Nat → Int32))), lX11_digest_12 n v3 v4 S5 = some z → ∀ (H : Heap) (locs : List Loc), va_P (dC, dI) vwCl (wM cI cZ ad S5) H → va_S (AX 7 ad s.heap.size) s.heap H locs → ∀ ls : Array Slot, lv_has ls 5 [(0, .ref (ad 0)), (1, .long v3), (3, .int v4)] → (∀ (y0 : Int64) (YS : (Nat → Nat → Int32)), z = (y0, YS) → ∀ (H : Heap) (locs : List Loc), va_P (dC, dI) vwCl (wM cI cZ ad YS) H → va_S (AX 7 ad s.heap.size) s.heap H locs → ∀ ls : Array Slot, lv_has ls 5 [(0, .ref (ad 0)), (1, .long y0)] → WW12 H locs 113 ls) → WW12 H locs 12 ls := by
    intro n
    induction n with
    | zero => intro v3 v4 S5 z h H locs hP hS ls hl K0; rw [lX11_digest_12] at h; cases h
    | succ n ih =>
      intro v3 v4 S5 z h H locs hP hS ls hl K0
      have hD := wM_D hD S5
      rw [lX11_digest_12] at h
      refine wi_w hWW12 ?_
      refine lv_iload_n hx hb dX11_digest_12 rfl (lv_at hl 2 rfl) ?_
      refine lv_aload_n hx hb dX11_digest_13 rfl (lv_at hl 0 rfl) ?_
      refine va_get (D := (dC, dI)) (ci := 11) (v := .ref (ad 1)) (C := RX11) (T := TX11) (N := 8) hx hb hts hiX11 hown hK hP 0 rfl rfl 0 (by decide) hf7 (fun _ h9 => h9) rfl dX11_digest_14 ?_
      refine lv_iconst (v := 0) hx hb dX11_digest_17 (by decide) ?_
      obtain ⟨b6, h⟩ := ck_elim h
      refine va_iald hx hb hK hP 1 0 rfl rfl b6 dX11_digest_18 ?_
      refine lv_icmp_ge (tgt := 113) hx hb dX11_digest_19 (by decide) (fun c7 => ?_) (fun c7 => ?_)
      · replace h := it_t c7 h
        refine wu_w hWW12 ?_
        exact K0 v3 S5 (Option.some.inj h).symm H locs hP hS ls (lv_sub hl [0, 1] rfl)
      · replace h := it_f c7 h
        refine lv_aload_n hx hb dX11_digest_22 rfl (lv_at hl 0 rfl) ?_
        refine lv_lload_n hx hb dX11_digest_23 rfl (lv_at hl 1 rfl) ?_
        refine lv_bipush (v := 10) hx hb dX11_digest_24 (by decide) ?_
        refine lv_iconst (v := 2) hx hb dX11_digest_26 (by decide) ?_
        refine lv_iload_n hx hb dX11_digest_27 rfl (lv_at hl 2 rfl) ?_
        refine lv_imul hx hb dX11_digest_28 ?_
        refine lv_iadd hx hb dX11_digest_29 ?_
        refine lv_iconst (v := 2) hx hb dX11_digest_30 (by decide) ?_
        obtain ⟨r9, k8, h⟩ := ob_elim h
        refine vp_callSl (W.runV (As := [.long v3, .int (10 + (2 * v4)), .int 2]) (rest := []) ⟨hx, hb, hml, hown, hts⟩ (mX11_mixed l dC dI cI cZ ad v3 (10 + (2 * v4)) 2 S5 k8) (cwV 3 hts gX11_digest_X11_mixed rfl rfl rfl (by decide +kernel) ⟨Nat.le_of_ble_eq_true rfl, Nat.le_of_ble_eq_true rfl⟩) ⟨QM_blind, va_recv hK hP (ci := 11) (q0 := 0) rfl rfl, fun U hU hW => ⟨rfl, QM_at hP hK hD hU hW⟩⟩ rfl rfl hl.1 rfl (lv_room (Nat.le_of_ble_eq_true rfl)) dX11_digest_31 ⟨Nat.zero_le _, Nat.zero_le _⟩) (fun r9 er9 => ?_)
        replace er9 := er9.symm
        subst er9
        refine lv_lstore_n (lv' := [(1, .long r9), (0, .ref (ad 0)), (3, .int v4)]) hx hb dX11_digest_34 rfl hl (by decide) rfl (fun ls hl => ?_)
        refine lv_aload_n hx hb dX11_digest_35 rfl (lv_at hl 1 rfl) ?_
        refine lv_iload_n hx hb dX11_digest_36 rfl (lv_at hl 2 rfl) ?_
        obtain ⟨S11, k10, h⟩ := ob_elim h
        refine va_callv (va_runV (As := [.int v4]) (rest := []) ⟨hx, hb, hml, hown, hts⟩ (mX11_looksAt l dC dI cI cZ ad v4 S5 H.size k10) (cwV 1 hts gX11_digest_X11_looksAt rfl rfl rfl (by decide +kernel) ⟨Nat.le_of_ble_eq_true rfl, Nat.le_of_ble_eq_true rfl⟩) ⟨QMs_blind, va_recv hK hP (ci := 11) (q0 := 0) rfl rfl, fun U hU hW => ⟨rfl, congrArg Array.size hU, QM_at hP hK hD hU hW⟩⟩ rfl rfl hl.1 rfl (lv_room (Nat.le_of_ble_eq_true rfl)) dX11_digest_37 ⟨Nat.zero_le _, Nat.zero_le _⟩) hS (fun q _ hq => AX_mono hS.1 hq) (fun q hq => AX_mono hS.1 hq) (fun u t H1 locs ht hvm hw hB hz1 hk1 hS => ?_)
        cases hw
        rw [ht] at hB
        have hP := hB
        clear hB hk1 hz1
        generalize H1 = H at hP hS ⊢
        have hD := wM_D hD S11
        refine lv_iconst (v := 0) hx hb dX11_digest_40 (by decide) ?_
        refine lv_istore (lv' := [(4, .int 0), (1, .long r9), (0, .ref (ad 0)), (3, .int v4)]) hx hb dX11_digest_41 hl (by decide) rfl (fun ls hl => ?_)
        refine ww_r (fun WW43 hWW43 => ?_)
        have Lh43 : ∀ (n : Nat) (v12 : Int64) (v13 : Int32) (z : (Int64)), lX11_digest_43 v4 S11 n v12 v13 = some z → ∀ ls : Array Slot, lv_has ls 5 [(0, .ref (ad 0)), (1, .long v12), (3, .int v4), (4, .int v13)] → (∀ (y0 : Int64), z = y0 → ∀ ls : Array Slot, lv_has ls 5 [(0, .ref (ad 0)), (1, .long y0), (3, .int v4)] → WW43  71 ls) → WW43  43 ls := by
          intro n
          induction n with
          | zero => intro v12 v13 z h ls hl K0; rw [lX11_digest_43] at h; cases h
          | succ n ih =>
            intro v12 v13 z h ls hl K0
            rw [lX11_digest_43] at h
            refine wi_r hWW43 ?_
            refine lv_iload hx hb dX11_digest_43 (lv_at hl 3 rfl) ?_
            refine lv_bipush (v := 6) hx hb dX11_digest_45 (by decide) ?_
            refine lv_icmp_ge (tgt := 71) hx hb dX11_digest_47 (by decide) (fun c14 => ?_) (fun c14 => ?_)
            · replace h := it_t c14 h
              refine wu_r hWW43 ?_
              exact K0 v12 (Option.some.inj h).symm ls (lv_sub hl [0, 1, 2] rfl)
            · replace h := it_f c14 h
              refine lv_ldc2 (v := 31) hx hb hown hk133 dX11_digest_50 ?_
              refine lv_lload_n hx hb dX11_digest_53 rfl (lv_at hl 1 rfl) ?_
              refine lv_lmul hx hb dX11_digest_54 ?_
              refine lv_aload_n hx hb dX11_digest_55 rfl (lv_at hl 0 rfl) ?_
              refine va_get (D := (dC, dI)) (ci := 11) (v := .ref (ad 2)) (C := RX11) (T := TX11) (N := 8) hx hb hts hiX11 hown hK hP 0 rfl rfl 1 (by decide) hf13 (fun _ h9 => h9) rfl dX11_digest_56 ?_
              refine lv_iload hx hb dX11_digest_59 (lv_at hl 3 rfl) ?_
              obtain ⟨b15, h⟩ := ck_elim h
              refine va_iald hx hb hK hP 2 0 rfl rfl b15 dX11_digest_61 ?_
              refine lv_i2l (v := (S11 2 v13.toNatClampNeg).toInt64) hx hb dX11_digest_62 rfl ?_
              refine lv_ladd hx hb dX11_digest_63 ?_
              obtain ⟨x16, ex16, h⟩ := bnd_elim h
              refine nm_l ex16 ?_
              refine lv_lstore_n (lv' := [(1, .long x16), (0, .ref (ad 0)), (3, .int v4), (4, .int v13)]) hx hb dX11_digest_64 rfl hl (by decide) rfl (fun ls hl => ?_)
              obtain ⟨x17, ex17, h⟩ := bnd_elim h
              refine lv_iinc (v := x17) (lv' := [(4, .int x17), (1, .long x16), (0, .ref (ad 0)), (3, .int v4)]) hx hb dX11_digest_65 hl (k := 3) rfl (by rw [ex17]; rfl) (by decide) rfl (fun ls hl => ?_)
              refine lv_goto (tgt := 43) hx hb dX11_digest_68 (by decide) ?_
              refine wu_r hWW43 ?_
              exact ih x16 x17 z h ls (lv_sub hl [2, 1, 3, 0] rfl) K0
        obtain ⟨w19, k18, h⟩ := ob_elim h
        refine wu_r hWW43 ?_
        refine Lh43 FU r9 0 _ k18 ls (lv_sub hl [2, 1, 3, 0] rfl) ?_
        intro y0 hy ls hl
        cases hy
        refine wi_r hWW43 ?_
        refine lv_iconst (v := 0) hx hb dX11_digest_71 (by decide) ?_
        refine lv_istore (lv' := [(4, .int 0), (0, .ref (ad 0)), (1, .long w19), (3, .int v4)]) hx hb dX11_digest_72 hl (by decide) rfl (fun ls hl => ?_)
        refine ww_r (fun WW74 hWW74 => ?_)
        have Lh74 : ∀ (n : Nat) (v20 : Int64) (v21 : Int32) (z : (Int64)), lX11_digest_74 v4 S11 n v20 v21 = some z → ∀ ls : Array Slot, lv_has ls 5 [(0, .ref (ad 0)), (1, .long v20), (3, .int v4), (4, .int v21)] → (∀ (y0 : Int64), z = y0 → ∀ ls : Array Slot, lv_has ls 5 [(0, .ref (ad 0)), (1, .long y0), (3, .int v4)] → WW74  107 ls) → WW74  74 ls := by
          intro n
          induction n with
          | zero => intro v20 v21 z h ls hl K0; rw [lX11_digest_74] at h; cases h
          | succ n ih =>
            intro v20 v21 z h ls hl K0
            rw [lX11_digest_74] at h
            refine wi_r hWW74 ?_
            refine lv_iload hx hb dX11_digest_74 (lv_at hl 3 rfl) ?_
            refine lv_bipush (v := 12) hx hb dX11_digest_76 (by decide) ?_
            refine lv_icmp_ge (tgt := 107) hx hb dX11_digest_78 (by decide) (fun c22 => ?_) (fun c22 => ?_)
            · replace h := it_t c22 h
              refine wu_r hWW74 ?_
              exact K0 v20 (Option.some.inj h).symm ls (lv_sub hl [0, 1, 2] rfl)
            · replace h := it_f c22 h
              refine lv_ldc2 (v := 31) hx hb hown hk133 dX11_digest_81 ?_
              refine lv_lload_n hx hb dX11_digest_84 rfl (lv_at hl 1 rfl) ?_
              refine lv_lmul hx hb dX11_digest_85 ?_
              refine lv_aload_n hx hb dX11_digest_86 rfl (lv_at hl 0 rfl) ?_
              refine lv_iload hx hb dX11_digest_87 (lv_at hl 3 rfl) ?_
              refine lv_iconst (v := 4) hx hb dX11_digest_89 (by decide) ?_
              refine lv_irem hx hb dX11_digest_90 (by decide) ?_
              refine nm_i (x := irm v21 4) rfl ?_
              refine lv_iload hx hb dX11_digest_91 (lv_at hl 3 rfl) ?_
              refine lv_iconst (v := 4) hx hb dX11_digest_93 (by decide) ?_
              refine lv_idiv hx hb dX11_digest_94 (by decide) ?_
              obtain ⟨r24, k23, h⟩ := ob_elim h
              refine vp_callSi (W.runV (As := [.int (irm v21 4), .int (v21 / 4)]) (rest := [.long (31 * v20)]) ⟨hx, hb, hml, hown, hts⟩ (mX11_endsOf l dC dI cI cZ ad (irm v21 4) (v21 / 4) S11 k23) (cwV 2 hts gX11_digest_X11_endsOf rfl rfl rfl (by decide +kernel) ⟨Nat.le_of_ble_eq_true rfl, Nat.le_of_ble_eq_true rfl⟩) ⟨QM_blind, va_recv hK hP (ci := 11) (q0 := 0) rfl rfl, fun U hU hW => ⟨rfl, QM_at hP hK hD hU hW⟩⟩ rfl rfl hl.1 rfl (lv_room (Nat.le_of_ble_eq_true rfl)) dX11_digest_95 ⟨Nat.zero_le _, Nat.zero_le _⟩) (fun r9 er9 => ?_)
              replace er9 := er9.symm
              subst er9
              refine lv_i2l (v := r24.toInt64) hx hb dX11_digest_98 rfl ?_
              refine lv_ladd hx hb dX11_digest_99 ?_
              obtain ⟨x25, ex25, h⟩ := bnd_elim h
              refine nm_l ex25 ?_
              refine lv_lstore_n (lv' := [(1, .long x25), (0, .ref (ad 0)), (3, .int v4), (4, .int v21)]) hx hb dX11_digest_100 rfl hl (by decide) rfl (fun ls hl => ?_)
              obtain ⟨x26, ex26, h⟩ := bnd_elim h
              refine lv_iinc (v := x26) (lv' := [(4, .int x26), (1, .long x25), (0, .ref (ad 0)), (3, .int v4)]) hx hb dX11_digest_101 hl (k := 3) rfl (by rw [ex26]; rfl) (by decide) rfl (fun ls hl => ?_)
              refine lv_goto (tgt := 74) hx hb dX11_digest_104 (by decide) ?_
              refine wu_r hWW74 ?_
              exact ih x25 x26 z h ls (lv_sub hl [2, 1, 3, 0] rfl) K0
        obtain ⟨w28, k27, h⟩ := ob_elim h
        refine wu_r hWW74 ?_
        refine Lh74 FU w19 0 _ k27 ls (lv_sub hl [1, 2, 3, 0] rfl) ?_
        intro y0 hy ls hl
        cases hy
        refine wi_r hWW74 ?_
        obtain ⟨x29, ex29, h⟩ := bnd_elim h
        refine lv_iinc (v := x29) (lv' := [(3, .int x29), (0, .ref (ad 0)), (1, .long w28)]) hx hb dX11_digest_107 hl (k := 2) rfl (by rw [ex29]; rfl) (by decide) rfl (fun ls hl => ?_)
        refine lv_goto (tgt := 12) hx hb dX11_digest_110 (by decide) ?_
        refine wu_w hWW12 ?_
        exact ih w28 x29 S11 z h H locs hP hS ls (lv_sub hl [1, 2, 0] rfl) K0
  obtain ⟨w31, S32, k30, h⟩ := ob2_elim h
  refine wu_w hWW12 ?_
  refine Lh12 FU r2 0 S _ k30 s.heap [] hP hS ls (lv_sub hl [2, 1, 0] rfl) ?_
  intro y0 y1 hy H locs hP hS ls hl
  cases hy
  have hD := wM_D hD S32
  refine wi_w hWW12 ?_
  refine lv_iconst (v := 0) hx hb dX11_digest_113 (by decide) ?_
  refine lv_istore_n (lv' := [(3, .int 0), (0, .ref (ad 0)), (1, .long w31)]) hx hb dX11_digest_114 rfl hl (by decide) rfl (fun ls hl => ?_)
  refine ww_r (fun WW115 hWW115 => ?_)
  have Lh115 : ∀ (n : Nat) (v33 : Int64) (v34 : Int32) (z : (Int64)), lX11_digest_115 S32 n v33 v34 = some z → ∀ ls : Array Slot, lv_has ls 5 [(0, .ref (ad 0)), (1, .long v33), (3, .int v34)] → (∀ (y0 : Int64), z = y0 → ∀ ls : Array Slot, lv_has ls 5 [(0, .ref (ad 0)), (1, .long y0)] → WW115  157 ls) → WW115  115 ls := by
    intro n
    induction n with
    | zero => intro v33 v34 z h ls hl K0; rw [lX11_digest_115] at h; cases h
    | succ n ih =>
      intro v33 v34 z h ls hl K0
      rw [lX11_digest_115] at h
      refine wi_r hWW115 ?_
      refine lv_iload_n hx hb dX11_digest_115 rfl (lv_at hl 2 rfl) ?_
      refine lv_aload_n hx hb dX11_digest_116 rfl (lv_at hl 0 rfl) ?_
      refine va_get (D := (dC, dI)) (ci := 11) (v := .ref (ad 1)) (C := RX11) (T := TX11) (N := 8) hx hb hts hiX11 hown hK hP 0 rfl rfl 0 (by decide) hf7 (fun _ h9 => h9) rfl dX11_digest_117 ?_
      refine lv_iconst (v := 2) hx hb dX11_digest_120 (by decide) ?_
      obtain ⟨b35, h⟩ := ck_elim h
      refine va_iald hx hb hK hP 1 0 rfl rfl b35 dX11_digest_121 ?_
      refine lv_icmp_ge (tgt := 157) hx hb dX11_digest_122 (by decide) (fun c36 => ?_) (fun c36 => ?_)
      · replace h := it_t c36 h
        refine wu_r hWW115 ?_
        exact K0 v33 (Option.some.inj h).symm ls (lv_sub hl [0, 1] rfl)
      · replace h := it_f c36 h
        refine lv_aload_n hx hb dX11_digest_125 rfl (lv_at hl 0 rfl) ?_
        refine lv_lload_n hx hb dX11_digest_126 rfl (lv_at hl 1 rfl) ?_
        refine lv_sipush (v := 282) hx hb dX11_digest_127 (by decide) ?_
        refine lv_bipush (v := 11) hx hb dX11_digest_130 (by decide) ?_
        refine lv_iload_n hx hb dX11_digest_132 rfl (lv_at hl 2 rfl) ?_
        refine lv_imul hx hb dX11_digest_133 ?_
        refine lv_iadd hx hb dX11_digest_134 ?_
        refine lv_bipush (v := 7) hx hb dX11_digest_135 (by decide) ?_
        refine lv_iconst (v := 2) hx hb dX11_digest_137 (by decide) ?_
        refine lv_aload_n hx hb dX11_digest_138 rfl (lv_at hl 0 rfl) ?_
        refine lv_iload_n hx hb dX11_digest_139 rfl (lv_at hl 2 rfl) ?_
        refine lv_bipush (v := 6) hx hb dX11_digest_140 (by decide) ?_
        obtain ⟨r38, k37, h⟩ := ob_elim h
        refine vp_callSi (W.runV (As := [.int v34, .int 6]) (rest := [.int 2, .int 7, .int (282 + (11 * v34)), .long v33, .ref (ad 0)]) ⟨hx, hb, hml, hown, hts⟩ (mX11_ruleOf l dC dI cI cZ ad v34 6 S32 k37) (cwV 2 hts gX11_digest_X11_ruleOf rfl rfl rfl (by decide +kernel) ⟨Nat.le_of_ble_eq_true rfl, Nat.le_of_ble_eq_true rfl⟩) ⟨QM_blind, va_recv hK hP (ci := 11) (q0 := 0) rfl rfl, fun U hU hW => ⟨rfl, QM_at hP hK hD hU hW⟩⟩ rfl rfl hl.1 rfl (lv_room (Nat.le_of_ble_eq_true rfl)) dX11_digest_142 ⟨Nat.zero_le _, Nat.zero_le _⟩) (fun r9 er9 => ?_)
        replace er9 := er9.symm
        subst er9
        refine lv_imul hx hb dX11_digest_145 ?_
        refine lv_iadd hx hb dX11_digest_146 ?_
        obtain ⟨r40, k39, h⟩ := ob_elim h
        refine vp_callSl (W.runV (As := [.long v33, .int (282 + (11 * v34)), .int (7 + (2 * r38))]) (rest := []) ⟨hx, hb, hml, hown, hts⟩ (mX11_mixed l dC dI cI cZ ad v33 (282 + (11 * v34)) (7 + (2 * r38)) S32 k39) (cwV 3 hts gX11_digest_X11_mixed rfl rfl rfl (by decide +kernel) ⟨Nat.le_of_ble_eq_true rfl, Nat.le_of_ble_eq_true rfl⟩) ⟨QM_blind, va_recv hK hP (ci := 11) (q0 := 0) rfl rfl, fun U hU hW => ⟨rfl, QM_at hP hK hD hU hW⟩⟩ rfl rfl hl.1 rfl (lv_room (Nat.le_of_ble_eq_true rfl)) dX11_digest_147 ⟨Nat.zero_le _, Nat.zero_le _⟩) (fun r9 er9 => ?_)
        replace er9 := er9.symm
        subst er9
        refine lv_lstore_n (lv' := [(1, .long r40), (0, .ref (ad 0)), (3, .int v34)]) hx hb dX11_digest_150 rfl hl (by decide) rfl (fun ls hl => ?_)
        obtain ⟨x41, ex41, h⟩ := bnd_elim h
        refine lv_iinc (v := x41) (lv' := [(3, .int x41), (1, .long r40), (0, .ref (ad 0))]) hx hb dX11_digest_151 hl (k := 2) rfl (by rw [ex41]; rfl) (by decide) rfl (fun ls hl => ?_)
        refine lv_goto (tgt := 115) hx hb dX11_digest_154 (by decide) ?_
        refine wu_r hWW115 ?_
        exact ih r40 x41 z h ls (lv_sub hl [2, 1, 0] rfl) K0
  obtain ⟨w43, k42, h⟩ := ob_elim h
  refine wu_r hWW115 ?_
  refine Lh115 FU w31 0 _ k42 ls (lv_sub hl [1, 2, 0] rfl) ?_
  intro y0 hy ls hl
  cases hy
  refine wi_r hWW115 ?_
  refine lv_aload_n hx hb dX11_digest_157 rfl (lv_at hl 0 rfl) ?_
  refine lv_aload_n hx hb dX11_digest_158 rfl (lv_at hl 0 rfl) ?_
  refine lv_aload_n hx hb dX11_digest_159 rfl (lv_at hl 0 rfl) ?_
  refine lv_lload_n hx hb dX11_digest_160 rfl (lv_at hl 1 rfl) ?_
  refine lv_sipush (v := 942) hx hb dX11_digest_161 (by decide) ?_
  refine lv_bipush (v := 12) hx hb dX11_digest_164 (by decide) ?_
  obtain ⟨r45, k44, h⟩ := ob_elim h
  refine vp_callSl (W.runV (As := [.long w43, .int 942, .int 12]) (rest := [.ref (ad 0), .ref (ad 0)]) ⟨hx, hb, hml, hown, hts⟩ (mX11_mixed l dC dI cI cZ ad w43 942 12 S32 k44) (cwV 3 hts gX11_digest_X11_mixed rfl rfl rfl (by decide +kernel) ⟨Nat.le_of_ble_eq_true rfl, Nat.le_of_ble_eq_true rfl⟩) ⟨QM_blind, va_recv hK hP (ci := 11) (q0 := 0) rfl rfl, fun U hU hW => ⟨rfl, QM_at hP hK hD hU hW⟩⟩ rfl rfl hl.1 rfl (lv_room (Nat.le_of_ble_eq_true rfl)) dX11_digest_166 ⟨Nat.zero_le _, Nat.zero_le _⟩) (fun r9 er9 => ?_)
  replace er9 := er9.symm
  subst er9
  refine lv_sipush (v := 954) hx hb dX11_digest_169 (by decide) ?_
  refine lv_iconst (v := 4) hx hb dX11_digest_172 (by decide) ?_
  obtain ⟨r47, k46, h⟩ := ob_elim h
  refine vp_callSl (W.runV (As := [.long r45, .int 954, .int 4]) (rest := [.ref (ad 0)]) ⟨hx, hb, hml, hown, hts⟩ (mX11_mixed l dC dI cI cZ ad r45 954 4 S32 k46) (cwV 3 hts gX11_digest_X11_mixed rfl rfl rfl (by decide +kernel) ⟨Nat.le_of_ble_eq_true rfl, Nat.le_of_ble_eq_true rfl⟩) ⟨QM_blind, va_recv hK hP (ci := 11) (q0 := 0) rfl rfl, fun U hU hW => ⟨rfl, QM_at hP hK hD hU hW⟩⟩ rfl rfl hl.1 rfl (lv_room (Nat.le_of_ble_eq_true rfl)) dX11_digest_173 ⟨Nat.zero_le _, Nat.zero_le _⟩) (fun r9 er9 => ?_)
  replace er9 := er9.symm
  subst er9
  refine lv_sipush (v := 958) hx hb dX11_digest_176 (by decide) ?_
  refine lv_iconst (v := 3) hx hb dX11_digest_179 (by decide) ?_
  refine lv_aload_n hx hb dX11_digest_180 rfl (lv_at hl 0 rfl) ?_
  refine va_get (D := (dC, dI)) (ci := 11) (v := .ref (ad 1)) (C := RX11) (T := TX11) (N := 8) hx hb hts hiX11 hown hK hP 0 rfl rfl 0 (by decide) hf7 (fun _ h9 => h9) rfl dX11_digest_181 ?_
  refine lv_iconst (v := 3) hx hb dX11_digest_184 (by decide) ?_
  obtain ⟨b48, h⟩ := ck_elim h
  refine va_iald hx hb hK hP 1 0 rfl rfl b48 dX11_digest_185 ?_
  refine lv_imul hx hb dX11_digest_186 ?_
  obtain ⟨r50, k49, h⟩ := ob_elim h
  refine vp_callSl (W.runV (As := [.long r47, .int 958, .int (3 * (S32 1 (3 : Int32).toNatClampNeg))]) (rest := []) ⟨hx, hb, hml, hown, hts⟩ (mX11_mixed l dC dI cI cZ ad r47 958 (3 * (S32 1 (3 : Int32).toNatClampNeg)) S32 k49) (cwV 3 hts gX11_digest_X11_mixed rfl rfl rfl (by decide +kernel) ⟨Nat.le_of_ble_eq_true rfl, Nat.le_of_ble_eq_true rfl⟩) ⟨QM_blind, va_recv hK hP (ci := 11) (q0 := 0) rfl rfl, fun U hU hW => ⟨rfl, QM_at hP hK hD hU hW⟩⟩ rfl rfl hl.1 rfl (lv_room (Nat.le_of_ble_eq_true rfl)) dX11_digest_187 ⟨Nat.zero_le _, Nat.zero_le _⟩) (fun r9 er9 => ?_)
  replace er9 := er9.symm
  subst er9
  refine lv_lstore_n (lv' := [(1, .long r50), (0, .ref (ad 0))]) hx hb dX11_digest_190 rfl hl (by decide) rfl (fun ls hl => ?_)
  refine lv_aload_n hx hb dX11_digest_191 rfl (lv_at hl 1 rfl) ?_
  refine lv_lload_n hx hb dX11_digest_192 rfl (lv_at hl 0 rfl) ?_
  refine lv_sipush (v := 982) hx hb dX11_digest_193 (by decide) ?_
  refine lv_aload_n hx hb dX11_digest_196 rfl (lv_at hl 1 rfl) ?_
  refine va_get (D := (dC, dI)) (ci := 11) (v := .ref (ad 1)) (C := RX11) (T := TX11) (N := 8) hx hb hts hiX11 hown hK hP 0 rfl rfl 0 (by decide) hf7 (fun _ h9 => h9) rfl dX11_digest_197 ?_
  refine lv_iconst (v := 4) hx hb dX11_digest_200 (by decide) ?_
  obtain ⟨b51, h⟩ := ck_elim h
  refine va_iald hx hb hK hP 1 0 rfl rfl b51 dX11_digest_201 ?_
  obtain ⟨r53, k52, h⟩ := ob_elim h
  refine vp_callSl (W.runV (As := [.long r50, .int 982, .int (S32 1 (4 : Int32).toNatClampNeg)]) (rest := []) ⟨hx, hb, hml, hown, hts⟩ (mX11_mixed l dC dI cI cZ ad r50 982 (S32 1 (4 : Int32).toNatClampNeg) S32 k52) (cwV 3 hts gX11_digest_X11_mixed rfl rfl rfl (by decide +kernel) ⟨Nat.le_of_ble_eq_true rfl, Nat.le_of_ble_eq_true rfl⟩) ⟨QM_blind, va_recv hK hP (ci := 11) (q0 := 0) rfl rfl, fun U hU hW => ⟨rfl, QM_at hP hK hD hU hW⟩⟩ rfl rfl hl.1 rfl (lv_room (Nat.le_of_ble_eq_true rfl)) dX11_digest_202 ⟨Nat.zero_le _, Nat.zero_le _⟩) (fun r9 er9 => ?_)
  replace er9 := er9.symm
  subst er9
  cases h
  exact W.lret hx hb hr (fun t ht hW => ⟨⟨_, _, rfl, rfl, by show va_P _ _ _ t.heap; rw [ht]; exact hP⟩, hS.F ht⟩) hS.2.2 dX11_digest_205
