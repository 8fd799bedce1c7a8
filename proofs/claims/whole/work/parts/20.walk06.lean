set_option maxHeartbeats 4000000 in
set_option maxRecDepth 100000 in
theorem mX4_wayTaken (l : Launch) (dC : Nat → ClassId) (dI : Nat → Nat → Nat) (cI cJ : ClassId) (ad : Nat → Nat) (p1 : Int32) (S : Nat → Nat → Int32) (L : Nat → Nat → Int64) {z : Int32} (h : sX4_wayTaken p1 S L = some z) : Met l yX4_wayTaken wsX4_wayTaken ({ frames := 0, cells := 0, slots := 0, locals := 0 }) (va_Pc [.ref (ad 6), .int p1] (QX dC dI cI cJ ad S L)) (vp_Si (fun r => r = z)) 0 0 (fun _ => False) := by
  refine Met.ofW (cc := cX4_wayTaken) (maxL := 2) (ret := (some .int)) (by decide) rfl ?_
  intro p e s m args below meth c s₁ B hml hv
  obtain ⟨rfl, hP, hK, hD⟩ := hv
  have hx := B.exec
  have hb := B.bytes
  have hr := B.returns
  have hts := atoms_spec (ws := wsX4_wayTaken) B.pre
  have hown : s.vm.findClass RX4 = some m.cls := findClass_of_methodNamed B.named
  have hlocks := B.notSynchronized
  have hl := lv_entry ([.ref (ad 6), .int p1]) (n := 2) (Nat.le_of_ble_eq_true rfl)
  rw [lg_entry_eq]
  generalize (lg_sl ([.ref (ad 6), .int p1]) ++ List.replicate (2 - (lg_sl ([.ref (ad 6), .int p1])).length) Slot.unset).toArray = ls at hl ⊢
  have hl : lv_has ls 2 [(0, .ref (ad 6)), (1, .int p1)] := hl
  have hf15 := hts (.fieldLink RX4 15 "LawRings$Hearing" "end" "[I") (by decide +kernel)
  have hiX4 : ∀ w ∈ u_ws RX4 TX4 9, w ∈ wsX4_wayTaken := by decide +kernel
  have hf18 := hts (.fieldLink RX4 18 "LawRings$Hearing" "to" "[I") (by decide +kernel)
  have hf32 := hts (.fieldLink RX4 32 "LawRings$Hearing" "lands" "LLawRings$Lands;") (by decide +kernel)
  have hf98 := hts (.fieldLink RX4 98 "LawRings$Lands" "ways" "[I") (by decide +kernel)
  have hiX5 : ∀ w ∈ u_ws RX5 TX5 2, w ∈ wsX4_wayTaken := by decide +kernel
  rw [sX4_wayTaken] at h
  refine lv_aload_n hx hb dX4_wayTaken_0 rfl (lv_at hl 0 rfl) ?_
  refine va_get (D := (dC, dI)) (ci := 4) (v := .ref (ad 36)) (C := RX4) (T := TX4) (N := 9) hx hb hts hiX4 hown hK hP 6 rfl rfl 6 (by decide) hf15 (fun _ h9 => h9) rfl dX4_wayTaken_1 ?_
  refine lv_iload_n hx hb dX4_wayTaken_4 rfl (lv_at hl 1 rfl) ?_
  obtain ⟨b1, h⟩ := ck_elim h
  refine va_iald hx hb hK hP 36 0 rfl rfl b1 dX4_wayTaken_5 ?_
  refine lv_iconst (v := 1) hx hb dX4_wayTaken_6 (by decide) ?_
  refine lv_icmp_ne (tgt := 32) hx hb dX4_wayTaken_7 (by decide) (fun c2 => ?_) (fun c2 => ?_)
  · replace h := it_f c2 h
    refine lv_iconst (v := 0) hx hb dX4_wayTaken_32 (by decide) ?_
    cases h
    exact W.iret hx hb hr (fun t ht hW => ⟨_, rfl, rfl, ht⟩) (fun q hq => absurd hq List.not_mem_nil) dX4_wayTaken_33
  · replace h := it_t c2 h
    refine lv_aload_n hx hb dX4_wayTaken_10 rfl (lv_at hl 0 rfl) ?_
    refine va_get (D := (dC, dI)) (ci := 4) (v := .ref (ad 37)) (C := RX4) (T := TX4) (N := 9) hx hb hts hiX4 hown hK hP 6 rfl rfl 7 (by decide) hf18 (fun _ h9 => h9) rfl dX4_wayTaken_11 ?_
    refine lv_iload_n hx hb dX4_wayTaken_14 rfl (lv_at hl 1 rfl) ?_
    obtain ⟨b3, h⟩ := ck_elim h
    refine va_iald hx hb hK hP 37 0 rfl rfl b3 dX4_wayTaken_15 ?_
    refine lv_iload_n hx hb dX4_wayTaken_16 rfl (lv_at hl 1 rfl) ?_
    refine lv_icmp_eq (tgt := 32) hx hb dX4_wayTaken_17 (by decide) (fun c4 => ?_) (fun c4 => ?_)
    · replace h := it_t c4 h
      refine lv_iconst (v := 0) hx hb dX4_wayTaken_32 (by decide) ?_
      cases h
      exact W.iret hx hb hr (fun t ht hW => ⟨_, rfl, rfl, ht⟩) (fun q hq => absurd hq List.not_mem_nil) dX4_wayTaken_33
    · replace h := it_f c4 h
      refine lv_aload_n hx hb dX4_wayTaken_20 rfl (lv_at hl 0 rfl) ?_
      refine va_get (D := (dC, dI)) (ci := 4) (v := .ref (ad 3)) (C := RX4) (T := TX4) (N := 9) hx hb hts hiX4 hown hK hP 6 rfl rfl 1 (by decide) hf32 (fun _ h9 => h9) rfl dX4_wayTaken_21 ?_
      refine va_get (D := (dC, dI)) (ci := 5) (v := .ref (ad 30)) (C := RX5) (T := TX5) (N := 2) hx hb hts hiX5 hown hK hP 3 rfl rfl 1 (by decide) hf98 (fun _ h9 => h9) rfl dX4_wayTaken_24 ?_
      refine lv_iload_n hx hb dX4_wayTaken_27 rfl (lv_at hl 1 rfl) ?_
      obtain ⟨b5, h⟩ := ck_elim h
      refine va_iald hx hb hK hP 30 0 rfl rfl b5 dX4_wayTaken_28 ?_
      refine lv_goto (tgt := 33) hx hb dX4_wayTaken_29 (by decide) ?_
      cases h
      exact W.iret hx hb hr (fun t ht hW => ⟨_, rfl, rfl, ht⟩) (fun q hq => absurd hq List.not_mem_nil) dX4_wayTaken_33
set_option maxHeartbeats 4000000 in
set_option maxRecDepth 100000 in
theorem mX3_follow_7_6 (l : Launch) (dC : Nat → ClassId) (dI : Nat → Nat → Nat) (cI cJ : ClassId) (ad : Nat → Nat) (p2 : Int32) (S : Nat → Nat → Int32) (L : Nat → Nat → Int64) (sz : Nat) {z : (Nat → Nat → Int32) × (Nat → Nat → Int64)} (h : sX3_follow_7_6 p2 S L = some z) : Met l yX3_follow wsX3_follow ({ frames := 0, cells := 0, slots := 0, locals := 0 }) (va_Pc [.ref (ad 7), .ref (ad 6), .int p2] (QXs sz dC dI cI cJ ad S L)) (va_Qv (fun (u : (Nat → Nat → Int32) × (Nat → Nat → Int64)) => u = z) (fun (u : (Nat → Nat → Int32) × (Nat → Nat → Int64)) t => va_P (dC, dI) vwCl (wX cI cJ ad u.1 u.2) t.heap) (AX 43 ad sz)) 0 0 (AX 43 ad sz) := by
  refine Met.ofW (cc := cX3_follow) (maxL := 6) (ret := none) (by decide) rfl ?_
  intro p e s m args below meth c s₁ B hml hv
  obtain ⟨rfl, hsz, hP, hK, hD0⟩ := hv
  have hx := B.exec
  have hb := B.bytes
  have hr := B.returns
  have hts := atoms_spec (ws := wsX3_follow) B.pre
  have hown : s.vm.findClass RX3 = some m.cls := findClass_of_methodNamed B.named
  have hlocks := B.notSynchronized
  subst hsz
  have hD := wX_DA hD0 s.heap.size
  have hS : va_S (AX 43 ad s.heap.size) s.heap s.heap [] := va_S.rf
  have hl := lv_entry ([.ref (ad 7), .ref (ad 6), .int p2]) (n := 6) (Nat.le_of_ble_eq_true rfl)
  rw [lg_entry_eq]
  generalize (lg_sl ([.ref (ad 7), .ref (ad 6), .int p2]) ++ List.replicate (6 - (lg_sl ([.ref (ad 7), .ref (ad 6), .int p2])).length) Slot.unset).toArray = ls at hl ⊢
  have hl : lv_has ls 6 [(0, .ref (ad 7)), (1, .ref (ad 6)), (2, .int p2)] := hl
  have hf9 := hts (.fieldLink RX3 9 "LawRings$Chain" "lands" "[I") (by decide +kernel)
  have hiX3 : ∀ w ∈ u_ws RX3 TX3 4, w ∈ wsX3_follow := by decide +kernel
  have hf15 := hts (.fieldLink RX3 15 "LawRings$Chain" "size" "I") (by decide +kernel)
  have hf19 := hts (.fieldLink RX3 19 "LawRings$Hearing" "end" "[I") (by decide +kernel)
  have hiX4 : ∀ w ∈ u_ws RX4 TX4 9, w ∈ wsX3_follow := by decide +kernel
  have hf24 := hts (.fieldLink RX3 24 "LawRings$Chain" "back" "I") (by decide +kernel)
  have hf27 := hts (.fieldLink RX3 27 "LawRings$Hearing" "to" "[I") (by decide +kernel)
  have hf30 := hts (.fieldLink RX3 30 "LawRings$Chain" "last" "I") (by decide +kernel)
  rw [sX3_follow_7_6] at h
  refine lv_iconst (v := 1) hx hb dX3_follow_0 (by decide) ?_
  refine lv_iload_n hx hb dX3_follow_1 rfl (lv_at hl 2 rfl) ?_
  refine lv_ishl hx hb dX3_follow_2 ?_
  obtain ⟨x1, ex1, h⟩ := bnd_elim h
  refine nm_i ex1 ?_
  refine lv_istore_n (lv' := [(3, .int x1), (0, .ref (ad 7)), (1, .ref (ad 6)), (2, .int p2)]) hx hb dX3_follow_3 rfl hl (by decide) rfl (fun ls hl => ?_)
  refine lv_aload_n hx hb dX3_follow_4 rfl (lv_at hl 1 rfl) ?_
  refine va_get (D := (dC, dI)) (ci := 3) (v := .ref (ad 38)) (C := RX3) (T := TX3) (N := 4) hx hb hts hiX3 hown hK hP 7 rfl rfl 0 (by decide) hf9 (fun _ h9 => h9) rfl dX3_follow_5 ?_
  refine lv_iconst (v := 0) hx hb dX3_follow_8 (by decide) ?_
  refine lv_iload_n hx hb dX3_follow_9 rfl (lv_at hl 3 rfl) ?_
  obtain ⟨b2, h⟩ := ck_elim h
  obtain ⟨S3, eS3, h⟩ := bnd_elim h
  refine va_iast hx hb hK hP hD hS 38 0 rfl rfl b2 dX3_follow_10 (fun H locs hP9 _ hS => ?_)
  have hP := swX_38 hP9
  rw [← eS3] at hP
  have hD := wX_D hD S3 L
  refine lv_aload_n hx hb dX3_follow_11 rfl (lv_at hl 1 rfl) ?_
  refine lv_iconst (v := 1) hx hb dX3_follow_12 (by decide) ?_
  obtain ⟨S4, eS4, h⟩ := bnd_elim h
  refine va_put (D := (dC, dI)) (ci := 3) (v := .int 1) (ty := .int) (C := RX3) (T := TX3) (N := 4) hx hb hts hiX3 tyX3 tyX3_ok nmX3 hown hK hP hD hS 7 rfl rfl 1 (by decide) hf15 (fun _ h9 => h9) rfl (by decide +kernel) rfl rfl (Nat.le_of_ble_eq_true rfl) dX3_follow_13 (fun H locs hP9 _ hS => ?_)
  have hP := swX_7_1 hP9
  rw [← eS4] at hP
  have hD := wX_D hD S4 L
  refine lv_iconst (v := 0) hx hb dX3_follow_16 (by decide) ?_
  refine lv_istore (lv' := [(4, .int 0), (3, .int x1), (0, .ref (ad 7)), (1, .ref (ad 6)), (2, .int p2)]) hx hb dX3_follow_17 hl (by decide) rfl (fun ls hl => ?_)
  refine ww_w (fun WW19 hWW19 => ?_)
  have Lh19 : ∀ (n : Nat) (v5 : Int32) (v6 : Int32) (S7 : (Nat → Nat → Int32)) (L8 : (Nat → Nat → Int64)) (z : (((Nat → Nat → Int32) × (Nat → Nat → Int64)) ⊕ ((Nat → Nat → Int32) × (Nat → Nat → Int64)))), lX3_follow_7_6_19 n v5 v6 S7 L8 = some z → ∀ (H : Heap) (locs : List Loc), va_P (dC, dI) vwCl (wX cI cJ ad S7 L8) H → va_S (AX 43 ad s.heap.size) s.heap H locs → ∀ ls : Array Slot, lv_has ls 6 [(0, .ref (ad 7)), (1, .ref (ad 6)), (3, .int v5), (4, .int v6)] → (∀ (YS : (Nat → Nat → Int32)) (YL : (Nat → Nat → Int64)), z = .inl (YS, YL) → ∀ (H : Heap) (locs : List Loc), va_P (dC, dI) vwCl (wX cI cJ ad YS YL) H → va_S (AX 43 ad s.heap.size) s.heap H locs → ∀ ls : Array Slot, lv_has ls 6 [] → WW19 H locs 86 ls) → (∀ (YS : (Nat → Nat → Int32)) (YL : (Nat → Nat → Int64)), z = .inr (YS, YL) → ∀ (H : Heap) (locs : List Loc), va_P (dC, dI) vwCl (wX cI cJ ad YS YL) H → va_S (AX 43 ad s.heap.size) s.heap H locs → ∀ ls : Array Slot, lv_has ls 6 [] → WW19 H locs 125 ls) → WW19 H locs 19 ls := by
    intro n
    induction n with
    | zero => intro v5 v6 S7 L8 z h H locs hP hS ls hl K0 K1; rw [lX3_follow_7_6_19] at h; cases h
    | succ n ih =>
      intro v5 v6 S7 L8 z h H locs hP hS ls hl K0 K1
      have hD := wX_D hD S7 L8
      rw [lX3_follow_7_6_19] at h
      refine wi_w hWW19 ?_
      refine lv_iload hx hb dX3_follow_19 (lv_at hl 3 rfl) ?_
      refine lv_iconst (v := 4) hx hb dX3_follow_21 (by decide) ?_
      refine lv_icmp_ge (tgt := 125) hx hb dX3_follow_22 (by decide) (fun c9 => ?_) (fun c9 => ?_)
      · replace h := it_t c9 h
        refine wu_w hWW19 ?_
        exact K1 S7 L8 (Option.some.inj h).symm H locs hP hS ls (lv_sub hl [] rfl)
      · replace h := it_f c9 h
        refine lv_aload_n hx hb dX3_follow_25 rfl (lv_at hl 0 rfl) ?_
        refine va_get (D := (dC, dI)) (ci := 3) (v := .ref (ad 38)) (C := RX3) (T := TX3) (N := 4) hx hb hts hiX3 hown hK hP 7 rfl rfl 0 (by decide) hf9 (fun _ h9 => h9) rfl dX3_follow_26 ?_
        refine lv_aload_n hx hb dX3_follow_29 rfl (lv_at hl 0 rfl) ?_
        refine va_get (D := (dC, dI)) (ci := 3) (v := .int (S7 7 1)) (C := RX3) (T := TX3) (N := 4) hx hb hts hiX3 hown hK hP 7 rfl rfl 1 (by decide) hf15 (fun _ h9 => h9) rfl dX3_follow_30 ?_
        refine lv_iconst (v := 1) hx hb dX3_follow_33 (by decide) ?_
        refine lv_isub hx hb dX3_follow_34 ?_
        obtain ⟨b10, h⟩ := ck_elim h
        refine va_iald hx hb hK hP 38 0 rfl rfl b10 dX3_follow_35 ?_
        obtain ⟨x11, ex11, h⟩ := bnd_elim h
        refine nm_i ex11 ?_
        refine lv_istore (lv' := [(5, .int x11), (0, .ref (ad 7)), (1, .ref (ad 6)), (3, .int v5), (4, .int v6)]) hx hb dX3_follow_36 hl (by decide) rfl (fun ls hl => ?_)
        refine lv_aload_n hx hb dX3_follow_38 rfl (lv_at hl 1 rfl) ?_
        refine lv_aload_n hx hb dX3_follow_39 rfl (lv_at hl 2 rfl) ?_
        refine va_get (D := (dC, dI)) (ci := 4) (v := .ref (ad 36)) (C := RX4) (T := TX4) (N := 9) hx hb hts hiX4 hown hK hP 6 rfl rfl 6 (by decide) hf19 (fun _ h9 => h9) rfl dX3_follow_40 ?_
        refine lv_iload hx hb dX3_follow_43 (lv_at hl 0 rfl) ?_
        obtain ⟨b12, h⟩ := ck_elim h
        refine va_iald hx hb hK hP 36 0 rfl rfl b12 dX3_follow_45 ?_
        obtain ⟨S13, eS13, h⟩ := bnd_elim h
        refine va_put (D := (dC, dI)) (ci := 3) (v := .int (S7 36 x11.toNatClampNeg)) (ty := .int) (C := RX3) (T := TX3) (N := 4) hx hb hts hiX3 tyX3 tyX3_ok nmX3 hown hK hP hD hS 7 rfl rfl 2 (by decide) hf24 (fun _ h9 => h9) rfl (by decide +kernel) rfl rfl (Nat.le_of_ble_eq_true rfl) dX3_follow_46 (fun H locs hP9 _ hS => ?_)
        have hP := swX_7_2 hP9
        rw [← eS13] at hP
        have hD := wX_D hD S13 L8
        refine lv_aload_n hx hb dX3_follow_49 rfl (lv_at hl 1 rfl) ?_
        refine lv_aload_n hx hb dX3_follow_50 rfl (lv_at hl 2 rfl) ?_
        refine va_get (D := (dC, dI)) (ci := 4) (v := .ref (ad 37)) (C := RX4) (T := TX4) (N := 9) hx hb hts hiX4 hown hK hP 6 rfl rfl 7 (by decide) hf27 (fun _ h9 => h9) rfl dX3_follow_51 ?_
        refine lv_iload hx hb dX3_follow_54 (lv_at hl 0 rfl) ?_
        obtain ⟨b14, h⟩ := ck_elim h
        refine va_iald hx hb hK hP 37 0 rfl rfl b14 dX3_follow_56 ?_
        obtain ⟨S15, eS15, h⟩ := bnd_elim h
        refine va_put (D := (dC, dI)) (ci := 3) (v := .int (S13 37 x11.toNatClampNeg)) (ty := .int) (C := RX3) (T := TX3) (N := 4) hx hb hts hiX3 tyX3 tyX3_ok nmX3 hown hK hP hD hS 7 rfl rfl 3 (by decide) hf30 (fun _ h9 => h9) rfl (by decide +kernel) rfl rfl (Nat.le_of_ble_eq_true rfl) dX3_follow_57 (fun H locs hP9 _ hS => ?_)
        have hP := swX_7_3 hP9
        rw [← eS15] at hP
        have hD := wX_D hD S15 L8
        refine lv_aload_n hx hb dX3_follow_60 rfl (lv_at hl 1 rfl) ?_
        refine va_get (D := (dC, dI)) (ci := 3) (v := .int (S15 7 2)) (C := RX3) (T := TX3) (N := 4) hx hb hts hiX3 hown hK hP 7 rfl rfl 2 (by decide) hf24 (fun _ h9 => h9) rfl dX3_follow_61 ?_
        refine lv_if_eq (tgt := 86) hx hb dX3_follow_64 (by decide) (fun c16 => ?_) (fun c16 => ?_)
        · replace h := it_t c16 h
          refine wu_w hWW19 ?_
          exact K0 S15 L8 (Option.some.inj h).symm H locs hP hS ls (lv_sub hl [] rfl)
        · replace h := it_f c16 h
          refine lv_iload_n hx hb dX3_follow_67 rfl (lv_at hl 3 rfl) ?_
          refine lv_aload_n hx hb dX3_follow_68 rfl (lv_at hl 1 rfl) ?_
          refine va_get (D := (dC, dI)) (ci := 3) (v := .int (S15 7 3)) (C := RX3) (T := TX3) (N := 4) hx hb hts hiX3 hown hK hP 7 rfl rfl 3 (by decide) hf30 (fun _ h9 => h9) rfl dX3_follow_69 ?_
          refine lv_iushr (v := iush v5 (S15 7 3)) hx hb dX3_follow_72 rfl ?_
          refine lv_iconst (v := 1) hx hb dX3_follow_73 (by decide) ?_
          refine lv_iand hx hb dX3_follow_74 ?_
          refine lv_if_ne (tgt := 86) hx hb dX3_follow_75 (by decide) (fun c17 => ?_) (fun c17 => ?_)
          · replace h := it_f c17 h
            refine wu_w hWW19 ?_
            exact K0 S15 L8 (Option.some.inj h).symm H locs hP hS ls (lv_sub hl [] rfl)
          · replace h := it_t c17 h
            refine lv_aload_n hx hb dX3_follow_78 rfl (lv_at hl 1 rfl) ?_
            refine va_get (D := (dC, dI)) (ci := 3) (v := .int (S15 7 1)) (C := RX3) (T := TX3) (N := 4) hx hb hts hiX3 hown hK hP 7 rfl rfl 1 (by decide) hf15 (fun _ h9 => h9) rfl dX3_follow_79 ?_
            refine lv_iconst (v := 4) hx hb dX3_follow_82 (by decide) ?_
            refine lv_icmp_lt (tgt := 87) hx hb dX3_follow_83 (by decide) (fun c18 => ?_) (fun c18 => ?_)
            · replace h := it_t c18 h
              refine lv_iload_n hx hb dX3_follow_87 rfl (lv_at hl 3 rfl) ?_
              refine lv_iconst (v := 1) hx hb dX3_follow_88 (by decide) ?_
              refine lv_aload_n hx hb dX3_follow_89 rfl (lv_at hl 1 rfl) ?_
              refine va_get (D := (dC, dI)) (ci := 3) (v := .int (S15 7 3)) (C := RX3) (T := TX3) (N := 4) hx hb hts hiX3 hown hK hP 7 rfl rfl 3 (by decide) hf30 (fun _ h9 => h9) rfl dX3_follow_90 ?_
              refine lv_ishl hx hb dX3_follow_93 ?_
              refine lv_ior hx hb dX3_follow_94 ?_
              obtain ⟨x19, ex19, h⟩ := bnd_elim h
              refine nm_i ex19 ?_
              refine lv_istore_n (lv' := [(3, .int x19), (5, .int x11), (0, .ref (ad 7)), (1, .ref (ad 6)), (4, .int v6)]) hx hb dX3_follow_95 rfl hl (by decide) rfl (fun ls hl => ?_)
              refine lv_aload_n hx hb dX3_follow_96 rfl (lv_at hl 2 rfl) ?_
              refine va_get (D := (dC, dI)) (ci := 3) (v := .ref (ad 38)) (C := RX3) (T := TX3) (N := 4) hx hb hts hiX3 hown hK hP 7 rfl rfl 0 (by decide) hf9 (fun _ h9 => h9) rfl dX3_follow_97 ?_
              refine lv_aload_n hx hb dX3_follow_100 rfl (lv_at hl 2 rfl) ?_
              refine va_get (D := (dC, dI)) (ci := 3) (v := .int (S15 7 1)) (C := RX3) (T := TX3) (N := 4) hx hb hts hiX3 hown hK hP 7 rfl rfl 1 (by decide) hf15 (fun _ h9 => h9) rfl dX3_follow_101 ?_
              refine lv_aload_n hx hb dX3_follow_104 rfl (lv_at hl 2 rfl) ?_
              refine va_get (D := (dC, dI)) (ci := 3) (v := .int (S15 7 3)) (C := RX3) (T := TX3) (N := 4) hx hb hts hiX3 hown hK hP 7 rfl rfl 3 (by decide) hf30 (fun _ h9 => h9) rfl dX3_follow_105 ?_
              obtain ⟨b20, h⟩ := ck_elim h
              obtain ⟨S21, eS21, h⟩ := bnd_elim h
              refine va_iast hx hb hK hP hD hS 38 0 rfl rfl b20 dX3_follow_108 (fun H locs hP9 _ hS => ?_)
              have hP := swX_38 hP9
              rw [← eS21] at hP
              have hD := wX_D hD S21 L8
              refine lv_aload_n hx hb dX3_follow_109 rfl (lv_at hl 2 rfl) ?_
              refine lv_dup hx hb dX3_follow_110 rfl ?_
              refine va_get (D := (dC, dI)) (ci := 3) (v := .int (S21 7 1)) (C := RX3) (T := TX3) (N := 4) hx hb hts hiX3 hown hK hP 7 rfl rfl 1 (by decide) hf15 (fun _ h9 => h9) rfl dX3_follow_111 ?_
              refine lv_iconst (v := 1) hx hb dX3_follow_114 (by decide) ?_
              refine lv_iadd hx hb dX3_follow_115 ?_
              obtain ⟨S22, eS22, h⟩ := bnd_elim h
              refine va_put (D := (dC, dI)) (ci := 3) (v := .int ((S21 7 1) + 1)) (ty := .int) (C := RX3) (T := TX3) (N := 4) hx hb hts hiX3 tyX3 tyX3_ok nmX3 hown hK hP hD hS 7 rfl rfl 1 (by decide) hf15 (fun _ h9 => h9) rfl (by decide +kernel) rfl rfl (Nat.le_of_ble_eq_true rfl) dX3_follow_116 (fun H locs hP9 _ hS => ?_)
              have hP := swX_7_1 hP9
              rw [← eS22] at hP
              have hD := wX_D hD S22 L8
              obtain ⟨x23, ex23, h⟩ := bnd_elim h
              refine lv_iinc (v := x23) (lv' := [(4, .int x23), (3, .int x19), (5, .int x11), (0, .ref (ad 7)), (1, .ref (ad 6))]) hx hb dX3_follow_119 hl (k := 4) rfl (by rw [ex23]; rfl) (by decide) rfl (fun ls hl => ?_)
              refine lv_goto (tgt := 19) hx hb dX3_follow_122 (by decide) ?_
              refine wu_w hWW19 ?_
              exact ih x19 x23 S22 L8 z h H locs hP hS ls (lv_sub hl [3, 4, 1, 0] rfl) K0 K1
            · replace h := it_f c18 h
              refine wu_w hWW19 ?_
              exact K0 S15 L8 (Option.some.inj h).symm H locs hP hS ls (lv_sub hl [] rfl)
  obtain ⟨q9, k24, h⟩ | ⟨q9, k24, h⟩ := os2_elim h
  · obtain ⟨S25, L26⟩ := q9
    replace h := un2_e h
    refine wu_w hWW19 ?_
    refine Lh19 FU x1 0 S4 L _ k24 H locs hP hS ls (lv_sub hl [2, 3, 1, 0] rfl) ?_ (fun _ _ hy => by cases hy)
    intro y0 y1 hy H locs hP hS ls hl
    cases hy
    have hD := wX_D hD S25 L26
    refine wi_w hWW19 ?_
    cases h
    exact W.vret hx hb hr (fun t ht hW => ⟨⟨_, rfl, rfl, by show va_P _ _ _ t.heap; rw [ht]; exact hP⟩, hS.F ht⟩) hS.2.2 dX3_follow_86
  · obtain ⟨S27, L28⟩ := q9
    replace h := un2_e h
    refine wu_w hWW19 ?_
    refine Lh19 FU x1 0 S4 L _ k24 H locs hP hS ls (lv_sub hl [2, 3, 1, 0] rfl) (fun _ _ hy => by cases hy) ?_
    intro y0 y1 hy H locs hP hS ls hl
    cases hy
    have hD := wX_D hD S27 L28
    refine wi_w hWW19 ?_
    cases h
    exact W.vret hx hb hr (fun t ht hW => ⟨⟨_, rfl, rfl, by show va_P _ _ _ t.heap; rw [ht]; exact hP⟩, hS.F ht⟩) hS.2.2 dX3_follow_125
set_option maxHeartbeats 4000000 in
set_option maxRecDepth 100000 in
theorem mX4_byBooks (l : Launch) (dC : Nat → ClassId) (dI : Nat → Nat → Nat) (cI cJ : ClassId) (ad : Nat → Nat) (p1 : Int32) (S : Nat → Nat → Int32) (L : Nat → Nat → Int64) (sz : Nat) {z : Int32 × (Nat → Nat → Int32) × (Nat → Nat → Int64)} (h : sX4_byBooks p1 S L = some z) : Met l yX4_byBooks wsX4_byBooks ({ frames := 1, cells := 0, slots := 0, locals := 25 }) (va_Pc [.ref (ad 6), .int p1] (QXs sz dC dI cI cJ ad S L)) (va_Qi (fun (r : Int32) (u : (Nat → Nat → Int32) × (Nat → Nat → Int64)) => (r, u) = z) (fun (u : (Nat → Nat → Int32) × (Nat → Nat → Int64)) t => va_P (dC, dI) vwCl (wX cI cJ ad u.1 u.2) t.heap) (AX 43 ad sz)) 0 0 (AX 43 ad sz) := by
  refine Met.ofW (cc := cX4_byBooks) (maxL := 3) (ret := (some .int)) (by decide) rfl ?_
  intro p e s m args below meth c s₁ B hml hv
  obtain ⟨rfl, hsz, hP, hK, hD0⟩ := hv
  have hx := B.exec
  have hb := B.bytes
  have hr := B.returns
  have hts := atoms_spec (ws := wsX4_byBooks) B.pre
  have hown : s.vm.findClass RX4 = some m.cls := findClass_of_methodNamed B.named
  have hlocks := B.notSynchronized
  subst hsz
  have hD := wX_DA hD0 s.heap.size
  have hS : va_S (AX 43 ad s.heap.size) s.heap s.heap [] := va_S.rf
  have hl := lv_entry ([.ref (ad 6), .int p1]) (n := 3) (Nat.le_of_ble_eq_true rfl)
  rw [lg_entry_eq]
  generalize (lg_sl ([.ref (ad 6), .int p1]) ++ List.replicate (3 - (lg_sl ([.ref (ad 6), .int p1])).length) Slot.unset).toArray = ls at hl ⊢
  have hl : lv_has ls 3 [(0, .ref (ad 6)), (1, .int p1)] := hl
  have hf18 := hts (.fieldLink RX4 18 "LawRings$Hearing" "to" "[I") (by decide +kernel)
  have hiX4 : ∀ w ∈ u_ws RX4 TX4 9, w ∈ wsX4_byBooks := by decide +kernel
  have hf24 := hts (.fieldLink RX4 24 "LawRings$Hearing" "chain" "LLawRings$Chain;") (by decide +kernel)
  have hf105 := hts (.fieldLink RX4 105 "LawRings$Chain" "last" "I") (by decide +kernel)
  have hiX3 : ∀ w ∈ u_ws RX3 TX3 4, w ∈ wsX4_byBooks := by decide +kernel
  rw [sX4_byBooks] at h
  refine lv_aload_n hx hb dX4_byBooks_0 rfl (lv_at hl 0 rfl) ?_
  refine lv_iload_n hx hb dX4_byBooks_1 rfl (lv_at hl 1 rfl) ?_
  obtain ⟨r2, k1, h⟩ := ob_elim h
  refine vp_callSi (W.runV (As := [.int p1]) (rest := []) ⟨hx, hb, hml, hown, hts⟩ (mX4_wayTaken l dC dI cI cJ ad p1 S L k1) (cwV 1 hts gX4_byBooks_X4_wayTaken rfl rfl rfl (by decide +kernel) ⟨Nat.le_of_ble_eq_true rfl, Nat.le_of_ble_eq_true rfl⟩) ⟨QX_blind, va_recv hK hP (ci := 4) (q0 := 6) rfl rfl, fun U hU hW => ⟨rfl, QX_at hP hK hD hU hW⟩⟩ rfl rfl hl.1 rfl (lv_room (Nat.le_of_ble_eq_true rfl)) dX4_byBooks_2 ⟨Nat.zero_le _, Nat.zero_le _⟩) (fun r9 er9 => ?_)
  replace er9 := er9.symm
  subst er9
  refine lv_istore_n (lv' := [(2, .int r2), (0, .ref (ad 6)), (1, .int p1)]) hx hb dX4_byBooks_5 rfl hl (by decide) rfl (fun ls hl => ?_)
  refine lv_iload_n hx hb dX4_byBooks_6 rfl (lv_at hl 0 rfl) ?_
  refine lv_iconst (v := 1) hx hb dX4_byBooks_7 (by decide) ?_
  refine lv_icmp_ne (tgt := 23) hx hb dX4_byBooks_8 (by decide) (fun c3 => ?_) (fun c3 => ?_)
  · replace h := it_f c3 h
    refine lv_iload_n hx hb dX4_byBooks_23 rfl (lv_at hl 0 rfl) ?_
    refine lv_iconst (v := 2) hx hb dX4_byBooks_24 (by decide) ?_
    refine lv_icmp_ne (tgt := 45) hx hb dX4_byBooks_25 (by decide) (fun c4 => ?_) (fun c4 => ?_)
    · replace h := it_f c4 h
      refine lv_aload_n hx hb dX4_byBooks_45 rfl (lv_at hl 1 rfl) ?_
      refine va_get (D := (dC, dI)) (ci := 4) (v := .ref (ad 37)) (C := RX4) (T := TX4) (N := 9) hx hb hts hiX4 hown hK hP 6 rfl rfl 7 (by decide) hf18 (fun _ h9 => h9) rfl dX4_byBooks_46 ?_
      refine lv_iload_n hx hb dX4_byBooks_49 rfl (lv_at hl 2 rfl) ?_
      obtain ⟨b5, h⟩ := ck_elim h
      refine va_iald hx hb hK hP 37 0 rfl rfl b5 dX4_byBooks_50 ?_
      cases h
      exact W.iret hx hb hr (fun t ht hW => ⟨⟨_, _, rfl, rfl, by show va_P _ _ _ t.heap; rw [ht]; exact hP⟩, hS.F ht⟩) hS.2.2 dX4_byBooks_51
    · replace h := it_t c4 h
      refine lv_aload_n hx hb dX4_byBooks_28 rfl (lv_at hl 1 rfl) ?_
      refine va_get (D := (dC, dI)) (ci := 4) (v := .ref (ad 7)) (C := RX4) (T := TX4) (N := 9) hx hb hts hiX4 hown hK hP 6 rfl rfl 8 (by decide) hf24 (fun _ h9 => h9) rfl dX4_byBooks_29 ?_
      refine lv_aload_n hx hb dX4_byBooks_32 rfl (lv_at hl 1 rfl) ?_
      refine lv_iload_n hx hb dX4_byBooks_33 rfl (lv_at hl 2 rfl) ?_
      obtain ⟨S7, L8, k6, h⟩ := ob2_elim h
      refine va_callv (va_runV (As := [.ref (ad 6), .int p1]) (rest := []) ⟨hx, hb, hml, hown, hts⟩ (mX3_follow_7_6 l dC dI cI cJ ad p1 S L s.heap.size k6) (cwV 2 hts gX4_byBooks_X3_follow rfl rfl rfl (by decide +kernel) ⟨Nat.le_of_ble_eq_true rfl, Nat.le_of_ble_eq_true rfl⟩) ⟨QXs_blind, va_recv hK hP (ci := 3) (q0 := 7) rfl rfl, fun U hU hW => ⟨rfl, congrArg Array.size hU, QX_at hP hK hD hU hW⟩⟩ rfl rfl hl.1 rfl (lv_room (Nat.le_of_ble_eq_true rfl)) dX4_byBooks_34 ⟨Nat.zero_le _, Nat.zero_le _⟩) hS (fun q _ hq => AX_mono hS.1 hq) (fun q hq => AX_mono hS.1 hq) (fun u t H1 locs ht hvm hw hB hz1 hk1 hS => ?_)
      cases hw
      rw [ht] at hB
      have hP := hB
      clear hB hk1 hz1
      generalize H1 = H at hP hS ⊢
      have hD := wX_D hD S7 L8
      refine lv_aload_n hx hb dX4_byBooks_37 rfl (lv_at hl 1 rfl) ?_
      refine va_get (D := (dC, dI)) (ci := 4) (v := .ref (ad 7)) (C := RX4) (T := TX4) (N := 9) hx hb hts hiX4 hown hK hP 6 rfl rfl 8 (by decide) hf24 (fun _ h9 => h9) rfl dX4_byBooks_38 ?_
      refine va_get (D := (dC, dI)) (ci := 3) (v := .int (S7 7 3)) (C := RX3) (T := TX3) (N := 4) hx hb hts hiX3 hown hK hP 7 rfl rfl 3 (by decide) hf105 (fun _ h9 => h9) rfl dX4_byBooks_41 ?_
      cases h
      exact W.iret hx hb hr (fun t ht hW => ⟨⟨_, _, rfl, rfl, by show va_P _ _ _ t.heap; rw [ht]; exact hP⟩, hS.F ht⟩) hS.2.2 dX4_byBooks_44
  · replace h := it_t c3 h
    refine lv_aload_n hx hb dX4_byBooks_11 rfl (lv_at hl 1 rfl) ?_
    refine va_get (D := (dC, dI)) (ci := 4) (v := .ref (ad 37)) (C := RX4) (T := TX4) (N := 9) hx hb hts hiX4 hown hK hP 6 rfl rfl 7 (by decide) hf18 (fun _ h9 => h9) rfl dX4_byBooks_12 ?_
    refine lv_aload_n hx hb dX4_byBooks_15 rfl (lv_at hl 1 rfl) ?_
    refine va_get (D := (dC, dI)) (ci := 4) (v := .ref (ad 37)) (C := RX4) (T := TX4) (N := 9) hx hb hts hiX4 hown hK hP 6 rfl rfl 7 (by decide) hf18 (fun _ h9 => h9) rfl dX4_byBooks_16 ?_
    refine lv_iload_n hx hb dX4_byBooks_19 rfl (lv_at hl 2 rfl) ?_
    obtain ⟨b9, h⟩ := ck_elim h
    refine va_iald hx hb hK hP 37 0 rfl rfl b9 dX4_byBooks_20 ?_
    obtain ⟨b10, h⟩ := ck_elim h
    refine va_iald hx hb hK hP 37 0 rfl rfl b10 dX4_byBooks_21 ?_
    cases h
    exact W.iret hx hb hr (fun t ht hW => ⟨⟨_, _, rfl, rfl, by show va_P _ _ _ t.heap; rw [ht]; exact hP⟩, hS.F ht⟩) hS.2.2 dX4_byBooks_22
set_option maxHeartbeats 4000000 in
set_option maxRecDepth 100000 in
theorem mX4_outcome (l : Launch) (dC : Nat → ClassId) (dI : Nat → Nat → Nat) (cI cJ : ClassId) (ad : Nat → Nat) (p1 : Int32) (S : Nat → Nat → Int32) (L : Nat → Nat → Int64) (sz : Nat) {z : Int32 × (Nat → Nat → Int32) × (Nat → Nat → Int64)} (h : sX4_outcome p1 S L = some z) : Met l yX4_outcome wsX4_outcome ({ frames := 2, cells := 0, slots := 0, locals := 47 }) (va_Pc [.ref (ad 6), .int p1] (QXs sz dC dI cI cJ ad S L)) (va_Qi (fun (r : Int32) (u : (Nat → Nat → Int32) × (Nat → Nat → Int64)) => (r, u) = z) (fun (u : (Nat → Nat → Int32) × (Nat → Nat → Int64)) t => va_P (dC, dI) vwCl (wX cI cJ ad u.1 u.2) t.heap) (AX 43 ad sz)) 0 0 (AX 43 ad sz) := by
  refine Met.ofW (cc := cX4_outcome) (maxL := 5) (ret := (some .int)) (by decide) rfl ?_
  intro p e s m args below meth c s₁ B hml hv
  obtain ⟨rfl, hsz, hP, hK, hD0⟩ := hv
  have hx := B.exec
  have hb := B.bytes
  have hr := B.returns
  have hts := atoms_spec (ws := wsX4_outcome) B.pre
  have hown : s.vm.findClass RX4 = some m.cls := findClass_of_methodNamed B.named
  have hlocks := B.notSynchronized
  subst hsz
  have hD := wX_DA hD0 s.heap.size
  have hS : va_S (AX 43 ad s.heap.size) s.heap s.heap [] := va_S.rf
  have hl := lv_entry ([.ref (ad 6), .int p1]) (n := 5) (Nat.le_of_ble_eq_true rfl)
  rw [lg_entry_eq]
  generalize (lg_sl ([.ref (ad 6), .int p1]) ++ List.replicate (5 - (lg_sl ([.ref (ad 6), .int p1])).length) Slot.unset).toArray = ls at hl ⊢
  have hl : lv_has ls 5 [(0, .ref (ad 6)), (1, .int p1)] := hl
  have hf36 := hts (.fieldLink RX4 36 "LawRings$Hearing" "treaties" "LLawRings$Treaties;") (by decide +kernel)
  have hiX4 : ∀ w ∈ u_ws RX4 TX4 9, w ∈ wsX4_outcome := by decide +kernel
  have hf67 := hts (.fieldLink RX4 67 "LawRings$Hearing" "kind" "I") (by decide +kernel)
  have hf9 := hts (.fieldLink RX4 9 "LawRings$Hearing" "ties" "[I") (by decide +kernel)
  have hf18 := hts (.fieldLink RX4 18 "LawRings$Hearing" "to" "[I") (by decide +kernel)
  rw [sX4_outcome] at h
  refine lv_iload_n hx hb dX4_outcome_0 rfl (lv_at hl 1 rfl) ?_
  refine lv_istore_n (lv' := [(2, .int p1), (0, .ref (ad 6)), (1, .int p1)]) hx hb dX4_outcome_1 rfl hl (by decide) rfl (fun ls hl => ?_)
  refine lv_iconst (v := 0) hx hb dX4_outcome_2 (by decide) ?_
  refine lv_istore_n (lv' := [(3, .int 0), (2, .int p1), (0, .ref (ad 6)), (1, .int p1)]) hx hb dX4_outcome_3 rfl hl (by decide) rfl (fun ls hl => ?_)
  refine ww_r (fun WW4 hWW4 => ?_)
  have Lh4 : ∀ (n : Nat) (v1 : Int32) (v2 : Int32) (z : ((Int32) ⊕ ((Int32) ⊕ Unit))), lX4_outcome_4 S L n v1 v2 = some z → ∀ ls : Array Slot, lv_has ls 5 [(0, .ref (ad 6)), (2, .int v1), (3, .int v2)] → (∀ (y0 : Int32), z = .inl y0 → ∀ ls : Array Slot, lv_has ls 5 [(4, .int y0)] → WW4  33 ls) → (∀ (y0 : Int32), z = .inr (.inl y0) → ∀ ls : Array Slot, lv_has ls 5 [(0, .ref (ad 6)), (2, .int y0)] → WW4  45 ls) → (z = .inr (.inr ()) → ∀ ls : Array Slot, lv_has ls 5 [] → WW4  64 ls) → WW4  4 ls := by
    intro n
    induction n with
    | zero => intro v1 v2 z h ls hl K0 K1 K2; rw [lX4_outcome_4] at h; cases h
    | succ n ih =>
      intro v1 v2 z h ls hl K0 K1 K2
      rw [lX4_outcome_4] at h
      refine wi_r hWW4 ?_
      refine lv_iload_n hx hb dX4_outcome_4 rfl (lv_at hl 2 rfl) ?_
      refine lv_iconst (v := 4) hx hb dX4_outcome_5 (by decide) ?_
      refine lv_icmp_ge (tgt := 64) hx hb dX4_outcome_6 (by decide) (fun c3 => ?_) (fun c3 => ?_)
      · replace h := it_t c3 h
        refine wu_r hWW4 ?_
        exact K2 (Option.some.inj h).symm ls (lv_sub hl [] rfl)
      · replace h := it_f c3 h
        refine lv_aload_n hx hb dX4_outcome_9 rfl (lv_at hl 0 rfl) ?_
        refine va_get (D := (dC, dI)) (ci := 4) (v := .ref (ad 4)) (C := RX4) (T := TX4) (N := 9) hx hb hts hiX4 hown hK hP 6 rfl rfl 2 (by decide) hf36 (fun _ h9 => h9) rfl dX4_outcome_10 ?_
        refine lv_iload_n hx hb dX4_outcome_13 rfl (lv_at hl 1 rfl) ?_
        refine lv_aload_n hx hb dX4_outcome_14 rfl (lv_at hl 0 rfl) ?_
        refine va_get (D := (dC, dI)) (ci := 4) (v := .int (S 6 5)) (C := RX4) (T := TX4) (N := 9) hx hb hts hiX4 hown hK hP 6 rfl rfl 5 (by decide) hf67 (fun _ h9 => h9) rfl dX4_outcome_15 ?_
        refine lv_aload_n hx hb dX4_outcome_18 rfl (lv_at hl 0 rfl) ?_
        refine va_get (D := (dC, dI)) (ci := 4) (v := .ref (ad 35)) (C := RX4) (T := TX4) (N := 9) hx hb hts hiX4 hown hK hP 6 rfl rfl 3 (by decide) hf9 (fun _ h9 => h9) rfl dX4_outcome_19 ?_
        obtain ⟨r5, k4, h⟩ := ob_elim h
        refine vp_callSi (W.runV (As := [.int v1, .int (S 6 5), .ref (ad 35)]) (rest := []) ⟨hx, hb, hml, hown, hts⟩ (mX8_tells l dC dI cI cJ ad v1 (S 6 5) S L k4) (cwV 3 hts gX4_outcome_X8_tells rfl rfl rfl (by decide +kernel) ⟨Nat.le_of_ble_eq_true rfl, Nat.le_of_ble_eq_true rfl⟩) ⟨QX_blind, va_recv hK hP (ci := 8) (q0 := 4) rfl rfl, fun U hU hW => ⟨rfl, QX_at hP hK hD hU hW⟩⟩ rfl rfl hl.1 rfl (lv_room (Nat.le_of_ble_eq_true rfl)) dX4_outcome_22 ⟨Nat.zero_le _, Nat.zero_le _⟩) (fun r9 er9 => ?_)
        replace er9 := er9.symm
        subst er9
        refine lv_istore (lv' := [(4, .int r5), (0, .ref (ad 6)), (2, .int v1), (3, .int v2)]) hx hb dX4_outcome_25 hl (by decide) rfl (fun ls hl => ?_)
        refine lv_iload hx hb dX4_outcome_27 (lv_at hl 0 rfl) ?_
        refine lv_iconst (v := (-1)) hx hb dX4_outcome_29 (by decide) ?_
        refine lv_icmp_eq (tgt := 36) hx hb dX4_outcome_30 (by decide) (fun c6 => ?_) (fun c6 => ?_)
        · replace h := it_t c6 h
          refine lv_aload_n hx hb dX4_outcome_36 rfl (lv_at hl 1 rfl) ?_
          refine lv_iload_n hx hb dX4_outcome_37 rfl (lv_at hl 2 rfl) ?_
          obtain ⟨r8, k7, h⟩ := ob_elim h
          refine vp_callSi (W.runV (As := [.int v1]) (rest := []) ⟨hx, hb, hml, hown, hts⟩ (mX4_wayTaken l dC dI cI cJ ad v1 S L k7) (cwV 1 hts gX4_outcome_X4_wayTaken rfl rfl rfl (by decide +kernel) ⟨Nat.le_of_ble_eq_true rfl, Nat.le_of_ble_eq_true rfl⟩) ⟨QX_blind, va_recv hK hP (ci := 4) (q0 := 6) rfl rfl, fun U hU hW => ⟨rfl, QX_at hP hK hD hU hW⟩⟩ rfl rfl hl.1 rfl (lv_room (Nat.le_of_ble_eq_true rfl)) dX4_outcome_38 ⟨Nat.zero_le _, Nat.zero_le _⟩) (fun r9 er9 => ?_)
          replace er9 := er9.symm
          subst er9
          refine lv_iconst (v := 3) hx hb dX4_outcome_41 (by decide) ?_
          refine lv_icmp_eq (tgt := 51) hx hb dX4_outcome_42 (by decide) (fun c9 => ?_) (fun c9 => ?_)
          · replace h := it_t c9 h
            refine lv_aload_n hx hb dX4_outcome_51 rfl (lv_at hl 1 rfl) ?_
            refine va_get (D := (dC, dI)) (ci := 4) (v := .ref (ad 37)) (C := RX4) (T := TX4) (N := 9) hx hb hts hiX4 hown hK hP 6 rfl rfl 7 (by decide) hf18 (fun _ h9 => h9) rfl dX4_outcome_52 ?_
            refine lv_iload_n hx hb dX4_outcome_55 rfl (lv_at hl 2 rfl) ?_
            obtain ⟨b10, h⟩ := ck_elim h
            refine va_iald hx hb hK hP 37 0 rfl rfl b10 dX4_outcome_56 ?_
            obtain ⟨x11, ex11, h⟩ := bnd_elim h
            refine nm_i ex11 ?_
            refine lv_istore_n (lv' := [(2, .int x11), (4, .int r5), (0, .ref (ad 6)), (3, .int v2)]) hx hb dX4_outcome_57 rfl hl (by decide) rfl (fun ls hl => ?_)
            obtain ⟨x12, ex12, h⟩ := bnd_elim h
            refine lv_iinc (v := x12) (lv' := [(3, .int x12), (2, .int x11), (4, .int r5), (0, .ref (ad 6))]) hx hb dX4_outcome_58 hl (k := 3) rfl (by rw [ex12]; rfl) (by decide) rfl (fun ls hl => ?_)
            refine lv_goto (tgt := 4) hx hb dX4_outcome_61 (by decide) ?_
            refine wu_r hWW4 ?_
            exact ih x11 x12 z h ls (lv_sub hl [3, 1, 0] rfl) K0 K1 K2
          · replace h := it_f c9 h
            refine wu_r hWW4 ?_
            exact K1 v1 (Option.some.inj h).symm ls (lv_sub hl [1, 2] rfl)
        · replace h := it_f c6 h
          refine wu_r hWW4 ?_
          exact K0 r5 (Option.some.inj h).symm ls (lv_sub hl [0] rfl)
  obtain ⟨q9, k13, h⟩ | ⟨q9, k13, h⟩ | ⟨q9, k13, h⟩ := os3_elim h
  · obtain ⟨w14, rfl⟩ : ∃ y, y = q9 := ⟨_, rfl⟩
    refine wu_r hWW4 ?_
    refine Lh4 FU p1 0 _ k13 ls (lv_sub hl [2, 1, 0] rfl) ?_ (fun _ hy => by cases hy) (fun hy => by cases hy)
    intro y0 hy ls hl
    cases hy
    refine wi_r hWW4 ?_
    refine lv_iload hx hb dX4_outcome_33 (lv_at hl 0 rfl) ?_
    cases h
    exact W.iret hx hb hr (fun t ht hW => ⟨⟨_, _, rfl, rfl, by show va_P _ _ _ t.heap; rw [ht]; exact hP⟩, hS.F ht⟩) hS.2.2 dX4_outcome_35
  · obtain ⟨w15, rfl⟩ : ∃ y, y = q9 := ⟨_, rfl⟩
    refine wu_r hWW4 ?_
    refine Lh4 FU p1 0 _ k13 ls (lv_sub hl [2, 1, 0] rfl) (fun _ hy => by cases hy) ?_ (fun hy => by cases hy)
    intro y0 hy ls hl
    cases hy
    refine wi_r hWW4 ?_
    refine lv_aload_n hx hb dX4_outcome_45 rfl (lv_at hl 0 rfl) ?_
    refine lv_iload_n hx hb dX4_outcome_46 rfl (lv_at hl 1 rfl) ?_
    obtain ⟨r19, S17, L18, k16, h⟩ := ob3_elim h
    refine va_calli (va_runV (As := [.int w15]) (rest := []) ⟨hx, hb, hml, hown, hts⟩ (mX4_byBooks l dC dI cI cJ ad w15 S L s.heap.size k16) (cwV 1 hts gX4_outcome_X4_byBooks rfl rfl rfl (by decide +kernel) ⟨Nat.le_of_ble_eq_true rfl, Nat.le_of_ble_eq_true rfl⟩) ⟨QXs_blind, va_recv hK hP (ci := 4) (q0 := 6) rfl rfl, fun U hU hW => ⟨rfl, congrArg Array.size hU, QX_at hP hK hD hU hW⟩⟩ rfl rfl hl.1 rfl (lv_room (Nat.le_of_ble_eq_true rfl)) dX4_outcome_47 ⟨Nat.zero_le _, Nat.zero_le _⟩) hS (fun q _ hq => AX_mono hS.1 hq) (fun q hq => AX_mono hS.1 hq) (fun r u t H1 locs ht hvm hw hB hz1 hk1 hS => ?_)
    cases hw
    rw [ht] at hB
    have hP := hB
    clear hB hk1 hz1
    generalize H1 = H at hP hS ⊢
    have hD := wX_D hD S17 L18
    cases h
    exact W.iret hx hb hr (fun t ht hW => ⟨⟨_, _, rfl, rfl, by show va_P _ _ _ t.heap; rw [ht]; exact hP⟩, hS.F ht⟩) hS.2.2 dX4_outcome_50
  · refine wu_r hWW4 ?_
    refine Lh4 FU p1 0 _ k13 ls (lv_sub hl [2, 1, 0] rfl) (fun _ hy => by cases hy) (fun _ hy => by cases hy) ?_
    intro hy ls hl
    cases hy
    refine wi_r hWW4 ?_
    refine lv_bipush (v := (-5)) hx hb dX4_outcome_64 (by decide) ?_
    cases h
    exact W.iret hx hb hr (fun t ht hW => ⟨⟨_, _, rfl, rfl, by show va_P _ _ _ t.heap; rw [ht]; exact hP⟩, hS.F ht⟩) hS.2.2 dX4_outcome_66
set_option maxHeartbeats 4000000 in
set_option maxRecDepth 100000 in
theorem mX10_ends (l : Launch) (dC : Nat → ClassId) (dI : Nat → Nat → Nat) (cI cJ : ClassId) (ad : Nat → Nat) (p1 : Int32) (p2 : Int32) (p3 : Int32) (S : Nat → Nat → Int32) (L : Nat → Nat → Int64) (sz : Nat) {z : Int32 × (Nat → Nat → Int32) × (Nat → Nat → Int64)} (h : sX10_ends p1 p2 p3 S L = some z) : Met l yX10_ends wsX10_ends ({ frames := 4, cells := 0, slots := 0, locals := 92 }) (va_Pc [.ref (ad 0), .int p1, .int p2, .int p3] (QXs sz dC dI cI cJ ad S L)) (va_Qi (fun (r : Int32) (u : (Nat → Nat → Int32) × (Nat → Nat → Int64)) => (r, u) = z) (fun (u : (Nat → Nat → Int32) × (Nat → Nat → Int64)) t => va_P (dC, dI) vwCl (wX cI cJ ad u.1 u.2) t.heap) (AX 43 ad sz)) 0 0 (AX 43 ad sz) := by
  refine Met.ofW (cc := cX10_ends) (maxL := 4) (ret := (some .int)) (by decide) rfl ?_
  intro p e s m args below meth c s₁ B hml hv
  obtain ⟨rfl, hsz, hP, hK, hD0⟩ := hv
  have hx := B.exec
  have hb := B.bytes
  have hr := B.returns
  have hts := atoms_spec (ws := wsX10_ends) B.pre
  have hown : s.vm.findClass RX10 = some m.cls := findClass_of_methodNamed B.named
  have hlocks := B.notSynchronized
  subst hsz
  have hD := wX_DA hD0 s.heap.size
  have hS : va_S (AX 43 ad s.heap.size) s.heap s.heap [] := va_S.rf
  have hl := lv_entry ([.ref (ad 0), .int p1, .int p2, .int p3]) (n := 4) (Nat.le_of_ble_eq_true rfl)
  rw [lg_entry_eq]
  generalize (lg_sl ([.ref (ad 0), .int p1, .int p2, .int p3]) ++ List.replicate (4 - (lg_sl ([.ref (ad 0), .int p1, .int p2, .int p3])).length) Slot.unset).toArray = ls at hl ⊢
  have hl : lv_has ls 4 [(0, .ref (ad 0)), (1, .int p1), (2, .int p2), (3, .int p3)] := hl
  have hf49 := hts (.fieldLink RX10 49 "LawRings" "hearing" "LLawRings$Hearing;") (by decide +kernel)
  have hiX10 : ∀ w ∈ u_ws RX10 TX10 11, w ∈ wsX10_ends := by decide +kernel
  rw [sX10_ends] at h
  refine lv_aload_n hx hb dX10_ends_0 rfl (lv_at hl 0 rfl) ?_
  refine lv_iload_n hx hb dX10_ends_1 rfl (lv_at hl 1 rfl) ?_
  refine lv_iload_n hx hb dX10_ends_2 rfl (lv_at hl 2 rfl) ?_
  refine lv_iload_n hx hb dX10_ends_3 rfl (lv_at hl 3 rfl) ?_
  obtain ⟨r2, k1, h⟩ := ob_elim h
  refine vp_callSi (W.runV (As := [.int p1, .int p2, .int p3]) (rest := []) ⟨hx, hb, hml, hown, hts⟩ (mX10_isQuestion l dC dI cI cJ ad p1 p2 p3 S L k1) (cwV 3 hts gX10_ends_X10_isQuestion rfl rfl rfl (by decide +kernel) ⟨Nat.le_of_ble_eq_true rfl, Nat.le_of_ble_eq_true rfl⟩) ⟨QX_blind, va_recv hK hP (ci := 10) (q0 := 0) rfl rfl, fun U hU hW => ⟨rfl, QX_at hP hK hD hU hW⟩⟩ rfl rfl hl.1 rfl (lv_room (Nat.le_of_ble_eq_true rfl)) dX10_ends_4 ⟨Nat.zero_le _, Nat.zero_le _⟩) (fun r9 er9 => ?_)
  replace er9 := er9.symm
  subst er9
  refine lv_if_ne (tgt := 13) hx hb dX10_ends_7 (by decide) (fun c3 => ?_) (fun c3 => ?_)
  · replace h := it_f c3 h
    refine lv_aload_n hx hb dX10_ends_13 rfl (lv_at hl 0 rfl) ?_
    refine lv_iload_n hx hb dX10_ends_14 rfl (lv_at hl 2 rfl) ?_
    refine lv_iload_n hx hb dX10_ends_15 rfl (lv_at hl 3 rfl) ?_
    obtain ⟨S5, L6, k4, h⟩ := ob2_elim h
    refine va_callv (va_runV (As := [.int p2, .int p3]) (rest := []) ⟨hx, hb, hml, hown, hts⟩ (mX10_hear l dC dI cI cJ ad p2 p3 S L s.heap.size k4) (cwV 2 hts gX10_ends_X10_hear rfl rfl rfl (by decide +kernel) ⟨Nat.le_of_ble_eq_true rfl, Nat.le_of_ble_eq_true rfl⟩) ⟨QXs_blind, va_recv hK hP (ci := 10) (q0 := 0) rfl rfl, fun U hU hW => ⟨rfl, congrArg Array.size hU, QX_at hP hK hD hU hW⟩⟩ rfl rfl hl.1 rfl (lv_room (Nat.le_of_ble_eq_true rfl)) dX10_ends_16 ⟨Nat.zero_le _, Nat.zero_le _⟩) hS (fun q _ hq => AX_mono hS.1 hq) (fun q hq => AX_mono hS.1 hq) (fun u t H1 locs ht hvm hw hB hz1 hk1 hS => ?_)
    cases hw
    rw [ht] at hB
    have hP := hB
    clear hB hk1 hz1
    generalize H1 = H at hP hS ⊢
    have hD := wX_D hD S5 L6
    refine lv_aload_n hx hb dX10_ends_19 rfl (lv_at hl 0 rfl) ?_
    refine va_get (D := (dC, dI)) (ci := 10) (v := .ref (ad 6)) (C := RX10) (T := TX10) (N := 11) hx hb hts hiX10 hown hK hP 0 rfl rfl 5 (by decide) hf49 (fun _ h9 => h9) rfl dX10_ends_20 ?_
    refine lv_iload_n hx hb dX10_ends_23 rfl (lv_at hl 1 rfl) ?_
    obtain ⟨r10, S8, L9, k7, h⟩ := ob3_elim h
    refine va_calli (va_runV (As := [.int p1]) (rest := []) ⟨hx, hb, hml, hown, hts⟩ (mX4_outcome l dC dI cI cJ ad p1 S5 L6 H.size k7) (cwV 1 hts gX10_ends_X4_outcome rfl rfl rfl (by decide +kernel) ⟨Nat.le_of_ble_eq_true rfl, Nat.le_of_ble_eq_true rfl⟩) ⟨QXs_blind, va_recv hK hP (ci := 4) (q0 := 6) rfl rfl, fun U hU hW => ⟨rfl, congrArg Array.size hU, QX_at hP hK hD hU hW⟩⟩ rfl rfl hl.1 rfl (lv_room (Nat.le_of_ble_eq_true rfl)) dX10_ends_24 ⟨Nat.zero_le _, Nat.zero_le _⟩) hS (fun q _ hq => AX_mono hS.1 hq) (fun q hq => AX_mono hS.1 hq) (fun r u t H1 locs ht hvm hw hB hz1 hk1 hS => ?_)
    cases hw
    rw [ht] at hB
    have hP := hB
    clear hB hk1 hz1
    generalize H1 = H at hP hS ⊢
    have hD := wX_D hD S8 L9
    cases h
    exact W.iret hx hb hr (fun t ht hW => ⟨⟨_, _, rfl, rfl, by show va_P _ _ _ t.heap; rw [ht]; exact hP⟩, hS.F ht⟩) hS.2.2 dX10_ends_27
  · replace h := it_t c3 h
    refine lv_bipush (v := (-2)) hx hb dX10_ends_10 (by decide) ?_
    cases h
    exact W.iret hx hb hr (fun t ht hW => ⟨⟨_, _, rfl, rfl, by show va_P _ _ _ t.heap; rw [ht]; exact hP⟩, hS.F ht⟩) hS.2.2 dX10_ends_12
set_option maxHeartbeats 4000000 in
set_option maxRecDepth 100000 in
theorem mX11_treats (l : Launch) (dC : Nat → ClassId) (dI : Nat → Nat → Nat) (cI cZ : ClassId) (ad : Nat → Nat) (p1 : Int32) (p2 : Int32) (S : Nat → Nat → Int32) {z : Int32} (h : sX11_treats p1 p2 S = some z) : Met l yX11_treats wsX11_treats ({ frames := 0, cells := 0, slots := 0, locals := 0 }) (va_Pc [.ref (ad 0), .int p1, .int p2] (QM dC dI cI cZ ad S)) (vp_Si (fun r => r = z)) 0 0 (fun _ => False) := by
  refine Met.ofW (cc := cX11_treats) (maxL := 6) (ret := (some .int)) (by decide) rfl ?_
  intro p e s m args below meth c s₁ B hml hv
  obtain ⟨rfl, hP, hK, hD⟩ := hv
  have hx := B.exec
  have hb := B.bytes
  have hr := B.returns
  have hts := atoms_spec (ws := wsX11_treats) B.pre
  have hown : s.vm.findClass RX11 = some m.cls := findClass_of_methodNamed B.named
  have hlocks := B.notSynchronized
  have hl := lv_entry ([.ref (ad 0), .int p1, .int p2]) (n := 6) (Nat.le_of_ble_eq_true rfl)
  rw [lg_entry_eq]
  generalize (lg_sl ([.ref (ad 0), .int p1, .int p2]) ++ List.replicate (6 - (lg_sl ([.ref (ad 0), .int p1, .int p2])).length) Slot.unset).toArray = ls at hl ⊢
  have hl : lv_has ls 6 [(0, .ref (ad 0)), (1, .int p1), (2, .int p2)] := hl
  have hf7 := hts (.fieldLink RX11 7 "LawRingsModel" "st" "[I") (by decide +kernel)
  have hiX11 : ∀ w ∈ u_ws RX11 TX11 8, w ∈ wsX11_treats := by decide +kernel
  have hf13 := hts (.fieldLink RX11 13 "LawRingsModel" "ties" "[I") (by decide +kernel)
  rw [sX11_treats] at h
  refine lv_iconst (v := 0) hx hb dX11_treats_0 (by decide) ?_
  refine lv_istore_n (lv' := [(3, .int 0), (0, .ref (ad 0)), (1, .int p1), (2, .int p2)]) hx hb dX11_treats_1 rfl hl (by decide) rfl (fun ls hl => ?_)
  refine ww_r (fun WW2 hWW2 => ?_)
  have Lh2 : ∀ (n : Nat) (v1 : Int32) (z : ((Int32) ⊕ Unit)), lX11_treats_2 p1 p2 S n v1 = some z → ∀ ls : Array Slot, lv_has ls 6 [(0, .ref (ad 0)), (1, .int p1), (2, .int p2), (3, .int v1)] → (∀ (y0 : Int32), z = .inl y0 → ∀ ls : Array Slot, lv_has ls 6 [(5, .int y0)] → WW2  89 ls) → (z = .inr () → ∀ ls : Array Slot, lv_has ls 6 [] → WW2  98 ls) → WW2  2 ls := by
    intro n
    induction n with
    | zero => intro v1 z h ls hl K0 K1; rw [lX11_treats_2] at h; cases h
    | succ n ih =>
      intro v1 z h ls hl K0 K1
      rw [lX11_treats_2] at h
      refine wi_r hWW2 ?_
      refine lv_iload_n hx hb dX11_treats_2 rfl (lv_at hl 3 rfl) ?_
      refine lv_aload_n hx hb dX11_treats_3 rfl (lv_at hl 0 rfl) ?_
      refine va_get (D := (dC, dI)) (ci := 11) (v := .ref (ad 1)) (C := RX11) (T := TX11) (N := 8) hx hb hts hiX11 hown hK hP 0 rfl rfl 0 (by decide) hf7 (fun _ h9 => h9) rfl dX11_treats_4 ?_
      refine lv_iconst (v := 3) hx hb dX11_treats_7 (by decide) ?_
      obtain ⟨b2, h⟩ := ck_elim h
      refine va_iald hx hb hK hP 1 0 rfl rfl b2 dX11_treats_8 ?_
      refine lv_icmp_ge (tgt := 98) hx hb dX11_treats_9 (by decide) (fun c3 => ?_) (fun c3 => ?_)
      · replace h := it_t c3 h
        refine wu_r hWW2 ?_
        exact K1 (Option.some.inj h).symm ls (lv_sub hl [] rfl)
      · replace h := it_f c3 h
        refine lv_sipush (v := 958) hx hb dX11_treats_12 (by decide) ?_
        refine lv_iconst (v := 3) hx hb dX11_treats_15 (by decide) ?_
        refine lv_iload_n hx hb dX11_treats_16 rfl (lv_at hl 3 rfl) ?_
        refine lv_imul hx hb dX11_treats_17 ?_
        refine lv_iadd hx hb dX11_treats_18 ?_
        obtain ⟨x4, ex4, h⟩ := bnd_elim h
        refine nm_i ex4 ?_
        refine lv_istore (lv' := [(4, .int x4), (0, .ref (ad 0)), (1, .int p1), (2, .int p2), (3, .int v1)]) hx hb dX11_treats_19 hl (by decide) rfl (fun ls hl => ?_)
        refine lv_aload_n hx hb dX11_treats_21 rfl (lv_at hl 1 rfl) ?_
        refine va_get (D := (dC, dI)) (ci := 11) (v := .ref (ad 2)) (C := RX11) (T := TX11) (N := 8) hx hb hts hiX11 hown hK hP 0 rfl rfl 1 (by decide) hf13 (fun _ h9 => h9) rfl dX11_treats_22 ?_
        refine lv_aload_n hx hb dX11_treats_25 rfl (lv_at hl 1 rfl) ?_
        refine va_get (D := (dC, dI)) (ci := 11) (v := .ref (ad 1)) (C := RX11) (T := TX11) (N := 8) hx hb hts hiX11 hown hK hP 0 rfl rfl 0 (by decide) hf7 (fun _ h9 => h9) rfl dX11_treats_26 ?_
        refine lv_iload hx hb dX11_treats_29 (lv_at hl 0 rfl) ?_
        refine lv_iconst (v := 2) hx hb dX11_treats_31 (by decide) ?_
        refine lv_iadd hx hb dX11_treats_32 ?_
        obtain ⟨b5, h⟩ := ck_elim h
        refine va_iald hx hb hK hP 1 0 rfl rfl b5 dX11_treats_33 ?_
        obtain ⟨b6, h⟩ := ck_elim h
        refine va_iald hx hb hK hP 2 0 rfl rfl b6 dX11_treats_34 ?_
        obtain ⟨x7, ex7, h⟩ := bnd_elim h
        refine nm_i ex7 ?_
        refine lv_istore (lv' := [(5, .int x7), (4, .int x4), (0, .ref (ad 0)), (1, .int p1), (2, .int p2), (3, .int v1)]) hx hb dX11_treats_35 hl (by decide) rfl (fun ls hl => ?_)
        refine lv_aload_n hx hb dX11_treats_37 rfl (lv_at hl 2 rfl) ?_
        refine va_get (D := (dC, dI)) (ci := 11) (v := .ref (ad 1)) (C := RX11) (T := TX11) (N := 8) hx hb hts hiX11 hown hK hP 0 rfl rfl 0 (by decide) hf7 (fun _ h9 => h9) rfl dX11_treats_38 ?_
        refine lv_iload hx hb dX11_treats_41 (lv_at hl 1 rfl) ?_
        obtain ⟨b8, h⟩ := ck_elim h
        refine va_iald hx hb hK hP 1 0 rfl rfl b8 dX11_treats_43 ?_
        refine lv_iload_n hx hb dX11_treats_44 rfl (lv_at hl 4 rfl) ?_
        refine lv_icmp_ne (tgt := 92) hx hb dX11_treats_45 (by decide) (fun c9 => ?_) (fun c9 => ?_)
        · replace h := it_f c9 h
          obtain ⟨x10, ex10, h⟩ := bnd_elim h
          refine lv_iinc (v := x10) (lv' := [(3, .int x10), (5, .int x7), (4, .int x4), (0, .ref (ad 0)), (1, .int p1), (2, .int p2)]) hx hb dX11_treats_92 hl (k := 5) rfl (by rw [ex10]; rfl) (by decide) rfl (fun ls hl => ?_)
          refine lv_goto (tgt := 2) hx hb dX11_treats_95 (by decide) ?_
          refine wu_r hWW2 ?_
          exact ih x10 z h ls (lv_sub hl [3, 4, 5, 0] rfl) K0 K1
        · replace h := it_t c9 h
          refine lv_aload_n hx hb dX11_treats_48 rfl (lv_at hl 2 rfl) ?_
          refine va_get (D := (dC, dI)) (ci := 11) (v := .ref (ad 1)) (C := RX11) (T := TX11) (N := 8) hx hb hts hiX11 hown hK hP 0 rfl rfl 0 (by decide) hf7 (fun _ h9 => h9) rfl dX11_treats_49 ?_
          refine lv_iload hx hb dX11_treats_52 (lv_at hl 1 rfl) ?_
          refine lv_iconst (v := 1) hx hb dX11_treats_54 (by decide) ?_
          refine lv_iadd hx hb dX11_treats_55 ?_
          obtain ⟨b11, h⟩ := ck_elim h
          refine va_iald hx hb hK hP 1 0 rfl rfl b11 dX11_treats_56 ?_
          refine lv_iload_n hx hb dX11_treats_57 rfl (lv_at hl 3 rfl) ?_
          refine lv_ishr hx hb dX11_treats_58 ?_
          refine lv_iconst (v := 1) hx hb dX11_treats_59 (by decide) ?_
          refine lv_iand hx hb dX11_treats_60 ?_
          refine lv_iconst (v := 1) hx hb dX11_treats_61 (by decide) ?_
          refine lv_icmp_ne (tgt := 92) hx hb dX11_treats_62 (by decide) (fun c12 => ?_) (fun c12 => ?_)
          · replace h := it_f c12 h
            obtain ⟨x13, ex13, h⟩ := bnd_elim h
            refine lv_iinc (v := x13) (lv' := [(3, .int x13), (5, .int x7), (4, .int x4), (0, .ref (ad 0)), (1, .int p1), (2, .int p2)]) hx hb dX11_treats_92 hl (k := 5) rfl (by rw [ex13]; rfl) (by decide) rfl (fun ls hl => ?_)
            refine lv_goto (tgt := 2) hx hb dX11_treats_95 (by decide) ?_
            refine wu_r hWW2 ?_
            exact ih x13 z h ls (lv_sub hl [3, 4, 5, 0] rfl) K0 K1
          · replace h := it_t c12 h
            refine lv_iload hx hb dX11_treats_65 (lv_at hl 0 rfl) ?_
            refine lv_iconst (v := (-1)) hx hb dX11_treats_67 (by decide) ?_
            refine lv_icmp_eq (tgt := 92) hx hb dX11_treats_68 (by decide) (fun c14 => ?_) (fun c14 => ?_)
            · replace h := it_t c14 h
              obtain ⟨x15, ex15, h⟩ := bnd_elim h
              refine lv_iinc (v := x15) (lv' := [(3, .int x15), (5, .int x7), (4, .int x4), (0, .ref (ad 0)), (1, .int p1), (2, .int p2)]) hx hb dX11_treats_92 hl (k := 5) rfl (by rw [ex15]; rfl) (by decide) rfl (fun ls hl => ?_)
              refine lv_goto (tgt := 2) hx hb dX11_treats_95 (by decide) ?_
              refine wu_r hWW2 ?_
              exact ih x15 z h ls (lv_sub hl [3, 4, 5, 0] rfl) K0 K1
            · replace h := it_f c14 h
              refine lv_aload_n hx hb dX11_treats_71 rfl (lv_at hl 2 rfl) ?_
              refine va_get (D := (dC, dI)) (ci := 11) (v := .ref (ad 1)) (C := RX11) (T := TX11) (N := 8) hx hb hts hiX11 hown hK hP 0 rfl rfl 0 (by decide) hf7 (fun _ h9 => h9) rfl dX11_treats_72 ?_
              refine lv_iload hx hb dX11_treats_75 (lv_at hl 1 rfl) ?_
              refine lv_iconst (v := 1) hx hb dX11_treats_77 (by decide) ?_
              refine lv_iadd hx hb dX11_treats_78 ?_
              obtain ⟨b16, h⟩ := ck_elim h
              refine va_iald hx hb hK hP 1 0 rfl rfl b16 dX11_treats_79 ?_
              refine lv_iload hx hb dX11_treats_80 (lv_at hl 0 rfl) ?_
              refine lv_ishr hx hb dX11_treats_82 ?_
              refine lv_iconst (v := 1) hx hb dX11_treats_83 (by decide) ?_
              refine lv_iand hx hb dX11_treats_84 ?_
              refine lv_iconst (v := 1) hx hb dX11_treats_85 (by decide) ?_
              refine lv_icmp_ne (tgt := 92) hx hb dX11_treats_86 (by decide) (fun c17 => ?_) (fun c17 => ?_)
              · replace h := it_f c17 h
                obtain ⟨x18, ex18, h⟩ := bnd_elim h
                refine lv_iinc (v := x18) (lv' := [(3, .int x18), (5, .int x7), (4, .int x4), (0, .ref (ad 0)), (1, .int p1), (2, .int p2)]) hx hb dX11_treats_92 hl (k := 5) rfl (by rw [ex18]; rfl) (by decide) rfl (fun ls hl => ?_)
                refine lv_goto (tgt := 2) hx hb dX11_treats_95 (by decide) ?_
                refine wu_r hWW2 ?_
                exact ih x18 z h ls (lv_sub hl [3, 4, 5, 0] rfl) K0 K1
              · replace h := it_t c17 h
                refine wu_r hWW2 ?_
                exact K0 x7 (Option.some.inj h).symm ls (lv_sub hl [0] rfl)
  obtain ⟨q9, k19, h⟩ | ⟨q9, k19, h⟩ := os2_elim h
  · obtain ⟨w20, rfl⟩ : ∃ y, y = q9 := ⟨_, rfl⟩
    refine wu_r hWW2 ?_
    refine Lh2 FU 0 _ k19 ls (lv_sub hl [1, 2, 3, 0] rfl) ?_ (fun hy => by cases hy)
    intro y0 hy ls hl
    cases hy
    refine wi_r hWW2 ?_
    refine lv_iload hx hb dX11_treats_89 (lv_at hl 0 rfl) ?_
    cases h
    exact W.iret hx hb hr (fun t ht hW => ⟨_, rfl, rfl, ht⟩) (fun q hq => absurd hq List.not_mem_nil) dX11_treats_91
  · refine wu_r hWW2 ?_
    refine Lh2 FU 0 _ k19 ls (lv_sub hl [1, 2, 3, 0] rfl) (fun _ hy => by cases hy) ?_
    intro hy ls hl
    cases hy
    refine wi_r hWW2 ?_
    refine lv_iconst (v := (-1)) hx hb dX11_treats_98 (by decide) ?_
    cases h
    exact W.iret hx hb hr (fun t ht hW => ⟨_, rfl, rfl, ht⟩) (fun q hq => absurd hq List.not_mem_nil) dX11_treats_99
set_option maxHeartbeats 4000000 in
set_option maxRecDepth 100000 in
theorem mX11_toTheEnd (l : Launch) (dC : Nat → ClassId) (dI : Nat → Nat → Nat) (cI cZ : ClassId) (ad : Nat → Nat) (p1 : Int32) (p2 : Int32) (p3 : Int32) (S : Nat → Nat → Int32) {z : Int32} (h : sX11_toTheEnd p1 p2 p3 S = some z) : Met l yX11_toTheEnd wsX11_toTheEnd ({ frames := 6, cells := 0, slots := 0, locals := 135 }) (va_Pc [.ref (ad 0), .int p1, .int p2, .int p3] (QM dC dI cI cZ ad S)) (vp_Si (fun r => r = z)) 0 0 (fun _ => False) := by
  refine Met.ofW (cc := cX11_toTheEnd) (maxL := 8) (ret := (some .int)) (by decide) rfl ?_
  intro p e s m args below meth c s₁ B hml hv
  obtain ⟨rfl, hP, hK, hD⟩ := hv
  have hx := B.exec
  have hb := B.bytes
  have hr := B.returns
  have hts := atoms_spec (ws := wsX11_toTheEnd) B.pre
  have hown : s.vm.findClass RX11 = some m.cls := findClass_of_methodNamed B.named
  have hlocks := B.notSynchronized
  have hl := lv_entry ([.ref (ad 0), .int p1, .int p2, .int p3]) (n := 8) (Nat.le_of_ble_eq_true rfl)
  rw [lg_entry_eq]
  generalize (lg_sl ([.ref (ad 0), .int p1, .int p2, .int p3]) ++ List.replicate (8 - (lg_sl ([.ref (ad 0), .int p1, .int p2, .int p3])).length) Slot.unset).toArray = ls at hl ⊢
  have hl : lv_has ls 8 [(0, .ref (ad 0)), (1, .int p1), (2, .int p2), (3, .int p3)] := hl
  rw [sX11_toTheEnd] at h
  refine lv_iconst (v := 1) hx hb dX11_toTheEnd_0 (by decide) ?_
  refine lv_iload_n hx hb dX11_toTheEnd_1 rfl (lv_at hl 1 rfl) ?_
  refine lv_ishl hx hb dX11_toTheEnd_2 ?_
  refine lv_iconst (v := 1) hx hb dX11_toTheEnd_3 (by decide) ?_
  refine lv_iload_n hx hb dX11_toTheEnd_4 rfl (lv_at hl 2 rfl) ?_
  refine lv_ishl hx hb dX11_toTheEnd_5 ?_
  refine lv_ior hx hb dX11_toTheEnd_6 ?_
  obtain ⟨x1, ex1, h⟩ := bnd_elim h
  refine nm_i ex1 ?_
  refine lv_istore (lv' := [(4, .int x1), (0, .ref (ad 0)), (1, .int p1), (2, .int p2), (3, .int p3)]) hx hb dX11_toTheEnd_7 hl (by decide) rfl (fun ls hl => ?_)
  refine lv_iload_n hx hb dX11_toTheEnd_9 rfl (lv_at hl 3 rfl) ?_
  refine lv_istore (lv' := [(5, .int p2), (4, .int x1), (0, .ref (ad 0)), (1, .int p1), (2, .int p2), (3, .int p3)]) hx hb dX11_toTheEnd_10 hl (by decide) rfl (fun ls hl => ?_)
  refine ww_r (fun WW12 hWW12 => ?_)
  have Lh12 : ∀ (n : Nat) (v2 : Int32) (v3 : Int32) (z : (Int32)), lX11_toTheEnd_12 p3 S n v2 v3 = some z → ∀ ls : Array Slot, lv_has ls 8 [(0, .ref (ad 0)), (3, .int p3), (4, .int v2), (5, .int v3)] → (∀ (y0 : Int32), z = y0 → ∀ ls : Array Slot, lv_has ls 8 [(7, .int y0)] → WW12  46 ls) → WW12  12 ls := by
    intro n
    induction n with
    | zero => intro v2 v3 z h ls hl K0; rw [lX11_toTheEnd_12] at h; cases h
    | succ n ih =>
      intro v2 v3 z h ls hl K0
      rw [lX11_toTheEnd_12] at h
      refine wi_r hWW12 ?_
      refine lv_aload_n hx hb dX11_toTheEnd_12 rfl (lv_at hl 0 rfl) ?_
      refine lv_iload hx hb dX11_toTheEnd_13 (lv_at hl 3 rfl) ?_
      refine lv_iload_n hx hb dX11_toTheEnd_15 rfl (lv_at hl 1 rfl) ?_
      obtain ⟨r5, k4, h⟩ := ob_elim h
      refine vp_callSi (W.runV (As := [.int v3, .int p3]) (rest := []) ⟨hx, hb, hml, hown, hts⟩ (mX11_saying l dC dI cI cZ ad v3 p3 S k4) (cwV 2 hts gX11_toTheEnd_X11_saying rfl rfl rfl (by decide +kernel) ⟨Nat.le_of_ble_eq_true rfl, Nat.le_of_ble_eq_true rfl⟩) ⟨QM_blind, va_recv hK hP (ci := 11) (q0 := 0) rfl rfl, fun U hU hW => ⟨rfl, QM_at hP hK hD hU hW⟩⟩ rfl rfl hl.1 rfl (lv_room (Nat.le_of_ble_eq_true rfl)) dX11_toTheEnd_16 ⟨Nat.zero_le _, Nat.zero_le _⟩) (fun r9 er9 => ?_)
      replace er9 := er9.symm
      subst er9
      refine lv_istore (lv' := [(6, .int r5), (0, .ref (ad 0)), (3, .int p3), (4, .int v2), (5, .int v3)]) hx hb dX11_toTheEnd_19 hl (by decide) rfl (fun ls hl => ?_)
      refine lv_iload hx hb dX11_toTheEnd_21 (lv_at hl 0 rfl) ?_
      refine lv_bipush (v := 10) hx hb dX11_toTheEnd_23 (by decide) ?_
      refine lv_irem hx hb dX11_toTheEnd_25 (by decide) ?_
      refine nm_i (x := irm r5 10) rfl ?_
      obtain ⟨x6, ex6, h⟩ := bnd_elim h
      refine nm_i ex6 ?_
      refine lv_istore (lv' := [(7, .int x6), (6, .int r5), (0, .ref (ad 0)), (3, .int p3), (4, .int v2), (5, .int v3)]) hx hb dX11_toTheEnd_26 hl (by decide) rfl (fun ls hl => ?_)
      refine lv_iload hx hb dX11_toTheEnd_28 (lv_at hl 1 rfl) ?_
      refine lv_bipush (v := 10) hx hb dX11_toTheEnd_30 (by decide) ?_
      refine lv_icmp_lt (tgt := 46) hx hb dX11_toTheEnd_32 (by decide) (fun c7 => ?_) (fun c7 => ?_)
      · replace h := it_t c7 h
        refine wu_r hWW12 ?_
        exact K0 x6 (Option.some.inj h).symm ls (lv_sub hl [0] rfl)
      · replace h := it_f c7 h
        refine lv_iload hx hb dX11_toTheEnd_35 (lv_at hl 4 rfl) ?_
        refine lv_iload hx hb dX11_toTheEnd_37 (lv_at hl 0 rfl) ?_
        refine lv_ishr hx hb dX11_toTheEnd_39 ?_
        refine lv_iconst (v := 1) hx hb dX11_toTheEnd_40 (by decide) ?_
        refine lv_iand hx hb dX11_toTheEnd_41 ?_
        refine lv_iconst (v := 1) hx hb dX11_toTheEnd_42 (by decide) ?_
        refine lv_icmp_ne (tgt := 49) hx hb dX11_toTheEnd_43 (by decide) (fun c8 => ?_) (fun c8 => ?_)
        · replace h := it_f c8 h
          refine lv_iload hx hb dX11_toTheEnd_49 (lv_at hl 4 rfl) ?_
          refine lv_iconst (v := 1) hx hb dX11_toTheEnd_51 (by decide) ?_
          refine lv_iload hx hb dX11_toTheEnd_52 (lv_at hl 0 rfl) ?_
          refine lv_ishl hx hb dX11_toTheEnd_54 ?_
          refine lv_ior hx hb dX11_toTheEnd_55 ?_
          obtain ⟨x9, ex9, h⟩ := bnd_elim h
          refine nm_i ex9 ?_
          refine lv_istore (lv' := [(4, .int x9), (7, .int x6), (6, .int r5), (0, .ref (ad 0)), (3, .int p3), (5, .int v3)]) hx hb dX11_toTheEnd_56 hl (by decide) rfl (fun ls hl => ?_)
          refine lv_iload hx hb dX11_toTheEnd_58 (lv_at hl 1 rfl) ?_
          refine lv_istore (lv' := [(5, .int x6), (4, .int x9), (7, .int x6), (6, .int r5), (0, .ref (ad 0)), (3, .int p3)]) hx hb dX11_toTheEnd_60 hl (by decide) rfl (fun ls hl => ?_)
          refine lv_goto (tgt := 12) hx hb dX11_toTheEnd_62 (by decide) ?_
          refine wu_r hWW12 ?_
          exact ih x9 x6 z h ls (lv_sub hl [4, 5, 1, 0] rfl) K0
        · replace h := it_t c8 h
          refine wu_r hWW12 ?_
          exact K0 x6 (Option.some.inj h).symm ls (lv_sub hl [0] rfl)
  obtain ⟨w11, k10, h⟩ := ob_elim h
  refine wu_r hWW12 ?_
  refine Lh12 FU x1 p2 _ k10 ls (lv_sub hl [2, 5, 1, 0] rfl) ?_
  intro y0 hy ls hl
  cases hy
  refine wi_r hWW12 ?_
  refine lv_iload hx hb dX11_toTheEnd_46 (lv_at hl 0 rfl) ?_
  cases h
  exact W.iret hx hb hr (fun t ht hW => ⟨_, rfl, rfl, ht⟩) (fun q hq => absurd hq List.not_mem_nil) dX11_toTheEnd_48
set_option maxHeartbeats 4000000 in
set_option maxRecDepth 100000 in
theorem mX11_endsOf (l : Launch) (dC : Nat → ClassId) (dI : Nat → Nat → Nat) (cI cZ : ClassId) (ad : Nat → Nat) (p1 : Int32) (p2 : Int32) (S : Nat → Nat → Int32) {z : Int32} (h : sX11_endsOf p1 p2 S = some z) : Met l yX11_endsOf wsX11_endsOf ({ frames := 7, cells := 0, slots := 0, locals := 162 }) (va_Pc [.ref (ad 0), .int p1, .int p2] (QM dC dI cI cZ ad S)) (vp_Si (fun r => r = z)) 0 0 (fun _ => False) := by
  refine Met.ofW (cc := cX11_endsOf) (maxL := 9) (ret := (some .int)) (by decide) rfl ?_
  intro p e s m args below meth c s₁ B hml hv
  obtain ⟨rfl, hP, hK, hD⟩ := hv
  have hx := B.exec
  have hb := B.bytes
  have hr := B.returns
  have hts := atoms_spec (ws := wsX11_endsOf) B.pre
  have hown : s.vm.findClass RX11 = some m.cls := findClass_of_methodNamed B.named
  have hlocks := B.notSynchronized
  have hl := lv_entry ([.ref (ad 0), .int p1, .int p2]) (n := 9) (Nat.le_of_ble_eq_true rfl)
  rw [lg_entry_eq]
  generalize (lg_sl ([.ref (ad 0), .int p1, .int p2]) ++ List.replicate (9 - (lg_sl ([.ref (ad 0), .int p1, .int p2])).length) Slot.unset).toArray = ls at hl ⊢
  have hl : lv_has ls 9 [(0, .ref (ad 0)), (1, .int p1), (2, .int p2)] := hl
  have hf7 := hts (.fieldLink RX11 7 "LawRingsModel" "st" "[I") (by decide +kernel)
  have hiX11 : ∀ w ∈ u_ws RX11 TX11 8, w ∈ wsX11_endsOf := by decide +kernel
  rw [sX11_endsOf] at h
  refine lv_iconst (v := 0) hx hb dX11_endsOf_0 (by decide) ?_
  refine lv_istore_n (lv' := [(3, .int 0), (0, .ref (ad 0)), (1, .int p1), (2, .int p2)]) hx hb dX11_endsOf_1 rfl hl (by decide) rfl (fun ls hl => ?_)
  refine lv_iload_n hx hb dX11_endsOf_2 rfl (lv_at hl 2 rfl) ?_
  refine lv_istore (lv' := [(4, .int p1), (3, .int 0), (0, .ref (ad 0)), (1, .int p1), (2, .int p2)]) hx hb dX11_endsOf_3 hl (by decide) rfl (fun ls hl => ?_)
  refine ww_r (fun WW5 hWW5 => ?_)
  have Lh5 : ∀ (n : Nat) (v1 : Int32) (v2 : Int32) (z : ((Int32) ⊕ ((Int32) ⊕ ((Int32 × Int32 × Int32) ⊕ Unit)))), lX11_endsOf_5 p2 S n v1 v2 = some z → ∀ ls : Array Slot, lv_has ls 9 [(0, .ref (ad 0)), (2, .int p2), (3, .int v1), (4, .int v2)] → (∀ (y0 : Int32), z = .inl y0 → ∀ ls : Array Slot, lv_has ls 9 [(5, .int y0)] → WW5  49 ls) → (∀ (y0 : Int32), z = .inr (.inl y0) → ∀ ls : Array Slot, lv_has ls 9 [(7, .int y0)] → WW5  71 ls) → (∀ (y0 : Int32) (y1 : Int32) (y2 : Int32), z = .inr (.inr (.inl (y0, y1, y2))) → ∀ ls : Array Slot, lv_has ls 9 [(0, .ref (ad 0)), (2, .int p2), (4, .int y0), (7, .int y1), (8, .int y2)] → WW5  80 ls) → (z = .inr (.inr (.inr ())) → ∀ ls : Array Slot, lv_has ls 9 [] → WW5  126 ls) → WW5  5 ls := by
    intro n
    induction n with
    | zero => intro v1 v2 z h ls hl K0 K1 K2 K3; rw [lX11_endsOf_5] at h; cases h
    | succ n ih =>
      intro v1 v2 z h ls hl K0 K1 K2 K3
      rw [lX11_endsOf_5] at h
      refine wi_r hWW5 ?_
      refine lv_aload_n hx hb dX11_endsOf_5 rfl (lv_at hl 0 rfl) ?_
      refine lv_iload hx hb dX11_endsOf_6 (lv_at hl 3 rfl) ?_
      refine lv_iload_n hx hb dX11_endsOf_8 rfl (lv_at hl 1 rfl) ?_
      obtain ⟨r4, k3, h⟩ := ob_elim h
      refine vp_callSi (W.runV (As := [.int v2, .int p2]) (rest := []) ⟨hx, hb, hml, hown, hts⟩ (mX11_treats l dC dI cI cZ ad v2 p2 S k3) (cwV 2 hts gX11_endsOf_X11_treats rfl rfl rfl (by decide +kernel) ⟨Nat.le_of_ble_eq_true rfl, Nat.le_of_ble_eq_true rfl⟩) ⟨QM_blind, va_recv hK hP (ci := 11) (q0 := 0) rfl rfl, fun U hU hW => ⟨rfl, QM_at hP hK hD hU hW⟩⟩ rfl rfl hl.1 rfl (lv_room (Nat.le_of_ble_eq_true rfl)) dX11_endsOf_9 ⟨Nat.zero_le _, Nat.zero_le _⟩) (fun r9 er9 => ?_)
      replace er9 := er9.symm
      subst er9
      refine lv_istore (lv' := [(5, .int r4), (0, .ref (ad 0)), (2, .int p2), (3, .int v1), (4, .int v2)]) hx hb dX11_endsOf_12 hl (by decide) rfl (fun ls hl => ?_)
      refine lv_aload_n hx hb dX11_endsOf_14 rfl (lv_at hl 1 rfl) ?_
      refine lv_iload hx hb dX11_endsOf_15 (lv_at hl 4 rfl) ?_
      refine lv_iload_n hx hb dX11_endsOf_17 rfl (lv_at hl 2 rfl) ?_
      obtain ⟨r6, k5, h⟩ := ob_elim h
      refine vp_callSi (W.runV (As := [.int v2, .int p2]) (rest := []) ⟨hx, hb, hml, hown, hts⟩ (mX11_saying l dC dI cI cZ ad v2 p2 S k5) (cwV 2 hts gX11_endsOf_X11_saying rfl rfl rfl (by decide +kernel) ⟨Nat.le_of_ble_eq_true rfl, Nat.le_of_ble_eq_true rfl⟩) ⟨QM_blind, va_recv hK hP (ci := 11) (q0 := 0) rfl rfl, fun U hU hW => ⟨rfl, QM_at hP hK hD hU hW⟩⟩ rfl rfl hl.1 rfl (lv_room (Nat.le_of_ble_eq_true rfl)) dX11_endsOf_18 ⟨Nat.zero_le _, Nat.zero_le _⟩) (fun r9 er9 => ?_)
      replace er9 := er9.symm
      subst er9
      refine lv_istore (lv' := [(6, .int r6), (5, .int r4), (0, .ref (ad 0)), (2, .int p2), (3, .int v1), (4, .int v2)]) hx hb dX11_endsOf_21 hl (by decide) rfl (fun ls hl => ?_)
      refine lv_iload hx hb dX11_endsOf_23 (lv_at hl 0 rfl) ?_
      refine lv_bipush (v := 10) hx hb dX11_endsOf_25 (by decide) ?_
      refine lv_irem hx hb dX11_endsOf_27 (by decide) ?_
      refine nm_i (x := irm r6 10) rfl ?_
      obtain ⟨x7, ex7, h⟩ := bnd_elim h
      refine nm_i ex7 ?_
      refine lv_istore (lv' := [(7, .int x7), (6, .int r6), (5, .int r4), (0, .ref (ad 0)), (2, .int p2), (3, .int v1), (4, .int v2)]) hx hb dX11_endsOf_28 hl (by decide) rfl (fun ls hl => ?_)
      refine lv_aload_n hx hb dX11_endsOf_30 rfl (lv_at hl 3 rfl) ?_
      refine va_get (D := (dC, dI)) (ci := 11) (v := .ref (ad 1)) (C := RX11) (T := TX11) (N := 8) hx hb hts hiX11 hown hK hP 0 rfl rfl 0 (by decide) hf7 (fun _ h9 => h9) rfl dX11_endsOf_31 ?_
      refine lv_sipush (v := 954) hx hb dX11_endsOf_34 (by decide) ?_
      refine lv_iload hx hb dX11_endsOf_37 (lv_at hl 6 rfl) ?_
      refine lv_iadd hx hb dX11_endsOf_39 ?_
      obtain ⟨b8, h⟩ := ck_elim h
      refine va_iald hx hb hK hP 1 0 rfl rfl b8 dX11_endsOf_40 ?_
      obtain ⟨x9, ex9, h⟩ := bnd_elim h
      refine nm_i ex9 ?_
      refine lv_istore (lv' := [(8, .int x9), (7, .int x7), (6, .int r6), (5, .int r4), (0, .ref (ad 0)), (2, .int p2), (3, .int v1), (4, .int v2)]) hx hb dX11_endsOf_41 hl (by decide) rfl (fun ls hl => ?_)
      refine lv_iload hx hb dX11_endsOf_43 (lv_at hl 3 rfl) ?_
      refine lv_iconst (v := (-1)) hx hb dX11_endsOf_45 (by decide) ?_
      refine lv_icmp_eq (tgt := 52) hx hb dX11_endsOf_46 (by decide) (fun c10 => ?_) (fun c10 => ?_)
      · replace h := it_t c10 h
        refine lv_iload hx hb dX11_endsOf_52 (lv_at hl 2 rfl) ?_
        refine lv_bipush (v := 10) hx hb dX11_endsOf_54 (by decide) ?_
        refine lv_icmp_lt (tgt := 71) hx hb dX11_endsOf_56 (by decide) (fun c11 => ?_) (fun c11 => ?_)
        · replace h := it_t c11 h
          refine wu_r hWW5 ?_
          exact K1 x7 (Option.some.inj h).symm ls (lv_sub hl [1] rfl)
        · replace h := it_f c11 h
          refine lv_iload hx hb dX11_endsOf_59 (lv_at hl 1 rfl) ?_
          refine lv_iload hx hb dX11_endsOf_61 (lv_at hl 7 rfl) ?_
          refine lv_icmp_eq (tgt := 71) hx hb dX11_endsOf_63 (by decide) (fun c12 => ?_) (fun c12 => ?_)
          · replace h := it_t c12 h
            refine wu_r hWW5 ?_
            exact K1 x7 (Option.some.inj h).symm ls (lv_sub hl [1] rfl)
          · replace h := it_f c12 h
            refine lv_iload hx hb dX11_endsOf_66 (lv_at hl 0 rfl) ?_
            refine lv_if_ne (tgt := 74) hx hb dX11_endsOf_68 (by decide) (fun c13 => ?_) (fun c13 => ?_)
            · replace h := it_f c13 h
              refine lv_iload hx hb dX11_endsOf_74 (lv_at hl 0 rfl) ?_
              refine lv_iconst (v := 3) hx hb dX11_endsOf_76 (by decide) ?_
              refine lv_icmp_ge (tgt := 109) hx hb dX11_endsOf_77 (by decide) (fun c14 => ?_) (fun c14 => ?_)
              · replace h := it_t c14 h
                refine lv_iload_n hx hb dX11_endsOf_109 rfl (lv_at hl 6 rfl) ?_
                refine lv_iconst (v := 1) hx hb dX11_endsOf_110 (by decide) ?_
                refine lv_iload hx hb dX11_endsOf_111 (lv_at hl 7 rfl) ?_
                refine lv_ishl hx hb dX11_endsOf_113 ?_
                refine lv_ior hx hb dX11_endsOf_114 ?_
                obtain ⟨x15, ex15, h⟩ := bnd_elim h
                refine nm_i ex15 ?_
                refine lv_istore_n (lv' := [(3, .int x15), (8, .int x9), (7, .int x7), (6, .int r6), (5, .int r4), (0, .ref (ad 0)), (2, .int p2), (4, .int v2)]) hx hb dX11_endsOf_115 rfl hl (by decide) rfl (fun ls hl => ?_)
                refine lv_iload_n hx hb dX11_endsOf_116 rfl (lv_at hl 0 rfl) ?_
                refine lv_iload hx hb dX11_endsOf_117 (lv_at hl 2 rfl) ?_
                refine lv_ishr hx hb dX11_endsOf_119 ?_
                refine lv_iconst (v := 1) hx hb dX11_endsOf_120 (by decide) ?_
                refine lv_iand hx hb dX11_endsOf_121 ?_
                refine lv_iconst (v := 1) hx hb dX11_endsOf_122 (by decide) ?_
                refine lv_icmp_ne (tgt := 129) hx hb dX11_endsOf_123 (by decide) (fun c16 => ?_) (fun c16 => ?_)
                · replace h := it_f c16 h
                  refine lv_iload hx hb dX11_endsOf_129 (lv_at hl 2 rfl) ?_
                  refine lv_istore (lv' := [(4, .int x7), (3, .int x15), (8, .int x9), (7, .int x7), (6, .int r6), (5, .int r4), (0, .ref (ad 0)), (2, .int p2)]) hx hb dX11_endsOf_131 hl (by decide) rfl (fun ls hl => ?_)
                  refine lv_goto (tgt := 5) hx hb dX11_endsOf_133 (by decide) ?_
                  refine wu_r hWW5 ?_
                  exact ih x15 x7 z h ls (lv_sub hl [6, 7, 1, 0] rfl) K0 K1 K2 K3
                · replace h := it_t c16 h
                  refine wu_r hWW5 ?_
                  exact K3 (Option.some.inj h).symm ls (lv_sub hl [] rfl)
              · replace h := it_f c14 h
                refine wu_r hWW5 ?_
                exact K2 v2 x7 x9 (Option.some.inj h).symm ls (lv_sub hl [4, 5, 7, 1, 0] rfl)
            · replace h := it_t c13 h
              refine wu_r hWW5 ?_
              exact K1 x7 (Option.some.inj h).symm ls (lv_sub hl [1] rfl)
      · replace h := it_f c10 h
        refine wu_r hWW5 ?_
        exact K0 r4 (Option.some.inj h).symm ls (lv_sub hl [3] rfl)
  obtain ⟨q9, k17, h⟩ | ⟨q9, k17, h⟩ | ⟨q9, k17, h⟩ | ⟨q9, k17, h⟩ := os4_elim h
  · obtain ⟨w18, rfl⟩ : ∃ y, y = q9 := ⟨_, rfl⟩
    refine wu_r hWW5 ?_
    refine Lh5 FU 0 p1 _ k17 ls (lv_sub hl [2, 4, 1, 0] rfl) ?_ (fun _ hy => by cases hy) (fun _ _ _ hy => by cases hy) (fun hy => by cases hy)
    intro y0 hy ls hl
    cases hy
    refine wi_r hWW5 ?_
    refine lv_iload hx hb dX11_endsOf_49 (lv_at hl 0 rfl) ?_
    cases h
    exact W.iret hx hb hr (fun t ht hW => ⟨_, rfl, rfl, ht⟩) (fun q hq => absurd hq List.not_mem_nil) dX11_endsOf_51
  · obtain ⟨w19, rfl⟩ : ∃ y, y = q9 := ⟨_, rfl⟩
    refine wu_r hWW5 ?_
    refine Lh5 FU 0 p1 _ k17 ls (lv_sub hl [2, 4, 1, 0] rfl) (fun _ hy => by cases hy) ?_ (fun _ _ _ hy => by cases hy) (fun hy => by cases hy)
    intro y0 hy ls hl
    cases hy
    refine wi_r hWW5 ?_
    refine lv_iload hx hb dX11_endsOf_71 (lv_at hl 0 rfl) ?_
    cases h
    exact W.iret hx hb hr (fun t ht hW => ⟨_, rfl, rfl, ht⟩) (fun q hq => absurd hq List.not_mem_nil) dX11_endsOf_73
  · obtain ⟨w20, w21, w22⟩ := q9
    replace h := un3_e h
    refine wu_r hWW5 ?_
    refine Lh5 FU 0 p1 _ k17 ls (lv_sub hl [2, 4, 1, 0] rfl) (fun _ hy => by cases hy) (fun _ hy => by cases hy) ?_ (fun hy => by cases hy)
    intro y0 y1 y2 hy ls hl
    cases hy
    refine wi_r hWW5 ?_
    refine lv_iload hx hb dX11_endsOf_80 (lv_at hl 4 rfl) ?_
    refine lv_iconst (v := 1) hx hb dX11_endsOf_82 (by decide) ?_
    refine lv_icmp_ne (tgt := 99) hx hb dX11_endsOf_83 (by decide) (fun c23 => ?_) (fun c23 => ?_)
    · replace h := it_f c23 h
      refine lv_aload_n hx hb dX11_endsOf_99 rfl (lv_at hl 0 rfl) ?_
      refine lv_iload hx hb dX11_endsOf_100 (lv_at hl 2 rfl) ?_
      refine lv_iload hx hb dX11_endsOf_102 (lv_at hl 3 rfl) ?_
      refine lv_iload_n hx hb dX11_endsOf_104 rfl (lv_at hl 1 rfl) ?_
      obtain ⟨r25, k24, h⟩ := ob_elim h
      refine vp_callSi (W.runV (As := [.int w20, .int w21, .int p2]) (rest := []) ⟨hx, hb, hml, hown, hts⟩ (mX11_toTheEnd l dC dI cI cZ ad w20 w21 p2 S k24) (cwV 3 hts gX11_endsOf_X11_toTheEnd rfl rfl rfl (by decide +kernel) ⟨Nat.le_of_ble_eq_true rfl, Nat.le_of_ble_eq_true rfl⟩) ⟨QM_blind, va_recv hK hP (ci := 11) (q0 := 0) rfl rfl, fun U hU hW => ⟨rfl, QM_at hP hK hD hU hW⟩⟩ rfl rfl hl.1 rfl (lv_room (Nat.le_of_ble_eq_true rfl)) dX11_endsOf_105 ⟨Nat.zero_le _, Nat.zero_le _⟩) (fun r9 er9 => ?_)
      replace er9 := er9.symm
      subst er9
      cases h
      exact W.iret hx hb hr (fun t ht hW => ⟨_, rfl, rfl, ht⟩) (fun q hq => absurd hq List.not_mem_nil) dX11_endsOf_108
    · replace h := it_t c23 h
      refine lv_aload_n hx hb dX11_endsOf_86 rfl (lv_at hl 0 rfl) ?_
      refine lv_iload hx hb dX11_endsOf_87 (lv_at hl 3 rfl) ?_
      refine lv_iload_n hx hb dX11_endsOf_89 rfl (lv_at hl 1 rfl) ?_
      obtain ⟨r27, k26, h⟩ := ob_elim h
      refine vp_callSi (W.runV (As := [.int w21, .int p2]) (rest := []) ⟨hx, hb, hml, hown, hts⟩ (mX11_saying l dC dI cI cZ ad w21 p2 S k26) (cwV 2 hts gX11_endsOf_X11_saying rfl rfl rfl (by decide +kernel) ⟨Nat.le_of_ble_eq_true rfl, Nat.le_of_ble_eq_true rfl⟩) ⟨QM_blind, va_recv hK hP (ci := 11) (q0 := 0) rfl rfl, fun U hU hW => ⟨rfl, QM_at hP hK hD hU hW⟩⟩ rfl rfl hl.1 rfl (lv_room (Nat.le_of_ble_eq_true rfl)) dX11_endsOf_90 ⟨Nat.zero_le _, Nat.zero_le _⟩) (fun r9 er9 => ?_)
      replace er9 := er9.symm
      subst er9
      refine lv_bipush (v := 10) hx hb dX11_endsOf_93 (by decide) ?_
      refine lv_irem hx hb dX11_endsOf_95 (by decide) ?_
      refine nm_i (x := irm r27 10) rfl ?_
      refine lv_goto (tgt := 108) hx hb dX11_endsOf_96 (by decide) ?_
      cases h
      exact W.iret hx hb hr (fun t ht hW => ⟨_, rfl, rfl, ht⟩) (fun q hq => absurd hq List.not_mem_nil) dX11_endsOf_108
  · refine wu_r hWW5 ?_
    refine Lh5 FU 0 p1 _ k17 ls (lv_sub hl [2, 4, 1, 0] rfl) (fun _ hy => by cases hy) (fun _ hy => by cases hy) (fun _ _ _ hy => by cases hy) ?_
    intro hy ls hl
    cases hy
    refine wi_r hWW5 ?_
    refine lv_bipush (v := (-5)) hx hb dX11_endsOf_126 (by decide) ?_
    cases h
    exact W.iret hx hb hr (fun t ht hW => ⟨_, rfl, rfl, ht⟩) (fun q hq => absurd hq List.not_mem_nil) dX11_endsOf_128
