set_option maxHeartbeats 4000000 in
set_option maxRecDepth 100000 in
theorem mX3_follow_12_6 (l : Launch) (dC : Nat → ClassId) (dI : Nat → Nat → Nat) (cI cJ : ClassId) (ad : Nat → Nat) (p2 : Int32) (S : Nat → Nat → Int32) (L : Nat → Nat → Int64) (sz : Nat) {z : (Nat → Nat → Int32) × (Nat → Nat → Int64)} (h : sX3_follow_12_6 p2 S L = some z) : Met l yX3_follow wsX3_follow ({ frames := 0, cells := 0, slots := 0, locals := 0 }) (va_Pc [.ref (ad 12), .ref (ad 6), .int p2] (QXs sz dC dI cI cJ ad S L)) (va_Qv (fun (u : (Nat → Nat → Int32) × (Nat → Nat → Int64)) => u = z) (fun (u : (Nat → Nat → Int32) × (Nat → Nat → Int64)) t => va_P (dC, dI) vwCl (wX cI cJ ad u.1 u.2) t.heap) (AX 43 ad sz)) 0 0 (AX 43 ad sz) := by
  refine Met.ofW (cc := cX3_follow) (maxL := 6) (ret := none) (by decide) rfl ?_
  intro p e s m args below meth c s₁ B hml hv
  obtain ⟨rfl, hsz, hP, hK, hD0⟩ := hv
  have hx := B.exec
  have hb := B.bytes
  have hr := B.returns
  have hts := atoms_spec (ws := wsX3_follow) B.pre
  have hown : s.vm.findClass RX3 = some m.cls := findClass_of_methodNamed B.named
  have hlocks := B.notSynchronized
  subst hsz
  have hD := wX_DA hD0 s.heap.size
  have hS : va_S (AX 43 ad s.heap.size) s.heap s.heap [] := va_S.rf
  have hl := lv_entry ([.ref (ad 12), .ref (ad 6), .int p2]) (n := 6) (Nat.le_of_ble_eq_true rfl)
  rw [lg_entry_eq]
  generalize (lg_sl ([.ref (ad 12), .ref (ad 6), .int p2]) ++ List.replicate (6 - (lg_sl ([.ref (ad 12), .ref (ad 6), .int p2])).length) Slot.unset).toArray = ls at hl ⊢
  have hl : lv_has ls 6 [(0, .ref (ad 12)), (1, .ref (ad 6)), (2, .int p2)] := hl
  have hf9 := hts (.fieldLink RX3 9 "LawRings$Chain" "lands" "[I") (by decide +kernel)
  have hiX3 : ∀ w ∈ u_ws RX3 TX3 4, w ∈ wsX3_follow := by decide +kernel
  have hf15 := hts (.fieldLink RX3 15 "LawRings$Chain" "size" "I") (by decide +kernel)
  have hf19 := hts (.fieldLink RX3 19 "LawRings$Hearing" "end" "[I") (by decide +kernel)
  have hiX4 : ∀ w ∈ u_ws RX4 TX4 9, w ∈ wsX3_follow := by decide +kernel
  have hf24 := hts (.fieldLink RX3 24 "LawRings$Chain" "back" "I") (by decide +kernel)
  have hf27 := hts (.fieldLink RX3 27 "LawRings$Hearing" "to" "[I") (by decide +kernel)
  have hf30 := hts (.fieldLink RX3 30 "LawRings$Chain" "last" "I") (by decide +kernel)
  rw [sX3_follow_12_6] at h
  refine lv_iconst (v := 1) hx hb dX3_follow_0 (by decide) ?_
  refine lv_iload_n hx hb dX3_follow_1 rfl (lv_at hl 2 rfl) ?_
  refine lv_ishl hx hb dX3_follow_2 ?_
  obtain ⟨x1, ex1, h⟩ := bnd_elim h
  refine nm_i ex1 ?_
  refine lv_istore_n (lv' := [(3, .int x1), (0, .ref (ad 12)), (1, .ref (ad 6)), (2, .int p2)]) hx hb dX3_follow_3 rfl hl (by decide) rfl (fun ls hl => ?_)
  refine lv_aload_n hx hb dX3_follow_4 rfl (lv_at hl 1 rfl) ?_
  refine va_get (D := (dC, dI)) (ci := 3) (v := .ref (ad 42)) (C := RX3) (T := TX3) (N := 4) hx hb hts hiX3 hown hK hP 12 rfl rfl 0 (by decide) hf9 (fun _ h9 => h9) rfl dX3_follow_5 ?_
  refine lv_iconst (v := 0) hx hb dX3_follow_8 (by decide) ?_
  refine lv_iload_n hx hb dX3_follow_9 rfl (lv_at hl 3 rfl) ?_
  obtain ⟨b2, h⟩ := ck_elim h
  obtain ⟨S3, eS3, h⟩ := bnd_elim h
  refine va_iast hx hb hK hP hD hS 42 0 rfl rfl b2 dX3_follow_10 (fun H locs hP9 _ hS => ?_)
  have hP := swX_42 hP9
  rw [← eS3] at hP
  have hD := wX_D hD S3 L
  refine lv_aload_n hx hb dX3_follow_11 rfl (lv_at hl 1 rfl) ?_
  refine lv_iconst (v := 1) hx hb dX3_follow_12 (by decide) ?_
  obtain ⟨S4, eS4, h⟩ := bnd_elim h
  refine va_put (D := (dC, dI)) (ci := 3) (v := .int 1) (ty := .int) (C := RX3) (T := TX3) (N := 4) hx hb hts hiX3 tyX3 tyX3_ok nmX3 hown hK hP hD hS 12 rfl rfl 1 (by decide) hf15 (fun _ h9 => h9) rfl (by decide +kernel) rfl rfl (Nat.le_of_ble_eq_true rfl) dX3_follow_13 (fun H locs hP9 _ hS => ?_)
  have hP := swX_12_1 hP9
  rw [← eS4] at hP
  have hD := wX_D hD S4 L
  refine lv_iconst (v := 0) hx hb dX3_follow_16 (by decide) ?_
  refine lv_istore (lv' := [(4, .int 0), (3, .int x1), (0, .ref (ad 12)), (1, .ref (ad 6)), (2, .int p2)]) hx hb dX3_follow_17 hl (by decide) rfl (fun ls hl => ?_)
  refine ww_w (fun WW19 hWW19 => ?_)
  have Lh19 : ∀ (n : Nat) (v5 : Int32) (v6 : Int32) (S7 : (Nat → Nat → Int32)) (L8 : (Nat → Nat → Int64)) (z : (((Nat → Nat → Int32) × (Nat → Nat → Int64)) ⊕ ((Nat → Nat → Int32) × (Nat → Nat → Int64)))), lX3_follow_12_6_19 n v5 v6 S7 L8 = some z → ∀ (H : Heap) (locs : List Loc), va_P (dC, dI) vwCl (wX cI cJ ad S7 L8) H → va_S (AX 43 ad s.heap.size) s.heap H locs → ∀ ls : Array Slot, lv_has ls 6 [(0, .ref (ad 12)), (1, .ref (ad 6)), (3, .int v5), (4, .int v6)] → (∀ (YS : (Nat → Nat → Int32)) (YL : (Nat → Nat → Int64)), z = .inl (YS, YL) → ∀ (H : Heap) (locs : List Loc), va_P (dC, dI) vwCl (wX cI cJ ad YS YL) H → va_S (AX 43 ad s.heap.size) s.heap H locs → ∀ ls : Array Slot, lv_has ls 6 [] → WW19 H locs 86 ls) → (∀ (YS : (Nat → Nat → Int32)) (YL : (Nat → Nat → Int64)), z = .inr (YS, YL) → ∀ (H : Heap) (locs : List Loc), va_P (dC, dI) vwCl (wX cI cJ ad YS YL) H → va_S (AX 43 ad s.heap.size) s.heap H locs → ∀ ls : Array Slot, lv_has ls 6 [] → WW19 H locs 125 ls) → WW19 H locs 19 ls := by
    intro n
    induction n with
    | zero => intro v5 v6 S7 L8 z h H locs hP hS ls hl K0 K1; rw [lX3_follow_12_6_19] at h; cases h
    | succ n ih =>
      intro v5 v6 S7 L8 z h H locs hP hS ls hl K0 K1
      have hD := wX_D hD S7 L8
      rw [lX3_follow_12_6_19] at h
      refine wi_w hWW19 ?_
      refine lv_iload hx hb dX3_follow_19 (lv_at hl 3 rfl) ?_
      refine lv_iconst (v := 4) hx hb dX3_follow_21 (by decide) ?_
      refine lv_icmp_ge (tgt := 125) hx hb dX3_follow_22 (by decide) (fun c9 => ?_) (fun c9 => ?_)
      · replace h := it_t c9 h
        refine wu_w hWW19 ?_
        exact K1 S7 L8 (Option.some.inj h).symm H locs hP hS ls (lv_sub hl [] rfl)
      · replace h := it_f c9 h
        refine lv_aload_n hx hb dX3_follow_25 rfl (lv_at hl 0 rfl) ?_
        refine va_get (D := (dC, dI)) (ci := 3) (v := .ref (ad 42)) (C := RX3) (T := TX3) (N := 4) hx hb hts hiX3 hown hK hP 12 rfl rfl 0 (by decide) hf9 (fun _ h9 => h9) rfl dX3_follow_26 ?_
        refine lv_aload_n hx hb dX3_follow_29 rfl (lv_at hl 0 rfl) ?_
        refine va_get (D := (dC, dI)) (ci := 3) (v := .int (S7 12 1)) (C := RX3) (T := TX3) (N := 4) hx hb hts hiX3 hown hK hP 12 rfl rfl 1 (by decide) hf15 (fun _ h9 => h9) rfl dX3_follow_30 ?_
        refine lv_iconst (v := 1) hx hb dX3_follow_33 (by decide) ?_
        refine lv_isub hx hb dX3_follow_34 ?_
        obtain ⟨b10, h⟩ := ck_elim h
        refine va_iald hx hb hK hP 42 0 rfl rfl b10 dX3_follow_35 ?_
        obtain ⟨x11, ex11, h⟩ := bnd_elim h
        refine nm_i ex11 ?_
        refine lv_istore (lv' := [(5, .int x11), (0, .ref (ad 12)), (1, .ref (ad 6)), (3, .int v5), (4, .int v6)]) hx hb dX3_follow_36 hl (by decide) rfl (fun ls hl => ?_)
        refine lv_aload_n hx hb dX3_follow_38 rfl (lv_at hl 1 rfl) ?_
        refine lv_aload_n hx hb dX3_follow_39 rfl (lv_at hl 2 rfl) ?_
        refine va_get (D := (dC, dI)) (ci := 4) (v := .ref (ad 36)) (C := RX4) (T := TX4) (N := 9) hx hb hts hiX4 hown hK hP 6 rfl rfl 6 (by decide) hf19 (fun _ h9 => h9) rfl dX3_follow_40 ?_
        refine lv_iload hx hb dX3_follow_43 (lv_at hl 0 rfl) ?_
        obtain ⟨b12, h⟩ := ck_elim h
        refine va_iald hx hb hK hP 36 0 rfl rfl b12 dX3_follow_45 ?_
        obtain ⟨S13, eS13, h⟩ := bnd_elim h
        refine va_put (D := (dC, dI)) (ci := 3) (v := .int (S7 36 x11.toNatClampNeg)) (ty := .int) (C := RX3) (T := TX3) (N := 4) hx hb hts hiX3 tyX3 tyX3_ok nmX3 hown hK hP hD hS 12 rfl rfl 2 (by decide) hf24 (fun _ h9 => h9) rfl (by decide +kernel) rfl rfl (Nat.le_of_ble_eq_true rfl) dX3_follow_46 (fun H locs hP9 _ hS => ?_)
        have hP := swX_12_2 hP9
        rw [← eS13] at hP
        have hD := wX_D hD S13 L8
        refine lv_aload_n hx hb dX3_follow_49 rfl (lv_at hl 1 rfl) ?_
        refine lv_aload_n hx hb dX3_follow_50 rfl (lv_at hl 2 rfl) ?_
        refine va_get (D := (dC, dI)) (ci := 4) (v := .ref (ad 37)) (C := RX4) (T := TX4) (N := 9) hx hb hts hiX4 hown hK hP 6 rfl rfl 7 (by decide) hf27 (fun _ h9 => h9) rfl dX3_follow_51 ?_
        refine lv_iload hx hb dX3_follow_54 (lv_at hl 0 rfl) ?_
        obtain ⟨b14, h⟩ := ck_elim h
        refine va_iald hx hb hK hP 37 0 rfl rfl b14 dX3_follow_56 ?_
        obtain ⟨S15, eS15, h⟩ := bnd_elim h
        refine va_put (D := (dC, dI)) (ci := 3) (v := .int (S13 37 x11.toNatClampNeg)) (ty := .int) (C := RX3) (T := TX3) (N := 4) hx hb hts hiX3 tyX3 tyX3_ok nmX3 hown hK hP hD hS 12 rfl rfl 3 (by decide) hf30 (fun _ h9 => h9) rfl (by decide +kernel) rfl rfl (Nat.le_of_ble_eq_true rfl) dX3_follow_57 (fun H locs hP9 _ hS => ?_)
        have hP := swX_12_3 hP9
        rw [← eS15] at hP
        have hD := wX_D hD S15 L8
        refine lv_aload_n hx hb dX3_follow_60 rfl (lv_at hl 1 rfl) ?_
        refine va_get (D := (dC, dI)) (ci := 3) (v := .int (S15 12 2)) (C := RX3) (T := TX3) (N := 4) hx hb hts hiX3 hown hK hP 12 rfl rfl 2 (by decide) hf24 (fun _ h9 => h9) rfl dX3_follow_61 ?_
        refine lv_if_eq (tgt := 86) hx hb dX3_follow_64 (by decide) (fun c16 => ?_) (fun c16 => ?_)
        · replace h := it_t c16 h
          refine wu_w hWW19 ?_
          exact K0 S15 L8 (Option.some.inj h).symm H locs hP hS ls (lv_sub hl [] rfl)
        · replace h := it_f c16 h
          refine lv_iload_n hx hb dX3_follow_67 rfl (lv_at hl 3 rfl) ?_
          refine lv_aload_n hx hb dX3_follow_68 rfl (lv_at hl 1 rfl) ?_
          refine va_get (D := (dC, dI)) (ci := 3) (v := .int (S15 12 3)) (C := RX3) (T := TX3) (N := 4) hx hb hts hiX3 hown hK hP 12 rfl rfl 3 (by decide) hf30 (fun _ h9 => h9) rfl dX3_follow_69 ?_
          refine lv_iushr (v := iush v5 (S15 12 3)) hx hb dX3_follow_72 rfl ?_
          refine lv_iconst (v := 1) hx hb dX3_follow_73 (by decide) ?_
          refine lv_iand hx hb dX3_follow_74 ?_
          refine lv_if_ne (tgt := 86) hx hb dX3_follow_75 (by decide) (fun c17 => ?_) (fun c17 => ?_)
          · replace h := it_f c17 h
            refine wu_w hWW19 ?_
            exact K0 S15 L8 (Option.some.inj h).symm H locs hP hS ls (lv_sub hl [] rfl)
          · replace h := it_t c17 h
            refine lv_aload_n hx hb dX3_follow_78 rfl (lv_at hl 1 rfl) ?_
            refine va_get (D := (dC, dI)) (ci := 3) (v := .int (S15 12 1)) (C := RX3) (T := TX3) (N := 4) hx hb hts hiX3 hown hK hP 12 rfl rfl 1 (by decide) hf15 (fun _ h9 => h9) rfl dX3_follow_79 ?_
            refine lv_iconst (v := 4) hx hb dX3_follow_82 (by decide) ?_
            refine lv_icmp_lt (tgt := 87) hx hb dX3_follow_83 (by decide) (fun c18 => ?_) (fun c18 => ?_)
            · replace h := it_t c18 h
              refine lv_iload_n hx hb dX3_follow_87 rfl (lv_at hl 3 rfl) ?_
              refine lv_iconst (v := 1) hx hb dX3_follow_88 (by decide) ?_
              refine lv_aload_n hx hb dX3_follow_89 rfl (lv_at hl 1 rfl) ?_
              refine va_get (D := (dC, dI)) (ci := 3) (v := .int (S15 12 3)) (C := RX3) (T := TX3) (N := 4) hx hb hts hiX3 hown hK hP 12 rfl rfl 3 (by decide) hf30 (fun _ h9 => h9) rfl dX3_follow_90 ?_
              refine lv_ishl hx hb dX3_follow_93 ?_
              refine lv_ior hx hb dX3_follow_94 ?_
              obtain ⟨x19, ex19, h⟩ := bnd_elim h
              refine nm_i ex19 ?_
              refine lv_istore_n (lv' := [(3, .int x19), (5, .int x11), (0, .ref (ad 12)), (1, .ref (ad 6)), (4, .int v6)]) hx hb dX3_follow_95 rfl hl (by decide) rfl (fun ls hl => ?_)
              refine lv_aload_n hx hb dX3_follow_96 rfl (lv_at hl 2 rfl) ?_
              refine va_get (D := (dC, dI)) (ci := 3) (v := .ref (ad 42)) (C := RX3) (T := TX3) (N := 4) hx hb hts hiX3 hown hK hP 12 rfl rfl 0 (by decide) hf9 (fun _ h9 => h9) rfl dX3_follow_97 ?_
              refine lv_aload_n hx hb dX3_follow_100 rfl (lv_at hl 2 rfl) ?_
              refine va_get (D := (dC, dI)) (ci := 3) (v := .int (S15 12 1)) (C := RX3) (T := TX3) (N := 4) hx hb hts hiX3 hown hK hP 12 rfl rfl 1 (by decide) hf15 (fun _ h9 => h9) rfl dX3_follow_101 ?_
              refine lv_aload_n hx hb dX3_follow_104 rfl (lv_at hl 2 rfl) ?_
              refine va_get (D := (dC, dI)) (ci := 3) (v := .int (S15 12 3)) (C := RX3) (T := TX3) (N := 4) hx hb hts hiX3 hown hK hP 12 rfl rfl 3 (by decide) hf30 (fun _ h9 => h9) rfl dX3_follow_105 ?_
              obtain ⟨b20, h⟩ := ck_elim h
              obtain ⟨S21, eS21, h⟩ := bnd_elim h
              refine va_iast hx hb hK hP hD hS 42 0 rfl rfl b20 dX3_follow_108 (fun H locs hP9 _ hS => ?_)
              have hP := swX_42 hP9
              rw [← eS21] at hP
              have hD := wX_D hD S21 L8
              refine lv_aload_n hx hb dX3_follow_109 rfl (lv_at hl 2 rfl) ?_
              refine lv_dup hx hb dX3_follow_110 rfl ?_
              refine va_get (D := (dC, dI)) (ci := 3) (v := .int (S21 12 1)) (C := RX3) (T := TX3) (N := 4) hx hb hts hiX3 hown hK hP 12 rfl rfl 1 (by decide) hf15 (fun _ h9 => h9) rfl dX3_follow_111 ?_
              refine lv_iconst (v := 1) hx hb dX3_follow_114 (by decide) ?_
              refine lv_iadd hx hb dX3_follow_115 ?_
              obtain ⟨S22, eS22, h⟩ := bnd_elim h
              refine va_put (D := (dC, dI)) (ci := 3) (v := .int ((S21 12 1) + 1)) (ty := .int) (C := RX3) (T := TX3) (N := 4) hx hb hts hiX3 tyX3 tyX3_ok nmX3 hown hK hP hD hS 12 rfl rfl 1 (by decide) hf15 (fun _ h9 => h9) rfl (by decide +kernel) rfl rfl (Nat.le_of_ble_eq_true rfl) dX3_follow_116 (fun H locs hP9 _ hS => ?_)
              have hP := swX_12_1 hP9
              rw [← eS22] at hP
              have hD := wX_D hD S22 L8
              obtain ⟨x23, ex23, h⟩ := bnd_elim h
              refine lv_iinc (v := x23) (lv' := [(4, .int x23), (3, .int x19), (5, .int x11), (0, .ref (ad 12)), (1, .ref (ad 6))]) hx hb dX3_follow_119 hl (k := 4) rfl (by rw [ex23]; rfl) (by decide) rfl (fun ls hl => ?_)
              refine lv_goto (tgt := 19) hx hb dX3_follow_122 (by decide) ?_
              refine wu_w hWW19 ?_
              exact ih x19 x23 S22 L8 z h H locs hP hS ls (lv_sub hl [3, 4, 1, 0] rfl) K0 K1
            · replace h := it_f c18 h
              refine wu_w hWW19 ?_
              exact K0 S15 L8 (Option.some.inj h).symm H locs hP hS ls (lv_sub hl [] rfl)
  obtain ⟨q9, k24, h⟩ | ⟨q9, k24, h⟩ := os2_elim h
  · obtain ⟨S25, L26⟩ := q9
    replace h := un2_e h
    refine wu_w hWW19 ?_
    refine Lh19 FU x1 0 S4 L _ k24 H locs hP hS ls (lv_sub hl [2, 3, 1, 0] rfl) ?_ (fun _ _ hy => by cases hy)
    intro y0 y1 hy H locs hP hS ls hl
    cases hy
    have hD := wX_D hD S25 L26
    refine wi_w hWW19 ?_
    cases h
    exact W.vret hx hb hr (fun t ht hW => ⟨⟨_, rfl, rfl, by show va_P _ _ _ t.heap; rw [ht]; exact hP⟩, hS.F ht⟩) hS.2.2 dX3_follow_86
  · obtain ⟨S27, L28⟩ := q9
    replace h := un2_e h
    refine wu_w hWW19 ?_
    refine Lh19 FU x1 0 S4 L _ k24 H locs hP hS ls (lv_sub hl [2, 3, 1, 0] rfl) (fun _ _ hy => by cases hy) ?_
    intro y0 y1 hy H locs hP hS ls hl
    cases hy
    have hD := wX_D hD S27 L28
    refine wi_w hWW19 ?_
    cases h
    exact W.vret hx hb hr (fun t ht hW => ⟨⟨_, rfl, rfl, by show va_P _ _ _ t.heap; rw [ht]; exact hP⟩, hS.F ht⟩) hS.2.2 dX3_follow_125
set_option maxHeartbeats 4000000 in
set_option maxRecDepth 100000 in
theorem mX3_step_11 (l : Launch) (dC : Nat → ClassId) (dI : Nat → Nat → Nat) (cI cJ : ClassId) (ad : Nat → Nat) (p1 : Int32) (S : Nat → Nat → Int32) (L : Nat → Nat → Int64) {z : Int32} (h : sX3_step_11 p1 S L = some z) : Met l yX3_step wsX3_step ({ frames := 0, cells := 0, slots := 0, locals := 0 }) (va_Pc [.ref (ad 11), .int p1] (QX dC dI cI cJ ad S L)) (vp_Si (fun r => r = z)) 0 0 (fun _ => False) := by
  refine Met.ofW (cc := cX3_step) (maxL := 2) (ret := (some .int)) (by decide) rfl ?_
  intro p e s m args below meth c s₁ B hml hv
  obtain ⟨rfl, hP, hK, hD⟩ := hv
  have hx := B.exec
  have hb := B.bytes
  have hr := B.returns
  have hts := atoms_spec (ws := wsX3_step) B.pre
  have hown : s.vm.findClass RX3 = some m.cls := findClass_of_methodNamed B.named
  have hlocks := B.notSynchronized
  have hl := lv_entry ([.ref (ad 11), .int p1]) (n := 2) (Nat.le_of_ble_eq_true rfl)
  rw [lg_entry_eq]
  generalize (lg_sl ([.ref (ad 11), .int p1]) ++ List.replicate (2 - (lg_sl ([.ref (ad 11), .int p1])).length) Slot.unset).toArray = ls at hl ⊢
  have hl : lv_has ls 2 [(0, .ref (ad 11)), (1, .int p1)] := hl
  have hf15 := hts (.fieldLink RX3 15 "LawRings$Chain" "size" "I") (by decide +kernel)
  have hiX3 : ∀ w ∈ u_ws RX3 TX3 4, w ∈ wsX3_step := by decide +kernel
  have hf24 := hts (.fieldLink RX3 24 "LawRings$Chain" "back" "I") (by decide +kernel)
  have hf30 := hts (.fieldLink RX3 30 "LawRings$Chain" "last" "I") (by decide +kernel)
  have hf9 := hts (.fieldLink RX3 9 "LawRings$Chain" "lands" "[I") (by decide +kernel)
  rw [sX3_step_11] at h
  refine lv_iload_n hx hb dX3_step_0 rfl (lv_at hl 1 rfl) ?_
  refine lv_aload_n hx hb dX3_step_1 rfl (lv_at hl 0 rfl) ?_
  refine va_get (D := (dC, dI)) (ci := 3) (v := .int (S 11 1)) (C := RX3) (T := TX3) (N := 4) hx hb hts hiX3 hown hK hP 11 rfl rfl 1 (by decide) hf15 (fun _ h9 => h9) rfl dX3_step_2 ?_
  refine lv_icmp_ge (tgt := 15) hx hb dX3_step_5 (by decide) (fun c1 => ?_) (fun c1 => ?_)
  · replace h := it_t c1 h
    refine lv_iload_n hx hb dX3_step_15 rfl (lv_at hl 1 rfl) ?_
    refine lv_aload_n hx hb dX3_step_16 rfl (lv_at hl 0 rfl) ?_
    refine va_get (D := (dC, dI)) (ci := 3) (v := .int (S 11 1)) (C := RX3) (T := TX3) (N := 4) hx hb hts hiX3 hown hK hP 11 rfl rfl 1 (by decide) hf15 (fun _ h9 => h9) rfl dX3_step_17 ?_
    refine lv_icmp_ne (tgt := 41) hx hb dX3_step_20 (by decide) (fun c2 => ?_) (fun c2 => ?_)
    · replace h := it_f c2 h
      refine lv_iconst (v := (-1)) hx hb dX3_step_41 (by decide) ?_
      cases h
      exact W.iret hx hb hr (fun t ht hW => ⟨_, rfl, rfl, ht⟩) (fun q hq => absurd hq List.not_mem_nil) dX3_step_42
    · replace h := it_t c2 h
      refine lv_bipush (v := 100) hx hb dX3_step_23 (by decide) ?_
      refine lv_bipush (v := 10) hx hb dX3_step_25 (by decide) ?_
      refine lv_aload_n hx hb dX3_step_27 rfl (lv_at hl 0 rfl) ?_
      refine va_get (D := (dC, dI)) (ci := 3) (v := .int (S 11 2)) (C := RX3) (T := TX3) (N := 4) hx hb hts hiX3 hown hK hP 11 rfl rfl 2 (by decide) hf24 (fun _ h9 => h9) rfl dX3_step_28 ?_
      refine lv_imul hx hb dX3_step_31 ?_
      refine lv_iadd hx hb dX3_step_32 ?_
      refine lv_aload_n hx hb dX3_step_33 rfl (lv_at hl 0 rfl) ?_
      refine va_get (D := (dC, dI)) (ci := 3) (v := .int (S 11 3)) (C := RX3) (T := TX3) (N := 4) hx hb hts hiX3 hown hK hP 11 rfl rfl 3 (by decide) hf30 (fun _ h9 => h9) rfl dX3_step_34 ?_
      refine lv_iadd hx hb dX3_step_37 ?_
      refine lv_goto (tgt := 42) hx hb dX3_step_38 (by decide) ?_
      cases h
      exact W.iret hx hb hr (fun t ht hW => ⟨_, rfl, rfl, ht⟩) (fun q hq => absurd hq List.not_mem_nil) dX3_step_42
  · replace h := it_f c1 h
    refine lv_aload_n hx hb dX3_step_8 rfl (lv_at hl 0 rfl) ?_
    refine va_get (D := (dC, dI)) (ci := 3) (v := .ref (ad 41)) (C := RX3) (T := TX3) (N := 4) hx hb hts hiX3 hown hK hP 11 rfl rfl 0 (by decide) hf9 (fun _ h9 => h9) rfl dX3_step_9 ?_
    refine lv_iload_n hx hb dX3_step_12 rfl (lv_at hl 1 rfl) ?_
    obtain ⟨b3, h⟩ := ck_elim h
    refine va_iald hx hb hK hP 41 0 rfl rfl b3 dX3_step_13 ?_
    cases h
    exact W.iret hx hb hr (fun t ht hW => ⟨_, rfl, rfl, ht⟩) (fun q hq => absurd hq List.not_mem_nil) dX3_step_14
set_option maxHeartbeats 4000000 in
set_option maxRecDepth 100000 in
theorem mX3_step_12 (l : Launch) (dC : Nat → ClassId) (dI : Nat → Nat → Nat) (cI cJ : ClassId) (ad : Nat → Nat) (p1 : Int32) (S : Nat → Nat → Int32) (L : Nat → Nat → Int64) {z : Int32} (h : sX3_step_12 p1 S L = some z) : Met l yX3_step wsX3_step ({ frames := 0, cells := 0, slots := 0, locals := 0 }) (va_Pc [.ref (ad 12), .int p1] (QX dC dI cI cJ ad S L)) (vp_Si (fun r => r = z)) 0 0 (fun _ => False) := by
  refine Met.ofW (cc := cX3_step) (maxL := 2) (ret := (some .int)) (by decide) rfl ?_
  intro p e s m args below meth c s₁ B hml hv
  obtain ⟨rfl, hP, hK, hD⟩ := hv
  have hx := B.exec
  have hb := B.bytes
  have hr := B.returns
  have hts := atoms_spec (ws := wsX3_step) B.pre
  have hown : s.vm.findClass RX3 = some m.cls := findClass_of_methodNamed B.named
  have hlocks := B.notSynchronized
  have hl := lv_entry ([.ref (ad 12), .int p1]) (n := 2) (Nat.le_of_ble_eq_true rfl)
  rw [lg_entry_eq]
  generalize (lg_sl ([.ref (ad 12), .int p1]) ++ List.replicate (2 - (lg_sl ([.ref (ad 12), .int p1])).length) Slot.unset).toArray = ls at hl ⊢
  have hl : lv_has ls 2 [(0, .ref (ad 12)), (1, .int p1)] := hl
  have hf15 := hts (.fieldLink RX3 15 "LawRings$Chain" "size" "I") (by decide +kernel)
  have hiX3 : ∀ w ∈ u_ws RX3 TX3 4, w ∈ wsX3_step := by decide +kernel
  have hf24 := hts (.fieldLink RX3 24 "LawRings$Chain" "back" "I") (by decide +kernel)
  have hf30 := hts (.fieldLink RX3 30 "LawRings$Chain" "last" "I") (by decide +kernel)
  have hf9 := hts (.fieldLink RX3 9 "LawRings$Chain" "lands" "[I") (by decide +kernel)
  rw [sX3_step_12] at h
  refine lv_iload_n hx hb dX3_step_0 rfl (lv_at hl 1 rfl) ?_
  refine lv_aload_n hx hb dX3_step_1 rfl (lv_at hl 0 rfl) ?_
  refine va_get (D := (dC, dI)) (ci := 3) (v := .int (S 12 1)) (C := RX3) (T := TX3) (N := 4) hx hb hts hiX3 hown hK hP 12 rfl rfl 1 (by decide) hf15 (fun _ h9 => h9) rfl dX3_step_2 ?_
  refine lv_icmp_ge (tgt := 15) hx hb dX3_step_5 (by decide) (fun c1 => ?_) (fun c1 => ?_)
  · replace h := it_t c1 h
    refine lv_iload_n hx hb dX3_step_15 rfl (lv_at hl 1 rfl) ?_
    refine lv_aload_n hx hb dX3_step_16 rfl (lv_at hl 0 rfl) ?_
    refine va_get (D := (dC, dI)) (ci := 3) (v := .int (S 12 1)) (C := RX3) (T := TX3) (N := 4) hx hb hts hiX3 hown hK hP 12 rfl rfl 1 (by decide) hf15 (fun _ h9 => h9) rfl dX3_step_17 ?_
    refine lv_icmp_ne (tgt := 41) hx hb dX3_step_20 (by decide) (fun c2 => ?_) (fun c2 => ?_)
    · replace h := it_f c2 h
      refine lv_iconst (v := (-1)) hx hb dX3_step_41 (by decide) ?_
      cases h
      exact W.iret hx hb hr (fun t ht hW => ⟨_, rfl, rfl, ht⟩) (fun q hq => absurd hq List.not_mem_nil) dX3_step_42
    · replace h := it_t c2 h
      refine lv_bipush (v := 100) hx hb dX3_step_23 (by decide) ?_
      refine lv_bipush (v := 10) hx hb dX3_step_25 (by decide) ?_
      refine lv_aload_n hx hb dX3_step_27 rfl (lv_at hl 0 rfl) ?_
      refine va_get (D := (dC, dI)) (ci := 3) (v := .int (S 12 2)) (C := RX3) (T := TX3) (N := 4) hx hb hts hiX3 hown hK hP 12 rfl rfl 2 (by decide) hf24 (fun _ h9 => h9) rfl dX3_step_28 ?_
      refine lv_imul hx hb dX3_step_31 ?_
      refine lv_iadd hx hb dX3_step_32 ?_
      refine lv_aload_n hx hb dX3_step_33 rfl (lv_at hl 0 rfl) ?_
      refine va_get (D := (dC, dI)) (ci := 3) (v := .int (S 12 3)) (C := RX3) (T := TX3) (N := 4) hx hb hts hiX3 hown hK hP 12 rfl rfl 3 (by decide) hf30 (fun _ h9 => h9) rfl dX3_step_34 ?_
      refine lv_iadd hx hb dX3_step_37 ?_
      refine lv_goto (tgt := 42) hx hb dX3_step_38 (by decide) ?_
      cases h
      exact W.iret hx hb hr (fun t ht hW => ⟨_, rfl, rfl, ht⟩) (fun q hq => absurd hq List.not_mem_nil) dX3_step_42
  · replace h := it_f c1 h
    refine lv_aload_n hx hb dX3_step_8 rfl (lv_at hl 0 rfl) ?_
    refine va_get (D := (dC, dI)) (ci := 3) (v := .ref (ad 42)) (C := RX3) (T := TX3) (N := 4) hx hb hts hiX3 hown hK hP 12 rfl rfl 0 (by decide) hf9 (fun _ h9 => h9) rfl dX3_step_9 ?_
    refine lv_iload_n hx hb dX3_step_12 rfl (lv_at hl 1 rfl) ?_
    obtain ⟨b3, h⟩ := ck_elim h
    refine va_iald hx hb hK hP 42 0 rfl rfl b3 dX3_step_13 ?_
    cases h
    exact W.iret hx hb hr (fun t ht hW => ⟨_, rfl, rfl, ht⟩) (fun q hq => absurd hq List.not_mem_nil) dX3_step_14
set_option maxHeartbeats 4000000 in
set_option maxRecDepth 100000 in
theorem mX10_parts (l : Launch) (dC : Nat → ClassId) (dI : Nat → Nat → Nat) (cI cJ : ClassId) (ad : Nat → Nat) (p1 : Int32) (p2 : Int32) (p3 : Int32) (p4 : Int32) (S : Nat → Nat → Int32) (L : Nat → Nat → Int64) (sz : Nat) {z : Int32 × (Nat → Nat → Int32) × (Nat → Nat → Int64)} (h : sX10_parts p1 p2 p3 p4 S L = some z) : Met l yX10_parts wsX10_parts ({ frames := 4, cells := 0, slots := 0, locals := 92 }) (va_Pc [.ref (ad 0), .int p1, .int p2, .int p3, .int p4] (QXs sz dC dI cI cJ ad S L)) (va_Qi (fun (r : Int32) (u : (Nat → Nat → Int32) × (Nat → Nat → Int64)) => (r, u) = z) (fun (u : (Nat → Nat → Int32) × (Nat → Nat → Int64)) t => va_P (dC, dI) vwCl (wX cI cJ ad u.1 u.2) t.heap) (AX 43 ad sz)) 0 0 (AX 43 ad sz) := by
  refine Met.ofW (cc := cX10_parts) (maxL := 6) (ret := (some .int)) (by decide) rfl ?_
  intro p e s m args below meth c s₁ B hml hv
  obtain ⟨rfl, hsz, hP, hK, hD0⟩ := hv
  have hx := B.exec
  have hb := B.bytes
  have hr := B.returns
  have hts := atoms_spec (ws := wsX10_parts) B.pre
  have hown : s.vm.findClass RX10 = some m.cls := findClass_of_methodNamed B.named
  have hlocks := B.notSynchronized
  subst hsz
  have hD := wX_DA hD0 s.heap.size
  have hS : va_S (AX 43 ad s.heap.size) s.heap s.heap [] := va_S.rf
  have hl := lv_entry ([.ref (ad 0), .int p1, .int p2, .int p3, .int p4]) (n := 6) (Nat.le_of_ble_eq_true rfl)
  rw [lg_entry_eq]
  generalize (lg_sl ([.ref (ad 0), .int p1, .int p2, .int p3, .int p4]) ++ List.replicate (6 - (lg_sl ([.ref (ad 0), .int p1, .int p2, .int p3, .int p4])).length) Slot.unset).toArray = ls at hl ⊢
  have hl : lv_has ls 6 [(0, .ref (ad 0)), (1, .int p1), (2, .int p2), (3, .int p3), (4, .int p4)] := hl
  have hf83 := hts (.fieldLink RX10 83 "LawRings" "oneChain" "LLawRings$Chain;") (by decide +kernel)
  have hiX10 : ∀ w ∈ u_ws RX10 TX10 11, w ∈ wsX10_parts := by decide +kernel
  have hf49 := hts (.fieldLink RX10 49 "LawRings" "hearing" "LLawRings$Hearing;") (by decide +kernel)
  have hf87 := hts (.fieldLink RX10 87 "LawRings" "otherChain" "LLawRings$Chain;") (by decide +kernel)
  rw [sX10_parts] at h
  refine lv_aload_n hx hb dX10_parts_0 rfl (lv_at hl 0 rfl) ?_
  refine lv_iload_n hx hb dX10_parts_1 rfl (lv_at hl 1 rfl) ?_
  refine lv_iload_n hx hb dX10_parts_2 rfl (lv_at hl 3 rfl) ?_
  refine lv_iload hx hb dX10_parts_3 (lv_at hl 4 rfl) ?_
  obtain ⟨r2, k1, h⟩ := ob_elim h
  refine vp_callSi (W.runV (As := [.int p1, .int p3, .int p4]) (rest := []) ⟨hx, hb, hml, hown, hts⟩ (mX10_isQuestion l dC dI cI cJ ad p1 p3 p4 S L k1) (cwV 3 hts gX10_parts_X10_isQuestion rfl rfl rfl (by decide +kernel) ⟨Nat.le_of_ble_eq_true rfl, Nat.le_of_ble_eq_true rfl⟩) ⟨QX_blind, va_recv hK hP (ci := 10) (q0 := 0) rfl rfl, fun U hU hW => ⟨rfl, QX_at hP hK hD hU hW⟩⟩ rfl rfl hl.1 rfl (lv_room (Nat.le_of_ble_eq_true rfl)) dX10_parts_5 ⟨Nat.zero_le _, Nat.zero_le _⟩) (fun r9 er9 => ?_)
  replace er9 := er9.symm
  subst er9
  refine lv_if_eq (tgt := 19) hx hb dX10_parts_8 (by decide) (fun c3 => ?_) (fun c3 => ?_)
  · replace h := it_t c3 h
    refine lv_bipush (v := (-2)) hx hb dX10_parts_19 (by decide) ?_
    cases h
    exact W.iret hx hb hr (fun t ht hW => ⟨⟨_, _, rfl, rfl, by show va_P _ _ _ t.heap; rw [ht]; exact hP⟩, hS.F ht⟩) hS.2.2 dX10_parts_21
  · replace h := it_f c3 h
    refine lv_iload_n hx hb dX10_parts_11 rfl (lv_at hl 1 rfl) ?_
    refine lv_iload_n hx hb dX10_parts_12 rfl (lv_at hl 2 rfl) ?_
    obtain ⟨r5, k4, h⟩ := ob_elim h
    refine vp_callSi (W.runS (As := [.int p1, .int p2]) (rest := []) ⟨hx, hb, hml, hown, hts⟩ (mX10_isOther l p1 p2 k4) (va_cwS 2 hts gX10_parts_X10_isOther rfl rfl rfl (by decide +kernel) ⟨Nat.le_of_ble_eq_true rfl, Nat.le_of_ble_eq_true rfl⟩) ⟨fun _ _ _ _ q => q, fun U hU hW => ⟨rfl, trivial⟩⟩ rfl rfl hl.1 rfl (lv_room (Nat.le_of_ble_eq_true rfl)) dX10_parts_13 ⟨Nat.zero_le _, Nat.zero_le _⟩) (fun r9 er9 => ?_)
    replace er9 := er9.symm
    subst er9
    refine lv_if_ne (tgt := 22) hx hb dX10_parts_16 (by decide) (fun c6 => ?_) (fun c6 => ?_)
    · replace h := it_f c6 h
      refine lv_aload_n hx hb dX10_parts_22 rfl (lv_at hl 0 rfl) ?_
      refine lv_iload_n hx hb dX10_parts_23 rfl (lv_at hl 3 rfl) ?_
      refine lv_iload hx hb dX10_parts_24 (lv_at hl 4 rfl) ?_
      obtain ⟨S8, L9, k7, h⟩ := ob2_elim h
      refine va_callv (va_runV (As := [.int p3, .int p4]) (rest := []) ⟨hx, hb, hml, hown, hts⟩ (mX10_hear l dC dI cI cJ ad p3 p4 S L s.heap.size k7) (cwV 2 hts gX10_parts_X10_hear rfl rfl rfl (by decide +kernel) ⟨Nat.le_of_ble_eq_true rfl, Nat.le_of_ble_eq_true rfl⟩) ⟨QXs_blind, va_recv hK hP (ci := 10) (q0 := 0) rfl rfl, fun U hU hW => ⟨rfl, congrArg Array.size hU, QX_at hP hK hD hU hW⟩⟩ rfl rfl hl.1 rfl (lv_room (Nat.le_of_ble_eq_true rfl)) dX10_parts_26 ⟨Nat.zero_le _, Nat.zero_le _⟩) hS (fun q _ hq => AX_mono hS.1 hq) (fun q hq => AX_mono hS.1 hq) (fun u t H1 locs ht hvm hw hB hz1 hk1 hS => ?_)
      cases hw
      rw [ht] at hB
      have hP := hB
      clear hB hk1 hz1
      generalize H1 = H at hP hS ⊢
      have hD := wX_D hD S8 L9
      refine lv_aload_n hx hb dX10_parts_29 rfl (lv_at hl 0 rfl) ?_
      refine va_get (D := (dC, dI)) (ci := 10) (v := .ref (ad 11)) (C := RX10) (T := TX10) (N := 11) hx hb hts hiX10 hown hK hP 0 rfl rfl 9 (by decide) hf83 (fun _ h9 => h9) rfl dX10_parts_30 ?_
      refine lv_aload_n hx hb dX10_parts_33 rfl (lv_at hl 0 rfl) ?_
      refine va_get (D := (dC, dI)) (ci := 10) (v := .ref (ad 6)) (C := RX10) (T := TX10) (N := 11) hx hb hts hiX10 hown hK hP 0 rfl rfl 5 (by decide) hf49 (fun _ h9 => h9) rfl dX10_parts_34 ?_
      refine lv_iload_n hx hb dX10_parts_37 rfl (lv_at hl 1 rfl) ?_
      obtain ⟨S11, L12, k10, h⟩ := ob2_elim h
      refine va_callv (va_runV (As := [.ref (ad 6), .int p1]) (rest := []) ⟨hx, hb, hml, hown, hts⟩ (mX3_follow_11_6 l dC dI cI cJ ad p1 S8 L9 H.size k10) (cwV 2 hts gX10_parts_X3_follow rfl rfl rfl (by decide +kernel) ⟨Nat.le_of_ble_eq_true rfl, Nat.le_of_ble_eq_true rfl⟩) ⟨QXs_blind, va_recv hK hP (ci := 3) (q0 := 11) rfl rfl, fun U hU hW => ⟨rfl, congrArg Array.size hU, QX_at hP hK hD hU hW⟩⟩ rfl rfl hl.1 rfl (lv_room (Nat.le_of_ble_eq_true rfl)) dX10_parts_38 ⟨Nat.zero_le _, Nat.zero_le _⟩) hS (fun q _ hq => AX_mono hS.1 hq) (fun q hq => AX_mono hS.1 hq) (fun u t H1 locs ht hvm hw hB hz1 hk1 hS => ?_)
      cases hw
      rw [ht] at hB
      have hP := hB
      clear hB hk1 hz1
      generalize H1 = H at hP hS ⊢
      have hD := wX_D hD S11 L12
      refine lv_aload_n hx hb dX10_parts_41 rfl (lv_at hl 0 rfl) ?_
      refine va_get (D := (dC, dI)) (ci := 10) (v := .ref (ad 12)) (C := RX10) (T := TX10) (N := 11) hx hb hts hiX10 hown hK hP 0 rfl rfl 10 (by decide) hf87 (fun _ h9 => h9) rfl dX10_parts_42 ?_
      refine lv_aload_n hx hb dX10_parts_45 rfl (lv_at hl 0 rfl) ?_
      refine va_get (D := (dC, dI)) (ci := 10) (v := .ref (ad 6)) (C := RX10) (T := TX10) (N := 11) hx hb hts hiX10 hown hK hP 0 rfl rfl 5 (by decide) hf49 (fun _ h9 => h9) rfl dX10_parts_46 ?_
      refine lv_iload_n hx hb dX10_parts_49 rfl (lv_at hl 2 rfl) ?_
      obtain ⟨S14, L15, k13, h⟩ := ob2_elim h
      refine va_callv (va_runV (As := [.ref (ad 6), .int p2]) (rest := []) ⟨hx, hb, hml, hown, hts⟩ (mX3_follow_12_6 l dC dI cI cJ ad p2 S11 L12 H.size k13) (cwV 2 hts gX10_parts_X3_follow rfl rfl rfl (by decide +kernel) ⟨Nat.le_of_ble_eq_true rfl, Nat.le_of_ble_eq_true rfl⟩) ⟨QXs_blind, va_recv hK hP (ci := 3) (q0 := 12) rfl rfl, fun U hU hW => ⟨rfl, congrArg Array.size hU, QX_at hP hK hD hU hW⟩⟩ rfl rfl hl.1 rfl (lv_room (Nat.le_of_ble_eq_true rfl)) dX10_parts_50 ⟨Nat.zero_le _, Nat.zero_le _⟩) hS (fun q _ hq => AX_mono hS.1 hq) (fun q hq => AX_mono hS.1 hq) (fun u t H1 locs ht hvm hw hB hz1 hk1 hS => ?_)
      cases hw
      rw [ht] at hB
      have hP := hB
      clear hB hk1 hz1
      generalize H1 = H at hP hS ⊢
      have hD := wX_D hD S14 L15
      refine lv_iconst (v := 1) hx hb dX10_parts_53 (by decide) ?_
      refine lv_istore (lv' := [(5, .int 1), (0, .ref (ad 0)), (1, .int p1), (2, .int p2), (3, .int p3), (4, .int p4)]) hx hb dX10_parts_54 hl (by decide) rfl (fun ls hl => ?_)
      refine ww_r (fun WW56 hWW56 => ?_)
      have Lh56 : ∀ (n : Nat) (v16 : Int32) (z : ((Int32) ⊕ Unit)), lX10_parts_56 S14 L15 n v16 = some z → ∀ ls : Array Slot, lv_has ls 6 [(0, .ref (ad 0)), (5, .int v16)] → (∀ (y0 : Int32), z = .inl y0 → ∀ ls : Array Slot, lv_has ls 6 [(5, .int y0)] → WW56  83 ls) → (z = .inr () → ∀ ls : Array Slot, lv_has ls 6 [] → WW56  92 ls) → WW56  56 ls := by
        intro n
        induction n with
        | zero => intro v16 z h ls hl K0 K1; rw [lX10_parts_56] at h; cases h
        | succ n ih =>
          intro v16 z h ls hl K0 K1
          rw [lX10_parts_56] at h
          refine wi_r hWW56 ?_
          refine lv_iload hx hb dX10_parts_56 (lv_at hl 1 rfl) ?_
          refine lv_iconst (v := 4) hx hb dX10_parts_58 (by decide) ?_
          refine lv_icmp_gt (tgt := 92) hx hb dX10_parts_59 (by decide) (fun c17 => ?_) (fun c17 => ?_)
          · replace h := it_t c17 h
            refine wu_r hWW56 ?_
            exact K1 (Option.some.inj h).symm ls (lv_sub hl [] rfl)
          · replace h := it_f c17 h
            refine lv_aload_n hx hb dX10_parts_62 rfl (lv_at hl 0 rfl) ?_
            refine va_get (D := (dC, dI)) (ci := 10) (v := .ref (ad 11)) (C := RX10) (T := TX10) (N := 11) hx hb hts hiX10 hown hK hP 0 rfl rfl 9 (by decide) hf83 (fun _ h9 => h9) rfl dX10_parts_63 ?_
            refine lv_iload hx hb dX10_parts_66 (lv_at hl 1 rfl) ?_
            obtain ⟨r19, k18, h⟩ := ob_elim h
            refine vp_callSi (W.runV (As := [.int v16]) (rest := []) ⟨hx, hb, hml, hown, hts⟩ (mX3_step_11 l dC dI cI cJ ad v16 S14 L15 k18) (cwV 1 hts gX10_parts_X3_step rfl rfl rfl (by decide +kernel) ⟨Nat.le_of_ble_eq_true rfl, Nat.le_of_ble_eq_true rfl⟩) ⟨QX_blind, va_recv hK hP (ci := 3) (q0 := 11) rfl rfl, fun U hU hW => ⟨rfl, QX_at hP hK hD hU hW⟩⟩ rfl rfl hl.1 rfl (lv_room (Nat.le_of_ble_eq_true rfl)) dX10_parts_68 ⟨Nat.zero_le _, Nat.zero_le _⟩) (fun r9 er9 => ?_)
            replace er9 := er9.symm
            subst er9
            refine lv_aload_n hx hb dX10_parts_71 rfl (lv_at hl 0 rfl) ?_
            refine va_get (D := (dC, dI)) (ci := 10) (v := .ref (ad 12)) (C := RX10) (T := TX10) (N := 11) hx hb hts hiX10 hown hK hP 0 rfl rfl 10 (by decide) hf87 (fun _ h9 => h9) rfl dX10_parts_72 ?_
            refine lv_iload hx hb dX10_parts_75 (lv_at hl 1 rfl) ?_
            obtain ⟨r21, k20, h⟩ := ob_elim h
            refine vp_callSi (W.runV (As := [.int v16]) (rest := [.int r19]) ⟨hx, hb, hml, hown, hts⟩ (mX3_step_12 l dC dI cI cJ ad v16 S14 L15 k20) (cwV 1 hts gX10_parts_X3_step rfl rfl rfl (by decide +kernel) ⟨Nat.le_of_ble_eq_true rfl, Nat.le_of_ble_eq_true rfl⟩) ⟨QX_blind, va_recv hK hP (ci := 3) (q0 := 12) rfl rfl, fun U hU hW => ⟨rfl, QX_at hP hK hD hU hW⟩⟩ rfl rfl hl.1 rfl (lv_room (Nat.le_of_ble_eq_true rfl)) dX10_parts_77 ⟨Nat.zero_le _, Nat.zero_le _⟩) (fun r9 er9 => ?_)
            replace er9 := er9.symm
            subst er9
            refine lv_icmp_eq (tgt := 86) hx hb dX10_parts_80 (by decide) (fun c22 => ?_) (fun c22 => ?_)
            · replace h := it_t c22 h
              obtain ⟨x23, ex23, h⟩ := bnd_elim h
              refine lv_iinc (v := x23) (lv' := [(5, .int x23), (0, .ref (ad 0))]) hx hb dX10_parts_86 hl (k := 1) rfl (by rw [ex23]; rfl) (by decide) rfl (fun ls hl => ?_)
              refine lv_goto (tgt := 56) hx hb dX10_parts_89 (by decide) ?_
              refine wu_r hWW56 ?_
              exact ih x23 z h ls (lv_sub hl [1, 0] rfl) K0 K1
            · replace h := it_f c22 h
              refine wu_r hWW56 ?_
              exact K0 v16 (Option.some.inj h).symm ls (lv_sub hl [1] rfl)
      obtain ⟨q9, k24, h⟩ | ⟨q9, k24, h⟩ := os2_elim h
      · obtain ⟨w25, rfl⟩ : ∃ y, y = q9 := ⟨_, rfl⟩
        refine wu_r hWW56 ?_
        refine Lh56 FU 1 _ k24 ls (lv_sub hl [1, 0] rfl) ?_ (fun hy => by cases hy)
        intro y0 hy ls hl
        cases hy
        refine wi_r hWW56 ?_
        refine lv_iload hx hb dX10_parts_83 (lv_at hl 0 rfl) ?_
        cases h
        exact W.iret hx hb hr (fun t ht hW => ⟨⟨_, _, rfl, rfl, by show va_P _ _ _ t.heap; rw [ht]; exact hP⟩, hS.F ht⟩) hS.2.2 dX10_parts_85
      · refine wu_r hWW56 ?_
        refine Lh56 FU 1 _ k24 ls (lv_sub hl [1, 0] rfl) (fun _ hy => by cases hy) ?_
        intro hy ls hl
        cases hy
        refine wi_r hWW56 ?_
        refine lv_iconst (v := 0) hx hb dX10_parts_92 (by decide) ?_
        cases h
        exact W.iret hx hb hr (fun t ht hW => ⟨⟨_, _, rfl, rfl, by show va_P _ _ _ t.heap; rw [ht]; exact hP⟩, hS.F ht⟩) hS.2.2 dX10_parts_93
    · replace h := it_t c6 h
      refine lv_bipush (v := (-2)) hx hb dX10_parts_19 (by decide) ?_
      cases h
      exact W.iret hx hb hr (fun t ht hW => ⟨⟨_, _, rfl, rfl, by show va_P _ _ _ t.heap; rw [ht]; exact hP⟩, hS.F ht⟩) hS.2.2 dX10_parts_21
set_option maxHeartbeats 4000000 in
set_option maxRecDepth 100000 in
theorem mX11_parts (l : Launch) (dC : Nat → ClassId) (dI : Nat → Nat → Nat) (cI cZ : ClassId) (ad : Nat → Nat) (p1 : Int32) (p2 : Int32) (p3 : Int32) (p4 : Int32) (S : Nat → Nat → Int32) (sz : Nat) {z : Int32 × (Nat → Nat → Int32)} (h : sX11_parts p1 p2 p3 p4 S = some z) : Met l yX11_parts wsX11_parts ({ frames := 7, cells := 0, slots := 0, locals := 163 }) (va_Pc [.ref (ad 0), .int p1, .int p2, .int p3, .int p4] (QMs sz dC dI cI cZ ad S)) (va_Qi (fun (r : Int32) (u : (Nat → Nat → Int32)) => (r, u) = z) (fun (u : (Nat → Nat → Int32)) t => va_P (dC, dI) vwCl (wM cI cZ ad u) t.heap) (AX 7 ad sz)) 0 0 (AX 7 ad sz) := by
  refine Met.ofW (cc := cX11_parts) (maxL := 6) (ret := (some .int)) (by decide) rfl ?_
  intro p e s m args below meth c s₁ B hml hv
  obtain ⟨rfl, hsz, hP, hK, hD0⟩ := hv
  have hx := B.exec
  have hb := B.bytes
  have hr := B.returns
  have hts := atoms_spec (ws := wsX11_parts) B.pre
  have hown : s.vm.findClass RX11 = some m.cls := findClass_of_methodNamed B.named
  have hlocks := B.notSynchronized
  subst hsz
  have hD := wM_DA hD0 s.heap.size
  have hS : va_S (AX 7 ad s.heap.size) s.heap s.heap [] := va_S.rf
  have hl := lv_entry ([.ref (ad 0), .int p1, .int p2, .int p3, .int p4]) (n := 6) (Nat.le_of_ble_eq_true rfl)
  rw [lg_entry_eq]
  generalize (lg_sl ([.ref (ad 0), .int p1, .int p2, .int p3, .int p4]) ++ List.replicate (6 - (lg_sl ([.ref (ad 0), .int p1, .int p2, .int p3, .int p4])).length) Slot.unset).toArray = ls at hl ⊢
  have hl : lv_has ls 6 [(0, .ref (ad 0)), (1, .int p1), (2, .int p2), (3, .int p3), (4, .int p4)] := hl
  have hf20 := hts (.fieldLink RX11 20 "LawRingsModel" "chain" "[I") (by decide +kernel)
  have hiX11 : ∀ w ∈ u_ws RX11 TX11 8, w ∈ wsX11_parts := by decide +kernel
  rw [sX11_parts] at h
  refine lv_aload_n hx hb dX11_parts_0 rfl (lv_at hl 0 rfl) ?_
  refine lv_iload_n hx hb dX11_parts_1 rfl (lv_at hl 1 rfl) ?_
  refine lv_iload_n hx hb dX11_parts_2 rfl (lv_at hl 3 rfl) ?_
  refine lv_iload hx hb dX11_parts_3 (lv_at hl 4 rfl) ?_
  obtain ⟨r2, k1, h⟩ := ob_elim h
  refine vp_callSi (W.runV (As := [.int p1, .int p3, .int p4]) (rest := []) ⟨hx, hb, hml, hown, hts⟩ (mX11_isAsked l dC dI cI cZ ad p1 p3 p4 S k1) (cwV 3 hts gX11_parts_X11_isAsked rfl rfl rfl (by decide +kernel) ⟨Nat.le_of_ble_eq_true rfl, Nat.le_of_ble_eq_true rfl⟩) ⟨QM_blind, va_recv hK hP (ci := 11) (q0 := 0) rfl rfl, fun U hU hW => ⟨rfl, QM_at hP hK hD hU hW⟩⟩ rfl rfl hl.1 rfl (lv_room (Nat.le_of_ble_eq_true rfl)) dX11_parts_5 ⟨Nat.zero_le _, Nat.zero_le _⟩) (fun r9 er9 => ?_)
  replace er9 := er9.symm
  subst er9
  refine lv_if_eq (tgt := 23) hx hb dX11_parts_8 (by decide) (fun c3 => ?_) (fun c3 => ?_)
  · replace h := it_t c3 h
    refine lv_bipush (v := (-2)) hx hb dX11_parts_23 (by decide) ?_
    cases h
    exact W.iret hx hb hr (fun t ht hW => ⟨⟨_, _, rfl, rfl, by show va_P _ _ _ t.heap; rw [ht]; exact hP⟩, hS.F ht⟩) hS.2.2 dX11_parts_25
  · replace h := it_f c3 h
    refine lv_iload_n hx hb dX11_parts_11 rfl (lv_at hl 2 rfl) ?_
    obtain ⟨r5, k4, h⟩ := ob_elim h
    refine vp_callSi (W.runS (As := [.int p2]) (rest := []) ⟨hx, hb, hml, hown, hts⟩ (mX11_isLand l p2 k4) (va_cwS 1 hts gX11_parts_X11_isLand rfl rfl rfl (by decide +kernel) ⟨Nat.le_of_ble_eq_true rfl, Nat.le_of_ble_eq_true rfl⟩) ⟨fun _ _ _ _ q => q, fun U hU hW => ⟨rfl, trivial⟩⟩ rfl rfl hl.1 rfl (lv_room (Nat.le_of_ble_eq_true rfl)) dX11_parts_12 ⟨Nat.zero_le _, Nat.zero_le _⟩) (fun r9 er9 => ?_)
    replace er9 := er9.symm
    subst er9
    refine lv_if_eq (tgt := 23) hx hb dX11_parts_15 (by decide) (fun c6 => ?_) (fun c6 => ?_)
    · replace h := it_t c6 h
      refine lv_bipush (v := (-2)) hx hb dX11_parts_23 (by decide) ?_
      cases h
      exact W.iret hx hb hr (fun t ht hW => ⟨⟨_, _, rfl, rfl, by show va_P _ _ _ t.heap; rw [ht]; exact hP⟩, hS.F ht⟩) hS.2.2 dX11_parts_25
    · replace h := it_f c6 h
      refine lv_iload_n hx hb dX11_parts_18 rfl (lv_at hl 1 rfl) ?_
      refine lv_iload_n hx hb dX11_parts_19 rfl (lv_at hl 2 rfl) ?_
      refine lv_icmp_ne (tgt := 26) hx hb dX11_parts_20 (by decide) (fun c7 => ?_) (fun c7 => ?_)
      · replace h := it_f c7 h
        refine lv_aload_n hx hb dX11_parts_26 rfl (lv_at hl 0 rfl) ?_
        refine lv_iload_n hx hb dX11_parts_27 rfl (lv_at hl 3 rfl) ?_
        obtain ⟨S9, k8, h⟩ := ob_elim h
        refine va_callv (va_runV (As := [.int p3]) (rest := []) ⟨hx, hb, hml, hown, hts⟩ (mX11_looksAt l dC dI cI cZ ad p3 S s.heap.size k8) (cwV 1 hts gX11_parts_X11_looksAt rfl rfl rfl (by decide +kernel) ⟨Nat.le_of_ble_eq_true rfl, Nat.le_of_ble_eq_true rfl⟩) ⟨QMs_blind, va_recv hK hP (ci := 11) (q0 := 0) rfl rfl, fun U hU hW => ⟨rfl, congrArg Array.size hU, QM_at hP hK hD hU hW⟩⟩ rfl rfl hl.1 rfl (lv_room (Nat.le_of_ble_eq_true rfl)) dX11_parts_28 ⟨Nat.zero_le _, Nat.zero_le _⟩) hS (fun q _ hq => AX_mono hS.1 hq) (fun q hq => AX_mono hS.1 hq) (fun u t H1 locs ht hvm hw hB hz1 hk1 hS => ?_)
        cases hw
        rw [ht] at hB
        have hP := hB
        clear hB hk1 hz1
        generalize H1 = H at hP hS ⊢
        have hD := wM_D hD S9
        refine lv_aload_n hx hb dX11_parts_31 rfl (lv_at hl 0 rfl) ?_
        refine lv_iload_n hx hb dX11_parts_32 rfl (lv_at hl 1 rfl) ?_
        refine lv_iload hx hb dX11_parts_33 (lv_at hl 4 rfl) ?_
        refine lv_iconst (v := 0) hx hb dX11_parts_35 (by decide) ?_
        obtain ⟨S11, k10, h⟩ := ob_elim h
        refine va_callv (va_runV (As := [.int p1, .int p4, .int 0]) (rest := []) ⟨hx, hb, hml, hown, hts⟩ (mX11_findChain l dC dI cI cZ ad p1 p4 0 S9 H.size k10) (cwV 3 hts gX11_parts_X11_findChain rfl rfl rfl (by decide +kernel) ⟨Nat.le_of_ble_eq_true rfl, Nat.le_of_ble_eq_true rfl⟩) ⟨QMs_blind, va_recv hK hP (ci := 11) (q0 := 0) rfl rfl, fun U hU hW => ⟨rfl, congrArg Array.size hU, QM_at hP hK hD hU hW⟩⟩ rfl rfl hl.1 rfl (lv_room (Nat.le_of_ble_eq_true rfl)) dX11_parts_36 ⟨Nat.zero_le _, Nat.zero_le _⟩) hS (fun q _ hq => AX_mono hS.1 hq) (fun q hq => AX_mono hS.1 hq) (fun u t H1 locs ht hvm hw hB hz1 hk1 hS => ?_)
        cases hw
        rw [ht] at hB
        have hP := hB
        clear hB hk1 hz1
        generalize H1 = H at hP hS ⊢
        have hD := wM_D hD S11
        refine lv_aload_n hx hb dX11_parts_39 rfl (lv_at hl 0 rfl) ?_
        refine lv_iload_n hx hb dX11_parts_40 rfl (lv_at hl 2 rfl) ?_
        refine lv_iload hx hb dX11_parts_41 (lv_at hl 4 rfl) ?_
        refine lv_iconst (v := 5) hx hb dX11_parts_43 (by decide) ?_
        obtain ⟨S13, k12, h⟩ := ob_elim h
        refine va_callv (va_runV (As := [.int p2, .int p4, .int 5]) (rest := []) ⟨hx, hb, hml, hown, hts⟩ (mX11_findChain l dC dI cI cZ ad p2 p4 5 S11 H.size k12) (cwV 3 hts gX11_parts_X11_findChain rfl rfl rfl (by decide +kernel) ⟨Nat.le_of_ble_eq_true rfl, Nat.le_of_ble_eq_true rfl⟩) ⟨QMs_blind, va_recv hK hP (ci := 11) (q0 := 0) rfl rfl, fun U hU hW => ⟨rfl, congrArg Array.size hU, QM_at hP hK hD hU hW⟩⟩ rfl rfl hl.1 rfl (lv_room (Nat.le_of_ble_eq_true rfl)) dX11_parts_44 ⟨Nat.zero_le _, Nat.zero_le _⟩) hS (fun q _ hq => AX_mono hS.1 hq) (fun q hq => AX_mono hS.1 hq) (fun u t H1 locs ht hvm hw hB hz1 hk1 hS => ?_)
        cases hw
        rw [ht] at hB
        have hP := hB
        clear hB hk1 hz1
        generalize H1 = H at hP hS ⊢
        have hD := wM_D hD S13
        refine lv_iconst (v := 1) hx hb dX11_parts_47 (by decide) ?_
        refine lv_istore (lv' := [(5, .int 1), (0, .ref (ad 0)), (1, .int p1), (2, .int p2), (3, .int p3), (4, .int p4)]) hx hb dX11_parts_48 hl (by decide) rfl (fun ls hl => ?_)
        refine ww_r (fun WW50 hWW50 => ?_)
        have Lh50 : ∀ (n : Nat) (v14 : Int32) (z : ((Int32) ⊕ (Unit ⊕ Unit))), lX11_parts_50 S13 n v14 = some z → ∀ ls : Array Slot, lv_has ls 6 [(0, .ref (ad 0)), (5, .int v14)] → (∀ (y0 : Int32), z = .inl y0 → ∀ ls : Array Slot, lv_has ls 6 [(5, .int y0)] → WW50  75 ls) → (z = .inr (.inl ()) → ∀ ls : Array Slot, lv_has ls 6 [] → WW50  90 ls) → (z = .inr (.inr ()) → ∀ ls : Array Slot, lv_has ls 6 [] → WW50  98 ls) → WW50  50 ls := by
          intro n
          induction n with
          | zero => intro v14 z h ls hl K0 K1 K2; rw [lX11_parts_50] at h; cases h
          | succ n ih =>
            intro v14 z h ls hl K0 K1 K2
            rw [lX11_parts_50] at h
            refine wi_r hWW50 ?_
            refine lv_iload hx hb dX11_parts_50 (lv_at hl 1 rfl) ?_
            refine lv_iconst (v := 5) hx hb dX11_parts_52 (by decide) ?_
            refine lv_icmp_ge (tgt := 98) hx hb dX11_parts_53 (by decide) (fun c15 => ?_) (fun c15 => ?_)
            · replace h := it_t c15 h
              refine wu_r hWW50 ?_
              exact K2 (Option.some.inj h).symm ls (lv_sub hl [] rfl)
            · replace h := it_f c15 h
              refine lv_aload_n hx hb dX11_parts_56 rfl (lv_at hl 0 rfl) ?_
              refine va_get (D := (dC, dI)) (ci := 11) (v := .ref (ad 4)) (C := RX11) (T := TX11) (N := 8) hx hb hts hiX11 hown hK hP 0 rfl rfl 4 (by decide) hf20 (fun _ h9 => h9) rfl dX11_parts_57 ?_
              refine lv_iload hx hb dX11_parts_60 (lv_at hl 1 rfl) ?_
              obtain ⟨b16, h⟩ := ck_elim h
              refine va_iald hx hb hK hP 4 0 rfl rfl b16 dX11_parts_62 ?_
              refine lv_aload_n hx hb dX11_parts_63 rfl (lv_at hl 0 rfl) ?_
              refine va_get (D := (dC, dI)) (ci := 11) (v := .ref (ad 4)) (C := RX11) (T := TX11) (N := 8) hx hb hts hiX11 hown hK hP 0 rfl rfl 4 (by decide) hf20 (fun _ h9 => h9) rfl dX11_parts_64 ?_
              refine lv_iconst (v := 5) hx hb dX11_parts_67 (by decide) ?_
              refine lv_iload hx hb dX11_parts_68 (lv_at hl 1 rfl) ?_
              refine lv_iadd hx hb dX11_parts_70 ?_
              obtain ⟨b17, h⟩ := ck_elim h
              refine va_iald hx hb hK hP 4 0 rfl rfl b17 dX11_parts_71 ?_
              refine lv_icmp_eq (tgt := 78) hx hb dX11_parts_72 (by decide) (fun c18 => ?_) (fun c18 => ?_)
              · replace h := it_t c18 h
                refine lv_aload_n hx hb dX11_parts_78 rfl (lv_at hl 0 rfl) ?_
                refine va_get (D := (dC, dI)) (ci := 11) (v := .ref (ad 4)) (C := RX11) (T := TX11) (N := 8) hx hb hts hiX11 hown hK hP 0 rfl rfl 4 (by decide) hf20 (fun _ h9 => h9) rfl dX11_parts_79 ?_
                refine lv_iload hx hb dX11_parts_82 (lv_at hl 1 rfl) ?_
                obtain ⟨b19, h⟩ := ck_elim h
                refine va_iald hx hb hK hP 4 0 rfl rfl b19 dX11_parts_84 ?_
                refine lv_bipush (v := 100) hx hb dX11_parts_85 (by decide) ?_
                refine lv_icmp_lt (tgt := 92) hx hb dX11_parts_87 (by decide) (fun c20 => ?_) (fun c20 => ?_)
                · replace h := it_t c20 h
                  obtain ⟨x21, ex21, h⟩ := bnd_elim h
                  refine lv_iinc (v := x21) (lv' := [(5, .int x21), (0, .ref (ad 0))]) hx hb dX11_parts_92 hl (k := 1) rfl (by rw [ex21]; rfl) (by decide) rfl (fun ls hl => ?_)
                  refine lv_goto (tgt := 50) hx hb dX11_parts_95 (by decide) ?_
                  refine wu_r hWW50 ?_
                  exact ih x21 z h ls (lv_sub hl [1, 0] rfl) K0 K1 K2
                · replace h := it_f c20 h
                  refine wu_r hWW50 ?_
                  exact K1 (Option.some.inj h).symm ls (lv_sub hl [] rfl)
              · replace h := it_f c18 h
                refine wu_r hWW50 ?_
                exact K0 v14 (Option.some.inj h).symm ls (lv_sub hl [1] rfl)
        obtain ⟨q9, k22, h⟩ | ⟨q9, k22, h⟩ | ⟨q9, k22, h⟩ := os3_elim h
        · obtain ⟨w23, rfl⟩ : ∃ y, y = q9 := ⟨_, rfl⟩
          refine wu_r hWW50 ?_
          refine Lh50 FU 1 _ k22 ls (lv_sub hl [1, 0] rfl) ?_ (fun hy => by cases hy) (fun hy => by cases hy)
          intro y0 hy ls hl
          cases hy
          refine wi_r hWW50 ?_
          refine lv_iload hx hb dX11_parts_75 (lv_at hl 0 rfl) ?_
          cases h
          exact W.iret hx hb hr (fun t ht hW => ⟨⟨_, _, rfl, rfl, by show va_P _ _ _ t.heap; rw [ht]; exact hP⟩, hS.F ht⟩) hS.2.2 dX11_parts_77
        · refine wu_r hWW50 ?_
          refine Lh50 FU 1 _ k22 ls (lv_sub hl [1, 0] rfl) (fun _ hy => by cases hy) ?_ (fun hy => by cases hy)
          intro hy ls hl
          cases hy
          refine wi_r hWW50 ?_
          refine lv_iconst (v := 0) hx hb dX11_parts_90 (by decide) ?_
          cases h
          exact W.iret hx hb hr (fun t ht hW => ⟨⟨_, _, rfl, rfl, by show va_P _ _ _ t.heap; rw [ht]; exact hP⟩, hS.F ht⟩) hS.2.2 dX11_parts_91
        · refine wu_r hWW50 ?_
          refine Lh50 FU 1 _ k22 ls (lv_sub hl [1, 0] rfl) (fun _ hy => by cases hy) (fun hy => by cases hy) ?_
          intro hy ls hl
          cases hy
          refine wi_r hWW50 ?_
          refine lv_iconst (v := 0) hx hb dX11_parts_98 (by decide) ?_
          cases h
          exact W.iret hx hb hr (fun t ht hW => ⟨⟨_, _, rfl, rfl, by show va_P _ _ _ t.heap; rw [ht]; exact hP⟩, hS.F ht⟩) hS.2.2 dX11_parts_99
      · replace h := it_t c7 h
        refine lv_bipush (v := (-2)) hx hb dX11_parts_23 (by decide) ?_
        cases h
        exact W.iret hx hb hr (fun t ht hW => ⟨⟨_, _, rfl, rfl, by show va_P _ _ _ t.heap; rw [ht]; exact hP⟩, hS.F ht⟩) hS.2.2 dX11_parts_25
set_option maxHeartbeats 4000000 in
set_option maxRecDepth 100000 in
theorem mX10_isTable (l : Launch) (p0 : Int32) (p1 : Int32) (p2 : Int32) {z : Int32} (h : sX10_isTable p0 p1 p2 = some z) : Met l yX10_isTable wsX10_isTable ({ frames := 2, cells := 0, slots := 0, locals := 41 }) (va_Pc [.int p0, .int p1, .int p2] (fun _ => True)) (vp_Si (fun r => r = z)) 0 0 (fun _ => False) := by
  refine Met.ofW (cc := cX10_isTable) (maxL := 3) (ret := (some .boolean)) (by decide) rfl ?_
  intro p e s m args below meth c s₁ B hml hv
  obtain ⟨rfl, -⟩ := hv
  have hx := B.exec
  have hb := B.bytes
  have hr := B.returns
  have hts := atoms_spec (ws := wsX10_isTable) B.pre
  have hown : s.vm.findClass RX10 = some m.cls := findClass_of_methodNamed B.named
  have hlocks := B.notSynchronized
  have hl := lv_entry ([.int p0, .int p1, .int p2]) (n := 3) (Nat.le_of_ble_eq_true rfl)
  rw [lg_entry_eq]
  generalize (lg_sl ([.int p0, .int p1, .int p2]) ++ List.replicate (3 - (lg_sl ([.int p0, .int p1, .int p2])).length) Slot.unset).toArray = ls at hl ⊢
  have hl : lv_has ls 3 [(0, .int p0), (1, .int p1), (2, .int p2)] := hl
  rw [sX10_isTable] at h
  refine lv_iload_n hx hb dX10_isTable_0 rfl (lv_at hl 0 rfl) ?_
  obtain ⟨r2, k1, h⟩ := ob_elim h
  refine vp_callSi (W.runS (As := [.int p0]) (rest := []) ⟨hx, hb, hml, hown, hts⟩ (mX10_isLand l p0 k1) (va_cwS 1 hts gX10_isTable_X10_isLand rfl rfl rfl (by decide +kernel) ⟨Nat.le_of_ble_eq_true rfl, Nat.le_of_ble_eq_true rfl⟩) ⟨fun _ _ _ _ q => q, fun U hU hW => ⟨rfl, trivial⟩⟩ rfl rfl hl.1 rfl (lv_room (Nat.le_of_ble_eq_true rfl)) dX10_isTable_1 ⟨Nat.zero_le _, Nat.zero_le _⟩) (fun r9 er9 => ?_)
  replace er9 := er9.symm
  subst er9
  refine lv_if_eq (tgt := 25) hx hb dX10_isTable_4 (by decide) (fun c3 => ?_) (fun c3 => ?_)
  · replace h := it_t c3 h
    refine lv_iconst (v := 0) hx hb dX10_isTable_25 (by decide) ?_
    cases h
    exact W.zret hx hb hr rfl (fun t ht hW => ⟨_, rfl, rfl, ht⟩) (fun q hq => absurd hq List.not_mem_nil) dX10_isTable_26
  · replace h := it_f c3 h
    refine lv_iload_n hx hb dX10_isTable_7 rfl (lv_at hl 1 rfl) ?_
    obtain ⟨r5, k4, h⟩ := ob_elim h
    refine vp_callSi (W.runS (As := [.int p1]) (rest := []) ⟨hx, hb, hml, hown, hts⟩ (mX10_isKind l p1 k4) (va_cwS 1 hts gX10_isTable_X10_isKind rfl rfl rfl (by decide +kernel) ⟨Nat.le_of_ble_eq_true rfl, Nat.le_of_ble_eq_true rfl⟩) ⟨fun _ _ _ _ q => q, fun U hU hW => ⟨rfl, trivial⟩⟩ rfl rfl hl.1 rfl (lv_room (Nat.le_of_ble_eq_true rfl)) dX10_isTable_8 ⟨Nat.zero_le _, Nat.zero_le _⟩) (fun r9 er9 => ?_)
    replace er9 := er9.symm
    subst er9
    refine lv_if_eq (tgt := 25) hx hb dX10_isTable_11 (by decide) (fun c6 => ?_) (fun c6 => ?_)
    · replace h := it_t c6 h
      refine lv_iconst (v := 0) hx hb dX10_isTable_25 (by decide) ?_
      cases h
      exact W.zret hx hb hr rfl (fun t ht hW => ⟨_, rfl, rfl, ht⟩) (fun q hq => absurd hq List.not_mem_nil) dX10_isTable_26
    · replace h := it_f c6 h
      refine lv_iload_n hx hb dX10_isTable_14 rfl (lv_at hl 2 rfl) ?_
      obtain ⟨r8, k7, h⟩ := ob_elim h
      refine vp_callSi (W.runS (As := [.int p2]) (rest := []) ⟨hx, hb, hml, hown, hts⟩ (mX10_isDay l p2 k7) (va_cwS 1 hts gX10_isTable_X10_isDay rfl rfl rfl (by decide +kernel) ⟨Nat.le_of_ble_eq_true rfl, Nat.le_of_ble_eq_true rfl⟩) ⟨fun _ _ _ _ q => q, fun U hU hW => ⟨rfl, trivial⟩⟩ rfl rfl hl.1 rfl (lv_room (Nat.le_of_ble_eq_true rfl)) dX10_isTable_15 ⟨Nat.zero_le _, Nat.zero_le _⟩) (fun r9 er9 => ?_)
      replace er9 := er9.symm
      subst er9
      refine lv_if_eq (tgt := 25) hx hb dX10_isTable_18 (by decide) (fun c9 => ?_) (fun c9 => ?_)
      · replace h := it_t c9 h
        refine lv_iconst (v := 0) hx hb dX10_isTable_25 (by decide) ?_
        cases h
        exact W.zret hx hb hr rfl (fun t ht hW => ⟨_, rfl, rfl, ht⟩) (fun q hq => absurd hq List.not_mem_nil) dX10_isTable_26
      · replace h := it_f c9 h
        refine lv_iconst (v := 1) hx hb dX10_isTable_21 (by decide) ?_
        refine lv_goto (tgt := 26) hx hb dX10_isTable_22 (by decide) ?_
        cases h
        exact W.zret hx hb hr rfl (fun t ht hW => ⟨_, rfl, rfl, ht⟩) (fun q hq => absurd hq List.not_mem_nil) dX10_isTable_26
set_option maxHeartbeats 4000000 in
set_option maxRecDepth 100000 in
theorem mJ7_fill_53178_35 (l : Launch) (dC : Nat → ClassId) (dI : Nat → Nat → Nat) (cI cJ : ClassId) (ad : Nat → Nat) (p1 : Int32) (S : Nat → Nat → Int32) (L : Nat → Nat → Int64) (sz : Nat) {z : (Nat → Nat → Int32) × (Nat → Nat → Int64)} (h : sJ7_fill_53178_35 p1 S L = some z) : Met l yJ7_fill_53178 wsJ7_fill_53178 ({ frames := 0, cells := 0, slots := 0, locals := 0 }) (va_Pc [.ref (ad 35), .int p1] (QXs sz dC dI cI cJ ad S L)) (va_Qv (fun (u : (Nat → Nat → Int32) × (Nat → Nat → Int64)) => u = z) (fun (u : (Nat → Nat → Int32) × (Nat → Nat → Int64)) t => va_P (dC, dI) vwCl (wX cI cJ ad u.1 u.2) t.heap) (AX 43 ad sz)) 0 0 (AX 43 ad sz) := by
  refine Met.ofW (cc := cJ7_fill_53178) (maxL := 4) (ret := none) (by decide) rfl ?_
  intro p e s m args below meth c s₁ B hml hv
  obtain ⟨rfl, hsz, hP, hK, hD0⟩ := hv
  have hx := B.exec
  have hb := B.bytes
  have hr := B.returns
  have hts := atoms_spec (ws := wsJ7_fill_53178) B.pre
  have hown : s.vm.findClass RJ7 = some m.cls := findClass_of_methodNamed B.named
  have hlocks := B.notSynchronized
  subst hsz
  have hD := wX_DA hD0 s.heap.size
  have hS : va_S (AX 43 ad s.heap.size) s.heap s.heap [] := va_S.rf
  have hl := lv_entry ([.ref (ad 35), .int p1]) (n := 4) (Nat.le_of_ble_eq_true rfl)
  rw [lg_entry_eq]
  generalize (lg_sl ([.ref (ad 35), .int p1]) ++ List.replicate (4 - (lg_sl ([.ref (ad 35), .int p1])).length) Slot.unset).toArray = ls at hl ⊢
  have hl : lv_has ls 4 [(0, .ref (ad 35)), (1, .int p1)] := hl
  rw [sJ7_fill_53178_35] at h
  refine lv_iconst (v := 0) hx hb dJ7_fill_53178_0 (by decide) ?_
  refine lv_istore_n (lv' := [(2, .int 0), (0, .ref (ad 35)), (1, .int p1)]) hx hb dJ7_fill_53178_1 rfl hl (by decide) rfl (fun ls hl => ?_)
  refine lv_aload_n hx hb dJ7_fill_53178_2 rfl (lv_at hl 1 rfl) ?_
  refine va_alen (v := 6) hx hb hK hP 35 0 rfl rfl rfl dJ7_fill_53178_3 ?_
  refine lv_istore_n (lv' := [(3, .int 6), (2, .int 0), (0, .ref (ad 35)), (1, .int p1)]) hx hb dJ7_fill_53178_4 rfl hl (by decide) rfl (fun ls hl => ?_)
  refine ww_w (fun WW5 hWW5 => ?_)
  have Lh5 : ∀ (n : Nat) (v1 : Int32) (S2 : (Nat → Nat → Int32)) (L3 : (Nat → Nat → Int64)) (z : ((Nat → Nat → Int32) × (Nat → Nat → Int64))), lJ7_fill_53178_35_5 p1 n v1 S2 L3 = some z → ∀ (H : Heap) (locs : List Loc), va_P (dC, dI) vwCl (wX cI cJ ad S2 L3) H → va_S (AX 43 ad s.heap.size) s.heap H locs → ∀ ls : Array Slot, lv_has ls 4 [(0, .ref (ad 35)), (1, .int p1), (2, .int v1), (3, .int 6)] → (∀ (YS : (Nat → Nat → Int32)) (YL : (Nat → Nat → Int64)), z = (YS, YL) → ∀ (H : Heap) (locs : List Loc), va_P (dC, dI) vwCl (wX cI cJ ad YS YL) H → va_S (AX 43 ad s.heap.size) s.heap H locs → ∀ ls : Array Slot, lv_has ls 4 [] → WW5 H locs 20 ls) → WW5 H locs 5 ls := by
    intro n
    induction n with
    | zero => intro v1 S2 L3 z h H locs hP hS ls hl K0; rw [lJ7_fill_53178_35_5] at h; cases h
    | succ n ih =>
      intro v1 S2 L3 z h H locs hP hS ls hl K0
      have hD := wX_D hD S2 L3
      rw [lJ7_fill_53178_35_5] at h
      refine wi_w hWW5 ?_
      refine lv_iload_n hx hb dJ7_fill_53178_5 rfl (lv_at hl 2 rfl) ?_
      refine lv_iload_n hx hb dJ7_fill_53178_6 rfl (lv_at hl 3 rfl) ?_
      refine lv_icmp_ge (tgt := 20) hx hb dJ7_fill_53178_7 (by decide) (fun c4 => ?_) (fun c4 => ?_)
      · replace h := it_t c4 h
        refine wu_w hWW5 ?_
        exact K0 S2 L3 (Option.some.inj h).symm H locs hP hS ls (lv_sub hl [] rfl)
      · replace h := it_f c4 h
        refine lv_aload_n hx hb dJ7_fill_53178_10 rfl (lv_at hl 0 rfl) ?_
        refine lv_iload_n hx hb dJ7_fill_53178_11 rfl (lv_at hl 2 rfl) ?_
        refine lv_iload_n hx hb dJ7_fill_53178_12 rfl (lv_at hl 1 rfl) ?_
        obtain ⟨b5, h⟩ := ck_elim h
        obtain ⟨S6, eS6, h⟩ := bnd_elim h
        refine va_iast hx hb hK hP hD hS 35 0 rfl rfl b5 dJ7_fill_53178_13 (fun H locs hP9 _ hS => ?_)
        have hP := swX_35 hP9
        rw [← eS6] at hP
        have hD := wX_D hD S6 L3
        obtain ⟨x7, ex7, h⟩ := bnd_elim h
        refine lv_iinc (v := x7) (lv' := [(2, .int x7), (0, .ref (ad 35)), (1, .int p1), (3, .int 6)]) hx hb dJ7_fill_53178_14 hl (k := 2) rfl (by rw [ex7]; rfl) (by decide) rfl (fun ls hl => ?_)
        refine lv_goto (tgt := 5) hx hb dJ7_fill_53178_17 (by decide) ?_
        refine wu_w hWW5 ?_
        exact ih x7 S6 L3 z h H locs hP hS ls (lv_sub hl [1, 2, 0, 3] rfl) K0
  obtain ⟨S9, L10, k8, h⟩ := ob2_elim h
  refine wu_w hWW5 ?_
  refine Lh5 FU 0 S L _ k8 s.heap [] hP hS ls (lv_sub hl [2, 3, 1, 0] rfl) ?_
  intro y0 y1 hy H locs hP hS ls hl
  cases hy
  have hD := wX_D hD S9 L10
  refine wi_w hWW5 ?_
  cases h
  exact W.vret hx hb hr (fun t ht hW => ⟨⟨_, rfl, rfl, by show va_P _ _ _ t.heap; rw [ht]; exact hP⟩, hS.F ht⟩) hS.2.2 dJ7_fill_53178_20
set_option maxHeartbeats 4000000 in
set_option maxRecDepth 100000 in
theorem mX0_letBelow (l : Launch) (dC : Nat → ClassId) (dI : Nat → Nat → Nat) (cI cJ : ClassId) (ad : Nat → Nat) (p1 : Int32) (S : Nat → Nat → Int32) (L : Nat → Nat → Int64) (sz : Nat) {z : (Nat → Nat → Int32) × (Nat → Nat → Int64)} (h : sX0_letBelow p1 S L = some z) : Met l yX0_letBelow wsX0_letBelow ({ frames := 1, cells := 0, slots := 0, locals := 25 }) (va_Pc [.ref (ad 8), .int p1] (QXs sz dC dI cI cJ ad S L)) (va_Qv (fun (u : (Nat → Nat → Int32) × (Nat → Nat → Int64)) => u = z) (fun (u : (Nat → Nat → Int32) × (Nat → Nat → Int64)) t => va_P (dC, dI) vwCl (wX cI cJ ad u.1 u.2) t.heap) (AX 43 ad sz)) 0 0 (AX 43 ad sz) := by
  refine Met.ofW (cc := cX0_letBelow) (maxL := 3) (ret := none) (by decide) rfl ?_
  intro p e s m args below meth c s₁ B hml hv
  obtain ⟨rfl, hsz, hP, hK, hD0⟩ := hv
  have hx := B.exec
  have hb := B.bytes
  have hr := B.returns
  have hts := atoms_spec (ws := wsX0_letBelow) B.pre
  have hown : s.vm.findClass RX0 = some m.cls := findClass_of_methodNamed B.named
  have hlocks := B.notSynchronized
  subst hsz
  have hD := wX_DA hD0 s.heap.size
  have hS : va_S (AX 43 ad s.heap.size) s.heap s.heap [] := va_S.rf
  have hl := lv_entry ([.ref (ad 8), .int p1]) (n := 3) (Nat.le_of_ble_eq_true rfl)
  rw [lg_entry_eq]
  generalize (lg_sl ([.ref (ad 8), .int p1]) ++ List.replicate (3 - (lg_sl ([.ref (ad 8), .int p1])).length) Slot.unset).toArray = ls at hl ⊢
  have hl : lv_has ls 3 [(0, .ref (ad 8)), (1, .int p1)] := hl
  have hf9 := hts (.fieldLink RX0 9 "LawRings$AllCases" "letFrom" "[J") (by decide +kernel)
  have hiX0 : ∀ w ∈ u_ws RX0 TX0 3, w ∈ wsX0_letBelow := by decide +kernel
  have hf15 := hts (.fieldLink RX0 15 "LawRings$AllCases" "rules" "LLawRings$Rules;") (by decide +kernel)
  have hf19 := hts (.fieldLink RX0 19 "LawRings$AllCases" "hearing" "LLawRings$Hearing;") (by decide +kernel)
  have hf23 := hts (.fieldLink RX0 23 "LawRings$Hearing" "ties" "[I") (by decide +kernel)
  have hiX4 : ∀ w ∈ u_ws RX4 TX4 9, w ∈ wsX0_letBelow := by decide +kernel
  have hf55 := hts (.fieldLink RX0 55 "LawRings$Hearing" "held" "J") (by decide +kernel)
  rw [sX0_letBelow] at h
  refine lv_iload_n hx hb dX0_letBelow_0 rfl (lv_at hl 1 rfl) ?_
  refine lv_istore_n (lv' := [(2, .int p1), (0, .ref (ad 8)), (1, .int p1)]) hx hb dX0_letBelow_1 rfl hl (by decide) rfl (fun ls hl => ?_)
  refine ww_w (fun WW2 hWW2 => ?_)
  have Lh2 : ∀ (n : Nat) (v1 : Int32) (S2 : (Nat → Nat → Int32)) (L3 : (Nat → Nat → Int64)) (z : ((Nat → Nat → Int32) × (Nat → Nat → Int64))), lX0_letBelow_2 n v1 S2 L3 = some z → ∀ (H : Heap) (locs : List Loc), va_P (dC, dI) vwCl (wX cI cJ ad S2 L3) H → va_S (AX 43 ad s.heap.size) s.heap H locs → ∀ ls : Array Slot, lv_has ls 3 [(0, .ref (ad 8)), (2, .int v1)] → (∀ (YS : (Nat → Nat → Int32)) (YL : (Nat → Nat → Int64)), z = (YS, YL) → ∀ (H : Heap) (locs : List Loc), va_P (dC, dI) vwCl (wX cI cJ ad YS YL) H → va_S (AX 43 ad s.heap.size) s.heap H locs → ∀ ls : Array Slot, lv_has ls 3 [(0, .ref (ad 8))] → WW2 H locs 42 ls) → WW2 H locs 2 ls := by
    intro n
    induction n with
    | zero => intro v1 S2 L3 z h H locs hP hS ls hl K0; rw [lX0_letBelow_2] at h; cases h
    | succ n ih =>
      intro v1 S2 L3 z h H locs hP hS ls hl K0
      have hD := wX_D hD S2 L3
      rw [lX0_letBelow_2] at h
      refine wi_w hWW2 ?_
      refine lv_iload_n hx hb dX0_letBelow_2 rfl (lv_at hl 1 rfl) ?_
      refine lv_if_lt (tgt := 42) hx hb dX0_letBelow_3 (by decide) (fun c4 => ?_) (fun c4 => ?_)
      · replace h := it_t c4 h
        refine wu_w hWW2 ?_
        exact K0 S2 L3 (Option.some.inj h).symm H locs hP hS ls (lv_sub hl [0] rfl)
      · replace h := it_f c4 h
        refine lv_aload_n hx hb dX0_letBelow_6 rfl (lv_at hl 0 rfl) ?_
        refine va_get (D := (dC, dI)) (ci := 0) (v := .ref (ad 39)) (C := RX0) (T := TX0) (N := 3) hx hb hts hiX0 hown hK hP 8 rfl rfl 2 (by decide) hf9 (fun _ h9 => h9) rfl dX0_letBelow_7 ?_
        refine lv_iload_n hx hb dX0_letBelow_10 rfl (lv_at hl 1 rfl) ?_
        refine lv_aload_n hx hb dX0_letBelow_11 rfl (lv_at hl 0 rfl) ?_
        refine va_get (D := (dC, dI)) (ci := 0) (v := .ref (ad 39)) (C := RX0) (T := TX0) (N := 3) hx hb hts hiX0 hown hK hP 8 rfl rfl 2 (by decide) hf9 (fun _ h9 => h9) rfl dX0_letBelow_12 ?_
        refine lv_iload_n hx hb dX0_letBelow_15 rfl (lv_at hl 1 rfl) ?_
        refine lv_iconst (v := 1) hx hb dX0_letBelow_16 (by decide) ?_
        refine lv_iadd hx hb dX0_letBelow_17 ?_
        obtain ⟨b5, h⟩ := ck_elim h
        refine va_lald hx hb hK hP 39 1 rfl rfl b5 dX0_letBelow_18 ?_
        refine lv_aload_n hx hb dX0_letBelow_19 rfl (lv_at hl 0 rfl) ?_
        refine va_get (D := (dC, dI)) (ci := 0) (v := .ref (ad 2)) (C := RX0) (T := TX0) (N := 3) hx hb hts hiX0 hown hK hP 8 rfl rfl 0 (by decide) hf15 (fun _ h9 => h9) rfl dX0_letBelow_20 ?_
        refine lv_aload_n hx hb dX0_letBelow_23 rfl (lv_at hl 0 rfl) ?_
        refine va_get (D := (dC, dI)) (ci := 0) (v := .ref (ad 6)) (C := RX0) (T := TX0) (N := 3) hx hb hts hiX0 hown hK hP 8 rfl rfl 1 (by decide) hf19 (fun _ h9 => h9) rfl dX0_letBelow_24 ?_
        refine va_get (D := (dC, dI)) (ci := 4) (v := .ref (ad 35)) (C := RX4) (T := TX4) (N := 9) hx hb hts hiX4 hown hK hP 6 rfl rfl 3 (by decide) hf23 (fun _ h9 => h9) rfl dX0_letBelow_27 ?_
        refine lv_iload_n hx hb dX0_letBelow_30 rfl (lv_at hl 1 rfl) ?_
        obtain ⟨r7, k6, h⟩ := ob_elim h
        refine vp_callSl (W.runV (As := [.ref (ad 35), .int v1]) (rest := [.long (L3 39 (v1 + 1).toNatClampNeg), .int v1, .ref (ad 39)]) ⟨hx, hb, hml, hown, hts⟩ (mX6_letBy l dC dI cI cJ ad v1 S2 L3 k6) (cwV 2 hts gX0_letBelow_X6_letBy rfl rfl rfl (by decide +kernel) ⟨Nat.le_of_ble_eq_true rfl, Nat.le_of_ble_eq_true rfl⟩) ⟨QX_blind, va_recv hK hP (ci := 6) (q0 := 2) rfl rfl, fun U hU hW => ⟨rfl, QX_at hP hK hD hU hW⟩⟩ rfl rfl hl.1 rfl (lv_room (Nat.le_of_ble_eq_true rfl)) dX0_letBelow_31 ⟨Nat.zero_le _, Nat.zero_le _⟩) (fun r9 er9 => ?_)
        replace er9 := er9.symm
        subst er9
        refine lv_land hx hb dX0_letBelow_34 ?_
        obtain ⟨b8, h⟩ := ck_elim h
        obtain ⟨L9, eL9, h⟩ := bnd_elim h
        refine va_last hx hb hK hP hD hS 39 1 rfl rfl b8 dX0_letBelow_35 (fun H locs hP9 _ hS => ?_)
        have hP := swX_39 hP9
        rw [← eL9] at hP
        have hD := wX_D hD S2 L9
        obtain ⟨x10, ex10, h⟩ := bnd_elim h
        refine lv_iinc (v := x10) (lv' := [(2, .int x10), (0, .ref (ad 8))]) hx hb dX0_letBelow_36 hl (k := 1) rfl (by rw [ex10]; rfl) (by decide) rfl (fun ls hl => ?_)
        refine lv_goto (tgt := 2) hx hb dX0_letBelow_39 (by decide) ?_
        refine wu_w hWW2 ?_
        exact ih x10 S2 L9 z h H locs hP hS ls (lv_sub hl [1, 0] rfl) K0
  obtain ⟨S12, L13, k11, h⟩ := ob2_elim h
  refine wu_w hWW2 ?_
  refine Lh2 FU p1 S L _ k11 s.heap [] hP hS ls (lv_sub hl [1, 0] rfl) ?_
  intro y0 y1 hy H locs hP hS ls hl
  cases hy
  have hD := wX_D hD S12 L13
  refine wi_w hWW2 ?_
  refine lv_aload_n hx hb dX0_letBelow_42 rfl (lv_at hl 0 rfl) ?_
  refine va_get (D := (dC, dI)) (ci := 0) (v := .ref (ad 6)) (C := RX0) (T := TX0) (N := 3) hx hb hts hiX0 hown hK hP 8 rfl rfl 1 (by decide) hf19 (fun _ h9 => h9) rfl dX0_letBelow_43 ?_
  refine lv_aload_n hx hb dX0_letBelow_46 rfl (lv_at hl 0 rfl) ?_
  refine va_get (D := (dC, dI)) (ci := 0) (v := .ref (ad 39)) (C := RX0) (T := TX0) (N := 3) hx hb hts hiX0 hown hK hP 8 rfl rfl 2 (by decide) hf9 (fun _ h9 => h9) rfl dX0_letBelow_47 ?_
  refine lv_iconst (v := 0) hx hb dX0_letBelow_50 (by decide) ?_
  obtain ⟨b14, h⟩ := ck_elim h
  refine va_lald hx hb hK hP 39 1 rfl rfl b14 dX0_letBelow_51 ?_
  obtain ⟨L15, eL15, h⟩ := bnd_elim h
  refine va_put (D := (dC, dI)) (ci := 4) (v := .long (L13 39 (0 : Int32).toNatClampNeg)) (ty := .long) (C := RX4) (T := TX4) (N := 9) hx hb hts hiX4 tyX4 tyX4_ok nmX4 hown hK hP hD hS 6 rfl rfl 4 (by decide) hf55 (fun _ h9 => h9) rfl (by decide +kernel) rfl rfl (Nat.le_of_ble_eq_true rfl) dX0_letBelow_52 (fun H locs hP9 _ hS => ?_)
  have hP := swX_6_4 hP9
  rw [← eL15] at hP
  have hD := wX_D hD S12 L15
  cases h
  exact W.vret hx hb hr (fun t ht hW => ⟨⟨_, rfl, rfl, by show va_P _ _ _ t.heap; rw [ht]; exact hP⟩, hS.F ht⟩) hS.2.2 dX0_letBelow_55
set_option maxHeartbeats 4000000 in
set_option maxRecDepth 100000 in
theorem mX0_start (l : Launch) (dC : Nat → ClassId) (dI : Nat → Nat → Nat) (cI cJ : ClassId) (ad : Nat → Nat) (p1 : Int32) (S : Nat → Nat → Int32) (L : Nat → Nat → Int64) (sz : Nat) {z : (Nat → Nat → Int32) × (Nat → Nat → Int64)} (h : sX0_start p1 S L = some z) : Met l yX0_start wsX0_start ({ frames := 2, cells := 0, slots := 0, locals := 47 }) (va_Pc [.ref (ad 8), .int p1] (QXs sz dC dI cI cJ ad S L)) (va_Qv (fun (u : (Nat → Nat → Int32) × (Nat → Nat → Int64)) => u = z) (fun (u : (Nat → Nat → Int32) × (Nat → Nat → Int64)) t => va_P (dC, dI) vwCl (wX cI cJ ad u.1 u.2) t.heap) (AX 43 ad sz)) 0 0 (AX 43 ad sz) := by
  refine Met.ofW (cc := cX0_start) (maxL := 2) (ret := none) (by decide) rfl ?_
  intro p e s m args below meth c s₁ B hml hv
  obtain ⟨rfl, hsz, hP, hK, hD0⟩ := hv
  have hx := B.exec
  have hb := B.bytes
  have hr := B.returns
  have hts := atoms_spec (ws := wsX0_start) B.pre
  have hown : s.vm.findClass RX0 = some m.cls := findClass_of_methodNamed B.named
  have hlocks := B.notSynchronized
  subst hsz
  have hD := wX_DA hD0 s.heap.size
  have hS : va_S (AX 43 ad s.heap.size) s.heap s.heap [] := va_S.rf
  have hl := lv_entry ([.ref (ad 8), .int p1]) (n := 2) (Nat.le_of_ble_eq_true rfl)
  rw [lg_entry_eq]
  generalize (lg_sl ([.ref (ad 8), .int p1]) ++ List.replicate (2 - (lg_sl ([.ref (ad 8), .int p1])).length) Slot.unset).toArray = ls at hl ⊢
  have hl : lv_has ls 2 [(0, .ref (ad 8)), (1, .int p1)] := hl
  have hf19 := hts (.fieldLink RX0 19 "LawRings$AllCases" "hearing" "LLawRings$Hearing;") (by decide +kernel)
  have hiX0 : ∀ w ∈ u_ws RX0 TX0 3, w ∈ wsX0_start := by decide +kernel
  have hf23 := hts (.fieldLink RX0 23 "LawRings$Hearing" "ties" "[I") (by decide +kernel)
  have hiX4 : ∀ w ∈ u_ws RX4 TX4 9, w ∈ wsX0_start := by decide +kernel
  have hf9 := hts (.fieldLink RX0 9 "LawRings$AllCases" "letFrom" "[J") (by decide +kernel)
  have hf15 := hts (.fieldLink RX0 15 "LawRings$AllCases" "rules" "LLawRings$Rules;") (by decide +kernel)
  rw [sX0_start] at h
  refine lv_aload_n hx hb dX0_start_0 rfl (lv_at hl 0 rfl) ?_
  refine va_get (D := (dC, dI)) (ci := 0) (v := .ref (ad 6)) (C := RX0) (T := TX0) (N := 3) hx hb hts hiX0 hown hK hP 8 rfl rfl 1 (by decide) hf19 (fun _ h9 => h9) rfl dX0_start_1 ?_
  refine va_get (D := (dC, dI)) (ci := 4) (v := .ref (ad 35)) (C := RX4) (T := TX4) (N := 9) hx hb hts hiX4 hown hK hP 6 rfl rfl 3 (by decide) hf23 (fun _ h9 => h9) rfl dX0_start_4 ?_
  refine lv_iconst (v := (-1)) hx hb dX0_start_7 (by decide) ?_
  obtain ⟨S2, L3, k1, h⟩ := ob2_elim h
  refine va_callv (va_runS (As := [.ref (ad 35), .int (-1)]) (rest := []) ⟨hx, hb, hml, hown, hts⟩ (mJ7_fill_53178_35 l dC dI cI cJ ad (-1) S L s.heap.size k1) (va_cwS 2 hts gX0_start_J7_fill_53178 rfl rfl rfl (by decide +kernel) ⟨Nat.le_of_ble_eq_true rfl, Nat.le_of_ble_eq_true rfl⟩) ⟨QXs_blind, fun U hU hW => ⟨rfl, congrArg Array.size hU, QX_at hP hK hD hU hW⟩⟩ rfl rfl hl.1 rfl (lv_room (Nat.le_of_ble_eq_true rfl)) dX0_start_8 ⟨Nat.zero_le _, Nat.zero_le _⟩) hS (fun q _ hq => AX_mono hS.1 hq) (fun q hq => AX_mono hS.1 hq) (fun u t H1 locs ht hvm hw hB hz1 hk1 hS => ?_)
  cases hw
  rw [ht] at hB
  have hP := hB
  clear hB hk1 hz1
  generalize H1 = H at hP hS ⊢
  have hD := wX_D hD S2 L3
  refine lv_aload_n hx hb dX0_start_11 rfl (lv_at hl 0 rfl) ?_
  refine va_get (D := (dC, dI)) (ci := 0) (v := .ref (ad 39)) (C := RX0) (T := TX0) (N := 3) hx hb hts hiX0 hown hK hP 8 rfl rfl 2 (by decide) hf9 (fun _ h9 => h9) rfl dX0_start_12 ?_
  refine lv_bipush (v := 6) hx hb dX0_start_15 (by decide) ?_
  refine lv_aload_n hx hb dX0_start_17 rfl (lv_at hl 0 rfl) ?_
  refine va_get (D := (dC, dI)) (ci := 0) (v := .ref (ad 2)) (C := RX0) (T := TX0) (N := 3) hx hb hts hiX0 hown hK hP 8 rfl rfl 0 (by decide) hf15 (fun _ h9 => h9) rfl dX0_start_18 ?_
  refine lv_iload_n hx hb dX0_start_21 rfl (lv_at hl 1 rfl) ?_
  obtain ⟨r5, k4, h⟩ := ob_elim h
  refine vp_callSl (W.runV (As := [.int p1]) (rest := [.int 6, .ref (ad 39)]) ⟨hx, hb, hml, hown, hts⟩ (mX6_standing l dC dI cI cJ ad p1 S2 L3 k4) (cwV 1 hts gX0_start_X6_standing rfl rfl rfl (by decide +kernel) ⟨Nat.le_of_ble_eq_true rfl, Nat.le_of_ble_eq_true rfl⟩) ⟨QX_blind, va_recv hK hP (ci := 6) (q0 := 2) rfl rfl, fun U hU hW => ⟨rfl, QX_at hP hK hD hU hW⟩⟩ rfl rfl hl.1 rfl (lv_room (Nat.le_of_ble_eq_true rfl)) dX0_start_22 ⟨Nat.zero_le _, Nat.zero_le _⟩) (fun r9 er9 => ?_)
  replace er9 := er9.symm
  subst er9
  obtain ⟨b6, h⟩ := ck_elim h
  obtain ⟨L7, eL7, h⟩ := bnd_elim h
  refine va_last hx hb hK hP hD hS 39 1 rfl rfl b6 dX0_start_25 (fun H locs hP9 _ hS => ?_)
  have hP := swX_39 hP9
  rw [← eL7] at hP
  have hD := wX_D hD S2 L7
  refine lv_aload_n hx hb dX0_start_26 rfl (lv_at hl 0 rfl) ?_
  refine lv_iconst (v := 5) hx hb dX0_start_27 (by decide) ?_
  obtain ⟨S9, L10, k8, h⟩ := ob2_elim h
  refine va_callv (va_runV (As := [.int 5]) (rest := []) ⟨hx, hb, hml, hown, hts⟩ (mX0_letBelow l dC dI cI cJ ad 5 S2 L7 H.size k8) (cwV 1 hts gX0_start_X0_letBelow rfl rfl rfl (by decide +kernel) ⟨Nat.le_of_ble_eq_true rfl, Nat.le_of_ble_eq_true rfl⟩) ⟨QXs_blind, va_recv hK hP (ci := 0) (q0 := 8) rfl rfl, fun U hU hW => ⟨rfl, congrArg Array.size hU, QX_at hP hK hD hU hW⟩⟩ rfl rfl hl.1 rfl (lv_room (Nat.le_of_ble_eq_true rfl)) dX0_start_28 ⟨Nat.zero_le _, Nat.zero_le _⟩) hS (fun q _ hq => AX_mono hS.1 hq) (fun q hq => AX_mono hS.1 hq) (fun u t H1 locs ht hvm hw hB hz1 hk1 hS => ?_)
  cases hw
  rw [ht] at hB
  have hP := hB
  clear hB hk1 hz1
  generalize H1 = H at hP hS ⊢
  have hD := wX_D hD S9 L10
  cases h
  exact W.vret hx hb hr (fun t ht hW => ⟨⟨_, rfl, rfl, by show va_P _ _ _ t.heap; rw [ht]; exact hP⟩, hS.F ht⟩) hS.2.2 dX0_start_31
set_option maxHeartbeats 4000000 in
set_option maxRecDepth 100000 in
theorem mX0_setTies (l : Launch) (dC : Nat → ClassId) (dI : Nat → Nat → Nat) (cI cJ : ClassId) (ad : Nat → Nat) (p1 : Int32) (S : Nat → Nat → Int32) (L : Nat → Nat → Int64) (sz : Nat) {z : (Nat → Nat → Int32) × (Nat → Nat → Int64)} (h : sX0_setTies p1 S L = some z) : Met l yX0_setTies wsX0_setTies ({ frames := 2, cells := 0, slots := 0, locals := 47 }) (va_Pc [.ref (ad 8), .int p1] (QXs sz dC dI cI cJ ad S L)) (va_Qv (fun (u : (Nat → Nat → Int32) × (Nat → Nat → Int64)) => u = z) (fun (u : (Nat → Nat → Int32) × (Nat → Nat → Int64)) t => va_P (dC, dI) vwCl (wX cI cJ ad u.1 u.2) t.heap) (AX 43 ad sz)) 0 0 (AX 43 ad sz) := by
  refine Met.ofW (cc := cX0_setTies) (maxL := 6) (ret := none) (by decide) rfl ?_
  intro p e s m args below meth c s₁ B hml hv
  obtain ⟨rfl, hsz, hP, hK, hD0⟩ := hv
  have hx := B.exec
  have hb := B.bytes
  have hr := B.returns
  have hts := atoms_spec (ws := wsX0_setTies) B.pre
  have hown : s.vm.findClass RX0 = some m.cls := findClass_of_methodNamed B.named
  have hlocks := B.notSynchronized
  subst hsz
  have hD := wX_DA hD0 s.heap.size
  have hS : va_S (AX 43 ad s.heap.size) s.heap s.heap [] := va_S.rf
  have hl := lv_entry ([.ref (ad 8), .int p1]) (n := 6) (Nat.le_of_ble_eq_true rfl)
  rw [lg_entry_eq]
  generalize (lg_sl ([.ref (ad 8), .int p1]) ++ List.replicate (6 - (lg_sl ([.ref (ad 8), .int p1])).length) Slot.unset).toArray = ls at hl ⊢
  have hl : lv_has ls 6 [(0, .ref (ad 8)), (1, .int p1)] := hl
  have hf19 := hts (.fieldLink RX0 19 "LawRings$AllCases" "hearing" "LLawRings$Hearing;") (by decide +kernel)
  have hiX0 : ∀ w ∈ u_ws RX0 TX0 3, w ∈ wsX0_setTies := by decide +kernel
  have hf23 := hts (.fieldLink RX0 23 "LawRings$Hearing" "ties" "[I") (by decide +kernel)
  have hiX4 : ∀ w ∈ u_ws RX4 TX4 9, w ∈ wsX0_setTies := by decide +kernel
  rw [sX0_setTies] at h
  refine lv_iload_n hx hb dX0_setTies_0 rfl (lv_at hl 1 rfl) ?_
  refine lv_istore_n (lv' := [(2, .int p1), (0, .ref (ad 8)), (1, .int p1)]) hx hb dX0_setTies_1 rfl hl (by decide) rfl (fun ls hl => ?_)
  refine lv_iconst (v := (-1)) hx hb dX0_setTies_2 (by decide) ?_
  refine lv_istore_n (lv' := [(3, .int (-1)), (2, .int p1), (0, .ref (ad 8)), (1, .int p1)]) hx hb dX0_setTies_3 rfl hl (by decide) rfl (fun ls hl => ?_)
  refine lv_iconst (v := 0) hx hb dX0_setTies_4 (by decide) ?_
  refine lv_istore (lv' := [(4, .int 0), (3, .int (-1)), (2, .int p1), (0, .ref (ad 8)), (1, .int p1)]) hx hb dX0_setTies_5 hl (by decide) rfl (fun ls hl => ?_)
  refine ww_w (fun WW7 hWW7 => ?_)
  have Lh7 : ∀ (n : Nat) (v1 : Int32) (v2 : Int32) (v3 : Int32) (S4 : (Nat → Nat → Int32)) (L5 : (Nat → Nat → Int64)) (z : (Int32 × (Nat → Nat → Int32) × (Nat → Nat → Int64))), lX0_setTies_7 n v1 v2 v3 S4 L5 = some z → ∀ (H : Heap) (locs : List Loc), va_P (dC, dI) vwCl (wX cI cJ ad S4 L5) H → va_S (AX 43 ad s.heap.size) s.heap H locs → ∀ ls : Array Slot, lv_has ls 6 [(0, .ref (ad 8)), (2, .int v1), (3, .int v2), (4, .int v3)] → (∀ (y0 : Int32) (YS : (Nat → Nat → Int32)) (YL : (Nat → Nat → Int64)), z = (y0, YS, YL) → ∀ (H : Heap) (locs : List Loc), va_P (dC, dI) vwCl (wX cI cJ ad YS YL) H → va_S (AX 43 ad s.heap.size) s.heap H locs → ∀ ls : Array Slot, lv_has ls 6 [(0, .ref (ad 8)), (3, .int y0)] → WW7 H locs 61 ls) → WW7 H locs 7 ls := by
    intro n
    induction n with
    | zero => intro v1 v2 v3 S4 L5 z h H locs hP hS ls hl K0; rw [lX0_setTies_7] at h; cases h
    | succ n ih =>
      intro v1 v2 v3 S4 L5 z h H locs hP hS ls hl K0
      have hD := wX_D hD S4 L5
      rw [lX0_setTies_7] at h
      refine wi_w hWW7 ?_
      refine lv_iload hx hb dX0_setTies_7 (lv_at hl 3 rfl) ?_
      refine lv_bipush (v := 6) hx hb dX0_setTies_9 (by decide) ?_
      refine lv_icmp_ge (tgt := 61) hx hb dX0_setTies_11 (by decide) (fun c6 => ?_) (fun c6 => ?_)
      · replace h := it_t c6 h
        refine wu_w hWW7 ?_
        exact K0 v2 S4 L5 (Option.some.inj h).symm H locs hP hS ls (lv_sub hl [0, 2] rfl)
      · replace h := it_f c6 h
        refine lv_iload_n hx hb dX0_setTies_14 rfl (lv_at hl 1 rfl) ?_
        refine lv_iconst (v := 5) hx hb dX0_setTies_15 (by decide) ?_
        refine lv_irem hx hb dX0_setTies_16 (by decide) ?_
        refine nm_i (x := irm v1 5) rfl ?_
        refine lv_iconst (v := 1) hx hb dX0_setTies_17 (by decide) ?_
        refine lv_isub hx hb dX0_setTies_18 ?_
        obtain ⟨x7, ex7, h⟩ := bnd_elim h
        refine nm_i ex7 ?_
        refine lv_istore (lv' := [(5, .int x7), (0, .ref (ad 8)), (2, .int v1), (3, .int v2), (4, .int v3)]) hx hb dX0_setTies_19 hl (by decide) rfl (fun ls hl => ?_)
        refine lv_iload_n hx hb dX0_setTies_21 rfl (lv_at hl 2 rfl) ?_
        refine lv_iconst (v := 5) hx hb dX0_setTies_22 (by decide) ?_
        refine lv_idiv hx hb dX0_setTies_23 (by decide) ?_
        obtain ⟨x8, ex8, h⟩ := bnd_elim h
        refine nm_i ex8 ?_
        refine lv_istore_n (lv' := [(2, .int x8), (5, .int x7), (0, .ref (ad 8)), (3, .int v2), (4, .int v3)]) hx hb dX0_setTies_24 rfl hl (by decide) rfl (fun ls hl => ?_)
        refine lv_aload_n hx hb dX0_setTies_25 rfl (lv_at hl 2 rfl) ?_
        refine va_get (D := (dC, dI)) (ci := 0) (v := .ref (ad 6)) (C := RX0) (T := TX0) (N := 3) hx hb hts hiX0 hown hK hP 8 rfl rfl 1 (by decide) hf19 (fun _ h9 => h9) rfl dX0_setTies_26 ?_
        refine va_get (D := (dC, dI)) (ci := 4) (v := .ref (ad 35)) (C := RX4) (T := TX4) (N := 9) hx hb hts hiX4 hown hK hP 6 rfl rfl 3 (by decide) hf23 (fun _ h9 => h9) rfl dX0_setTies_29 ?_
        refine lv_iload hx hb dX0_setTies_32 (lv_at hl 4 rfl) ?_
        obtain ⟨b9, h⟩ := ck_elim h
        refine va_iald hx hb hK hP 35 0 rfl rfl b9 dX0_setTies_34 ?_
        refine lv_iload hx hb dX0_setTies_35 (lv_at hl 1 rfl) ?_
        refine lv_icmp_eq (tgt := 55) hx hb dX0_setTies_37 (by decide) (fun c10 => ?_) (fun c10 => ?_)
        · replace h := it_t c10 h
          obtain ⟨x11, ex11, h⟩ := bnd_elim h
          refine lv_iinc (v := x11) (lv' := [(4, .int x11), (2, .int x8), (5, .int x7), (0, .ref (ad 8)), (3, .int v2)]) hx hb dX0_setTies_55 hl (k := 4) rfl (by rw [ex11]; rfl) (by decide) rfl (fun ls hl => ?_)
          refine lv_goto (tgt := 7) hx hb dX0_setTies_58 (by decide) ?_
          refine wu_w hWW7 ?_
          exact ih x8 v2 x11 S4 L5 z h H locs hP hS ls (lv_sub hl [3, 1, 4, 0] rfl) K0
        · replace h := it_f c10 h
          refine lv_aload_n hx hb dX0_setTies_40 rfl (lv_at hl 2 rfl) ?_
          refine va_get (D := (dC, dI)) (ci := 0) (v := .ref (ad 6)) (C := RX0) (T := TX0) (N := 3) hx hb hts hiX0 hown hK hP 8 rfl rfl 1 (by decide) hf19 (fun _ h9 => h9) rfl dX0_setTies_41 ?_
          refine va_get (D := (dC, dI)) (ci := 4) (v := .ref (ad 35)) (C := RX4) (T := TX4) (N := 9) hx hb hts hiX4 hown hK hP 6 rfl rfl 3 (by decide) hf23 (fun _ h9 => h9) rfl dX0_setTies_44 ?_
          refine lv_iload hx hb dX0_setTies_47 (lv_at hl 4 rfl) ?_
          refine lv_iload hx hb dX0_setTies_49 (lv_at hl 1 rfl) ?_
          obtain ⟨b12, h⟩ := ck_elim h
          obtain ⟨S13, eS13, h⟩ := bnd_elim h
          refine va_iast hx hb hK hP hD hS 35 0 rfl rfl b12 dX0_setTies_51 (fun H locs hP9 _ hS => ?_)
          have hP := swX_35 hP9
          rw [← eS13] at hP
          have hD := wX_D hD S13 L5
          refine lv_iload hx hb dX0_setTies_52 (lv_at hl 4 rfl) ?_
          refine lv_istore_n (lv' := [(3, .int v3), (2, .int x8), (5, .int x7), (0, .ref (ad 8)), (4, .int v3)]) hx hb dX0_setTies_54 rfl hl (by decide) rfl (fun ls hl => ?_)
          obtain ⟨x14, ex14, h⟩ := bnd_elim h
          refine lv_iinc (v := x14) (lv' := [(4, .int x14), (3, .int v3), (2, .int x8), (5, .int x7), (0, .ref (ad 8))]) hx hb dX0_setTies_55 hl (k := 4) rfl (by rw [ex14]; rfl) (by decide) rfl (fun ls hl => ?_)
          refine lv_goto (tgt := 7) hx hb dX0_setTies_58 (by decide) ?_
          refine wu_w hWW7 ?_
          exact ih x8 v3 x14 S13 L5 z h H locs hP hS ls (lv_sub hl [4, 2, 1, 0] rfl) K0
  obtain ⟨w16, S17, L18, k15, h⟩ := ob3_elim h
  refine wu_w hWW7 ?_
  refine Lh7 FU p1 (-1) 0 S L _ k15 s.heap [] hP hS ls (lv_sub hl [3, 2, 1, 0] rfl) ?_
  intro y0 y1 y2 hy H locs hP hS ls hl
  cases hy
  have hD := wX_D hD S17 L18
  refine wi_w hWW7 ?_
  refine lv_aload_n hx hb dX0_setTies_61 rfl (lv_at hl 0 rfl) ?_
  refine lv_iload_n hx hb dX0_setTies_62 rfl (lv_at hl 1 rfl) ?_
  obtain ⟨S20, L21, k19, h⟩ := ob2_elim h
  refine va_callv (va_runV (As := [.int w16]) (rest := []) ⟨hx, hb, hml, hown, hts⟩ (mX0_letBelow l dC dI cI cJ ad w16 S17 L18 H.size k19) (cwV 1 hts gX0_setTies_X0_letBelow rfl rfl rfl (by decide +kernel) ⟨Nat.le_of_ble_eq_true rfl, Nat.le_of_ble_eq_true rfl⟩) ⟨QXs_blind, va_recv hK hP (ci := 0) (q0 := 8) rfl rfl, fun U hU hW => ⟨rfl, congrArg Array.size hU, QX_at hP hK hD hU hW⟩⟩ rfl rfl hl.1 rfl (lv_room (Nat.le_of_ble_eq_true rfl)) dX0_setTies_63 ⟨Nat.zero_le _, Nat.zero_le _⟩) hS (fun q _ hq => AX_mono hS.1 hq) (fun q hq => AX_mono hS.1 hq) (fun u t H1 locs ht hvm hw hB hz1 hk1 hS => ?_)
  cases hw
  rw [ht] at hB
  have hP := hB
  clear hB hk1 hz1
  generalize H1 = H at hP hS ⊢
  have hD := wX_D hD S20 L21
  cases h
  exact W.vret hx hb hr (fun t ht hW => ⟨⟨_, rfl, rfl, by show va_P _ _ _ t.heap; rw [ht]; exact hP⟩, hS.F ht⟩) hS.2.2 dX0_setTies_66
