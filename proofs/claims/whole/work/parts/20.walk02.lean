set_option maxHeartbeats 4000000 in
set_option maxRecDepth 100000 in
theorem mX10_isRule (l : Launch) (dC : Nat → ClassId) (dI : Nat → Nat → Nat) (cI cJ : ClassId) (ad : Nat → Nat) (p1 : Int32) (S : Nat → Nat → Int32) (L : Nat → Nat → Int64) {z : Int32} (h : sX10_isRule p1 S L = some z) : Met l yX10_isRule wsX10_isRule ({ frames := 1, cells := 0, slots := 0, locals := 21 }) (va_Pc [.ref (ad 0), .int p1] (QX dC dI cI cJ ad S L)) (vp_Si (fun r => r = z)) 0 0 (fun _ => False) := by
  refine Met.ofW (cc := cX10_isRule) (maxL := 2) (ret := (some .boolean)) (by decide) rfl ?_
  intro p e s m args below meth c s₁ B hml hv
  obtain ⟨rfl, hP, hK, hD⟩ := hv
  have hx := B.exec
  have hb := B.bytes
  have hr := B.returns
  have hts := atoms_spec (ws := wsX10_isRule) B.pre
  have hown : s.vm.findClass RX10 = some m.cls := findClass_of_methodNamed B.named
  have hlocks := B.notSynchronized
  have hl := lv_entry ([.ref (ad 0), .int p1]) (n := 2) (Nat.le_of_ble_eq_true rfl)
  rw [lg_entry_eq]
  generalize (lg_sl ([.ref (ad 0), .int p1]) ++ List.replicate (2 - (lg_sl ([.ref (ad 0), .int p1])).length) Slot.unset).toArray = ls at hl ⊢
  have hl : lv_has ls 2 [(0, .ref (ad 0)), (1, .int p1)] := hl
  have hf19 := hts (.fieldLink RX10 19 "LawRings" "rules" "LLawRings$Rules;") (by decide +kernel)
  have hiX10 : ∀ w ∈ u_ws RX10 TX10 11, w ∈ wsX10_isRule := by decide +kernel
  have hf129 := hts (.fieldLink RX10 129 "LawRings$Rules" "size" "I") (by decide +kernel)
  have hiX6 : ∀ w ∈ u_ws RX6 TX6 13, w ∈ wsX10_isRule := by decide +kernel
  rw [sX10_isRule] at h
  refine lv_iload_n hx hb dX10_isRule_0 rfl (lv_at hl 1 rfl) ?_
  refine lv_aload_n hx hb dX10_isRule_1 rfl (lv_at hl 0 rfl) ?_
  refine va_get (D := (dC, dI)) (ci := 10) (v := .ref (ad 2)) (C := RX10) (T := TX10) (N := 11) hx hb hts hiX10 hown hK hP 0 rfl rfl 1 (by decide) hf19 (fun _ h9 => h9) rfl dX10_isRule_2 ?_
  refine va_get (D := (dC, dI)) (ci := 6) (v := .int (S 2 0)) (C := RX6) (T := TX6) (N := 13) hx hb hts hiX6 hown hK hP 2 rfl rfl 0 (by decide) hf129 (fun _ h9 => h9) rfl dX10_isRule_5 ?_
  obtain ⟨r2, k1, h⟩ := ob_elim h
  refine vp_callSi (W.runS (As := [.int p1, .int (S 2 0)]) (rest := []) ⟨hx, hb, hml, hown, hts⟩ (mX10_isBelow l p1 (S 2 0) k1) (va_cwS 2 hts gX10_isRule_X10_isBelow rfl rfl rfl (by decide +kernel) ⟨Nat.le_of_ble_eq_true rfl, Nat.le_of_ble_eq_true rfl⟩) ⟨fun _ _ _ _ q => q, fun U hU hW => ⟨rfl, trivial⟩⟩ rfl rfl hl.1 rfl (lv_room (Nat.le_of_ble_eq_true rfl)) dX10_isRule_8 ⟨Nat.zero_le _, Nat.zero_le _⟩) (fun r9 er9 => ?_)
  replace er9 := er9.symm
  subst er9
  obtain ⟨b3, h⟩ := zk_elim h
  cases h
  exact W.zret hx hb hr b3 (fun t ht hW => ⟨_, rfl, rfl, ht⟩) (fun q hq => absurd hq List.not_mem_nil) dX10_isRule_11
set_option maxHeartbeats 4000000 in
set_option maxRecDepth 100000 in
theorem mX6_fits (l : Launch) (p0 : Int32) (p1 : Int32) (p2 : Int32) {z : Int32} (h : sX6_fits p0 p1 p2 = some z) : Met l yX6_fits wsX6_fits ({ frames := 0, cells := 0, slots := 0, locals := 0 }) (va_Pc [.int p0, .int p1, .int p2] (fun _ => True)) (vp_Si (fun r => r = z)) 0 0 (fun _ => False) := by
  refine Met.ofW (cc := cX6_fits) (maxL := 3) (ret := (some .boolean)) (by decide) rfl ?_
  intro p e s m args below meth c s₁ B hml hv
  obtain ⟨rfl, -⟩ := hv
  have hx := B.exec
  have hb := B.bytes
  have hr := B.returns
  have hts := atoms_spec (ws := wsX6_fits) B.pre
  have hown : s.vm.findClass RX6 = some m.cls := findClass_of_methodNamed B.named
  have hlocks := B.notSynchronized
  have hl := lv_entry ([.int p0, .int p1, .int p2]) (n := 3) (Nat.le_of_ble_eq_true rfl)
  rw [lg_entry_eq]
  generalize (lg_sl ([.int p0, .int p1, .int p2]) ++ List.replicate (3 - (lg_sl ([.int p0, .int p1, .int p2])).length) Slot.unset).toArray = ls at hl ⊢
  have hl : lv_has ls 3 [(0, .int p0), (1, .int p1), (2, .int p2)] := hl
  rw [sX6_fits] at h
  refine lv_iload_n hx hb dX6_fits_0 rfl (lv_at hl 0 rfl) ?_
  refine lv_iconst (v := 1) hx hb dX6_fits_1 (by decide) ?_
  refine lv_icmp_ne (tgt := 16) hx hb dX6_fits_2 (by decide) (fun c1 => ?_) (fun c1 => ?_)
  · replace h := it_f c1 h
    refine lv_iload_n hx hb dX6_fits_16 rfl (lv_at hl 0 rfl) ?_
    refine lv_if_eq (tgt := 26) hx hb dX6_fits_17 (by decide) (fun c2 => ?_) (fun c2 => ?_)
    · replace h := it_t c2 h
      refine lv_iload_n hx hb dX6_fits_26 rfl (lv_at hl 1 rfl) ?_
      refine lv_iconst (v := (-1)) hx hb dX6_fits_27 (by decide) ?_
      refine lv_icmp_eq (tgt := 35) hx hb dX6_fits_28 (by decide) (fun c3 => ?_) (fun c3 => ?_)
      · replace h := it_t c3 h
        refine lv_iconst (v := 0) hx hb dX6_fits_35 (by decide) ?_
        cases h
        exact W.zret hx hb hr rfl (fun t ht hW => ⟨_, rfl, rfl, ht⟩) (fun q hq => absurd hq List.not_mem_nil) dX6_fits_36
      · replace h := it_f c3 h
        refine lv_iconst (v := 1) hx hb dX6_fits_31 (by decide) ?_
        refine lv_goto (tgt := 36) hx hb dX6_fits_32 (by decide) ?_
        cases h
        exact W.zret hx hb hr rfl (fun t ht hW => ⟨_, rfl, rfl, ht⟩) (fun q hq => absurd hq List.not_mem_nil) dX6_fits_36
    · replace h := it_f c2 h
      refine lv_iload_n hx hb dX6_fits_20 rfl (lv_at hl 0 rfl) ?_
      refine lv_bipush (v := 8) hx hb dX6_fits_21 (by decide) ?_
      refine lv_icmp_lt (tgt := 37) hx hb dX6_fits_23 (by decide) (fun c4 => ?_) (fun c4 => ?_)
      · replace h := it_t c4 h
        refine lv_iload_n hx hb dX6_fits_37 rfl (lv_at hl 0 rfl) ?_
        refine lv_iconst (v := 2) hx hb dX6_fits_38 (by decide) ?_
        refine lv_icmp_ne (tgt := 53) hx hb dX6_fits_39 (by decide) (fun c5 => ?_) (fun c5 => ?_)
        · replace h := it_f c5 h
          refine lv_iload_n hx hb dX6_fits_53 rfl (lv_at hl 0 rfl) ?_
          refine lv_iconst (v := 3) hx hb dX6_fits_54 (by decide) ?_
          refine lv_icmp_ne (tgt := 74) hx hb dX6_fits_55 (by decide) (fun c6 => ?_) (fun c6 => ?_)
          · replace h := it_f c6 h
            refine lv_iload_n hx hb dX6_fits_74 rfl (lv_at hl 1 rfl) ?_
            refine lv_iload_n hx hb dX6_fits_75 rfl (lv_at hl 0 rfl) ?_
            refine lv_iconst (v := 4) hx hb dX6_fits_76 (by decide) ?_
            refine lv_isub hx hb dX6_fits_77 ?_
            refine lv_icmp_ne (tgt := 85) hx hb dX6_fits_78 (by decide) (fun c7 => ?_) (fun c7 => ?_)
            · replace h := it_f c7 h
              refine lv_iconst (v := 0) hx hb dX6_fits_85 (by decide) ?_
              cases h
              exact W.zret hx hb hr rfl (fun t ht hW => ⟨_, rfl, rfl, ht⟩) (fun q hq => absurd hq List.not_mem_nil) dX6_fits_86
            · replace h := it_t c7 h
              refine lv_iconst (v := 1) hx hb dX6_fits_81 (by decide) ?_
              refine lv_goto (tgt := 86) hx hb dX6_fits_82 (by decide) ?_
              cases h
              exact W.zret hx hb hr rfl (fun t ht hW => ⟨_, rfl, rfl, ht⟩) (fun q hq => absurd hq List.not_mem_nil) dX6_fits_86
          · replace h := it_t c6 h
            refine lv_iload_n hx hb dX6_fits_58 rfl (lv_at hl 1 rfl) ?_
            refine lv_iconst (v := (-1)) hx hb dX6_fits_59 (by decide) ?_
            refine lv_icmp_eq (tgt := 72) hx hb dX6_fits_60 (by decide) (fun c8 => ?_) (fun c8 => ?_)
            · replace h := it_t c8 h
              refine lv_iconst (v := 0) hx hb dX6_fits_72 (by decide) ?_
              cases h
              exact W.zret hx hb hr rfl (fun t ht hW => ⟨_, rfl, rfl, ht⟩) (fun q hq => absurd hq List.not_mem_nil) dX6_fits_73
            · replace h := it_f c8 h
              refine lv_iload_n hx hb dX6_fits_63 rfl (lv_at hl 1 rfl) ?_
              refine lv_iload_n hx hb dX6_fits_64 rfl (lv_at hl 2 rfl) ?_
              refine lv_icmp_eq (tgt := 72) hx hb dX6_fits_65 (by decide) (fun c9 => ?_) (fun c9 => ?_)
              · replace h := it_t c9 h
                refine lv_iconst (v := 0) hx hb dX6_fits_72 (by decide) ?_
                cases h
                exact W.zret hx hb hr rfl (fun t ht hW => ⟨_, rfl, rfl, ht⟩) (fun q hq => absurd hq List.not_mem_nil) dX6_fits_73
              · replace h := it_f c9 h
                refine lv_iconst (v := 1) hx hb dX6_fits_68 (by decide) ?_
                refine lv_goto (tgt := 73) hx hb dX6_fits_69 (by decide) ?_
                cases h
                exact W.zret hx hb hr rfl (fun t ht hW => ⟨_, rfl, rfl, ht⟩) (fun q hq => absurd hq List.not_mem_nil) dX6_fits_73
        · replace h := it_t c5 h
          refine lv_iload_n hx hb dX6_fits_42 rfl (lv_at hl 1 rfl) ?_
          refine lv_iload_n hx hb dX6_fits_43 rfl (lv_at hl 2 rfl) ?_
          refine lv_icmp_ne (tgt := 51) hx hb dX6_fits_44 (by decide) (fun c10 => ?_) (fun c10 => ?_)
          · replace h := it_f c10 h
            refine lv_iconst (v := 0) hx hb dX6_fits_51 (by decide) ?_
            cases h
            exact W.zret hx hb hr rfl (fun t ht hW => ⟨_, rfl, rfl, ht⟩) (fun q hq => absurd hq List.not_mem_nil) dX6_fits_52
          · replace h := it_t c10 h
            refine lv_iconst (v := 1) hx hb dX6_fits_47 (by decide) ?_
            refine lv_goto (tgt := 52) hx hb dX6_fits_48 (by decide) ?_
            cases h
            exact W.zret hx hb hr rfl (fun t ht hW => ⟨_, rfl, rfl, ht⟩) (fun q hq => absurd hq List.not_mem_nil) dX6_fits_52
      · replace h := it_f c4 h
        refine lv_iload_n hx hb dX6_fits_26 rfl (lv_at hl 1 rfl) ?_
        refine lv_iconst (v := (-1)) hx hb dX6_fits_27 (by decide) ?_
        refine lv_icmp_eq (tgt := 35) hx hb dX6_fits_28 (by decide) (fun c11 => ?_) (fun c11 => ?_)
        · replace h := it_t c11 h
          refine lv_iconst (v := 0) hx hb dX6_fits_35 (by decide) ?_
          cases h
          exact W.zret hx hb hr rfl (fun t ht hW => ⟨_, rfl, rfl, ht⟩) (fun q hq => absurd hq List.not_mem_nil) dX6_fits_36
        · replace h := it_f c11 h
          refine lv_iconst (v := 1) hx hb dX6_fits_31 (by decide) ?_
          refine lv_goto (tgt := 36) hx hb dX6_fits_32 (by decide) ?_
          cases h
          exact W.zret hx hb hr rfl (fun t ht hW => ⟨_, rfl, rfl, ht⟩) (fun q hq => absurd hq List.not_mem_nil) dX6_fits_36
  · replace h := it_t c1 h
    refine lv_iload_n hx hb dX6_fits_5 rfl (lv_at hl 1 rfl) ?_
    refine lv_iconst (v := (-1)) hx hb dX6_fits_6 (by decide) ?_
    refine lv_icmp_ne (tgt := 14) hx hb dX6_fits_7 (by decide) (fun c12 => ?_) (fun c12 => ?_)
    · replace h := it_f c12 h
      refine lv_iconst (v := 0) hx hb dX6_fits_14 (by decide) ?_
      cases h
      exact W.zret hx hb hr rfl (fun t ht hW => ⟨_, rfl, rfl, ht⟩) (fun q hq => absurd hq List.not_mem_nil) dX6_fits_15
    · replace h := it_t c12 h
      refine lv_iconst (v := 1) hx hb dX6_fits_10 (by decide) ?_
      refine lv_goto (tgt := 15) hx hb dX6_fits_11 (by decide) ?_
      cases h
      exact W.zret hx hb hr rfl (fun t ht hW => ⟨_, rfl, rfl, ht⟩) (fun q hq => absurd hq List.not_mem_nil) dX6_fits_15
set_option maxHeartbeats 4000000 in
set_option maxRecDepth 100000 in
theorem mX6_pair (l : Launch) (dC : Nat → ClassId) (dI : Nat → Nat → Nat) (cI cJ : ClassId) (ad : Nat → Nat) (p1 : Int32) (p2 : Int32) (p3 : Int32) (S : Nat → Nat → Int32) (L : Nat → Nat → Int64) (sz : Nat) {z : (Nat → Nat → Int32) × (Nat → Nat → Int64)} (h : sX6_pair p1 p2 p3 S L = some z) : Met l yX6_pair wsX6_pair ({ frames := 1, cells := 0, slots := 0, locals := 21 }) (va_Pc [.ref (ad 2), .int p1, .int p2, .int p3] (QXs sz dC dI cI cJ ad S L)) (va_Qv (fun (u : (Nat → Nat → Int32) × (Nat → Nat → Int64)) => u = z) (fun (u : (Nat → Nat → Int32) × (Nat → Nat → Int64)) t => va_P (dC, dI) vwCl (wX cI cJ ad u.1 u.2) t.heap) (AX 43 ad sz)) 0 0 (AX 43 ad sz) := by
  refine Met.ofW (cc := cX6_pair) (maxL := 4) (ret := none) (by decide) rfl ?_
  intro p e s m args below meth c s₁ B hml hv
  obtain ⟨rfl, hsz, hP, hK, hD0⟩ := hv
  have hx := B.exec
  have hb := B.bytes
  have hr := B.returns
  have hts := atoms_spec (ws := wsX6_pair) B.pre
  have hown : s.vm.findClass RX6 = some m.cls := findClass_of_methodNamed B.named
  have hlocks := B.notSynchronized
  subst hsz
  have hD := wX_DA hD0 s.heap.size
  have hS : va_S (AX 43 ad s.heap.size) s.heap s.heap [] := va_S.rf
  have hl := lv_entry ([.ref (ad 2), .int p1, .int p2, .int p3]) (n := 4) (Nat.le_of_ble_eq_true rfl)
  rw [lg_entry_eq]
  generalize (lg_sl ([.ref (ad 2), .int p1, .int p2, .int p3]) ++ List.replicate (4 - (lg_sl ([.ref (ad 2), .int p1, .int p2, .int p3])).length) Slot.unset).toArray = ls at hl ⊢
  have hl : lv_has ls 4 [(0, .ref (ad 2)), (1, .int p1), (2, .int p2), (3, .int p3)] := hl
  have hf46 := hts (.fieldLink RX6 46 "LawRings$Rules" "paired" "[J") (by decide +kernel)
  have hiX6 : ∀ w ∈ u_ws RX6 TX6 13, w ∈ wsX6_pair := by decide +kernel
  have hm61 := hts (.methodLink RX6 61 Lib.Math.min.name) (by decide +kernel)
  have hs61 := hts (.static Lib.Math.min.name) (by decide +kernel)
  have hjm := hts (.initialized "java/lang/Math") (by decide +kernel)
  have hc61 := hts (.code Lib.Math.min.name Lib.Math.min.code 2 (some .int)) (by decide +kernel)
  have hm67 := hts (.methodLink RX6 67 Lib.Math.max.name) (by decide +kernel)
  have hs67 := hts (.static Lib.Math.max.name) (by decide +kernel)
  have hc67 := hts (.code Lib.Math.max.name Lib.Math.max.code 2 (some .int)) (by decide +kernel)
  rw [sX6_pair] at h
  refine lv_aload_n hx hb dX6_pair_0 rfl (lv_at hl 0 rfl) ?_
  refine va_get (D := (dC, dI)) (ci := 6) (v := .ref (ad 28)) (C := RX6) (T := TX6) (N := 13) hx hb hts hiX6 hown hK hP 2 rfl rfl 12 (by decide) hf46 (fun _ h9 => h9) rfl dX6_pair_1 ?_
  refine lv_iload_n hx hb dX6_pair_4 rfl (lv_at hl 2 rfl) ?_
  refine lv_iload_n hx hb dX6_pair_5 rfl (lv_at hl 3 rfl) ?_
  refine va_mmin hx hb (hml.trans hl.1.symm) hown hm61 hs61 hjm hc61 (by decide) (Nat.le_of_ble_eq_true rfl) (Nat.zero_le _) (Nat.zero_le _) dX6_pair_6 ?_
  obtain ⟨x1, ex1, h⟩ := bnd_elim h
  refine nm_i ex1 ?_
  refine lv_bipush (v := 6) hx hb dX6_pair_9 (by decide) ?_
  refine lv_imul hx hb dX6_pair_11 ?_
  refine lv_iload_n hx hb dX6_pair_12 rfl (lv_at hl 2 rfl) ?_
  refine lv_iload_n hx hb dX6_pair_13 rfl (lv_at hl 3 rfl) ?_
  refine va_mmax hx hb (hml.trans hl.1.symm) hown hm67 hs67 hjm hc67 (by decide) (Nat.le_of_ble_eq_true rfl) (Nat.zero_le _) (Nat.zero_le _) dX6_pair_14 ?_
  obtain ⟨x2, ex2, h⟩ := bnd_elim h
  refine nm_i ex2 ?_
  refine lv_iadd hx hb dX6_pair_17 ?_
  obtain ⟨x3, ex3, h⟩ := bnd_elim h
  refine nm_i ex3 ?_
  refine lv_dup2_11 hx hb dX6_pair_18 rfl rfl ?_
  obtain ⟨b4, h⟩ := ck_elim h
  refine va_lald hx hb hK hP 28 1 rfl rfl b4 dX6_pair_19 ?_
  refine lv_lconst (v := 1) hx hb dX6_pair_20 (by decide) ?_
  refine lv_iload_n hx hb dX6_pair_21 rfl (lv_at hl 1 rfl) ?_
  refine lv_lshl (v := lsh 1 p1) hx hb dX6_pair_22 rfl ?_
  refine lv_lor hx hb dX6_pair_23 ?_
  obtain ⟨b5, h⟩ := ck_elim h
  obtain ⟨L6, eL6, h⟩ := bnd_elim h
  refine va_last hx hb hK hP hD hS 28 1 rfl rfl b5 dX6_pair_24 (fun H locs hP9 _ hS => ?_)
  have hP := swX_28 hP9
  rw [← eL6] at hP
  have hD := wX_D hD S L6
  cases h
  exact W.vret hx hb hr (fun t ht hW => ⟨⟨_, rfl, rfl, by show va_P _ _ _ t.heap; rw [ht]; exact hP⟩, hS.F ht⟩) hS.2.2 dX6_pair_25
set_option maxHeartbeats 4000000 in
set_option maxRecDepth 100000 in
theorem mX6_addTest (l : Launch) (dC : Nat → ClassId) (dI : Nat → Nat → Nat) (cI cJ : ClassId) (ad : Nat → Nat) (p1 : Int32) (p2 : Int32) (p3 : Int32) (S : Nat → Nat → Int32) (L : Nat → Nat → Int64) (sz : Nat) {z : Int32 × (Nat → Nat → Int32) × (Nat → Nat → Int64)} (h : sX6_addTest p1 p2 p3 S L = some z) : Met l yX6_addTest wsX6_addTest ({ frames := 2, cells := 0, slots := 0, locals := 44 }) (va_Pc [.ref (ad 2), .int p1, .int p2, .int p3] (QXs sz dC dI cI cJ ad S L)) (va_Qi (fun (r : Int32) (u : (Nat → Nat → Int32) × (Nat → Nat → Int64)) => (r, u) = z) (fun (u : (Nat → Nat → Int32) × (Nat → Nat → Int64)) t => va_P (dC, dI) vwCl (wX cI cJ ad u.1 u.2) t.heap) (AX 43 ad sz)) 0 0 (AX 43 ad sz) := by
  refine Met.ofW (cc := cX6_addTest) (maxL := 6) (ret := (some .int)) (by decide) rfl ?_
  intro p e s m args below meth c s₁ B hml hv
  obtain ⟨rfl, hsz, hP, hK, hD0⟩ := hv
  have hx := B.exec
  have hb := B.bytes
  have hr := B.returns
  have hts := atoms_spec (ws := wsX6_addTest) B.pre
  have hown : s.vm.findClass RX6 = some m.cls := findClass_of_methodNamed B.named
  have hlocks := B.notSynchronized
  subst hsz
  have hD := wX_DA hD0 s.heap.size
  have hS : va_S (AX 43 ad s.heap.size) s.heap s.heap [] := va_S.rf
  have hl := lv_entry ([.ref (ad 2), .int p1, .int p2, .int p3]) (n := 6) (Nat.le_of_ble_eq_true rfl)
  rw [lg_entry_eq]
  generalize (lg_sl ([.ref (ad 2), .int p1, .int p2, .int p3]) ++ List.replicate (6 - (lg_sl ([.ref (ad 2), .int p1, .int p2, .int p3])).length) Slot.unset).toArray = ls at hl ⊢
  have hl : lv_has ls 6 [(0, .ref (ad 2)), (1, .int p1), (2, .int p2), (3, .int p3)] := hl
  have hf30 := hts (.fieldLink RX6 30 "LawRings$Rules" "tests" "[I") (by decide +kernel)
  have hiX6 : ∀ w ∈ u_ws RX6 TX6 13, w ∈ wsX6_addTest := by decide +kernel
  have hf33 := hts (.fieldLink RX6 33 "LawRings$Rules" "tie" "[I") (by decide +kernel)
  have hf36 := hts (.fieldLink RX6 36 "LawRings$Rules" "what" "[I") (by decide +kernel)
  have hf9 := hts (.fieldLink RX6 9 "LawRings$Rules" "land" "[I") (by decide +kernel)
  have hf43 := hts (.fieldLink RX6 43 "LawRings$Rules" "broken" "[J") (by decide +kernel)
  rw [sX6_addTest] at h
  refine lv_iload_n hx hb dX6_addTest_0 rfl (lv_at hl 1 rfl) ?_
  refine lv_iconst (v := 2) hx hb dX6_addTest_1 (by decide) ?_
  refine lv_imul hx hb dX6_addTest_2 ?_
  refine lv_aload_n hx hb dX6_addTest_3 rfl (lv_at hl 0 rfl) ?_
  refine va_get (D := (dC, dI)) (ci := 6) (v := .ref (ad 23)) (C := RX6) (T := TX6) (N := 13) hx hb hts hiX6 hown hK hP 2 rfl rfl 7 (by decide) hf30 (fun _ h9 => h9) rfl dX6_addTest_4 ?_
  refine lv_iload_n hx hb dX6_addTest_7 rfl (lv_at hl 1 rfl) ?_
  obtain ⟨b1, h⟩ := ck_elim h
  refine va_iald hx hb hK hP 23 0 rfl rfl b1 dX6_addTest_8 ?_
  refine lv_iadd hx hb dX6_addTest_9 ?_
  obtain ⟨x2, ex2, h⟩ := bnd_elim h
  refine nm_i ex2 ?_
  refine lv_istore (lv' := [(4, .int x2), (0, .ref (ad 2)), (1, .int p1), (2, .int p2), (3, .int p3)]) hx hb dX6_addTest_10 hl (by decide) rfl (fun ls hl => ?_)
  refine lv_aload_n hx hb dX6_addTest_12 rfl (lv_at hl 1 rfl) ?_
  refine va_get (D := (dC, dI)) (ci := 6) (v := .ref (ad 24)) (C := RX6) (T := TX6) (N := 13) hx hb hts hiX6 hown hK hP 2 rfl rfl 8 (by decide) hf33 (fun _ h9 => h9) rfl dX6_addTest_13 ?_
  refine lv_iload hx hb dX6_addTest_16 (lv_at hl 0 rfl) ?_
  refine lv_iload_n hx hb dX6_addTest_18 rfl (lv_at hl 3 rfl) ?_
  obtain ⟨b3, h⟩ := ck_elim h
  obtain ⟨S4, eS4, h⟩ := bnd_elim h
  refine va_iast hx hb hK hP hD hS 24 0 rfl rfl b3 dX6_addTest_19 (fun H locs hP9 _ hS => ?_)
  have hP := swX_24 hP9
  rw [← eS4] at hP
  have hD := wX_D hD S4 L
  refine lv_aload_n hx hb dX6_addTest_20 rfl (lv_at hl 1 rfl) ?_
  refine va_get (D := (dC, dI)) (ci := 6) (v := .ref (ad 25)) (C := RX6) (T := TX6) (N := 13) hx hb hts hiX6 hown hK hP 2 rfl rfl 9 (by decide) hf36 (fun _ h9 => h9) rfl dX6_addTest_21 ?_
  refine lv_iload hx hb dX6_addTest_24 (lv_at hl 0 rfl) ?_
  refine lv_iload_n hx hb dX6_addTest_26 rfl (lv_at hl 4 rfl) ?_
  obtain ⟨b5, h⟩ := ck_elim h
  obtain ⟨S6, eS6, h⟩ := bnd_elim h
  refine va_iast hx hb hK hP hD hS 25 0 rfl rfl b5 dX6_addTest_27 (fun H locs hP9 _ hS => ?_)
  have hP := swX_25 hP9
  rw [← eS6] at hP
  have hD := wX_D hD S6 L
  refine lv_iconst (v := (-1)) hx hb dX6_addTest_28 (by decide) ?_
  refine lv_istore (lv' := [(5, .int (-1)), (4, .int x2), (0, .ref (ad 2)), (1, .int p1), (2, .int p2), (3, .int p3)]) hx hb dX6_addTest_29 hl (by decide) rfl (fun ls hl => ?_)
  refine ww_w (fun WW31 hWW31 => ?_)
  have Lh31 : ∀ (n : Nat) (v7 : Int32) (S8 : (Nat → Nat → Int32)) (L9 : (Nat → Nat → Int64)) (z : ((Nat → Nat → Int32) × (Nat → Nat → Int64))), lX6_addTest_31 p1 p2 p3 n v7 S8 L9 = some z → ∀ (H : Heap) (locs : List Loc), va_P (dC, dI) vwCl (wX cI cJ ad S8 L9) H → va_S (AX 43 ad s.heap.size) s.heap H locs → ∀ ls : Array Slot, lv_has ls 6 [(0, .ref (ad 2)), (1, .int p1), (2, .int p2), (3, .int p3), (5, .int v7)] → (∀ (YS : (Nat → Nat → Int32)) (YL : (Nat → Nat → Int64)), z = (YS, YL) → ∀ (H : Heap) (locs : List Loc), va_P (dC, dI) vwCl (wX cI cJ ad YS YL) H → va_S (AX 43 ad s.heap.size) s.heap H locs → ∀ ls : Array Slot, lv_has ls 6 [(0, .ref (ad 2)), (1, .int p1), (2, .int p2), (3, .int p3)] → WW31 H locs 77 ls) → WW31 H locs 31 ls := by
    intro n
    induction n with
    | zero => intro v7 S8 L9 z h H locs hP hS ls hl K0; rw [lX6_addTest_31] at h; cases h
    | succ n ih =>
      intro v7 S8 L9 z h H locs hP hS ls hl K0
      have hD := wX_D hD S8 L9
      rw [lX6_addTest_31] at h
      refine wi_w hWW31 ?_
      refine lv_iload hx hb dX6_addTest_31 (lv_at hl 4 rfl) ?_
      refine lv_iconst (v := 4) hx hb dX6_addTest_33 (by decide) ?_
      refine lv_icmp_ge (tgt := 77) hx hb dX6_addTest_34 (by decide) (fun c10 => ?_) (fun c10 => ?_)
      · replace h := it_t c10 h
        refine wu_w hWW31 ?_
        exact K0 S8 L9 (Option.some.inj h).symm H locs hP hS ls (lv_sub hl [0, 1, 2, 3] rfl)
      · replace h := it_f c10 h
        refine lv_iload_n hx hb dX6_addTest_37 rfl (lv_at hl 3 rfl) ?_
        refine lv_iload hx hb dX6_addTest_38 (lv_at hl 4 rfl) ?_
        refine lv_aload_n hx hb dX6_addTest_40 rfl (lv_at hl 0 rfl) ?_
        refine va_get (D := (dC, dI)) (ci := 6) (v := .ref (ad 17)) (C := RX6) (T := TX6) (N := 13) hx hb hts hiX6 hown hK hP 2 rfl rfl 1 (by decide) hf9 (fun _ h9 => h9) rfl dX6_addTest_41 ?_
        refine lv_iload_n hx hb dX6_addTest_44 rfl (lv_at hl 1 rfl) ?_
        obtain ⟨b11, h⟩ := ck_elim h
        refine va_iald hx hb hK hP 17 0 rfl rfl b11 dX6_addTest_45 ?_
        obtain ⟨r13, k12, h⟩ := ob_elim h
        refine vp_callSi (W.runS (As := [.int p3, .int v7, .int (S8 17 p1.toNatClampNeg)]) (rest := []) ⟨hx, hb, hml, hown, hts⟩ (mX6_fits l p3 v7 (S8 17 p1.toNatClampNeg) k12) (va_cwS 3 hts gX6_addTest_X6_fits rfl rfl rfl (by decide +kernel) ⟨Nat.le_of_ble_eq_true rfl, Nat.le_of_ble_eq_true rfl⟩) ⟨fun _ _ _ _ q => q, fun U hU hW => ⟨rfl, trivial⟩⟩ rfl rfl hl.1 rfl (lv_room (Nat.le_of_ble_eq_true rfl)) dX6_addTest_46 ⟨Nat.zero_le _, Nat.zero_le _⟩) (fun r9 er9 => ?_)
        replace er9 := er9.symm
        subst er9
        refine lv_if_ne (tgt := 71) hx hb dX6_addTest_49 (by decide) (fun c14 => ?_) (fun c14 => ?_)
        · replace h := it_f c14 h
          obtain ⟨x15, ex15, h⟩ := bnd_elim h
          refine lv_iinc (v := x15) (lv' := [(5, .int x15), (0, .ref (ad 2)), (1, .int p1), (2, .int p2), (3, .int p3)]) hx hb dX6_addTest_71 hl (k := 4) rfl (by rw [ex15]; rfl) (by decide) rfl (fun ls hl => ?_)
          refine lv_goto (tgt := 31) hx hb dX6_addTest_74 (by decide) ?_
          refine wu_w hWW31 ?_
          exact ih x15 S8 L9 z h H locs hP hS ls (lv_sub hl [1, 2, 3, 4, 0] rfl) K0
        · replace h := it_t c14 h
          refine lv_aload_n hx hb dX6_addTest_52 rfl (lv_at hl 0 rfl) ?_
          refine va_get (D := (dC, dI)) (ci := 6) (v := .ref (ad 27)) (C := RX6) (T := TX6) (N := 13) hx hb hts hiX6 hown hK hP 2 rfl rfl 11 (by decide) hf43 (fun _ h9 => h9) rfl dX6_addTest_53 ?_
          refine lv_iload_n hx hb dX6_addTest_56 rfl (lv_at hl 2 rfl) ?_
          refine lv_iconst (v := 5) hx hb dX6_addTest_57 (by decide) ?_
          refine lv_imul hx hb dX6_addTest_58 ?_
          refine lv_iload hx hb dX6_addTest_59 (lv_at hl 4 rfl) ?_
          refine lv_iadd hx hb dX6_addTest_61 ?_
          refine lv_iconst (v := 1) hx hb dX6_addTest_62 (by decide) ?_
          refine lv_iadd hx hb dX6_addTest_63 ?_
          obtain ⟨x16, ex16, h⟩ := bnd_elim h
          refine nm_i ex16 ?_
          refine lv_dup2_11 hx hb dX6_addTest_64 rfl rfl ?_
          obtain ⟨b17, h⟩ := ck_elim h
          refine va_lald hx hb hK hP 27 1 rfl rfl b17 dX6_addTest_65 ?_
          refine lv_lconst (v := 1) hx hb dX6_addTest_66 (by decide) ?_
          refine lv_iload_n hx hb dX6_addTest_67 rfl (lv_at hl 1 rfl) ?_
          refine lv_lshl (v := lsh 1 p1) hx hb dX6_addTest_68 rfl ?_
          refine lv_lor hx hb dX6_addTest_69 ?_
          obtain ⟨b18, h⟩ := ck_elim h
          obtain ⟨L19, eL19, h⟩ := bnd_elim h
          refine va_last hx hb hK hP hD hS 27 1 rfl rfl b18 dX6_addTest_70 (fun H locs hP9 _ hS => ?_)
          have hP := swX_27 hP9
          rw [← eL19] at hP
          have hD := wX_D hD S8 L19
          obtain ⟨x20, ex20, h⟩ := bnd_elim h
          refine lv_iinc (v := x20) (lv' := [(5, .int x20), (0, .ref (ad 2)), (1, .int p1), (2, .int p2), (3, .int p3)]) hx hb dX6_addTest_71 hl (k := 4) rfl (by rw [ex20]; rfl) (by decide) rfl (fun ls hl => ?_)
          refine lv_goto (tgt := 31) hx hb dX6_addTest_74 (by decide) ?_
          refine wu_w hWW31 ?_
          exact ih x20 S8 L19 z h H locs hP hS ls (lv_sub hl [1, 2, 3, 4, 0] rfl) K0
  obtain ⟨S22, L23, k21, h⟩ := ob2_elim h
  refine wu_w hWW31 ?_
  refine Lh31 FU (-1) S6 L _ k21 H locs hP hS ls (lv_sub hl [2, 3, 4, 5, 0] rfl) ?_
  intro y0 y1 hy H locs hP hS ls hl
  cases hy
  have hD := wX_D hD S22 L23
  refine wi_w hWW31 ?_
  refine lv_iload_n hx hb dX6_addTest_77 rfl (lv_at hl 3 rfl) ?_
  refine lv_bipush (v := 8) hx hb dX6_addTest_78 (by decide) ?_
  refine lv_icmp_lt (tgt := 93) hx hb dX6_addTest_80 (by decide) (fun c24 => ?_) (fun c24 => ?_)
  · replace h := it_t c24 h
    refine lv_aload_n hx hb dX6_addTest_93 rfl (lv_at hl 0 rfl) ?_
    refine va_get (D := (dC, dI)) (ci := 6) (v := .ref (ad 23)) (C := RX6) (T := TX6) (N := 13) hx hb hts hiX6 hown hK hP 2 rfl rfl 7 (by decide) hf30 (fun _ h9 => h9) rfl dX6_addTest_94 ?_
    refine lv_iload_n hx hb dX6_addTest_97 rfl (lv_at hl 1 rfl) ?_
    refine lv_dup2_11 hx hb dX6_addTest_98 rfl rfl ?_
    obtain ⟨b25, h⟩ := ck_elim h
    refine va_iald hx hb hK hP 23 0 rfl rfl b25 dX6_addTest_99 ?_
    refine lv_iconst (v := 1) hx hb dX6_addTest_100 (by decide) ?_
    refine lv_iadd hx hb dX6_addTest_101 ?_
    obtain ⟨b26, h⟩ := ck_elim h
    obtain ⟨S27, eS27, h⟩ := bnd_elim h
    refine va_iast hx hb hK hP hD hS 23 0 rfl rfl b26 dX6_addTest_102 (fun H locs hP9 _ hS => ?_)
    have hP := swX_23 hP9
    rw [← eS27] at hP
    have hD := wX_D hD S27 L23
    refine lv_aload_n hx hb dX6_addTest_103 rfl (lv_at hl 0 rfl) ?_
    refine va_get (D := (dC, dI)) (ci := 6) (v := .ref (ad 23)) (C := RX6) (T := TX6) (N := 13) hx hb hts hiX6 hown hK hP 2 rfl rfl 7 (by decide) hf30 (fun _ h9 => h9) rfl dX6_addTest_104 ?_
    refine lv_iload_n hx hb dX6_addTest_107 rfl (lv_at hl 1 rfl) ?_
    obtain ⟨b28, h⟩ := ck_elim h
    refine va_iald hx hb hK hP 23 0 rfl rfl b28 dX6_addTest_108 ?_
    cases h
    exact W.iret hx hb hr (fun t ht hW => ⟨⟨_, _, rfl, rfl, by show va_P _ _ _ t.heap; rw [ht]; exact hP⟩, hS.F ht⟩) hS.2.2 dX6_addTest_109
  · replace h := it_f c24 h
    refine lv_aload_n hx hb dX6_addTest_83 rfl (lv_at hl 0 rfl) ?_
    refine lv_iload_n hx hb dX6_addTest_84 rfl (lv_at hl 1 rfl) ?_
    refine lv_iload_n hx hb dX6_addTest_85 rfl (lv_at hl 2 rfl) ?_
    refine lv_iload_n hx hb dX6_addTest_86 rfl (lv_at hl 3 rfl) ?_
    refine lv_bipush (v := 8) hx hb dX6_addTest_87 (by decide) ?_
    refine lv_isub hx hb dX6_addTest_89 ?_
    obtain ⟨S30, L31, k29, h⟩ := ob2_elim h
    refine va_callv (va_runV (As := [.int p1, .int p2, .int (p3 - 8)]) (rest := []) ⟨hx, hb, hml, hown, hts⟩ (mX6_pair l dC dI cI cJ ad p1 p2 (p3 - 8) S22 L23 H.size k29) (cwV 3 hts gX6_addTest_X6_pair rfl rfl rfl (by decide +kernel) ⟨Nat.le_of_ble_eq_true rfl, Nat.le_of_ble_eq_true rfl⟩) ⟨QXs_blind, va_recv hK hP (ci := 6) (q0 := 2) rfl rfl, fun U hU hW => ⟨rfl, congrArg Array.size hU, QX_at hP hK hD hU hW⟩⟩ rfl rfl hl.1 rfl (lv_room (Nat.le_of_ble_eq_true rfl)) dX6_addTest_90 ⟨Nat.zero_le _, Nat.zero_le _⟩) hS (fun q _ hq => AX_mono hS.1 hq) (fun q hq => AX_mono hS.1 hq) (fun u t H1 locs ht hvm hw hB hz1 hk1 hS => ?_)
    cases hw
    rw [ht] at hB
    have hP := hB
    clear hB hk1 hz1
    generalize H1 = H at hP hS ⊢
    have hD := wX_D hD S30 L31
    refine lv_aload_n hx hb dX6_addTest_93 rfl (lv_at hl 0 rfl) ?_
    refine va_get (D := (dC, dI)) (ci := 6) (v := .ref (ad 23)) (C := RX6) (T := TX6) (N := 13) hx hb hts hiX6 hown hK hP 2 rfl rfl 7 (by decide) hf30 (fun _ h9 => h9) rfl dX6_addTest_94 ?_
    refine lv_iload_n hx hb dX6_addTest_97 rfl (lv_at hl 1 rfl) ?_
    refine lv_dup2_11 hx hb dX6_addTest_98 rfl rfl ?_
    obtain ⟨b32, h⟩ := ck_elim h
    refine va_iald hx hb hK hP 23 0 rfl rfl b32 dX6_addTest_99 ?_
    refine lv_iconst (v := 1) hx hb dX6_addTest_100 (by decide) ?_
    refine lv_iadd hx hb dX6_addTest_101 ?_
    obtain ⟨b33, h⟩ := ck_elim h
    obtain ⟨S34, eS34, h⟩ := bnd_elim h
    refine va_iast hx hb hK hP hD hS 23 0 rfl rfl b33 dX6_addTest_102 (fun H locs hP9 _ hS => ?_)
    have hP := swX_23 hP9
    rw [← eS34] at hP
    have hD := wX_D hD S34 L31
    refine lv_aload_n hx hb dX6_addTest_103 rfl (lv_at hl 0 rfl) ?_
    refine va_get (D := (dC, dI)) (ci := 6) (v := .ref (ad 23)) (C := RX6) (T := TX6) (N := 13) hx hb hts hiX6 hown hK hP 2 rfl rfl 7 (by decide) hf30 (fun _ h9 => h9) rfl dX6_addTest_104 ?_
    refine lv_iload_n hx hb dX6_addTest_107 rfl (lv_at hl 1 rfl) ?_
    obtain ⟨b35, h⟩ := ck_elim h
    refine va_iald hx hb hK hP 23 0 rfl rfl b35 dX6_addTest_108 ?_
    cases h
    exact W.iret hx hb hr (fun t ht hW => ⟨⟨_, _, rfl, rfl, by show va_P _ _ _ t.heap; rw [ht]; exact hP⟩, hS.F ht⟩) hS.2.2 dX6_addTest_109
set_option maxHeartbeats 4000000 in
set_option maxRecDepth 100000 in
theorem mX10_test (l : Launch) (dC : Nat → ClassId) (dI : Nat → Nat → Nat) (cI cJ : ClassId) (ad : Nat → Nat) (p1 : Int32) (p2 : Int32) (p3 : Int32) (S : Nat → Nat → Int32) (L : Nat → Nat → Int64) (sz : Nat) {z : Int32 × (Nat → Nat → Int32) × (Nat → Nat → Int64)} (h : sX10_test p1 p2 p3 S L = some z) : Met l yX10_test wsX10_test ({ frames := 3, cells := 0, slots := 0, locals := 69 }) (va_Pc [.ref (ad 0), .int p1, .int p2, .int p3] (QXs sz dC dI cI cJ ad S L)) (va_Qi (fun (r : Int32) (u : (Nat → Nat → Int32) × (Nat → Nat → Int64)) => (r, u) = z) (fun (u : (Nat → Nat → Int32) × (Nat → Nat → Int64)) t => va_P (dC, dI) vwCl (wX cI cJ ad u.1 u.2) t.heap) (AX 43 ad sz)) 0 0 (AX 43 ad sz) := by
  refine Met.ofW (cc := cX10_test) (maxL := 4) (ret := (some .int)) (by decide) rfl ?_
  intro p e s m args below meth c s₁ B hml hv
  obtain ⟨rfl, hsz, hP, hK, hD0⟩ := hv
  have hx := B.exec
  have hb := B.bytes
  have hr := B.returns
  have hts := atoms_spec (ws := wsX10_test) B.pre
  have hown : s.vm.findClass RX10 = some m.cls := findClass_of_methodNamed B.named
  have hlocks := B.notSynchronized
  subst hsz
  have hD := wX_DA hD0 s.heap.size
  have hS : va_S (AX 43 ad s.heap.size) s.heap s.heap [] := va_S.rf
  have hl := lv_entry ([.ref (ad 0), .int p1, .int p2, .int p3]) (n := 4) (Nat.le_of_ble_eq_true rfl)
  rw [lg_entry_eq]
  generalize (lg_sl ([.ref (ad 0), .int p1, .int p2, .int p3]) ++ List.replicate (4 - (lg_sl ([.ref (ad 0), .int p1, .int p2, .int p3])).length) Slot.unset).toArray = ls at hl ⊢
  have hl : lv_has ls 4 [(0, .ref (ad 0)), (1, .int p1), (2, .int p2), (3, .int p3)] := hl
  have hf19 := hts (.fieldLink RX10 19 "LawRings" "rules" "LLawRings$Rules;") (by decide +kernel)
  have hiX10 : ∀ w ∈ u_ws RX10 TX10 11, w ∈ wsX10_test := by decide +kernel
  have hf136 := hts (.fieldLink RX10 136 "LawRings$Rules" "tests" "[I") (by decide +kernel)
  have hiX6 : ∀ w ∈ u_ws RX6 TX6 13, w ∈ wsX10_test := by decide +kernel
  rw [sX10_test] at h
  refine lv_aload_n hx hb dX10_test_0 rfl (lv_at hl 0 rfl) ?_
  refine lv_iload_n hx hb dX10_test_1 rfl (lv_at hl 1 rfl) ?_
  obtain ⟨r2, k1, h⟩ := ob_elim h
  refine vp_callSi (W.runV (As := [.int p1]) (rest := []) ⟨hx, hb, hml, hown, hts⟩ (mX10_isRule l dC dI cI cJ ad p1 S L k1) (cwV 1 hts gX10_test_X10_isRule rfl rfl rfl (by decide +kernel) ⟨Nat.le_of_ble_eq_true rfl, Nat.le_of_ble_eq_true rfl⟩) ⟨QX_blind, va_recv hK hP (ci := 10) (q0 := 0) rfl rfl, fun U hU hW => ⟨rfl, QX_at hP hK hD hU hW⟩⟩ rfl rfl hl.1 rfl (lv_room (Nat.le_of_ble_eq_true rfl)) dX10_test_2 ⟨Nat.zero_le _, Nat.zero_le _⟩) (fun r9 er9 => ?_)
  replace er9 := er9.symm
  subst er9
  refine lv_if_eq (tgt := 24) hx hb dX10_test_5 (by decide) (fun c3 => ?_) (fun c3 => ?_)
  · replace h := it_t c3 h
    refine lv_bipush (v := (-2)) hx hb dX10_test_24 (by decide) ?_
    cases h
    exact W.iret hx hb hr (fun t ht hW => ⟨⟨_, _, rfl, rfl, by show va_P _ _ _ t.heap; rw [ht]; exact hP⟩, hS.F ht⟩) hS.2.2 dX10_test_26
  · replace h := it_f c3 h
    refine lv_iload_n hx hb dX10_test_8 rfl (lv_at hl 2 rfl) ?_
    obtain ⟨r5, k4, h⟩ := ob_elim h
    refine vp_callSi (W.runS (As := [.int p2]) (rest := []) ⟨hx, hb, hml, hown, hts⟩ (mX10_isTie l p2 k4) (va_cwS 1 hts gX10_test_X10_isTie rfl rfl rfl (by decide +kernel) ⟨Nat.le_of_ble_eq_true rfl, Nat.le_of_ble_eq_true rfl⟩) ⟨fun _ _ _ _ q => q, fun U hU hW => ⟨rfl, trivial⟩⟩ rfl rfl hl.1 rfl (lv_room (Nat.le_of_ble_eq_true rfl)) dX10_test_9 ⟨Nat.zero_le _, Nat.zero_le _⟩) (fun r9 er9 => ?_)
    replace er9 := er9.symm
    subst er9
    refine lv_if_eq (tgt := 24) hx hb dX10_test_12 (by decide) (fun c6 => ?_) (fun c6 => ?_)
    · replace h := it_t c6 h
      refine lv_bipush (v := (-2)) hx hb dX10_test_24 (by decide) ?_
      cases h
      exact W.iret hx hb hr (fun t ht hW => ⟨⟨_, _, rfl, rfl, by show va_P _ _ _ t.heap; rw [ht]; exact hP⟩, hS.F ht⟩) hS.2.2 dX10_test_26
    · replace h := it_f c6 h
      refine lv_iload_n hx hb dX10_test_15 rfl (lv_at hl 3 rfl) ?_
      refine lv_bipush (v := 14) hx hb dX10_test_16 (by decide) ?_
      obtain ⟨r8, k7, h⟩ := ob_elim h
      refine vp_callSi (W.runS (As := [.int p3, .int 14]) (rest := []) ⟨hx, hb, hml, hown, hts⟩ (mX10_isBelow l p3 14 k7) (va_cwS 2 hts gX10_test_X10_isBelow rfl rfl rfl (by decide +kernel) ⟨Nat.le_of_ble_eq_true rfl, Nat.le_of_ble_eq_true rfl⟩) ⟨fun _ _ _ _ q => q, fun U hU hW => ⟨rfl, trivial⟩⟩ rfl rfl hl.1 rfl (lv_room (Nat.le_of_ble_eq_true rfl)) dX10_test_18 ⟨Nat.zero_le _, Nat.zero_le _⟩) (fun r9 er9 => ?_)
      replace er9 := er9.symm
      subst er9
      refine lv_if_ne (tgt := 27) hx hb dX10_test_21 (by decide) (fun c9 => ?_) (fun c9 => ?_)
      · replace h := it_f c9 h
        refine lv_aload_n hx hb dX10_test_27 rfl (lv_at hl 0 rfl) ?_
        refine va_get (D := (dC, dI)) (ci := 10) (v := .ref (ad 2)) (C := RX10) (T := TX10) (N := 11) hx hb hts hiX10 hown hK hP 0 rfl rfl 1 (by decide) hf19 (fun _ h9 => h9) rfl dX10_test_28 ?_
        refine va_get (D := (dC, dI)) (ci := 6) (v := .ref (ad 23)) (C := RX6) (T := TX6) (N := 13) hx hb hts hiX6 hown hK hP 2 rfl rfl 7 (by decide) hf136 (fun _ h9 => h9) rfl dX10_test_31 ?_
        refine lv_iload_n hx hb dX10_test_34 rfl (lv_at hl 1 rfl) ?_
        obtain ⟨b10, h⟩ := ck_elim h
        refine va_iald hx hb hK hP 23 0 rfl rfl b10 dX10_test_35 ?_
        refine lv_iconst (v := 2) hx hb dX10_test_36 (by decide) ?_
        refine lv_icmp_lt (tgt := 43) hx hb dX10_test_37 (by decide) (fun c11 => ?_) (fun c11 => ?_)
        · replace h := it_t c11 h
          refine lv_aload_n hx hb dX10_test_43 rfl (lv_at hl 0 rfl) ?_
          refine va_get (D := (dC, dI)) (ci := 10) (v := .ref (ad 2)) (C := RX10) (T := TX10) (N := 11) hx hb hts hiX10 hown hK hP 0 rfl rfl 1 (by decide) hf19 (fun _ h9 => h9) rfl dX10_test_44 ?_
          refine lv_iload_n hx hb dX10_test_47 rfl (lv_at hl 1 rfl) ?_
          refine lv_iload_n hx hb dX10_test_48 rfl (lv_at hl 2 rfl) ?_
          refine lv_iload_n hx hb dX10_test_49 rfl (lv_at hl 3 rfl) ?_
          obtain ⟨r15, S13, L14, k12, h⟩ := ob3_elim h
          refine va_calli (va_runV (As := [.int p1, .int p2, .int p3]) (rest := []) ⟨hx, hb, hml, hown, hts⟩ (mX6_addTest l dC dI cI cJ ad p1 p2 p3 S L s.heap.size k12) (cwV 3 hts gX10_test_X6_addTest rfl rfl rfl (by decide +kernel) ⟨Nat.le_of_ble_eq_true rfl, Nat.le_of_ble_eq_true rfl⟩) ⟨QXs_blind, va_recv hK hP (ci := 6) (q0 := 2) rfl rfl, fun U hU hW => ⟨rfl, congrArg Array.size hU, QX_at hP hK hD hU hW⟩⟩ rfl rfl hl.1 rfl (lv_room (Nat.le_of_ble_eq_true rfl)) dX10_test_50 ⟨Nat.zero_le _, Nat.zero_le _⟩) hS (fun q _ hq => AX_mono hS.1 hq) (fun q hq => AX_mono hS.1 hq) (fun r u t H1 locs ht hvm hw hB hz1 hk1 hS => ?_)
          cases hw
          rw [ht] at hB
          have hP := hB
          clear hB hk1 hz1
          generalize H1 = H at hP hS ⊢
          have hD := wX_D hD S13 L14
          cases h
          exact W.iret hx hb hr (fun t ht hW => ⟨⟨_, _, rfl, rfl, by show va_P _ _ _ t.heap; rw [ht]; exact hP⟩, hS.F ht⟩) hS.2.2 dX10_test_53
        · replace h := it_f c11 h
          refine lv_bipush (v := (-4)) hx hb dX10_test_40 (by decide) ?_
          cases h
          exact W.iret hx hb hr (fun t ht hW => ⟨⟨_, _, rfl, rfl, by show va_P _ _ _ t.heap; rw [ht]; exact hP⟩, hS.F ht⟩) hS.2.2 dX10_test_42
      · replace h := it_t c9 h
        refine lv_bipush (v := (-2)) hx hb dX10_test_24 (by decide) ?_
        cases h
        exact W.iret hx hb hr (fun t ht hW => ⟨⟨_, _, rfl, rfl, by show va_P _ _ _ t.heap; rw [ht]; exact hP⟩, hS.F ht⟩) hS.2.2 dX10_test_26
set_option maxHeartbeats 4000000 in
set_option maxRecDepth 100000 in
theorem mX11_ruleOf (l : Launch) (dC : Nat → ClassId) (dI : Nat → Nat → Nat) (cI cZ : ClassId) (ad : Nat → Nat) (p1 : Int32) (p2 : Int32) (S : Nat → Nat → Int32) {z : Int32} (h : sX11_ruleOf p1 p2 S = some z) : Met l yX11_ruleOf wsX11_ruleOf ({ frames := 0, cells := 0, slots := 0, locals := 0 }) (va_Pc [.ref (ad 0), .int p1, .int p2] (QM dC dI cI cZ ad S)) (vp_Si (fun r => r = z)) 0 0 (fun _ => False) := by
  refine Met.ofW (cc := cX11_ruleOf) (maxL := 3) (ret := (some .int)) (by decide) rfl ?_
  intro p e s m args below meth c s₁ B hml hv
  obtain ⟨rfl, hP, hK, hD⟩ := hv
  have hx := B.exec
  have hb := B.bytes
  have hr := B.returns
  have hts := atoms_spec (ws := wsX11_ruleOf) B.pre
  have hown : s.vm.findClass RX11 = some m.cls := findClass_of_methodNamed B.named
  have hlocks := B.notSynchronized
  have hl := lv_entry ([.ref (ad 0), .int p1, .int p2]) (n := 3) (Nat.le_of_ble_eq_true rfl)
  rw [lg_entry_eq]
  generalize (lg_sl ([.ref (ad 0), .int p1, .int p2]) ++ List.replicate (3 - (lg_sl ([.ref (ad 0), .int p1, .int p2])).length) Slot.unset).toArray = ls at hl ⊢
  have hl : lv_has ls 3 [(0, .ref (ad 0)), (1, .int p1), (2, .int p2)] := hl
  have hf7 := hts (.fieldLink RX11 7 "LawRingsModel" "st" "[I") (by decide +kernel)
  have hiX11 : ∀ w ∈ u_ws RX11 TX11 8, w ∈ wsX11_ruleOf := by decide +kernel
  rw [sX11_ruleOf] at h
  refine lv_aload_n hx hb dX11_ruleOf_0 rfl (lv_at hl 0 rfl) ?_
  refine va_get (D := (dC, dI)) (ci := 11) (v := .ref (ad 1)) (C := RX11) (T := TX11) (N := 8) hx hb hts hiX11 hown hK hP 0 rfl rfl 0 (by decide) hf7 (fun _ h9 => h9) rfl dX11_ruleOf_1 ?_
  refine lv_sipush (v := 282) hx hb dX11_ruleOf_4 (by decide) ?_
  refine lv_bipush (v := 11) hx hb dX11_ruleOf_7 (by decide) ?_
  refine lv_iload_n hx hb dX11_ruleOf_9 rfl (lv_at hl 1 rfl) ?_
  refine lv_imul hx hb dX11_ruleOf_10 ?_
  refine lv_iadd hx hb dX11_ruleOf_11 ?_
  refine lv_iload_n hx hb dX11_ruleOf_12 rfl (lv_at hl 2 rfl) ?_
  refine lv_iadd hx hb dX11_ruleOf_13 ?_
  obtain ⟨b1, h⟩ := ck_elim h
  refine va_iald hx hb hK hP 1 0 rfl rfl b1 dX11_ruleOf_14 ?_
  cases h
  exact W.iret hx hb hr (fun t ht hW => ⟨_, rfl, rfl, ht⟩) (fun q hq => absurd hq List.not_mem_nil) dX11_ruleOf_15
set_option maxHeartbeats 4000000 in
set_option maxRecDepth 100000 in
theorem mX11_test (l : Launch) (dC : Nat → ClassId) (dI : Nat → Nat → Nat) (cI cZ : ClassId) (ad : Nat → Nat) (p1 : Int32) (p2 : Int32) (p3 : Int32) (S : Nat → Nat → Int32) (sz : Nat) {z : Int32 × (Nat → Nat → Int32)} (h : sX11_test p1 p2 p3 S = some z) : Met l yX11_test wsX11_test ({ frames := 2, cells := 0, slots := 0, locals := 44 }) (va_Pc [.ref (ad 0), .int p1, .int p2, .int p3] (QMs sz dC dI cI cZ ad S)) (va_Qi (fun (r : Int32) (u : (Nat → Nat → Int32)) => (r, u) = z) (fun (u : (Nat → Nat → Int32)) t => va_P (dC, dI) vwCl (wM cI cZ ad u) t.heap) (AX 7 ad sz)) 0 0 (AX 7 ad sz) := by
  refine Met.ofW (cc := cX11_test) (maxL := 6) (ret := (some .int)) (by decide) rfl ?_
  intro p e s m args below meth c s₁ B hml hv
  obtain ⟨rfl, hsz, hP, hK, hD0⟩ := hv
  have hx := B.exec
  have hb := B.bytes
  have hr := B.returns
  have hts := atoms_spec (ws := wsX11_test) B.pre
  have hown : s.vm.findClass RX11 = some m.cls := findClass_of_methodNamed B.named
  have hlocks := B.notSynchronized
  subst hsz
  have hD := wM_DA hD0 s.heap.size
  have hS : va_S (AX 7 ad s.heap.size) s.heap s.heap [] := va_S.rf
  have hl := lv_entry ([.ref (ad 0), .int p1, .int p2, .int p3]) (n := 6) (Nat.le_of_ble_eq_true rfl)
  rw [lg_entry_eq]
  generalize (lg_sl ([.ref (ad 0), .int p1, .int p2, .int p3]) ++ List.replicate (6 - (lg_sl ([.ref (ad 0), .int p1, .int p2, .int p3])).length) Slot.unset).toArray = ls at hl ⊢
  have hl : lv_has ls 6 [(0, .ref (ad 0)), (1, .int p1), (2, .int p2), (3, .int p3)] := hl
  have hf7 := hts (.fieldLink RX11 7 "LawRingsModel" "st" "[I") (by decide +kernel)
  have hiX11 : ∀ w ∈ u_ws RX11 TX11 8, w ∈ wsX11_test := by decide +kernel
  rw [sX11_test] at h
  refine lv_aload_n hx hb dX11_test_0 rfl (lv_at hl 0 rfl) ?_
  refine lv_iconst (v := 2) hx hb dX11_test_1 (by decide) ?_
  refine lv_iload_n hx hb dX11_test_2 rfl (lv_at hl 1 rfl) ?_
  obtain ⟨r2, k1, h⟩ := ob_elim h
  refine vp_callSi (W.runV (As := [.int 2, .int p1]) (rest := []) ⟨hx, hb, hml, hown, hts⟩ (mX11_is l dC dI cI cZ ad 2 p1 S k1) (cwV 2 hts gX11_test_X11_is rfl rfl rfl (by decide +kernel) ⟨Nat.le_of_ble_eq_true rfl, Nat.le_of_ble_eq_true rfl⟩) ⟨QM_blind, va_recv hK hP (ci := 11) (q0 := 0) rfl rfl, fun U hU hW => ⟨rfl, QM_at hP hK hD hU hW⟩⟩ rfl rfl hl.1 rfl (lv_room (Nat.le_of_ble_eq_true rfl)) dX11_test_3 ⟨Nat.zero_le _, Nat.zero_le _⟩) (fun r9 er9 => ?_)
  replace er9 := er9.symm
  subst er9
  refine lv_if_eq (tgt := 26) hx hb dX11_test_6 (by decide) (fun c3 => ?_) (fun c3 => ?_)
  · replace h := it_t c3 h
    refine lv_bipush (v := (-2)) hx hb dX11_test_26 (by decide) ?_
    cases h
    exact W.iret hx hb hr (fun t ht hW => ⟨⟨_, _, rfl, rfl, by show va_P _ _ _ t.heap; rw [ht]; exact hP⟩, hS.F ht⟩) hS.2.2 dX11_test_28
  · replace h := it_f c3 h
    refine lv_iload_n hx hb dX11_test_9 rfl (lv_at hl 2 rfl) ?_
    obtain ⟨r5, k4, h⟩ := ob_elim h
    refine vp_callSi (W.runS (As := [.int p2]) (rest := []) ⟨hx, hb, hml, hown, hts⟩ (mX11_isTie l p2 k4) (va_cwS 1 hts gX11_test_X11_isTie rfl rfl rfl (by decide +kernel) ⟨Nat.le_of_ble_eq_true rfl, Nat.le_of_ble_eq_true rfl⟩) ⟨fun _ _ _ _ q => q, fun U hU hW => ⟨rfl, trivial⟩⟩ rfl rfl hl.1 rfl (lv_room (Nat.le_of_ble_eq_true rfl)) dX11_test_10 ⟨Nat.zero_le _, Nat.zero_le _⟩) (fun r9 er9 => ?_)
    replace er9 := er9.symm
    subst er9
    refine lv_if_eq (tgt := 26) hx hb dX11_test_13 (by decide) (fun c6 => ?_) (fun c6 => ?_)
    · replace h := it_t c6 h
      refine lv_bipush (v := (-2)) hx hb dX11_test_26 (by decide) ?_
      cases h
      exact W.iret hx hb hr (fun t ht hW => ⟨⟨_, _, rfl, rfl, by show va_P _ _ _ t.heap; rw [ht]; exact hP⟩, hS.F ht⟩) hS.2.2 dX11_test_28
    · replace h := it_f c6 h
      refine lv_iload_n hx hb dX11_test_16 rfl (lv_at hl 3 rfl) ?_
      refine lv_iconst (v := 0) hx hb dX11_test_17 (by decide) ?_
      refine lv_bipush (v := 13) hx hb dX11_test_18 (by decide) ?_
      obtain ⟨r8, k7, h⟩ := ob_elim h
      refine vp_callSi (W.runS (As := [.int p3, .int 0, .int 13]) (rest := []) ⟨hx, hb, hml, hown, hts⟩ (mX11_in l p3 0 13 k7) (va_cwS 3 hts gX11_test_X11_in rfl rfl rfl (by decide +kernel) ⟨Nat.le_of_ble_eq_true rfl, Nat.le_of_ble_eq_true rfl⟩) ⟨fun _ _ _ _ q => q, fun U hU hW => ⟨rfl, trivial⟩⟩ rfl rfl hl.1 rfl (lv_room (Nat.le_of_ble_eq_true rfl)) dX11_test_20 ⟨Nat.zero_le _, Nat.zero_le _⟩) (fun r9 er9 => ?_)
      replace er9 := er9.symm
      subst er9
      refine lv_if_ne (tgt := 29) hx hb dX11_test_23 (by decide) (fun c9 => ?_) (fun c9 => ?_)
      · replace h := it_f c9 h
        refine lv_aload_n hx hb dX11_test_29 rfl (lv_at hl 0 rfl) ?_
        refine lv_iload_n hx hb dX11_test_30 rfl (lv_at hl 1 rfl) ?_
        refine lv_bipush (v := 6) hx hb dX11_test_31 (by decide) ?_
        obtain ⟨r11, k10, h⟩ := ob_elim h
        refine vp_callSi (W.runV (As := [.int p1, .int 6]) (rest := []) ⟨hx, hb, hml, hown, hts⟩ (mX11_ruleOf l dC dI cI cZ ad p1 6 S k10) (cwV 2 hts gX11_test_X11_ruleOf rfl rfl rfl (by decide +kernel) ⟨Nat.le_of_ble_eq_true rfl, Nat.le_of_ble_eq_true rfl⟩) ⟨QM_blind, va_recv hK hP (ci := 11) (q0 := 0) rfl rfl, fun U hU hW => ⟨rfl, QM_at hP hK hD hU hW⟩⟩ rfl rfl hl.1 rfl (lv_room (Nat.le_of_ble_eq_true rfl)) dX11_test_33 ⟨Nat.zero_le _, Nat.zero_le _⟩) (fun r9 er9 => ?_)
        replace er9 := er9.symm
        subst er9
        refine lv_istore (lv' := [(4, .int r11), (0, .ref (ad 0)), (1, .int p1), (2, .int p2), (3, .int p3)]) hx hb dX11_test_36 hl (by decide) rfl (fun ls hl => ?_)
        refine lv_iload hx hb dX11_test_38 (lv_at hl 0 rfl) ?_
        refine lv_iconst (v := 2) hx hb dX11_test_40 (by decide) ?_
        refine lv_icmp_ne (tgt := 47) hx hb dX11_test_41 (by decide) (fun c12 => ?_) (fun c12 => ?_)
        · replace h := it_f c12 h
          refine lv_sipush (v := 282) hx hb dX11_test_47 (by decide) ?_
          refine lv_bipush (v := 11) hx hb dX11_test_50 (by decide) ?_
          refine lv_iload_n hx hb dX11_test_52 rfl (lv_at hl 2 rfl) ?_
          refine lv_imul hx hb dX11_test_53 ?_
          refine lv_iadd hx hb dX11_test_54 ?_
          obtain ⟨x13, ex13, h⟩ := bnd_elim h
          refine nm_i ex13 ?_
          refine lv_istore (lv' := [(5, .int x13), (4, .int r11), (0, .ref (ad 0)), (1, .int p1), (2, .int p2), (3, .int p3)]) hx hb dX11_test_55 hl (by decide) rfl (fun ls hl => ?_)
          refine lv_aload_n hx hb dX11_test_57 rfl (lv_at hl 2 rfl) ?_
          refine va_get (D := (dC, dI)) (ci := 11) (v := .ref (ad 1)) (C := RX11) (T := TX11) (N := 8) hx hb hts hiX11 hown hK hP 0 rfl rfl 0 (by decide) hf7 (fun _ h9 => h9) rfl dX11_test_58 ?_
          refine lv_iload hx hb dX11_test_61 (lv_at hl 0 rfl) ?_
          refine lv_bipush (v := 6) hx hb dX11_test_63 (by decide) ?_
          refine lv_iadd hx hb dX11_test_65 ?_
          refine lv_iconst (v := 1) hx hb dX11_test_66 (by decide) ?_
          refine lv_iadd hx hb dX11_test_67 ?_
          refine lv_iconst (v := 2) hx hb dX11_test_68 (by decide) ?_
          refine lv_iload hx hb dX11_test_69 (lv_at hl 1 rfl) ?_
          refine lv_imul hx hb dX11_test_71 ?_
          refine lv_iadd hx hb dX11_test_72 ?_
          refine lv_iload_n hx hb dX11_test_73 rfl (lv_at hl 4 rfl) ?_
          obtain ⟨b14, h⟩ := ck_elim h
          obtain ⟨S15, eS15, h⟩ := bnd_elim h
          refine va_iast hx hb hK hP hD hS 1 0 rfl rfl b14 dX11_test_74 (fun H locs hP9 _ hS => ?_)
          have hP := swM_1 hP9
          rw [← eS15] at hP
          have hD := wM_D hD S15
          refine lv_aload_n hx hb dX11_test_75 rfl (lv_at hl 2 rfl) ?_
          refine va_get (D := (dC, dI)) (ci := 11) (v := .ref (ad 1)) (C := RX11) (T := TX11) (N := 8) hx hb hts hiX11 hown hK hP 0 rfl rfl 0 (by decide) hf7 (fun _ h9 => h9) rfl dX11_test_76 ?_
          refine lv_iload hx hb dX11_test_79 (lv_at hl 0 rfl) ?_
          refine lv_bipush (v := 6) hx hb dX11_test_81 (by decide) ?_
          refine lv_iadd hx hb dX11_test_83 ?_
          refine lv_iconst (v := 2) hx hb dX11_test_84 (by decide) ?_
          refine lv_iadd hx hb dX11_test_85 ?_
          refine lv_iconst (v := 2) hx hb dX11_test_86 (by decide) ?_
          refine lv_iload hx hb dX11_test_87 (lv_at hl 1 rfl) ?_
          refine lv_imul hx hb dX11_test_89 ?_
          refine lv_iadd hx hb dX11_test_90 ?_
          refine lv_iload_n hx hb dX11_test_91 rfl (lv_at hl 5 rfl) ?_
          obtain ⟨b16, h⟩ := ck_elim h
          obtain ⟨S17, eS17, h⟩ := bnd_elim h
          refine va_iast hx hb hK hP hD hS 1 0 rfl rfl b16 dX11_test_92 (fun H locs hP9 _ hS => ?_)
          have hP := swM_1 hP9
          rw [← eS17] at hP
          have hD := wM_D hD S17
          refine lv_aload_n hx hb dX11_test_93 rfl (lv_at hl 2 rfl) ?_
          refine va_get (D := (dC, dI)) (ci := 11) (v := .ref (ad 1)) (C := RX11) (T := TX11) (N := 8) hx hb hts hiX11 hown hK hP 0 rfl rfl 0 (by decide) hf7 (fun _ h9 => h9) rfl dX11_test_94 ?_
          refine lv_iload hx hb dX11_test_97 (lv_at hl 0 rfl) ?_
          refine lv_bipush (v := 6) hx hb dX11_test_99 (by decide) ?_
          refine lv_iadd hx hb dX11_test_101 ?_
          obtain ⟨x18, ex18, h⟩ := bnd_elim h
          refine nm_i ex18 ?_
          refine lv_dup2_11 hx hb dX11_test_102 rfl rfl ?_
          obtain ⟨b19, h⟩ := ck_elim h
          refine va_iald hx hb hK hP 1 0 rfl rfl b19 dX11_test_103 ?_
          refine lv_iconst (v := 1) hx hb dX11_test_104 (by decide) ?_
          refine lv_iadd hx hb dX11_test_105 ?_
          obtain ⟨b20, h⟩ := ck_elim h
          obtain ⟨S21, eS21, h⟩ := bnd_elim h
          refine va_iast hx hb hK hP hD hS 1 0 rfl rfl b20 dX11_test_106 (fun H locs hP9 _ hS => ?_)
          have hP := swM_1 hP9
          rw [← eS21] at hP
          have hD := wM_D hD S21
          refine lv_iload hx hb dX11_test_107 (lv_at hl 1 rfl) ?_
          refine lv_iconst (v := 1) hx hb dX11_test_109 (by decide) ?_
          refine lv_iadd hx hb dX11_test_110 ?_
          cases h
          exact W.iret hx hb hr (fun t ht hW => ⟨⟨_, _, rfl, rfl, by show va_P _ _ _ t.heap; rw [ht]; exact hP⟩, hS.F ht⟩) hS.2.2 dX11_test_111
        · replace h := it_t c12 h
          refine lv_bipush (v := (-4)) hx hb dX11_test_44 (by decide) ?_
          cases h
          exact W.iret hx hb hr (fun t ht hW => ⟨⟨_, _, rfl, rfl, by show va_P _ _ _ t.heap; rw [ht]; exact hP⟩, hS.F ht⟩) hS.2.2 dX11_test_46
      · replace h := it_t c9 h
        refine lv_bipush (v := (-2)) hx hb dX11_test_26 (by decide) ?_
        cases h
        exact W.iret hx hb hr (fun t ht hW => ⟨⟨_, _, rfl, rfl, by show va_P _ _ _ t.heap; rw [ht]; exact hP⟩, hS.F ht⟩) hS.2.2 dX11_test_28
set_option maxHeartbeats 4000000 in
set_option maxRecDepth 100000 in
theorem mX10_strike (l : Launch) (dC : Nat → ClassId) (dI : Nat → Nat → Nat) (cI cJ : ClassId) (ad : Nat → Nat) (p1 : Int32) (p2 : Int32) (S : Nat → Nat → Int32) (L : Nat → Nat → Int64) (sz : Nat) {z : Int32 × (Nat → Nat → Int32) × (Nat → Nat → Int64)} (h : sX10_strike p1 p2 S L = some z) : Met l yX10_strike wsX10_strike ({ frames := 2, cells := 0, slots := 0, locals := 42 }) (va_Pc [.ref (ad 0), .int p1, .int p2] (QXs sz dC dI cI cJ ad S L)) (va_Qi (fun (r : Int32) (u : (Nat → Nat → Int32) × (Nat → Nat → Int64)) => (r, u) = z) (fun (u : (Nat → Nat → Int32) × (Nat → Nat → Int64)) t => va_P (dC, dI) vwCl (wX cI cJ ad u.1 u.2) t.heap) (AX 43 ad sz)) 0 0 (AX 43 ad sz) := by
  refine Met.ofW (cc := cX10_strike) (maxL := 3) (ret := (some .int)) (by decide) rfl ?_
  intro p e s m args below meth c s₁ B hml hv
  obtain ⟨rfl, hsz, hP, hK, hD0⟩ := hv
  have hx := B.exec
  have hb := B.bytes
  have hr := B.returns
  have hts := atoms_spec (ws := wsX10_strike) B.pre
  have hown : s.vm.findClass RX10 = some m.cls := findClass_of_methodNamed B.named
  have hlocks := B.notSynchronized
  subst hsz
  have hD := wX_DA hD0 s.heap.size
  have hS : va_S (AX 43 ad s.heap.size) s.heap s.heap [] := va_S.rf
  have hl := lv_entry ([.ref (ad 0), .int p1, .int p2]) (n := 3) (Nat.le_of_ble_eq_true rfl)
  rw [lg_entry_eq]
  generalize (lg_sl ([.ref (ad 0), .int p1, .int p2]) ++ List.replicate (3 - (lg_sl ([.ref (ad 0), .int p1, .int p2])).length) Slot.unset).toArray = ls at hl ⊢
  have hl : lv_has ls 3 [(0, .ref (ad 0)), (1, .int p1), (2, .int p2)] := hl
  have hf19 := hts (.fieldLink RX10 19 "LawRings" "rules" "LLawRings$Rules;") (by decide +kernel)
  have hiX10 : ∀ w ∈ u_ws RX10 TX10 11, w ∈ wsX10_strike := by decide +kernel
  have hf144 := hts (.fieldLink RX10 144 "LawRings$Rules" "struck" "[I") (by decide +kernel)
  have hiX6 : ∀ w ∈ u_ws RX6 TX6 13, w ∈ wsX10_strike := by decide +kernel
  rw [sX10_strike] at h
  refine lv_aload_n hx hb dX10_strike_0 rfl (lv_at hl 0 rfl) ?_
  refine lv_iload_n hx hb dX10_strike_1 rfl (lv_at hl 1 rfl) ?_
  obtain ⟨r2, k1, h⟩ := ob_elim h
  refine vp_callSi (W.runV (As := [.int p1]) (rest := []) ⟨hx, hb, hml, hown, hts⟩ (mX10_isRule l dC dI cI cJ ad p1 S L k1) (cwV 1 hts gX10_strike_X10_isRule rfl rfl rfl (by decide +kernel) ⟨Nat.le_of_ble_eq_true rfl, Nat.le_of_ble_eq_true rfl⟩) ⟨QX_blind, va_recv hK hP (ci := 10) (q0 := 0) rfl rfl, fun U hU hW => ⟨rfl, QX_at hP hK hD hU hW⟩⟩ rfl rfl hl.1 rfl (lv_room (Nat.le_of_ble_eq_true rfl)) dX10_strike_2 ⟨Nat.zero_le _, Nat.zero_le _⟩) (fun r9 er9 => ?_)
  replace er9 := er9.symm
  subst er9
  refine lv_if_eq (tgt := 15) hx hb dX10_strike_5 (by decide) (fun c3 => ?_) (fun c3 => ?_)
  · replace h := it_t c3 h
    refine lv_bipush (v := (-2)) hx hb dX10_strike_15 (by decide) ?_
    cases h
    exact W.iret hx hb hr (fun t ht hW => ⟨⟨_, _, rfl, rfl, by show va_P _ _ _ t.heap; rw [ht]; exact hP⟩, hS.F ht⟩) hS.2.2 dX10_strike_17
  · replace h := it_f c3 h
    refine lv_iload_n hx hb dX10_strike_8 rfl (lv_at hl 2 rfl) ?_
    obtain ⟨r5, k4, h⟩ := ob_elim h
    refine vp_callSi (W.runS (As := [.int p2]) (rest := []) ⟨hx, hb, hml, hown, hts⟩ (mX10_isDay l p2 k4) (va_cwS 1 hts gX10_strike_X10_isDay rfl rfl rfl (by decide +kernel) ⟨Nat.le_of_ble_eq_true rfl, Nat.le_of_ble_eq_true rfl⟩) ⟨fun _ _ _ _ q => q, fun U hU hW => ⟨rfl, trivial⟩⟩ rfl rfl hl.1 rfl (lv_room (Nat.le_of_ble_eq_true rfl)) dX10_strike_9 ⟨Nat.zero_le _, Nat.zero_le _⟩) (fun r9 er9 => ?_)
    replace er9 := er9.symm
    subst er9
    refine lv_if_ne (tgt := 18) hx hb dX10_strike_12 (by decide) (fun c6 => ?_) (fun c6 => ?_)
    · replace h := it_f c6 h
      refine lv_aload_n hx hb dX10_strike_18 rfl (lv_at hl 0 rfl) ?_
      refine va_get (D := (dC, dI)) (ci := 10) (v := .ref (ad 2)) (C := RX10) (T := TX10) (N := 11) hx hb hts hiX10 hown hK hP 0 rfl rfl 1 (by decide) hf19 (fun _ h9 => h9) rfl dX10_strike_19 ?_
      refine va_get (D := (dC, dI)) (ci := 6) (v := .ref (ad 22)) (C := RX6) (T := TX6) (N := 13) hx hb hts hiX6 hown hK hP 2 rfl rfl 6 (by decide) hf144 (fun _ h9 => h9) rfl dX10_strike_22 ?_
      refine lv_iload_n hx hb dX10_strike_25 rfl (lv_at hl 1 rfl) ?_
      obtain ⟨b7, h⟩ := ck_elim h
      refine va_iald hx hb hK hP 22 0 rfl rfl b7 dX10_strike_26 ?_
      refine lv_iconst (v := (-1)) hx hb dX10_strike_27 (by decide) ?_
      refine lv_icmp_eq (tgt := 34) hx hb dX10_strike_28 (by decide) (fun c8 => ?_) (fun c8 => ?_)
      · replace h := it_t c8 h
        refine lv_aload_n hx hb dX10_strike_34 rfl (lv_at hl 0 rfl) ?_
        refine va_get (D := (dC, dI)) (ci := 10) (v := .ref (ad 2)) (C := RX10) (T := TX10) (N := 11) hx hb hts hiX10 hown hK hP 0 rfl rfl 1 (by decide) hf19 (fun _ h9 => h9) rfl dX10_strike_35 ?_
        refine va_get (D := (dC, dI)) (ci := 6) (v := .ref (ad 22)) (C := RX6) (T := TX6) (N := 13) hx hb hts hiX6 hown hK hP 2 rfl rfl 6 (by decide) hf144 (fun _ h9 => h9) rfl dX10_strike_38 ?_
        refine lv_iload_n hx hb dX10_strike_41 rfl (lv_at hl 1 rfl) ?_
        refine lv_iload_n hx hb dX10_strike_42 rfl (lv_at hl 2 rfl) ?_
        obtain ⟨b9, h⟩ := ck_elim h
        obtain ⟨S10, eS10, h⟩ := bnd_elim h
        refine va_iast hx hb hK hP hD hS 22 0 rfl rfl b9 dX10_strike_43 (fun H locs hP9 _ hS => ?_)
        have hP := swX_22 hP9
        rw [← eS10] at hP
        have hD := wX_D hD S10 L
        refine lv_iconst (v := 1) hx hb dX10_strike_44 (by decide) ?_
        cases h
        exact W.iret hx hb hr (fun t ht hW => ⟨⟨_, _, rfl, rfl, by show va_P _ _ _ t.heap; rw [ht]; exact hP⟩, hS.F ht⟩) hS.2.2 dX10_strike_45
      · replace h := it_f c8 h
        refine lv_bipush (v := (-3)) hx hb dX10_strike_31 (by decide) ?_
        cases h
        exact W.iret hx hb hr (fun t ht hW => ⟨⟨_, _, rfl, rfl, by show va_P _ _ _ t.heap; rw [ht]; exact hP⟩, hS.F ht⟩) hS.2.2 dX10_strike_33
    · replace h := it_t c6 h
      refine lv_bipush (v := (-2)) hx hb dX10_strike_15 (by decide) ?_
      cases h
      exact W.iret hx hb hr (fun t ht hW => ⟨⟨_, _, rfl, rfl, by show va_P _ _ _ t.heap; rw [ht]; exact hP⟩, hS.F ht⟩) hS.2.2 dX10_strike_17
set_option maxHeartbeats 4000000 in
set_option maxRecDepth 100000 in
theorem mX11_strike (l : Launch) (dC : Nat → ClassId) (dI : Nat → Nat → Nat) (cI cZ : ClassId) (ad : Nat → Nat) (p1 : Int32) (p2 : Int32) (S : Nat → Nat → Int32) (sz : Nat) {z : Int32 × (Nat → Nat → Int32)} (h : sX11_strike p1 p2 S = some z) : Met l yX11_strike wsX11_strike ({ frames := 2, cells := 0, slots := 0, locals := 44 }) (va_Pc [.ref (ad 0), .int p1, .int p2] (QMs sz dC dI cI cZ ad S)) (va_Qi (fun (r : Int32) (u : (Nat → Nat → Int32)) => (r, u) = z) (fun (u : (Nat → Nat → Int32)) t => va_P (dC, dI) vwCl (wM cI cZ ad u) t.heap) (AX 7 ad sz)) 0 0 (AX 7 ad sz) := by
  refine Met.ofW (cc := cX11_strike) (maxL := 3) (ret := (some .int)) (by decide) rfl ?_
  intro p e s m args below meth c s₁ B hml hv
  obtain ⟨rfl, hsz, hP, hK, hD0⟩ := hv
  have hx := B.exec
  have hb := B.bytes
  have hr := B.returns
  have hts := atoms_spec (ws := wsX11_strike) B.pre
  have hown : s.vm.findClass RX11 = some m.cls := findClass_of_methodNamed B.named
  have hlocks := B.notSynchronized
  subst hsz
  have hD := wM_DA hD0 s.heap.size
  have hS : va_S (AX 7 ad s.heap.size) s.heap s.heap [] := va_S.rf
  have hl := lv_entry ([.ref (ad 0), .int p1, .int p2]) (n := 3) (Nat.le_of_ble_eq_true rfl)
  rw [lg_entry_eq]
  generalize (lg_sl ([.ref (ad 0), .int p1, .int p2]) ++ List.replicate (3 - (lg_sl ([.ref (ad 0), .int p1, .int p2])).length) Slot.unset).toArray = ls at hl ⊢
  have hl : lv_has ls 3 [(0, .ref (ad 0)), (1, .int p1), (2, .int p2)] := hl
  have hf7 := hts (.fieldLink RX11 7 "LawRingsModel" "st" "[I") (by decide +kernel)
  have hiX11 : ∀ w ∈ u_ws RX11 TX11 8, w ∈ wsX11_strike := by decide +kernel
  rw [sX11_strike] at h
  refine lv_aload_n hx hb dX11_strike_0 rfl (lv_at hl 0 rfl) ?_
  refine lv_iconst (v := 2) hx hb dX11_strike_1 (by decide) ?_
  refine lv_iload_n hx hb dX11_strike_2 rfl (lv_at hl 1 rfl) ?_
  obtain ⟨r2, k1, h⟩ := ob_elim h
  refine vp_callSi (W.runV (As := [.int 2, .int p1]) (rest := []) ⟨hx, hb, hml, hown, hts⟩ (mX11_is l dC dI cI cZ ad 2 p1 S k1) (cwV 2 hts gX11_strike_X11_is rfl rfl rfl (by decide +kernel) ⟨Nat.le_of_ble_eq_true rfl, Nat.le_of_ble_eq_true rfl⟩) ⟨QM_blind, va_recv hK hP (ci := 11) (q0 := 0) rfl rfl, fun U hU hW => ⟨rfl, QM_at hP hK hD hU hW⟩⟩ rfl rfl hl.1 rfl (lv_room (Nat.le_of_ble_eq_true rfl)) dX11_strike_3 ⟨Nat.zero_le _, Nat.zero_le _⟩) (fun r9 er9 => ?_)
  replace er9 := er9.symm
  subst er9
  refine lv_if_eq (tgt := 16) hx hb dX11_strike_6 (by decide) (fun c3 => ?_) (fun c3 => ?_)
  · replace h := it_t c3 h
    refine lv_bipush (v := (-2)) hx hb dX11_strike_16 (by decide) ?_
    cases h
    exact W.iret hx hb hr (fun t ht hW => ⟨⟨_, _, rfl, rfl, by show va_P _ _ _ t.heap; rw [ht]; exact hP⟩, hS.F ht⟩) hS.2.2 dX11_strike_18
  · replace h := it_f c3 h
    refine lv_iload_n hx hb dX11_strike_9 rfl (lv_at hl 2 rfl) ?_
    obtain ⟨r5, k4, h⟩ := ob_elim h
    refine vp_callSi (W.runS (As := [.int p2]) (rest := []) ⟨hx, hb, hml, hown, hts⟩ (mX11_isDay l p2 k4) (va_cwS 1 hts gX11_strike_X11_isDay rfl rfl rfl (by decide +kernel) ⟨Nat.le_of_ble_eq_true rfl, Nat.le_of_ble_eq_true rfl⟩) ⟨fun _ _ _ _ q => q, fun U hU hW => ⟨rfl, trivial⟩⟩ rfl rfl hl.1 rfl (lv_room (Nat.le_of_ble_eq_true rfl)) dX11_strike_10 ⟨Nat.zero_le _, Nat.zero_le _⟩) (fun r9 er9 => ?_)
    replace er9 := er9.symm
    subst er9
    refine lv_if_ne (tgt := 19) hx hb dX11_strike_13 (by decide) (fun c6 => ?_) (fun c6 => ?_)
    · replace h := it_f c6 h
      refine lv_aload_n hx hb dX11_strike_19 rfl (lv_at hl 0 rfl) ?_
      refine lv_iload_n hx hb dX11_strike_20 rfl (lv_at hl 1 rfl) ?_
      refine lv_iconst (v := 5) hx hb dX11_strike_21 (by decide) ?_
      obtain ⟨r8, k7, h⟩ := ob_elim h
      refine vp_callSi (W.runV (As := [.int p1, .int 5]) (rest := []) ⟨hx, hb, hml, hown, hts⟩ (mX11_ruleOf l dC dI cI cZ ad p1 5 S k7) (cwV 2 hts gX11_strike_X11_ruleOf rfl rfl rfl (by decide +kernel) ⟨Nat.le_of_ble_eq_true rfl, Nat.le_of_ble_eq_true rfl⟩) ⟨QM_blind, va_recv hK hP (ci := 11) (q0 := 0) rfl rfl, fun U hU hW => ⟨rfl, QM_at hP hK hD hU hW⟩⟩ rfl rfl hl.1 rfl (lv_room (Nat.le_of_ble_eq_true rfl)) dX11_strike_22 ⟨Nat.zero_le _, Nat.zero_le _⟩) (fun r9 er9 => ?_)
      replace er9 := er9.symm
      subst er9
      refine lv_iconst (v := (-1)) hx hb dX11_strike_25 (by decide) ?_
      refine lv_icmp_eq (tgt := 32) hx hb dX11_strike_26 (by decide) (fun c9 => ?_) (fun c9 => ?_)
      · replace h := it_t c9 h
        refine lv_aload_n hx hb dX11_strike_32 rfl (lv_at hl 0 rfl) ?_
        refine va_get (D := (dC, dI)) (ci := 11) (v := .ref (ad 1)) (C := RX11) (T := TX11) (N := 8) hx hb hts hiX11 hown hK hP 0 rfl rfl 0 (by decide) hf7 (fun _ h9 => h9) rfl dX11_strike_33 ?_
        refine lv_sipush (v := 282) hx hb dX11_strike_36 (by decide) ?_
        refine lv_bipush (v := 11) hx hb dX11_strike_39 (by decide) ?_
        refine lv_iload_n hx hb dX11_strike_41 rfl (lv_at hl 1 rfl) ?_
        refine lv_imul hx hb dX11_strike_42 ?_
        refine lv_iadd hx hb dX11_strike_43 ?_
        refine lv_iconst (v := 5) hx hb dX11_strike_44 (by decide) ?_
        refine lv_iadd hx hb dX11_strike_45 ?_
        refine lv_iload_n hx hb dX11_strike_46 rfl (lv_at hl 2 rfl) ?_
        obtain ⟨b10, h⟩ := ck_elim h
        obtain ⟨S11, eS11, h⟩ := bnd_elim h
        refine va_iast hx hb hK hP hD hS 1 0 rfl rfl b10 dX11_strike_47 (fun H locs hP9 _ hS => ?_)
        have hP := swM_1 hP9
        rw [← eS11] at hP
        have hD := wM_D hD S11
        refine lv_iconst (v := 1) hx hb dX11_strike_48 (by decide) ?_
        cases h
        exact W.iret hx hb hr (fun t ht hW => ⟨⟨_, _, rfl, rfl, by show va_P _ _ _ t.heap; rw [ht]; exact hP⟩, hS.F ht⟩) hS.2.2 dX11_strike_49
      · replace h := it_f c9 h
        refine lv_bipush (v := (-3)) hx hb dX11_strike_29 (by decide) ?_
        cases h
        exact W.iret hx hb hr (fun t ht hW => ⟨⟨_, _, rfl, rfl, by show va_P _ _ _ t.heap; rw [ht]; exact hP⟩, hS.F ht⟩) hS.2.2 dX11_strike_31
    · replace h := it_t c6 h
      refine lv_bipush (v := (-2)) hx hb dX11_strike_16 (by decide) ?_
      cases h
      exact W.iret hx hb hr (fun t ht hW => ⟨⟨_, _, rfl, rfl, by show va_P _ _ _ t.heap; rw [ht]; exact hP⟩, hS.F ht⟩) hS.2.2 dX11_strike_18
set_option maxHeartbeats 4000000 in
set_option maxRecDepth 100000 in
theorem mX5_ownKind (l : Launch) (dC : Nat → ClassId) (dI : Nat → Nat → Nat) (cI cJ : ClassId) (ad : Nat → Nat) (p1 : Int32) (p2 : Int32) (S : Nat → Nat → Int32) (L : Nat → Nat → Int64) {z : Int32} (h : sX5_ownKind p1 p2 S L = some z) : Met l yX5_ownKind wsX5_ownKind ({ frames := 0, cells := 0, slots := 0, locals := 0 }) (va_Pc [.ref (ad 3), .int p1, .int p2] (QX dC dI cI cJ ad S L)) (vp_Si (fun r => r = z)) 0 0 (fun _ => False) := by
  refine Met.ofW (cc := cX5_ownKind) (maxL := 3) (ret := (some .int)) (by decide) rfl ?_
  intro p e s m args below meth c s₁ B hml hv
  obtain ⟨rfl, hP, hK, hD⟩ := hv
  have hx := B.exec
  have hb := B.bytes
  have hr := B.returns
  have hts := atoms_spec (ws := wsX5_ownKind) B.pre
  have hown : s.vm.findClass RX5 = some m.cls := findClass_of_methodNamed B.named
  have hlocks := B.notSynchronized
  have hl := lv_entry ([.ref (ad 3), .int p1, .int p2]) (n := 3) (Nat.le_of_ble_eq_true rfl)
  rw [lg_entry_eq]
  generalize (lg_sl ([.ref (ad 3), .int p1, .int p2]) ++ List.replicate (3 - (lg_sl ([.ref (ad 3), .int p1, .int p2])).length) Slot.unset).toArray = ls at hl ⊢
  have hl : lv_has ls 3 [(0, .ref (ad 3)), (1, .int p1), (2, .int p2)] := hl
  have hf9 := hts (.fieldLink RX5 9 "LawRings$Lands" "sorts" "[I") (by decide +kernel)
  have hiX5 : ∀ w ∈ u_ws RX5 TX5 2, w ∈ wsX5_ownKind := by decide +kernel
  rw [sX5_ownKind] at h
  refine lv_aload_n hx hb dX5_ownKind_0 rfl (lv_at hl 0 rfl) ?_
  refine va_get (D := (dC, dI)) (ci := 5) (v := .ref (ad 29)) (C := RX5) (T := TX5) (N := 2) hx hb hts hiX5 hown hK hP 3 rfl rfl 0 (by decide) hf9 (fun _ h9 => h9) rfl dX5_ownKind_1 ?_
  refine lv_iload_n hx hb dX5_ownKind_4 rfl (lv_at hl 1 rfl) ?_
  refine lv_iconst (v := 3) hx hb dX5_ownKind_5 (by decide) ?_
  refine lv_imul hx hb dX5_ownKind_6 ?_
  refine lv_iload_n hx hb dX5_ownKind_7 rfl (lv_at hl 2 rfl) ?_
  refine lv_iadd hx hb dX5_ownKind_8 ?_
  obtain ⟨b1, h⟩ := ck_elim h
  refine va_iald hx hb hK hP 29 0 rfl rfl b1 dX5_ownKind_9 ?_
  cases h
  exact W.iret hx hb hr (fun t ht hW => ⟨_, rfl, rfl, ht⟩) (fun q hq => absurd hq List.not_mem_nil) dX5_ownKind_10
set_option maxHeartbeats 4000000 in
set_option maxRecDepth 100000 in
theorem mX10_sort (l : Launch) (dC : Nat → ClassId) (dI : Nat → Nat → Nat) (cI cJ : ClassId) (ad : Nat → Nat) (p1 : Int32) (p2 : Int32) (p3 : Int32) (S : Nat → Nat → Int32) (L : Nat → Nat → Int64) (sz : Nat) {z : Int32 × (Nat → Nat → Int32) × (Nat → Nat → Int64)} (h : sX10_sort p1 p2 p3 S L = some z) : Met l yX10_sort wsX10_sort ({ frames := 2, cells := 0, slots := 0, locals := 41 }) (va_Pc [.ref (ad 0), .int p1, .int p2, .int p3] (QXs sz dC dI cI cJ ad S L)) (va_Qi (fun (r : Int32) (u : (Nat → Nat → Int32) × (Nat → Nat → Int64)) => (r, u) = z) (fun (u : (Nat → Nat → Int32) × (Nat → Nat → Int64)) t => va_P (dC, dI) vwCl (wX cI cJ ad u.1 u.2) t.heap) (AX 43 ad sz)) 0 0 (AX 43 ad sz) := by
  refine Met.ofW (cc := cX10_sort) (maxL := 5) (ret := (some .int)) (by decide) rfl ?_
  intro p e s m args below meth c s₁ B hml hv
  obtain ⟨rfl, hsz, hP, hK, hD0⟩ := hv
  have hx := B.exec
  have hb := B.bytes
  have hr := B.returns
  have hts := atoms_spec (ws := wsX10_sort) B.pre
  have hown : s.vm.findClass RX10 = some m.cls := findClass_of_methodNamed B.named
  have hlocks := B.notSynchronized
  subst hsz
  have hD := wX_DA hD0 s.heap.size
  have hS : va_S (AX 43 ad s.heap.size) s.heap s.heap [] := va_S.rf
  have hl := lv_entry ([.ref (ad 0), .int p1, .int p2, .int p3]) (n := 5) (Nat.le_of_ble_eq_true rfl)
  rw [lg_entry_eq]
  generalize (lg_sl ([.ref (ad 0), .int p1, .int p2, .int p3]) ++ List.replicate (5 - (lg_sl ([.ref (ad 0), .int p1, .int p2, .int p3])).length) Slot.unset).toArray = ls at hl ⊢
  have hl : lv_has ls 5 [(0, .ref (ad 0)), (1, .int p1), (2, .int p2), (3, .int p3)] := hl
  have hf26 := hts (.fieldLink RX10 26 "LawRings" "lands" "LLawRings$Lands;") (by decide +kernel)
  have hiX10 : ∀ w ∈ u_ws RX10 TX10 11, w ∈ wsX10_sort := by decide +kernel
  have hf150 := hts (.fieldLink RX10 150 "LawRings$Lands" "sorts" "[I") (by decide +kernel)
  have hiX5 : ∀ w ∈ u_ws RX5 TX5 2, w ∈ wsX10_sort := by decide +kernel
  rw [sX10_sort] at h
  refine lv_iload_n hx hb dX10_sort_0 rfl (lv_at hl 1 rfl) ?_
  obtain ⟨r2, k1, h⟩ := ob_elim h
  refine vp_callSi (W.runS (As := [.int p1]) (rest := []) ⟨hx, hb, hml, hown, hts⟩ (mX10_isLand l p1 k1) (va_cwS 1 hts gX10_sort_X10_isLand rfl rfl rfl (by decide +kernel) ⟨Nat.le_of_ble_eq_true rfl, Nat.le_of_ble_eq_true rfl⟩) ⟨fun _ _ _ _ q => q, fun U hU hW => ⟨rfl, trivial⟩⟩ rfl rfl hl.1 rfl (lv_room (Nat.le_of_ble_eq_true rfl)) dX10_sort_1 ⟨Nat.zero_le _, Nat.zero_le _⟩) (fun r9 er9 => ?_)
  replace er9 := er9.symm
  subst er9
  refine lv_if_eq (tgt := 21) hx hb dX10_sort_4 (by decide) (fun c3 => ?_) (fun c3 => ?_)
  · replace h := it_t c3 h
    refine lv_bipush (v := (-2)) hx hb dX10_sort_21 (by decide) ?_
    cases h
    exact W.iret hx hb hr (fun t ht hW => ⟨⟨_, _, rfl, rfl, by show va_P _ _ _ t.heap; rw [ht]; exact hP⟩, hS.F ht⟩) hS.2.2 dX10_sort_23
  · replace h := it_f c3 h
    refine lv_iload_n hx hb dX10_sort_7 rfl (lv_at hl 2 rfl) ?_
    obtain ⟨r5, k4, h⟩ := ob_elim h
    refine vp_callSi (W.runS (As := [.int p2]) (rest := []) ⟨hx, hb, hml, hown, hts⟩ (mX10_isKind l p2 k4) (va_cwS 1 hts gX10_sort_X10_isKind rfl rfl rfl (by decide +kernel) ⟨Nat.le_of_ble_eq_true rfl, Nat.le_of_ble_eq_true rfl⟩) ⟨fun _ _ _ _ q => q, fun U hU hW => ⟨rfl, trivial⟩⟩ rfl rfl hl.1 rfl (lv_room (Nat.le_of_ble_eq_true rfl)) dX10_sort_8 ⟨Nat.zero_le _, Nat.zero_le _⟩) (fun r9 er9 => ?_)
    replace er9 := er9.symm
    subst er9
    refine lv_if_eq (tgt := 21) hx hb dX10_sort_11 (by decide) (fun c6 => ?_) (fun c6 => ?_)
    · replace h := it_t c6 h
      refine lv_bipush (v := (-2)) hx hb dX10_sort_21 (by decide) ?_
      cases h
      exact W.iret hx hb hr (fun t ht hW => ⟨⟨_, _, rfl, rfl, by show va_P _ _ _ t.heap; rw [ht]; exact hP⟩, hS.F ht⟩) hS.2.2 dX10_sort_23
    · replace h := it_f c6 h
      refine lv_iload_n hx hb dX10_sort_14 rfl (lv_at hl 3 rfl) ?_
      obtain ⟨r8, k7, h⟩ := ob_elim h
      refine vp_callSi (W.runS (As := [.int p3]) (rest := []) ⟨hx, hb, hml, hown, hts⟩ (mX10_isKind l p3 k7) (va_cwS 1 hts gX10_sort_X10_isKind rfl rfl rfl (by decide +kernel) ⟨Nat.le_of_ble_eq_true rfl, Nat.le_of_ble_eq_true rfl⟩) ⟨fun _ _ _ _ q => q, fun U hU hW => ⟨rfl, trivial⟩⟩ rfl rfl hl.1 rfl (lv_room (Nat.le_of_ble_eq_true rfl)) dX10_sort_15 ⟨Nat.zero_le _, Nat.zero_le _⟩) (fun r9 er9 => ?_)
      replace er9 := er9.symm
      subst er9
      refine lv_if_ne (tgt := 24) hx hb dX10_sort_18 (by decide) (fun c9 => ?_) (fun c9 => ?_)
      · replace h := it_f c9 h
        refine lv_aload_n hx hb dX10_sort_24 rfl (lv_at hl 0 rfl) ?_
        refine va_get (D := (dC, dI)) (ci := 10) (v := .ref (ad 3)) (C := RX10) (T := TX10) (N := 11) hx hb hts hiX10 hown hK hP 0 rfl rfl 2 (by decide) hf26 (fun _ h9 => h9) rfl dX10_sort_25 ?_
        refine lv_iload_n hx hb dX10_sort_28 rfl (lv_at hl 1 rfl) ?_
        refine lv_iload_n hx hb dX10_sort_29 rfl (lv_at hl 2 rfl) ?_
        obtain ⟨r11, k10, h⟩ := ob_elim h
        refine vp_callSi (W.runV (As := [.int p1, .int p2]) (rest := []) ⟨hx, hb, hml, hown, hts⟩ (mX5_ownKind l dC dI cI cJ ad p1 p2 S L k10) (cwV 2 hts gX10_sort_X5_ownKind rfl rfl rfl (by decide +kernel) ⟨Nat.le_of_ble_eq_true rfl, Nat.le_of_ble_eq_true rfl⟩) ⟨QX_blind, va_recv hK hP (ci := 5) (q0 := 3) rfl rfl, fun U hU hW => ⟨rfl, QX_at hP hK hD hU hW⟩⟩ rfl rfl hl.1 rfl (lv_room (Nat.le_of_ble_eq_true rfl)) dX10_sort_30 ⟨Nat.zero_le _, Nat.zero_le _⟩) (fun r9 er9 => ?_)
        replace er9 := er9.symm
        subst er9
        refine lv_istore (lv' := [(4, .int r11), (0, .ref (ad 0)), (1, .int p1), (2, .int p2), (3, .int p3)]) hx hb dX10_sort_33 hl (by decide) rfl (fun ls hl => ?_)
        refine lv_aload_n hx hb dX10_sort_35 rfl (lv_at hl 1 rfl) ?_
        refine va_get (D := (dC, dI)) (ci := 10) (v := .ref (ad 3)) (C := RX10) (T := TX10) (N := 11) hx hb hts hiX10 hown hK hP 0 rfl rfl 2 (by decide) hf26 (fun _ h9 => h9) rfl dX10_sort_36 ?_
        refine va_get (D := (dC, dI)) (ci := 5) (v := .ref (ad 29)) (C := RX5) (T := TX5) (N := 2) hx hb hts hiX5 hown hK hP 3 rfl rfl 0 (by decide) hf150 (fun _ h9 => h9) rfl dX10_sort_39 ?_
        refine lv_iload_n hx hb dX10_sort_42 rfl (lv_at hl 2 rfl) ?_
        refine lv_iconst (v := 3) hx hb dX10_sort_43 (by decide) ?_
        refine lv_imul hx hb dX10_sort_44 ?_
        refine lv_iload_n hx hb dX10_sort_45 rfl (lv_at hl 3 rfl) ?_
        refine lv_iadd hx hb dX10_sort_46 ?_
        refine lv_iload_n hx hb dX10_sort_47 rfl (lv_at hl 4 rfl) ?_
        obtain ⟨b12, h⟩ := ck_elim h
        obtain ⟨S13, eS13, h⟩ := bnd_elim h
        refine va_iast hx hb hK hP hD hS 29 0 rfl rfl b12 dX10_sort_48 (fun H locs hP9 _ hS => ?_)
        have hP := swX_29 hP9
        rw [← eS13] at hP
        have hD := wX_D hD S13 L
        refine lv_iload hx hb dX10_sort_49 (lv_at hl 0 rfl) ?_
        cases h
        exact W.iret hx hb hr (fun t ht hW => ⟨⟨_, _, rfl, rfl, by show va_P _ _ _ t.heap; rw [ht]; exact hP⟩, hS.F ht⟩) hS.2.2 dX10_sort_51
      · replace h := it_t c9 h
        refine lv_bipush (v := (-2)) hx hb dX10_sort_21 (by decide) ?_
        cases h
        exact W.iret hx hb hr (fun t ht hW => ⟨⟨_, _, rfl, rfl, by show va_P _ _ _ t.heap; rw [ht]; exact hP⟩, hS.F ht⟩) hS.2.2 dX10_sort_23
