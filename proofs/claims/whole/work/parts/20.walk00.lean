set_option maxHeartbeats 4000000 in
set_option maxRecDepth 100000 in
theorem mX10_isBelow (l : Launch) (p0 : Int32) (p1 : Int32) {z : Int32} (h : sX10_isBelow p0 p1 = some z) : Met l yX10_isBelow wsX10_isBelow ({ frames := 0, cells := 0, slots := 0, locals := 0 }) (va_Pc [.int p0, .int p1] (fun _ => True)) (vp_Si (fun r => r = z)) 0 0 (fun _ => False) := by
  refine Met.ofW (cc := cX10_isBelow) (maxL := 2) (ret := (some .boolean)) (by decide) rfl ?_
  intro p e s m args below meth c s₁ B hml hv
  obtain ⟨rfl, -⟩ := hv
  have hx := B.exec
  have hb := B.bytes
  have hr := B.returns
  have hts := atoms_spec (ws := wsX10_isBelow) B.pre
  have hown : s.vm.findClass RX10 = some m.cls := findClass_of_methodNamed B.named
  have hlocks := B.notSynchronized
  have hl := lv_entry ([.int p0, .int p1]) (n := 2) (Nat.le_of_ble_eq_true rfl)
  rw [lg_entry_eq]
  generalize (lg_sl ([.int p0, .int p1]) ++ List.replicate (2 - (lg_sl ([.int p0, .int p1])).length) Slot.unset).toArray = ls at hl ⊢
  have hl : lv_has ls 2 [(0, .int p0), (1, .int p1)] := hl
  rw [sX10_isBelow] at h
  refine lv_iload_n hx hb dX10_isBelow_0 rfl (lv_at hl 0 rfl) ?_
  refine lv_if_lt (tgt := 13) hx hb dX10_isBelow_1 (by decide) (fun c1 => ?_) (fun c1 => ?_)
  · replace h := it_t c1 h
    refine lv_iconst (v := 0) hx hb dX10_isBelow_13 (by decide) ?_
    cases h
    exact W.zret hx hb hr rfl (fun t ht hW => ⟨_, rfl, rfl, ht⟩) (fun q hq => absurd hq List.not_mem_nil) dX10_isBelow_14
  · replace h := it_f c1 h
    refine lv_iload_n hx hb dX10_isBelow_4 rfl (lv_at hl 0 rfl) ?_
    refine lv_iload_n hx hb dX10_isBelow_5 rfl (lv_at hl 1 rfl) ?_
    refine lv_icmp_ge (tgt := 13) hx hb dX10_isBelow_6 (by decide) (fun c2 => ?_) (fun c2 => ?_)
    · replace h := it_t c2 h
      refine lv_iconst (v := 0) hx hb dX10_isBelow_13 (by decide) ?_
      cases h
      exact W.zret hx hb hr rfl (fun t ht hW => ⟨_, rfl, rfl, ht⟩) (fun q hq => absurd hq List.not_mem_nil) dX10_isBelow_14
    · replace h := it_f c2 h
      refine lv_iconst (v := 1) hx hb dX10_isBelow_9 (by decide) ?_
      refine lv_goto (tgt := 14) hx hb dX10_isBelow_10 (by decide) ?_
      cases h
      exact W.zret hx hb hr rfl (fun t ht hW => ⟨_, rfl, rfl, ht⟩) (fun q hq => absurd hq List.not_mem_nil) dX10_isBelow_14
set_option maxHeartbeats 4000000 in
set_option maxRecDepth 100000 in
theorem mX10_isDay (l : Launch) (p0 : Int32) {z : Int32} (h : sX10_isDay p0 = some z) : Met l yX10_isDay wsX10_isDay ({ frames := 1, cells := 0, slots := 0, locals := 21 }) (va_Pc [.int p0] (fun _ => True)) (vp_Si (fun r => r = z)) 0 0 (fun _ => False) := by
  refine Met.ofW (cc := cX10_isDay) (maxL := 1) (ret := (some .boolean)) (by decide) rfl ?_
  intro p e s m args below meth c s₁ B hml hv
  obtain ⟨rfl, -⟩ := hv
  have hx := B.exec
  have hb := B.bytes
  have hr := B.returns
  have hts := atoms_spec (ws := wsX10_isDay) B.pre
  have hown : s.vm.findClass RX10 = some m.cls := findClass_of_methodNamed B.named
  have hlocks := B.notSynchronized
  have hl := lv_entry ([.int p0]) (n := 1) (Nat.le_of_ble_eq_true rfl)
  rw [lg_entry_eq]
  generalize (lg_sl ([.int p0]) ++ List.replicate (1 - (lg_sl ([.int p0])).length) Slot.unset).toArray = ls at hl ⊢
  have hl : lv_has ls 1 [(0, .int p0)] := hl
  rw [sX10_isDay] at h
  refine lv_iload_n hx hb dX10_isDay_0 rfl (lv_at hl 0 rfl) ?_
  refine lv_sipush (v := 1000) hx hb dX10_isDay_1 (by decide) ?_
  obtain ⟨r2, k1, h⟩ := ob_elim h
  refine vp_callSi (W.runS (As := [.int p0, .int 1000]) (rest := []) ⟨hx, hb, hml, hown, hts⟩ (mX10_isBelow l p0 1000 k1) (va_cwS 2 hts gX10_isDay_X10_isBelow rfl rfl rfl (by decide +kernel) ⟨Nat.le_of_ble_eq_true rfl, Nat.le_of_ble_eq_true rfl⟩) ⟨fun _ _ _ _ q => q, fun U hU hW => ⟨rfl, trivial⟩⟩ rfl rfl hl.1 rfl (lv_room (Nat.le_of_ble_eq_true rfl)) dX10_isDay_4 ⟨Nat.zero_le _, Nat.zero_le _⟩) (fun r9 er9 => ?_)
  replace er9 := er9.symm
  subst er9
  obtain ⟨b3, h⟩ := zk_elim h
  cases h
  exact W.zret hx hb hr b3 (fun t ht hW => ⟨_, rfl, rfl, ht⟩) (fun q hq => absurd hq List.not_mem_nil) dX10_isDay_7
set_option maxHeartbeats 4000000 in
set_option maxRecDepth 100000 in
theorem mX2_add (l : Launch) (dC : Nat → ClassId) (dI : Nat → Nat → Nat) (cI cJ : ClassId) (ad : Nat → Nat) (p1 : Int32) (S : Nat → Nat → Int32) (L : Nat → Nat → Int64) (sz : Nat) {z : Int32 × (Nat → Nat → Int32) × (Nat → Nat → Int64)} (h : sX2_add p1 S L = some z) : Met l yX2_add wsX2_add ({ frames := 0, cells := 0, slots := 0, locals := 0 }) (va_Pc [.ref (ad 1), .int p1] (QXs sz dC dI cI cJ ad S L)) (va_Qi (fun (r : Int32) (u : (Nat → Nat → Int32) × (Nat → Nat → Int64)) => (r, u) = z) (fun (u : (Nat → Nat → Int32) × (Nat → Nat → Int64)) t => va_P (dC, dI) vwCl (wX cI cJ ad u.1 u.2) t.heap) (AX 43 ad sz)) 0 0 (AX 43 ad sz) := by
  refine Met.ofW (cc := cX2_add) (maxL := 2) (ret := (some .int)) (by decide) rfl ?_
  intro p e s m args below meth c s₁ B hml hv
  obtain ⟨rfl, hsz, hP, hK, hD0⟩ := hv
  have hx := B.exec
  have hb := B.bytes
  have hr := B.returns
  have hts := atoms_spec (ws := wsX2_add) B.pre
  have hown : s.vm.findClass RX2 = some m.cls := findClass_of_methodNamed B.named
  have hlocks := B.notSynchronized
  subst hsz
  have hD := wX_DA hD0 s.heap.size
  have hS : va_S (AX 43 ad s.heap.size) s.heap s.heap [] := va_S.rf
  have hl := lv_entry ([.ref (ad 1), .int p1]) (n := 2) (Nat.le_of_ble_eq_true rfl)
  rw [lg_entry_eq]
  generalize (lg_sl ([.ref (ad 1), .int p1]) ++ List.replicate (2 - (lg_sl ([.ref (ad 1), .int p1])).length) Slot.unset).toArray = ls at hl ⊢
  have hl : lv_has ls 2 [(0, .ref (ad 1)), (1, .int p1)] := hl
  have hf9 := hts (.fieldLink RX2 9 "LawRings$Cases" "day" "[I") (by decide +kernel)
  have hiX2 : ∀ w ∈ u_ws RX2 TX2 6, w ∈ wsX2_add := by decide +kernel
  have hf30 := hts (.fieldLink RX2 30 "LawRings$Cases" "size" "I") (by decide +kernel)
  rw [sX2_add] at h
  refine lv_aload_n hx hb dX2_add_0 rfl (lv_at hl 0 rfl) ?_
  refine va_get (D := (dC, dI)) (ci := 2) (v := .ref (ad 13)) (C := RX2) (T := TX2) (N := 6) hx hb hts hiX2 hown hK hP 1 rfl rfl 2 (by decide) hf9 (fun _ h9 => h9) rfl dX2_add_1 ?_
  refine lv_aload_n hx hb dX2_add_4 rfl (lv_at hl 0 rfl) ?_
  refine va_get (D := (dC, dI)) (ci := 2) (v := .int (S 1 0)) (C := RX2) (T := TX2) (N := 6) hx hb hts hiX2 hown hK hP 1 rfl rfl 0 (by decide) hf30 (fun _ h9 => h9) rfl dX2_add_5 ?_
  refine lv_iload_n hx hb dX2_add_8 rfl (lv_at hl 1 rfl) ?_
  obtain ⟨b1, h⟩ := ck_elim h
  obtain ⟨S2, eS2, h⟩ := bnd_elim h
  refine va_iast hx hb hK hP hD hS 13 0 rfl rfl b1 dX2_add_9 (fun H locs hP9 _ hS => ?_)
  have hP := swX_13 hP9
  rw [← eS2] at hP
  have hD := wX_D hD S2 L
  refine lv_aload_n hx hb dX2_add_10 rfl (lv_at hl 0 rfl) ?_
  refine lv_dup hx hb dX2_add_11 rfl ?_
  refine va_get (D := (dC, dI)) (ci := 2) (v := .int (S2 1 0)) (C := RX2) (T := TX2) (N := 6) hx hb hts hiX2 hown hK hP 1 rfl rfl 0 (by decide) hf30 (fun _ h9 => h9) rfl dX2_add_12 ?_
  refine lv_iconst (v := 1) hx hb dX2_add_15 (by decide) ?_
  refine lv_iadd hx hb dX2_add_16 ?_
  obtain ⟨S3, eS3, h⟩ := bnd_elim h
  refine va_put (D := (dC, dI)) (ci := 2) (v := .int ((S2 1 0) + 1)) (ty := .int) (C := RX2) (T := TX2) (N := 6) hx hb hts hiX2 tyX2 tyX2_ok nmX2 hown hK hP hD hS 1 rfl rfl 0 (by decide) hf30 (fun _ h9 => h9) rfl (by decide +kernel) rfl rfl (Nat.le_of_ble_eq_true rfl) dX2_add_17 (fun H locs hP9 _ hS => ?_)
  have hP := swX_1_0 hP9
  rw [← eS3] at hP
  have hD := wX_D hD S3 L
  refine lv_aload_n hx hb dX2_add_20 rfl (lv_at hl 0 rfl) ?_
  refine va_get (D := (dC, dI)) (ci := 2) (v := .int (S3 1 0)) (C := RX2) (T := TX2) (N := 6) hx hb hts hiX2 hown hK hP 1 rfl rfl 0 (by decide) hf30 (fun _ h9 => h9) rfl dX2_add_21 ?_
  refine lv_iconst (v := 1) hx hb dX2_add_24 (by decide) ?_
  refine lv_isub hx hb dX2_add_25 ?_
  cases h
  exact W.iret hx hb hr (fun t ht hW => ⟨⟨_, _, rfl, rfl, by show va_P _ _ _ t.heap; rw [ht]; exact hP⟩, hS.F ht⟩) hS.2.2 dX2_add_26
set_option maxHeartbeats 4000000 in
set_option maxRecDepth 100000 in
theorem mX10_newCase (l : Launch) (dC : Nat → ClassId) (dI : Nat → Nat → Nat) (cI cJ : ClassId) (ad : Nat → Nat) (p1 : Int32) (S : Nat → Nat → Int32) (L : Nat → Nat → Int64) (sz : Nat) {z : Int32 × (Nat → Nat → Int32) × (Nat → Nat → Int64)} (h : sX10_newCase p1 S L = some z) : Met l yX10_newCase wsX10_newCase ({ frames := 2, cells := 0, slots := 0, locals := 41 }) (va_Pc [.ref (ad 0), .int p1] (QXs sz dC dI cI cJ ad S L)) (va_Qi (fun (r : Int32) (u : (Nat → Nat → Int32) × (Nat → Nat → Int64)) => (r, u) = z) (fun (u : (Nat → Nat → Int32) × (Nat → Nat → Int64)) t => va_P (dC, dI) vwCl (wX cI cJ ad u.1 u.2) t.heap) (AX 43 ad sz)) 0 0 (AX 43 ad sz) := by
  refine Met.ofW (cc := cX10_newCase) (maxL := 2) (ret := (some .int)) (by decide) rfl ?_
  intro p e s m args below meth c s₁ B hml hv
  obtain ⟨rfl, hsz, hP, hK, hD0⟩ := hv
  have hx := B.exec
  have hb := B.bytes
  have hr := B.returns
  have hts := atoms_spec (ws := wsX10_newCase) B.pre
  have hown : s.vm.findClass RX10 = some m.cls := findClass_of_methodNamed B.named
  have hlocks := B.notSynchronized
  subst hsz
  have hD := wX_DA hD0 s.heap.size
  have hS : va_S (AX 43 ad s.heap.size) s.heap s.heap [] := va_S.rf
  have hl := lv_entry ([.ref (ad 0), .int p1]) (n := 2) (Nat.le_of_ble_eq_true rfl)
  rw [lg_entry_eq]
  generalize (lg_sl ([.ref (ad 0), .int p1]) ++ List.replicate (2 - (lg_sl ([.ref (ad 0), .int p1])).length) Slot.unset).toArray = ls at hl ⊢
  have hl : lv_has ls 2 [(0, .ref (ad 0)), (1, .int p1)] := hl
  have hf12 := hts (.fieldLink RX10 12 "LawRings" "cases" "LLawRings$Cases;") (by decide +kernel)
  have hiX10 : ∀ w ∈ u_ws RX10 TX10 11, w ∈ wsX10_newCase := by decide +kernel
  have hf94 := hts (.fieldLink RX10 94 "LawRings$Cases" "size" "I") (by decide +kernel)
  have hiX2 : ∀ w ∈ u_ws RX2 TX2 6, w ∈ wsX10_newCase := by decide +kernel
  rw [sX10_newCase] at h
  refine lv_iload_n hx hb dX10_newCase_0 rfl (lv_at hl 1 rfl) ?_
  obtain ⟨r2, k1, h⟩ := ob_elim h
  refine vp_callSi (W.runS (As := [.int p1]) (rest := []) ⟨hx, hb, hml, hown, hts⟩ (mX10_isDay l p1 k1) (va_cwS 1 hts gX10_newCase_X10_isDay rfl rfl rfl (by decide +kernel) ⟨Nat.le_of_ble_eq_true rfl, Nat.le_of_ble_eq_true rfl⟩) ⟨fun _ _ _ _ q => q, fun U hU hW => ⟨rfl, trivial⟩⟩ rfl rfl hl.1 rfl (lv_room (Nat.le_of_ble_eq_true rfl)) dX10_newCase_1 ⟨Nat.zero_le _, Nat.zero_le _⟩) (fun r9 er9 => ?_)
  replace er9 := er9.symm
  subst er9
  refine lv_if_ne (tgt := 10) hx hb dX10_newCase_4 (by decide) (fun c3 => ?_) (fun c3 => ?_)
  · replace h := it_f c3 h
    refine lv_aload_n hx hb dX10_newCase_10 rfl (lv_at hl 0 rfl) ?_
    refine va_get (D := (dC, dI)) (ci := 10) (v := .ref (ad 1)) (C := RX10) (T := TX10) (N := 11) hx hb hts hiX10 hown hK hP 0 rfl rfl 0 (by decide) hf12 (fun _ h9 => h9) rfl dX10_newCase_11 ?_
    refine va_get (D := (dC, dI)) (ci := 2) (v := .int (S 1 0)) (C := RX2) (T := TX2) (N := 6) hx hb hts hiX2 hown hK hP 1 rfl rfl 0 (by decide) hf94 (fun _ h9 => h9) rfl dX10_newCase_14 ?_
    refine lv_bipush (v := 16) hx hb dX10_newCase_17 (by decide) ?_
    refine lv_icmp_lt (tgt := 25) hx hb dX10_newCase_19 (by decide) (fun c4 => ?_) (fun c4 => ?_)
    · replace h := it_t c4 h
      refine lv_aload_n hx hb dX10_newCase_25 rfl (lv_at hl 0 rfl) ?_
      refine va_get (D := (dC, dI)) (ci := 10) (v := .ref (ad 1)) (C := RX10) (T := TX10) (N := 11) hx hb hts hiX10 hown hK hP 0 rfl rfl 0 (by decide) hf12 (fun _ h9 => h9) rfl dX10_newCase_26 ?_
      refine lv_iload_n hx hb dX10_newCase_29 rfl (lv_at hl 1 rfl) ?_
      obtain ⟨r8, S6, L7, k5, h⟩ := ob3_elim h
      refine va_calli (va_runV (As := [.int p1]) (rest := []) ⟨hx, hb, hml, hown, hts⟩ (mX2_add l dC dI cI cJ ad p1 S L s.heap.size k5) (cwV 1 hts gX10_newCase_X2_add rfl rfl rfl (by decide +kernel) ⟨Nat.le_of_ble_eq_true rfl, Nat.le_of_ble_eq_true rfl⟩) ⟨QXs_blind, va_recv hK hP (ci := 2) (q0 := 1) rfl rfl, fun U hU hW => ⟨rfl, congrArg Array.size hU, QX_at hP hK hD hU hW⟩⟩ rfl rfl hl.1 rfl (lv_room (Nat.le_of_ble_eq_true rfl)) dX10_newCase_30 ⟨Nat.zero_le _, Nat.zero_le _⟩) hS (fun q _ hq => AX_mono hS.1 hq) (fun q hq => AX_mono hS.1 hq) (fun r u t H1 locs ht hvm hw hB hz1 hk1 hS => ?_)
      cases hw
      rw [ht] at hB
      have hP := hB
      clear hB hk1 hz1
      generalize H1 = H at hP hS ⊢
      have hD := wX_D hD S6 L7
      cases h
      exact W.iret hx hb hr (fun t ht hW => ⟨⟨_, _, rfl, rfl, by show va_P _ _ _ t.heap; rw [ht]; exact hP⟩, hS.F ht⟩) hS.2.2 dX10_newCase_33
    · replace h := it_f c4 h
      refine lv_bipush (v := (-4)) hx hb dX10_newCase_22 (by decide) ?_
      cases h
      exact W.iret hx hb hr (fun t ht hW => ⟨⟨_, _, rfl, rfl, by show va_P _ _ _ t.heap; rw [ht]; exact hP⟩, hS.F ht⟩) hS.2.2 dX10_newCase_24
  · replace h := it_t c3 h
    refine lv_bipush (v := (-2)) hx hb dX10_newCase_7 (by decide) ?_
    cases h
    exact W.iret hx hb hr (fun t ht hW => ⟨⟨_, _, rfl, rfl, by show va_P _ _ _ t.heap; rw [ht]; exact hP⟩, hS.F ht⟩) hS.2.2 dX10_newCase_9
set_option maxHeartbeats 4000000 in
set_option maxRecDepth 100000 in
theorem mX11_in (l : Launch) (p0 : Int32) (p1 : Int32) (p2 : Int32) {z : Int32} (h : sX11_in p0 p1 p2 = some z) : Met l yX11_in wsX11_in ({ frames := 0, cells := 0, slots := 0, locals := 0 }) (va_Pc [.int p0, .int p1, .int p2] (fun _ => True)) (vp_Si (fun r => r = z)) 0 0 (fun _ => False) := by
  refine Met.ofW (cc := cX11_in) (maxL := 3) (ret := (some .boolean)) (by decide) rfl ?_
  intro p e s m args below meth c s₁ B hml hv
  obtain ⟨rfl, -⟩ := hv
  have hx := B.exec
  have hb := B.bytes
  have hr := B.returns
  have hts := atoms_spec (ws := wsX11_in) B.pre
  have hown : s.vm.findClass RX11 = some m.cls := findClass_of_methodNamed B.named
  have hlocks := B.notSynchronized
  have hl := lv_entry ([.int p0, .int p1, .int p2]) (n := 3) (Nat.le_of_ble_eq_true rfl)
  rw [lg_entry_eq]
  generalize (lg_sl ([.int p0, .int p1, .int p2]) ++ List.replicate (3 - (lg_sl ([.int p0, .int p1, .int p2])).length) Slot.unset).toArray = ls at hl ⊢
  have hl : lv_has ls 3 [(0, .int p0), (1, .int p1), (2, .int p2)] := hl
  rw [sX11_in] at h
  refine lv_iload_n hx hb dX11_in_0 rfl (lv_at hl 0 rfl) ?_
  refine lv_iload_n hx hb dX11_in_1 rfl (lv_at hl 1 rfl) ?_
  refine lv_icmp_lt (tgt := 14) hx hb dX11_in_2 (by decide) (fun c1 => ?_) (fun c1 => ?_)
  · replace h := it_t c1 h
    refine lv_iconst (v := 0) hx hb dX11_in_14 (by decide) ?_
    cases h
    exact W.zret hx hb hr rfl (fun t ht hW => ⟨_, rfl, rfl, ht⟩) (fun q hq => absurd hq List.not_mem_nil) dX11_in_15
  · replace h := it_f c1 h
    refine lv_iload_n hx hb dX11_in_5 rfl (lv_at hl 0 rfl) ?_
    refine lv_iload_n hx hb dX11_in_6 rfl (lv_at hl 2 rfl) ?_
    refine lv_icmp_gt (tgt := 14) hx hb dX11_in_7 (by decide) (fun c2 => ?_) (fun c2 => ?_)
    · replace h := it_t c2 h
      refine lv_iconst (v := 0) hx hb dX11_in_14 (by decide) ?_
      cases h
      exact W.zret hx hb hr rfl (fun t ht hW => ⟨_, rfl, rfl, ht⟩) (fun q hq => absurd hq List.not_mem_nil) dX11_in_15
    · replace h := it_f c2 h
      refine lv_iconst (v := 1) hx hb dX11_in_10 (by decide) ?_
      refine lv_goto (tgt := 15) hx hb dX11_in_11 (by decide) ?_
      cases h
      exact W.zret hx hb hr rfl (fun t ht hW => ⟨_, rfl, rfl, ht⟩) (fun q hq => absurd hq List.not_mem_nil) dX11_in_15
set_option maxHeartbeats 4000000 in
set_option maxRecDepth 100000 in
theorem mX11_isDay (l : Launch) (p0 : Int32) {z : Int32} (h : sX11_isDay p0 = some z) : Met l yX11_isDay wsX11_isDay ({ frames := 1, cells := 0, slots := 0, locals := 22 }) (va_Pc [.int p0] (fun _ => True)) (vp_Si (fun r => r = z)) 0 0 (fun _ => False) := by
  refine Met.ofW (cc := cX11_isDay) (maxL := 1) (ret := (some .boolean)) (by decide) rfl ?_
  intro p e s m args below meth c s₁ B hml hv
  obtain ⟨rfl, -⟩ := hv
  have hx := B.exec
  have hb := B.bytes
  have hr := B.returns
  have hts := atoms_spec (ws := wsX11_isDay) B.pre
  have hown : s.vm.findClass RX11 = some m.cls := findClass_of_methodNamed B.named
  have hlocks := B.notSynchronized
  have hl := lv_entry ([.int p0]) (n := 1) (Nat.le_of_ble_eq_true rfl)
  rw [lg_entry_eq]
  generalize (lg_sl ([.int p0]) ++ List.replicate (1 - (lg_sl ([.int p0])).length) Slot.unset).toArray = ls at hl ⊢
  have hl : lv_has ls 1 [(0, .int p0)] := hl
  rw [sX11_isDay] at h
  refine lv_iload_n hx hb dX11_isDay_0 rfl (lv_at hl 0 rfl) ?_
  refine lv_iconst (v := 0) hx hb dX11_isDay_1 (by decide) ?_
  refine lv_sipush (v := 999) hx hb dX11_isDay_2 (by decide) ?_
  obtain ⟨r2, k1, h⟩ := ob_elim h
  refine vp_callSi (W.runS (As := [.int p0, .int 0, .int 999]) (rest := []) ⟨hx, hb, hml, hown, hts⟩ (mX11_in l p0 0 999 k1) (va_cwS 3 hts gX11_isDay_X11_in rfl rfl rfl (by decide +kernel) ⟨Nat.le_of_ble_eq_true rfl, Nat.le_of_ble_eq_true rfl⟩) ⟨fun _ _ _ _ q => q, fun U hU hW => ⟨rfl, trivial⟩⟩ rfl rfl hl.1 rfl (lv_room (Nat.le_of_ble_eq_true rfl)) dX11_isDay_5 ⟨Nat.zero_le _, Nat.zero_le _⟩) (fun r9 er9 => ?_)
  replace er9 := er9.symm
  subst er9
  obtain ⟨b3, h⟩ := zk_elim h
  cases h
  exact W.zret hx hb hr b3 (fun t ht hW => ⟨_, rfl, rfl, ht⟩) (fun q hq => absurd hq List.not_mem_nil) dX11_isDay_8
set_option maxHeartbeats 4000000 in
set_option maxRecDepth 100000 in
theorem mX11_one (l : Launch) (dC : Nat → ClassId) (dI : Nat → Nat → Nat) (cI cZ : ClassId) (ad : Nat → Nat) (p1 : Int32) (S : Nat → Nat → Int32) (sz : Nat) {z : Int32 × (Nat → Nat → Int32)} (h : sX11_one p1 S = some z) : Met l yX11_one wsX11_one ({ frames := 0, cells := 0, slots := 0, locals := 0 }) (va_Pc [.ref (ad 0), .int p1] (QMs sz dC dI cI cZ ad S)) (va_Qi (fun (r : Int32) (u : (Nat → Nat → Int32)) => (r, u) = z) (fun (u : (Nat → Nat → Int32)) t => va_P (dC, dI) vwCl (wM cI cZ ad u) t.heap) (AX 7 ad sz)) 0 0 (AX 7 ad sz) := by
  refine Met.ofW (cc := cX11_one) (maxL := 2) (ret := (some .int)) (by decide) rfl ?_
  intro p e s m args below meth c s₁ B hml hv
  obtain ⟨rfl, hsz, hP, hK, hD0⟩ := hv
  have hx := B.exec
  have hb := B.bytes
  have hr := B.returns
  have hts := atoms_spec (ws := wsX11_one) B.pre
  have hown : s.vm.findClass RX11 = some m.cls := findClass_of_methodNamed B.named
  have hlocks := B.notSynchronized
  subst hsz
  have hD := wM_DA hD0 s.heap.size
  have hS : va_S (AX 7 ad s.heap.size) s.heap s.heap [] := va_S.rf
  have hl := lv_entry ([.ref (ad 0), .int p1]) (n := 2) (Nat.le_of_ble_eq_true rfl)
  rw [lg_entry_eq]
  generalize (lg_sl ([.ref (ad 0), .int p1]) ++ List.replicate (2 - (lg_sl ([.ref (ad 0), .int p1])).length) Slot.unset).toArray = ls at hl ⊢
  have hl : lv_has ls 2 [(0, .ref (ad 0)), (1, .int p1)] := hl
  have hf7 := hts (.fieldLink RX11 7 "LawRingsModel" "st" "[I") (by decide +kernel)
  have hiX11 : ∀ w ∈ u_ws RX11 TX11 8, w ∈ wsX11_one := by decide +kernel
  rw [sX11_one] at h
  refine lv_aload_n hx hb dX11_one_0 rfl (lv_at hl 0 rfl) ?_
  refine va_get (D := (dC, dI)) (ci := 11) (v := .ref (ad 1)) (C := RX11) (T := TX11) (N := 8) hx hb hts hiX11 hown hK hP 0 rfl rfl 0 (by decide) hf7 (fun _ h9 => h9) rfl dX11_one_1 ?_
  refine lv_iload_n hx hb dX11_one_4 rfl (lv_at hl 1 rfl) ?_
  refine lv_dup2_11 hx hb dX11_one_5 rfl rfl ?_
  obtain ⟨b1, h⟩ := ck_elim h
  refine va_iald hx hb hK hP 1 0 rfl rfl b1 dX11_one_6 ?_
  refine lv_iconst (v := 1) hx hb dX11_one_7 (by decide) ?_
  refine lv_iadd hx hb dX11_one_8 ?_
  obtain ⟨b2, h⟩ := ck_elim h
  obtain ⟨S3, eS3, h⟩ := bnd_elim h
  refine va_iast hx hb hK hP hD hS 1 0 rfl rfl b2 dX11_one_9 (fun H locs hP9 _ hS => ?_)
  have hP := swM_1 hP9
  rw [← eS3] at hP
  have hD := wM_D hD S3
  refine lv_aload_n hx hb dX11_one_10 rfl (lv_at hl 0 rfl) ?_
  refine va_get (D := (dC, dI)) (ci := 11) (v := .ref (ad 1)) (C := RX11) (T := TX11) (N := 8) hx hb hts hiX11 hown hK hP 0 rfl rfl 0 (by decide) hf7 (fun _ h9 => h9) rfl dX11_one_11 ?_
  refine lv_iload_n hx hb dX11_one_14 rfl (lv_at hl 1 rfl) ?_
  obtain ⟨b4, h⟩ := ck_elim h
  refine va_iald hx hb hK hP 1 0 rfl rfl b4 dX11_one_15 ?_
  refine lv_iconst (v := 1) hx hb dX11_one_16 (by decide) ?_
  refine lv_isub hx hb dX11_one_17 ?_
  cases h
  exact W.iret hx hb hr (fun t ht hW => ⟨⟨_, _, rfl, rfl, by show va_P _ _ _ t.heap; rw [ht]; exact hP⟩, hS.F ht⟩) hS.2.2 dX11_one_18
set_option maxHeartbeats 4000000 in
set_option maxRecDepth 100000 in
theorem mX11_newCase (l : Launch) (dC : Nat → ClassId) (dI : Nat → Nat → Nat) (cI cZ : ClassId) (ad : Nat → Nat) (p1 : Int32) (S : Nat → Nat → Int32) (sz : Nat) {z : Int32 × (Nat → Nat → Int32)} (h : sX11_newCase p1 S = some z) : Met l yX11_newCase wsX11_newCase ({ frames := 2, cells := 0, slots := 0, locals := 42 }) (va_Pc [.ref (ad 0), .int p1] (QMs sz dC dI cI cZ ad S)) (va_Qi (fun (r : Int32) (u : (Nat → Nat → Int32)) => (r, u) = z) (fun (u : (Nat → Nat → Int32)) t => va_P (dC, dI) vwCl (wM cI cZ ad u) t.heap) (AX 7 ad sz)) 0 0 (AX 7 ad sz) := by
  refine Met.ofW (cc := cX11_newCase) (maxL := 2) (ret := (some .int)) (by decide) rfl ?_
  intro p e s m args below meth c s₁ B hml hv
  obtain ⟨rfl, hsz, hP, hK, hD0⟩ := hv
  have hx := B.exec
  have hb := B.bytes
  have hr := B.returns
  have hts := atoms_spec (ws := wsX11_newCase) B.pre
  have hown : s.vm.findClass RX11 = some m.cls := findClass_of_methodNamed B.named
  have hlocks := B.notSynchronized
  subst hsz
  have hD := wM_DA hD0 s.heap.size
  have hS : va_S (AX 7 ad s.heap.size) s.heap s.heap [] := va_S.rf
  have hl := lv_entry ([.ref (ad 0), .int p1]) (n := 2) (Nat.le_of_ble_eq_true rfl)
  rw [lg_entry_eq]
  generalize (lg_sl ([.ref (ad 0), .int p1]) ++ List.replicate (2 - (lg_sl ([.ref (ad 0), .int p1])).length) Slot.unset).toArray = ls at hl ⊢
  have hl : lv_has ls 2 [(0, .ref (ad 0)), (1, .int p1)] := hl
  have hf7 := hts (.fieldLink RX11 7 "LawRingsModel" "st" "[I") (by decide +kernel)
  have hiX11 : ∀ w ∈ u_ws RX11 TX11 8, w ∈ wsX11_newCase := by decide +kernel
  rw [sX11_newCase] at h
  refine lv_iload_n hx hb dX11_newCase_0 rfl (lv_at hl 1 rfl) ?_
  obtain ⟨r2, k1, h⟩ := ob_elim h
  refine vp_callSi (W.runS (As := [.int p1]) (rest := []) ⟨hx, hb, hml, hown, hts⟩ (mX11_isDay l p1 k1) (va_cwS 1 hts gX11_newCase_X11_isDay rfl rfl rfl (by decide +kernel) ⟨Nat.le_of_ble_eq_true rfl, Nat.le_of_ble_eq_true rfl⟩) ⟨fun _ _ _ _ q => q, fun U hU hW => ⟨rfl, trivial⟩⟩ rfl rfl hl.1 rfl (lv_room (Nat.le_of_ble_eq_true rfl)) dX11_newCase_1 ⟨Nat.zero_le _, Nat.zero_le _⟩) (fun r9 er9 => ?_)
  replace er9 := er9.symm
  subst er9
  refine lv_if_ne (tgt := 10) hx hb dX11_newCase_4 (by decide) (fun c3 => ?_) (fun c3 => ?_)
  · replace h := it_f c3 h
    refine lv_aload_n hx hb dX11_newCase_10 rfl (lv_at hl 0 rfl) ?_
    refine va_get (D := (dC, dI)) (ci := 11) (v := .ref (ad 1)) (C := RX11) (T := TX11) (N := 8) hx hb hts hiX11 hown hK hP 0 rfl rfl 0 (by decide) hf7 (fun _ h9 => h9) rfl dX11_newCase_11 ?_
    refine lv_iconst (v := 0) hx hb dX11_newCase_14 (by decide) ?_
    obtain ⟨b4, h⟩ := ck_elim h
    refine va_iald hx hb hK hP 1 0 rfl rfl b4 dX11_newCase_15 ?_
    refine lv_bipush (v := 16) hx hb dX11_newCase_16 (by decide) ?_
    refine lv_icmp_ne (tgt := 24) hx hb dX11_newCase_18 (by decide) (fun c5 => ?_) (fun c5 => ?_)
    · replace h := it_f c5 h
      refine lv_aload_n hx hb dX11_newCase_24 rfl (lv_at hl 0 rfl) ?_
      refine va_get (D := (dC, dI)) (ci := 11) (v := .ref (ad 1)) (C := RX11) (T := TX11) (N := 8) hx hb hts hiX11 hown hK hP 0 rfl rfl 0 (by decide) hf7 (fun _ h9 => h9) rfl dX11_newCase_25 ?_
      refine lv_bipush (v := 10) hx hb dX11_newCase_28 (by decide) ?_
      refine lv_iconst (v := 2) hx hb dX11_newCase_30 (by decide) ?_
      refine lv_aload_n hx hb dX11_newCase_31 rfl (lv_at hl 0 rfl) ?_
      refine va_get (D := (dC, dI)) (ci := 11) (v := .ref (ad 1)) (C := RX11) (T := TX11) (N := 8) hx hb hts hiX11 hown hK hP 0 rfl rfl 0 (by decide) hf7 (fun _ h9 => h9) rfl dX11_newCase_32 ?_
      refine lv_iconst (v := 0) hx hb dX11_newCase_35 (by decide) ?_
      obtain ⟨b6, h⟩ := ck_elim h
      refine va_iald hx hb hK hP 1 0 rfl rfl b6 dX11_newCase_36 ?_
      refine lv_imul hx hb dX11_newCase_37 ?_
      refine lv_iadd hx hb dX11_newCase_38 ?_
      refine lv_iload_n hx hb dX11_newCase_39 rfl (lv_at hl 1 rfl) ?_
      obtain ⟨b7, h⟩ := ck_elim h
      obtain ⟨S8, eS8, h⟩ := bnd_elim h
      refine va_iast hx hb hK hP hD hS 1 0 rfl rfl b7 dX11_newCase_40 (fun H locs hP9 _ hS => ?_)
      have hP := swM_1 hP9
      rw [← eS8] at hP
      have hD := wM_D hD S8
      refine lv_aload_n hx hb dX11_newCase_41 rfl (lv_at hl 0 rfl) ?_
      refine va_get (D := (dC, dI)) (ci := 11) (v := .ref (ad 1)) (C := RX11) (T := TX11) (N := 8) hx hb hts hiX11 hown hK hP 0 rfl rfl 0 (by decide) hf7 (fun _ h9 => h9) rfl dX11_newCase_42 ?_
      refine lv_bipush (v := 10) hx hb dX11_newCase_45 (by decide) ?_
      refine lv_iconst (v := 2) hx hb dX11_newCase_47 (by decide) ?_
      refine lv_aload_n hx hb dX11_newCase_48 rfl (lv_at hl 0 rfl) ?_
      refine va_get (D := (dC, dI)) (ci := 11) (v := .ref (ad 1)) (C := RX11) (T := TX11) (N := 8) hx hb hts hiX11 hown hK hP 0 rfl rfl 0 (by decide) hf7 (fun _ h9 => h9) rfl dX11_newCase_49 ?_
      refine lv_iconst (v := 0) hx hb dX11_newCase_52 (by decide) ?_
      obtain ⟨b9, h⟩ := ck_elim h
      refine va_iald hx hb hK hP 1 0 rfl rfl b9 dX11_newCase_53 ?_
      refine lv_imul hx hb dX11_newCase_54 ?_
      refine lv_iadd hx hb dX11_newCase_55 ?_
      refine lv_iconst (v := 1) hx hb dX11_newCase_56 (by decide) ?_
      refine lv_iadd hx hb dX11_newCase_57 ?_
      refine lv_iconst (v := 0) hx hb dX11_newCase_58 (by decide) ?_
      obtain ⟨b10, h⟩ := ck_elim h
      obtain ⟨S11, eS11, h⟩ := bnd_elim h
      refine va_iast hx hb hK hP hD hS 1 0 rfl rfl b10 dX11_newCase_59 (fun H locs hP9 _ hS => ?_)
      have hP := swM_1 hP9
      rw [← eS11] at hP
      have hD := wM_D hD S11
      refine lv_aload_n hx hb dX11_newCase_60 rfl (lv_at hl 0 rfl) ?_
      refine lv_iconst (v := 0) hx hb dX11_newCase_61 (by decide) ?_
      obtain ⟨r14, S13, k12, h⟩ := ob2_elim h
      refine va_calli (va_runV (As := [.int 0]) (rest := []) ⟨hx, hb, hml, hown, hts⟩ (mX11_one l dC dI cI cZ ad 0 S11 H.size k12) (cwV 1 hts gX11_newCase_X11_one rfl rfl rfl (by decide +kernel) ⟨Nat.le_of_ble_eq_true rfl, Nat.le_of_ble_eq_true rfl⟩) ⟨QMs_blind, va_recv hK hP (ci := 11) (q0 := 0) rfl rfl, fun U hU hW => ⟨rfl, congrArg Array.size hU, QM_at hP hK hD hU hW⟩⟩ rfl rfl hl.1 rfl (lv_room (Nat.le_of_ble_eq_true rfl)) dX11_newCase_62 ⟨Nat.zero_le _, Nat.zero_le _⟩) hS (fun q _ hq => AX_mono hS.1 hq) (fun q hq => AX_mono hS.1 hq) (fun r u t H1 locs ht hvm hw hB hz1 hk1 hS => ?_)
      cases hw
      rw [ht] at hB
      have hP := hB
      clear hB hk1 hz1
      generalize H1 = H at hP hS ⊢
      have hD := wM_D hD S13
      cases h
      exact W.iret hx hb hr (fun t ht hW => ⟨⟨_, _, rfl, rfl, by show va_P _ _ _ t.heap; rw [ht]; exact hP⟩, hS.F ht⟩) hS.2.2 dX11_newCase_65
    · replace h := it_t c5 h
      refine lv_bipush (v := (-4)) hx hb dX11_newCase_21 (by decide) ?_
      cases h
      exact W.iret hx hb hr (fun t ht hW => ⟨⟨_, _, rfl, rfl, by show va_P _ _ _ t.heap; rw [ht]; exact hP⟩, hS.F ht⟩) hS.2.2 dX11_newCase_23
  · replace h := it_t c3 h
    refine lv_bipush (v := (-2)) hx hb dX11_newCase_7 (by decide) ?_
    cases h
    exact W.iret hx hb hr (fun t ht hW => ⟨⟨_, _, rfl, rfl, by show va_P _ _ _ t.heap; rw [ht]; exact hP⟩, hS.F ht⟩) hS.2.2 dX11_newCase_9
set_option maxHeartbeats 4000000 in
set_option maxRecDepth 100000 in
theorem mX10_isCase (l : Launch) (dC : Nat → ClassId) (dI : Nat → Nat → Nat) (cI cJ : ClassId) (ad : Nat → Nat) (p1 : Int32) (S : Nat → Nat → Int32) (L : Nat → Nat → Int64) {z : Int32} (h : sX10_isCase p1 S L = some z) : Met l yX10_isCase wsX10_isCase ({ frames := 1, cells := 0, slots := 0, locals := 21 }) (va_Pc [.ref (ad 0), .int p1] (QX dC dI cI cJ ad S L)) (vp_Si (fun r => r = z)) 0 0 (fun _ => False) := by
  refine Met.ofW (cc := cX10_isCase) (maxL := 2) (ret := (some .boolean)) (by decide) rfl ?_
  intro p e s m args below meth c s₁ B hml hv
  obtain ⟨rfl, hP, hK, hD⟩ := hv
  have hx := B.exec
  have hb := B.bytes
  have hr := B.returns
  have hts := atoms_spec (ws := wsX10_isCase) B.pre
  have hown : s.vm.findClass RX10 = some m.cls := findClass_of_methodNamed B.named
  have hlocks := B.notSynchronized
  have hl := lv_entry ([.ref (ad 0), .int p1]) (n := 2) (Nat.le_of_ble_eq_true rfl)
  rw [lg_entry_eq]
  generalize (lg_sl ([.ref (ad 0), .int p1]) ++ List.replicate (2 - (lg_sl ([.ref (ad 0), .int p1])).length) Slot.unset).toArray = ls at hl ⊢
  have hl : lv_has ls 2 [(0, .ref (ad 0)), (1, .int p1)] := hl
  have hf12 := hts (.fieldLink RX10 12 "LawRings" "cases" "LLawRings$Cases;") (by decide +kernel)
  have hiX10 : ∀ w ∈ u_ws RX10 TX10 11, w ∈ wsX10_isCase := by decide +kernel
  have hf94 := hts (.fieldLink RX10 94 "LawRings$Cases" "size" "I") (by decide +kernel)
  have hiX2 : ∀ w ∈ u_ws RX2 TX2 6, w ∈ wsX10_isCase := by decide +kernel
  rw [sX10_isCase] at h
  refine lv_iload_n hx hb dX10_isCase_0 rfl (lv_at hl 1 rfl) ?_
  refine lv_aload_n hx hb dX10_isCase_1 rfl (lv_at hl 0 rfl) ?_
  refine va_get (D := (dC, dI)) (ci := 10) (v := .ref (ad 1)) (C := RX10) (T := TX10) (N := 11) hx hb hts hiX10 hown hK hP 0 rfl rfl 0 (by decide) hf12 (fun _ h9 => h9) rfl dX10_isCase_2 ?_
  refine va_get (D := (dC, dI)) (ci := 2) (v := .int (S 1 0)) (C := RX2) (T := TX2) (N := 6) hx hb hts hiX2 hown hK hP 1 rfl rfl 0 (by decide) hf94 (fun _ h9 => h9) rfl dX10_isCase_5 ?_
  obtain ⟨r2, k1, h⟩ := ob_elim h
  refine vp_callSi (W.runS (As := [.int p1, .int (S 1 0)]) (rest := []) ⟨hx, hb, hml, hown, hts⟩ (mX10_isBelow l p1 (S 1 0) k1) (va_cwS 2 hts gX10_isCase_X10_isBelow rfl rfl rfl (by decide +kernel) ⟨Nat.le_of_ble_eq_true rfl, Nat.le_of_ble_eq_true rfl⟩) ⟨fun _ _ _ _ q => q, fun U hU hW => ⟨rfl, trivial⟩⟩ rfl rfl hl.1 rfl (lv_room (Nat.le_of_ble_eq_true rfl)) dX10_isCase_8 ⟨Nat.zero_le _, Nat.zero_le _⟩) (fun r9 er9 => ?_)
  replace er9 := er9.symm
  subst er9
  obtain ⟨b3, h⟩ := zk_elim h
  cases h
  exact W.zret hx hb hr b3 (fun t ht hW => ⟨_, rfl, rfl, ht⟩) (fun q hq => absurd hq List.not_mem_nil) dX10_isCase_11
set_option maxHeartbeats 4000000 in
set_option maxRecDepth 100000 in
theorem mX10_isTie (l : Launch) (p0 : Int32) {z : Int32} (h : sX10_isTie p0 = some z) : Met l yX10_isTie wsX10_isTie ({ frames := 1, cells := 0, slots := 0, locals := 21 }) (va_Pc [.int p0] (fun _ => True)) (vp_Si (fun r => r = z)) 0 0 (fun _ => False) := by
  refine Met.ofW (cc := cX10_isTie) (maxL := 1) (ret := (some .boolean)) (by decide) rfl ?_
  intro p e s m args below meth c s₁ B hml hv
  obtain ⟨rfl, -⟩ := hv
  have hx := B.exec
  have hb := B.bytes
  have hr := B.returns
  have hts := atoms_spec (ws := wsX10_isTie) B.pre
  have hown : s.vm.findClass RX10 = some m.cls := findClass_of_methodNamed B.named
  have hlocks := B.notSynchronized
  have hl := lv_entry ([.int p0]) (n := 1) (Nat.le_of_ble_eq_true rfl)
  rw [lg_entry_eq]
  generalize (lg_sl ([.int p0]) ++ List.replicate (1 - (lg_sl ([.int p0])).length) Slot.unset).toArray = ls at hl ⊢
  have hl : lv_has ls 1 [(0, .int p0)] := hl
  rw [sX10_isTie] at h
  refine lv_iload_n hx hb dX10_isTie_0 rfl (lv_at hl 0 rfl) ?_
  refine lv_bipush (v := 6) hx hb dX10_isTie_1 (by decide) ?_
  obtain ⟨r2, k1, h⟩ := ob_elim h
  refine vp_callSi (W.runS (As := [.int p0, .int 6]) (rest := []) ⟨hx, hb, hml, hown, hts⟩ (mX10_isBelow l p0 6 k1) (va_cwS 2 hts gX10_isTie_X10_isBelow rfl rfl rfl (by decide +kernel) ⟨Nat.le_of_ble_eq_true rfl, Nat.le_of_ble_eq_true rfl⟩) ⟨fun _ _ _ _ q => q, fun U hU hW => ⟨rfl, trivial⟩⟩ rfl rfl hl.1 rfl (lv_room (Nat.le_of_ble_eq_true rfl)) dX10_isTie_3 ⟨Nat.zero_le _, Nat.zero_le _⟩) (fun r9 er9 => ?_)
  replace er9 := er9.symm
  subst er9
  obtain ⟨b3, h⟩ := zk_elim h
  cases h
  exact W.zret hx hb hr b3 (fun t ht hW => ⟨_, rfl, rfl, ht⟩) (fun q hq => absurd hq List.not_mem_nil) dX10_isTie_6
set_option maxHeartbeats 4000000 in
set_option maxRecDepth 100000 in
theorem mX2_tell (l : Launch) (dC : Nat → ClassId) (dI : Nat → Nat → Nat) (cI cJ : ClassId) (ad : Nat → Nat) (p1 : Int32) (p2 : Int32) (p3 : Int32) (p4 : Int32) (S : Nat → Nat → Int32) (L : Nat → Nat → Int64) (sz : Nat) {z : Int32 × (Nat → Nat → Int32) × (Nat → Nat → Int64)} (h : sX2_tell p1 p2 p3 p4 S L = some z) : Met l yX2_tell wsX2_tell ({ frames := 0, cells := 0, slots := 0, locals := 0 }) (va_Pc [.ref (ad 1), .int p1, .int p2, .int p3, .int p4] (QXs sz dC dI cI cJ ad S L)) (va_Qi (fun (r : Int32) (u : (Nat → Nat → Int32) × (Nat → Nat → Int64)) => (r, u) = z) (fun (u : (Nat → Nat → Int32) × (Nat → Nat → Int64)) t => va_P (dC, dI) vwCl (wX cI cJ ad u.1 u.2) t.heap) (AX 43 ad sz)) 0 0 (AX 43 ad sz) := by
  refine Met.ofW (cc := cX2_tell) (maxL := 6) (ret := (some .int)) (by decide) rfl ?_
  intro p e s m args below meth c s₁ B hml hv
  obtain ⟨rfl, hsz, hP, hK, hD0⟩ := hv
  have hx := B.exec
  have hb := B.bytes
  have hr := B.returns
  have hts := atoms_spec (ws := wsX2_tell) B.pre
  have hown : s.vm.findClass RX2 = some m.cls := findClass_of_methodNamed B.named
  have hlocks := B.notSynchronized
  subst hsz
  have hD := wX_DA hD0 s.heap.size
  have hS : va_S (AX 43 ad s.heap.size) s.heap s.heap [] := va_S.rf
  have hl := lv_entry ([.ref (ad 1), .int p1, .int p2, .int p3, .int p4]) (n := 6) (Nat.le_of_ble_eq_true rfl)
  rw [lg_entry_eq]
  generalize (lg_sl ([.ref (ad 1), .int p1, .int p2, .int p3, .int p4]) ++ List.replicate (6 - (lg_sl ([.ref (ad 1), .int p1, .int p2, .int p3, .int p4])).length) Slot.unset).toArray = ls at hl ⊢
  have hl : lv_has ls 6 [(0, .ref (ad 1)), (1, .int p1), (2, .int p2), (3, .int p3), (4, .int p4)] := hl
  have hf9 := hts (.fieldLink RX2 9 "LawRings$Cases" "day" "[I") (by decide +kernel)
  have hiX2 : ∀ w ∈ u_ws RX2 TX2 6, w ∈ wsX2_tell := by decide +kernel
  have hf34 := hts (.fieldLink RX2 34 "LawRings$Cases" "told" "I") (by decide +kernel)
  have hf21 := hts (.fieldLink RX2 21 "LawRings$Cases" "since" "[I") (by decide +kernel)
  have hf18 := hts (.fieldLink RX2 18 "LawRings$Cases" "land" "[I") (by decide +kernel)
  rw [sX2_tell] at h
  refine lv_iload_n hx hb dX2_tell_0 rfl (lv_at hl 1 rfl) ?_
  refine lv_bipush (v := 6) hx hb dX2_tell_1 (by decide) ?_
  refine lv_imul hx hb dX2_tell_3 ?_
  refine lv_iload_n hx hb dX2_tell_4 rfl (lv_at hl 2 rfl) ?_
  refine lv_iadd hx hb dX2_tell_5 ?_
  obtain ⟨x1, ex1, h⟩ := bnd_elim h
  refine nm_i ex1 ?_
  refine lv_istore (lv' := [(5, .int x1), (0, .ref (ad 1)), (1, .int p1), (2, .int p2), (3, .int p3), (4, .int p4)]) hx hb dX2_tell_6 hl (by decide) rfl (fun ls hl => ?_)
  refine lv_iload hx hb dX2_tell_8 (lv_at hl 5 rfl) ?_
  refine lv_aload_n hx hb dX2_tell_10 rfl (lv_at hl 1 rfl) ?_
  refine va_get (D := (dC, dI)) (ci := 2) (v := .ref (ad 13)) (C := RX2) (T := TX2) (N := 6) hx hb hts hiX2 hown hK hP 1 rfl rfl 2 (by decide) hf9 (fun _ h9 => h9) rfl dX2_tell_11 ?_
  refine lv_iload_n hx hb dX2_tell_14 rfl (lv_at hl 2 rfl) ?_
  obtain ⟨b2, h⟩ := ck_elim h
  refine va_iald hx hb hK hP 13 0 rfl rfl b2 dX2_tell_15 ?_
  refine lv_icmp_gt (tgt := 48) hx hb dX2_tell_16 (by decide) (fun c3 => ?_) (fun c3 => ?_)
  · replace h := it_t c3 h
    refine lv_aload_n hx hb dX2_tell_48 rfl (lv_at hl 1 rfl) ?_
    refine lv_dup hx hb dX2_tell_49 rfl ?_
    refine va_get (D := (dC, dI)) (ci := 2) (v := .int (S 1 1)) (C := RX2) (T := TX2) (N := 6) hx hb hts hiX2 hown hK hP 1 rfl rfl 1 (by decide) hf34 (fun _ h9 => h9) rfl dX2_tell_50 ?_
    refine lv_iconst (v := 1) hx hb dX2_tell_53 (by decide) ?_
    refine lv_iadd hx hb dX2_tell_54 ?_
    obtain ⟨S4, eS4, h⟩ := bnd_elim h
    refine va_put (D := (dC, dI)) (ci := 2) (v := .int ((S 1 1) + 1)) (ty := .int) (C := RX2) (T := TX2) (N := 6) hx hb hts hiX2 tyX2 tyX2_ok nmX2 hown hK hP hD hS 1 rfl rfl 1 (by decide) hf34 (fun _ h9 => h9) rfl (by decide +kernel) rfl rfl (Nat.le_of_ble_eq_true rfl) dX2_tell_55 (fun H locs hP9 _ hS => ?_)
    have hP := swX_1_1 hP9
    rw [← eS4] at hP
    have hD := wX_D hD S4 L
    refine lv_aload_n hx hb dX2_tell_58 rfl (lv_at hl 1 rfl) ?_
    refine va_get (D := (dC, dI)) (ci := 2) (v := .int (S4 1 1)) (C := RX2) (T := TX2) (N := 6) hx hb hts hiX2 hown hK hP 1 rfl rfl 1 (by decide) hf34 (fun _ h9 => h9) rfl dX2_tell_59 ?_
    cases h
    exact W.iret hx hb hr (fun t ht hW => ⟨⟨_, _, rfl, rfl, by show va_P _ _ _ t.heap; rw [ht]; exact hP⟩, hS.F ht⟩) hS.2.2 dX2_tell_62
  · replace h := it_f c3 h
    refine lv_iload hx hb dX2_tell_19 (lv_at hl 5 rfl) ?_
    refine lv_aload_n hx hb dX2_tell_21 rfl (lv_at hl 1 rfl) ?_
    refine va_get (D := (dC, dI)) (ci := 2) (v := .ref (ad 16)) (C := RX2) (T := TX2) (N := 6) hx hb hts hiX2 hown hK hP 1 rfl rfl 5 (by decide) hf21 (fun _ h9 => h9) rfl dX2_tell_22 ?_
    refine lv_iload hx hb dX2_tell_25 (lv_at hl 0 rfl) ?_
    obtain ⟨b5, h⟩ := ck_elim h
    refine va_iald hx hb hK hP 16 0 rfl rfl b5 dX2_tell_27 ?_
    refine lv_icmp_lt (tgt := 48) hx hb dX2_tell_28 (by decide) (fun c6 => ?_) (fun c6 => ?_)
    · replace h := it_t c6 h
      refine lv_aload_n hx hb dX2_tell_48 rfl (lv_at hl 1 rfl) ?_
      refine lv_dup hx hb dX2_tell_49 rfl ?_
      refine va_get (D := (dC, dI)) (ci := 2) (v := .int (S 1 1)) (C := RX2) (T := TX2) (N := 6) hx hb hts hiX2 hown hK hP 1 rfl rfl 1 (by decide) hf34 (fun _ h9 => h9) rfl dX2_tell_50 ?_
      refine lv_iconst (v := 1) hx hb dX2_tell_53 (by decide) ?_
      refine lv_iadd hx hb dX2_tell_54 ?_
      obtain ⟨S7, eS7, h⟩ := bnd_elim h
      refine va_put (D := (dC, dI)) (ci := 2) (v := .int ((S 1 1) + 1)) (ty := .int) (C := RX2) (T := TX2) (N := 6) hx hb hts hiX2 tyX2 tyX2_ok nmX2 hown hK hP hD hS 1 rfl rfl 1 (by decide) hf34 (fun _ h9 => h9) rfl (by decide +kernel) rfl rfl (Nat.le_of_ble_eq_true rfl) dX2_tell_55 (fun H locs hP9 _ hS => ?_)
      have hP := swX_1_1 hP9
      rw [← eS7] at hP
      have hD := wX_D hD S7 L
      refine lv_aload_n hx hb dX2_tell_58 rfl (lv_at hl 1 rfl) ?_
      refine va_get (D := (dC, dI)) (ci := 2) (v := .int (S7 1 1)) (C := RX2) (T := TX2) (N := 6) hx hb hts hiX2 hown hK hP 1 rfl rfl 1 (by decide) hf34 (fun _ h9 => h9) rfl dX2_tell_59 ?_
      cases h
      exact W.iret hx hb hr (fun t ht hW => ⟨⟨_, _, rfl, rfl, by show va_P _ _ _ t.heap; rw [ht]; exact hP⟩, hS.F ht⟩) hS.2.2 dX2_tell_62
    · replace h := it_f c6 h
      refine lv_aload_n hx hb dX2_tell_31 rfl (lv_at hl 1 rfl) ?_
      refine va_get (D := (dC, dI)) (ci := 2) (v := .ref (ad 15)) (C := RX2) (T := TX2) (N := 6) hx hb hts hiX2 hown hK hP 1 rfl rfl 4 (by decide) hf18 (fun _ h9 => h9) rfl dX2_tell_32 ?_
      refine lv_iload hx hb dX2_tell_35 (lv_at hl 0 rfl) ?_
      refine lv_iload_n hx hb dX2_tell_37 rfl (lv_at hl 4 rfl) ?_
      obtain ⟨b8, h⟩ := ck_elim h
      obtain ⟨S9, eS9, h⟩ := bnd_elim h
      refine va_iast hx hb hK hP hD hS 15 0 rfl rfl b8 dX2_tell_38 (fun H locs hP9 _ hS => ?_)
      have hP := swX_15 hP9
      rw [← eS9] at hP
      have hD := wX_D hD S9 L
      refine lv_aload_n hx hb dX2_tell_39 rfl (lv_at hl 1 rfl) ?_
      refine va_get (D := (dC, dI)) (ci := 2) (v := .ref (ad 16)) (C := RX2) (T := TX2) (N := 6) hx hb hts hiX2 hown hK hP 1 rfl rfl 5 (by decide) hf21 (fun _ h9 => h9) rfl dX2_tell_40 ?_
      refine lv_iload hx hb dX2_tell_43 (lv_at hl 0 rfl) ?_
      refine lv_iload hx hb dX2_tell_45 (lv_at hl 5 rfl) ?_
      obtain ⟨b10, h⟩ := ck_elim h
      obtain ⟨S11, eS11, h⟩ := bnd_elim h
      refine va_iast hx hb hK hP hD hS 16 0 rfl rfl b10 dX2_tell_47 (fun H locs hP9 _ hS => ?_)
      have hP := swX_16 hP9
      rw [← eS11] at hP
      have hD := wX_D hD S11 L
      refine lv_aload_n hx hb dX2_tell_48 rfl (lv_at hl 1 rfl) ?_
      refine lv_dup hx hb dX2_tell_49 rfl ?_
      refine va_get (D := (dC, dI)) (ci := 2) (v := .int (S11 1 1)) (C := RX2) (T := TX2) (N := 6) hx hb hts hiX2 hown hK hP 1 rfl rfl 1 (by decide) hf34 (fun _ h9 => h9) rfl dX2_tell_50 ?_
      refine lv_iconst (v := 1) hx hb dX2_tell_53 (by decide) ?_
      refine lv_iadd hx hb dX2_tell_54 ?_
      obtain ⟨S12, eS12, h⟩ := bnd_elim h
      refine va_put (D := (dC, dI)) (ci := 2) (v := .int ((S11 1 1) + 1)) (ty := .int) (C := RX2) (T := TX2) (N := 6) hx hb hts hiX2 tyX2 tyX2_ok nmX2 hown hK hP hD hS 1 rfl rfl 1 (by decide) hf34 (fun _ h9 => h9) rfl (by decide +kernel) rfl rfl (Nat.le_of_ble_eq_true rfl) dX2_tell_55 (fun H locs hP9 _ hS => ?_)
      have hP := swX_1_1 hP9
      rw [← eS12] at hP
      have hD := wX_D hD S12 L
      refine lv_aload_n hx hb dX2_tell_58 rfl (lv_at hl 1 rfl) ?_
      refine va_get (D := (dC, dI)) (ci := 2) (v := .int (S12 1 1)) (C := RX2) (T := TX2) (N := 6) hx hb hts hiX2 hown hK hP 1 rfl rfl 1 (by decide) hf34 (fun _ h9 => h9) rfl dX2_tell_59 ?_
      cases h
      exact W.iret hx hb hr (fun t ht hW => ⟨⟨_, _, rfl, rfl, by show va_P _ _ _ t.heap; rw [ht]; exact hP⟩, hS.F ht⟩) hS.2.2 dX2_tell_62
set_option maxHeartbeats 4000000 in
set_option maxRecDepth 100000 in
theorem mX10_isLand (l : Launch) (p0 : Int32) {z : Int32} (h : sX10_isLand p0 = some z) : Met l yX10_isLand wsX10_isLand ({ frames := 1, cells := 0, slots := 0, locals := 21 }) (va_Pc [.int p0] (fun _ => True)) (vp_Si (fun r => r = z)) 0 0 (fun _ => False) := by
  refine Met.ofW (cc := cX10_isLand) (maxL := 1) (ret := (some .boolean)) (by decide) rfl ?_
  intro p e s m args below meth c s₁ B hml hv
  obtain ⟨rfl, -⟩ := hv
  have hx := B.exec
  have hb := B.bytes
  have hr := B.returns
  have hts := atoms_spec (ws := wsX10_isLand) B.pre
  have hown : s.vm.findClass RX10 = some m.cls := findClass_of_methodNamed B.named
  have hlocks := B.notSynchronized
  have hl := lv_entry ([.int p0]) (n := 1) (Nat.le_of_ble_eq_true rfl)
  rw [lg_entry_eq]
  generalize (lg_sl ([.int p0]) ++ List.replicate (1 - (lg_sl ([.int p0])).length) Slot.unset).toArray = ls at hl ⊢
  have hl : lv_has ls 1 [(0, .int p0)] := hl
  rw [sX10_isLand] at h
  refine lv_iload_n hx hb dX10_isLand_0 rfl (lv_at hl 0 rfl) ?_
  refine lv_iconst (v := 4) hx hb dX10_isLand_1 (by decide) ?_
  obtain ⟨r2, k1, h⟩ := ob_elim h
  refine vp_callSi (W.runS (As := [.int p0, .int 4]) (rest := []) ⟨hx, hb, hml, hown, hts⟩ (mX10_isBelow l p0 4 k1) (va_cwS 2 hts gX10_isLand_X10_isBelow rfl rfl rfl (by decide +kernel) ⟨Nat.le_of_ble_eq_true rfl, Nat.le_of_ble_eq_true rfl⟩) ⟨fun _ _ _ _ q => q, fun U hU hW => ⟨rfl, trivial⟩⟩ rfl rfl hl.1 rfl (lv_room (Nat.le_of_ble_eq_true rfl)) dX10_isLand_2 ⟨Nat.zero_le _, Nat.zero_le _⟩) (fun r9 er9 => ?_)
  replace er9 := er9.symm
  subst er9
  obtain ⟨b3, h⟩ := zk_elim h
  cases h
  exact W.zret hx hb hr b3 (fun t ht hW => ⟨_, rfl, rfl, ht⟩) (fun q hq => absurd hq List.not_mem_nil) dX10_isLand_5
set_option maxHeartbeats 4000000 in
set_option maxRecDepth 100000 in
theorem mX10_tie (l : Launch) (dC : Nat → ClassId) (dI : Nat → Nat → Nat) (cI cJ : ClassId) (ad : Nat → Nat) (p1 : Int32) (p2 : Int32) (p3 : Int32) (p4 : Int32) (S : Nat → Nat → Int32) (L : Nat → Nat → Int64) (sz : Nat) {z : Int32 × (Nat → Nat → Int32) × (Nat → Nat → Int64)} (h : sX10_tie p1 p2 p3 p4 S L = some z) : Met l yX10_tie wsX10_tie ({ frames := 2, cells := 0, slots := 0, locals := 42 }) (va_Pc [.ref (ad 0), .int p1, .int p2, .int p3, .int p4] (QXs sz dC dI cI cJ ad S L)) (va_Qi (fun (r : Int32) (u : (Nat → Nat → Int32) × (Nat → Nat → Int64)) => (r, u) = z) (fun (u : (Nat → Nat → Int32) × (Nat → Nat → Int64)) t => va_P (dC, dI) vwCl (wX cI cJ ad u.1 u.2) t.heap) (AX 43 ad sz)) 0 0 (AX 43 ad sz) := by
  refine Met.ofW (cc := cX10_tie) (maxL := 5) (ret := (some .int)) (by decide) rfl ?_
  intro p e s m args below meth c s₁ B hml hv
  obtain ⟨rfl, hsz, hP, hK, hD0⟩ := hv
  have hx := B.exec
  have hb := B.bytes
  have hr := B.returns
  have hts := atoms_spec (ws := wsX10_tie) B.pre
  have hown : s.vm.findClass RX10 = some m.cls := findClass_of_methodNamed B.named
  have hlocks := B.notSynchronized
  subst hsz
  have hD := wX_DA hD0 s.heap.size
  have hS : va_S (AX 43 ad s.heap.size) s.heap s.heap [] := va_S.rf
  have hl := lv_entry ([.ref (ad 0), .int p1, .int p2, .int p3, .int p4]) (n := 5) (Nat.le_of_ble_eq_true rfl)
  rw [lg_entry_eq]
  generalize (lg_sl ([.ref (ad 0), .int p1, .int p2, .int p3, .int p4]) ++ List.replicate (5 - (lg_sl ([.ref (ad 0), .int p1, .int p2, .int p3, .int p4])).length) Slot.unset).toArray = ls at hl ⊢
  have hl : lv_has ls 5 [(0, .ref (ad 0)), (1, .int p1), (2, .int p2), (3, .int p3), (4, .int p4)] := hl
  have hf12 := hts (.fieldLink RX10 12 "LawRings" "cases" "LLawRings$Cases;") (by decide +kernel)
  have hiX10 : ∀ w ∈ u_ws RX10 TX10 11, w ∈ wsX10_tie := by decide +kernel
  have hf111 := hts (.fieldLink RX10 111 "LawRings$Cases" "told" "I") (by decide +kernel)
  have hiX2 : ∀ w ∈ u_ws RX2 TX2 6, w ∈ wsX10_tie := by decide +kernel
  rw [sX10_tie] at h
  refine lv_aload_n hx hb dX10_tie_0 rfl (lv_at hl 0 rfl) ?_
  refine lv_iload_n hx hb dX10_tie_1 rfl (lv_at hl 1 rfl) ?_
  obtain ⟨r2, k1, h⟩ := ob_elim h
  refine vp_callSi (W.runV (As := [.int p1]) (rest := []) ⟨hx, hb, hml, hown, hts⟩ (mX10_isCase l dC dI cI cJ ad p1 S L k1) (cwV 1 hts gX10_tie_X10_isCase rfl rfl rfl (by decide +kernel) ⟨Nat.le_of_ble_eq_true rfl, Nat.le_of_ble_eq_true rfl⟩) ⟨QX_blind, va_recv hK hP (ci := 10) (q0 := 0) rfl rfl, fun U hU hW => ⟨rfl, QX_at hP hK hD hU hW⟩⟩ rfl rfl hl.1 rfl (lv_room (Nat.le_of_ble_eq_true rfl)) dX10_tie_2 ⟨Nat.zero_le _, Nat.zero_le _⟩) (fun r9 er9 => ?_)
  replace er9 := er9.symm
  subst er9
  refine lv_if_eq (tgt := 23) hx hb dX10_tie_5 (by decide) (fun c3 => ?_) (fun c3 => ?_)
  · replace h := it_t c3 h
    refine lv_bipush (v := (-2)) hx hb dX10_tie_23 (by decide) ?_
    cases h
    exact W.iret hx hb hr (fun t ht hW => ⟨⟨_, _, rfl, rfl, by show va_P _ _ _ t.heap; rw [ht]; exact hP⟩, hS.F ht⟩) hS.2.2 dX10_tie_25
  · replace h := it_f c3 h
    refine lv_iload_n hx hb dX10_tie_8 rfl (lv_at hl 2 rfl) ?_
    obtain ⟨r5, k4, h⟩ := ob_elim h
    refine vp_callSi (W.runS (As := [.int p2]) (rest := []) ⟨hx, hb, hml, hown, hts⟩ (mX10_isTie l p2 k4) (va_cwS 1 hts gX10_tie_X10_isTie rfl rfl rfl (by decide +kernel) ⟨Nat.le_of_ble_eq_true rfl, Nat.le_of_ble_eq_true rfl⟩) ⟨fun _ _ _ _ q => q, fun U hU hW => ⟨rfl, trivial⟩⟩ rfl rfl hl.1 rfl (lv_room (Nat.le_of_ble_eq_true rfl)) dX10_tie_9 ⟨Nat.zero_le _, Nat.zero_le _⟩) (fun r9 er9 => ?_)
    replace er9 := er9.symm
    subst er9
    refine lv_if_eq (tgt := 23) hx hb dX10_tie_12 (by decide) (fun c6 => ?_) (fun c6 => ?_)
    · replace h := it_t c6 h
      refine lv_bipush (v := (-2)) hx hb dX10_tie_23 (by decide) ?_
      cases h
      exact W.iret hx hb hr (fun t ht hW => ⟨⟨_, _, rfl, rfl, by show va_P _ _ _ t.heap; rw [ht]; exact hP⟩, hS.F ht⟩) hS.2.2 dX10_tie_25
    · replace h := it_f c6 h
      refine lv_iload hx hb dX10_tie_15 (lv_at hl 4 rfl) ?_
      obtain ⟨r8, k7, h⟩ := ob_elim h
      refine vp_callSi (W.runS (As := [.int p4]) (rest := []) ⟨hx, hb, hml, hown, hts⟩ (mX10_isDay l p4 k7) (va_cwS 1 hts gX10_tie_X10_isDay rfl rfl rfl (by decide +kernel) ⟨Nat.le_of_ble_eq_true rfl, Nat.le_of_ble_eq_true rfl⟩) ⟨fun _ _ _ _ q => q, fun U hU hW => ⟨rfl, trivial⟩⟩ rfl rfl hl.1 rfl (lv_room (Nat.le_of_ble_eq_true rfl)) dX10_tie_17 ⟨Nat.zero_le _, Nat.zero_le _⟩) (fun r9 er9 => ?_)
      replace er9 := er9.symm
      subst er9
      refine lv_if_ne (tgt := 26) hx hb dX10_tie_20 (by decide) (fun c9 => ?_) (fun c9 => ?_)
      · replace h := it_f c9 h
        refine lv_iload_n hx hb dX10_tie_26 rfl (lv_at hl 3 rfl) ?_
        refine lv_iconst (v := (-1)) hx hb dX10_tie_27 (by decide) ?_
        refine lv_icmp_eq (tgt := 41) hx hb dX10_tie_28 (by decide) (fun c10 => ?_) (fun c10 => ?_)
        · replace h := it_t c10 h
          refine lv_aload_n hx hb dX10_tie_41 rfl (lv_at hl 0 rfl) ?_
          refine va_get (D := (dC, dI)) (ci := 10) (v := .ref (ad 1)) (C := RX10) (T := TX10) (N := 11) hx hb hts hiX10 hown hK hP 0 rfl rfl 0 (by decide) hf12 (fun _ h9 => h9) rfl dX10_tie_42 ?_
          refine va_get (D := (dC, dI)) (ci := 2) (v := .int (S 1 1)) (C := RX2) (T := TX2) (N := 6) hx hb hts hiX2 hown hK hP 1 rfl rfl 1 (by decide) hf111 (fun _ h9 => h9) rfl dX10_tie_45 ?_
          refine lv_bipush (v := 60) hx hb dX10_tie_48 (by decide) ?_
          refine lv_icmp_lt (tgt := 56) hx hb dX10_tie_50 (by decide) (fun c11 => ?_) (fun c11 => ?_)
          · replace h := it_t c11 h
            refine lv_aload_n hx hb dX10_tie_56 rfl (lv_at hl 0 rfl) ?_
            refine va_get (D := (dC, dI)) (ci := 10) (v := .ref (ad 1)) (C := RX10) (T := TX10) (N := 11) hx hb hts hiX10 hown hK hP 0 rfl rfl 0 (by decide) hf12 (fun _ h9 => h9) rfl dX10_tie_57 ?_
            refine lv_iload_n hx hb dX10_tie_60 rfl (lv_at hl 1 rfl) ?_
            refine lv_iload_n hx hb dX10_tie_61 rfl (lv_at hl 2 rfl) ?_
            refine lv_iload_n hx hb dX10_tie_62 rfl (lv_at hl 3 rfl) ?_
            refine lv_iload hx hb dX10_tie_63 (lv_at hl 4 rfl) ?_
            obtain ⟨r15, S13, L14, k12, h⟩ := ob3_elim h
            refine va_calli (va_runV (As := [.int p1, .int p2, .int p3, .int p4]) (rest := []) ⟨hx, hb, hml, hown, hts⟩ (mX2_tell l dC dI cI cJ ad p1 p2 p3 p4 S L s.heap.size k12) (cwV 4 hts gX10_tie_X2_tell rfl rfl rfl (by decide +kernel) ⟨Nat.le_of_ble_eq_true rfl, Nat.le_of_ble_eq_true rfl⟩) ⟨QXs_blind, va_recv hK hP (ci := 2) (q0 := 1) rfl rfl, fun U hU hW => ⟨rfl, congrArg Array.size hU, QX_at hP hK hD hU hW⟩⟩ rfl rfl hl.1 rfl (lv_room (Nat.le_of_ble_eq_true rfl)) dX10_tie_65 ⟨Nat.zero_le _, Nat.zero_le _⟩) hS (fun q _ hq => AX_mono hS.1 hq) (fun q hq => AX_mono hS.1 hq) (fun r u t H1 locs ht hvm hw hB hz1 hk1 hS => ?_)
            cases hw
            rw [ht] at hB
            have hP := hB
            clear hB hk1 hz1
            generalize H1 = H at hP hS ⊢
            have hD := wX_D hD S13 L14
            cases h
            exact W.iret hx hb hr (fun t ht hW => ⟨⟨_, _, rfl, rfl, by show va_P _ _ _ t.heap; rw [ht]; exact hP⟩, hS.F ht⟩) hS.2.2 dX10_tie_68
          · replace h := it_f c11 h
            refine lv_bipush (v := (-4)) hx hb dX10_tie_53 (by decide) ?_
            cases h
            exact W.iret hx hb hr (fun t ht hW => ⟨⟨_, _, rfl, rfl, by show va_P _ _ _ t.heap; rw [ht]; exact hP⟩, hS.F ht⟩) hS.2.2 dX10_tie_55
        · replace h := it_f c10 h
          refine lv_iload_n hx hb dX10_tie_31 rfl (lv_at hl 3 rfl) ?_
          obtain ⟨r17, k16, h⟩ := ob_elim h
          refine vp_callSi (W.runS (As := [.int p3]) (rest := []) ⟨hx, hb, hml, hown, hts⟩ (mX10_isLand l p3 k16) (va_cwS 1 hts gX10_tie_X10_isLand rfl rfl rfl (by decide +kernel) ⟨Nat.le_of_ble_eq_true rfl, Nat.le_of_ble_eq_true rfl⟩) ⟨fun _ _ _ _ q => q, fun U hU hW => ⟨rfl, trivial⟩⟩ rfl rfl hl.1 rfl (lv_room (Nat.le_of_ble_eq_true rfl)) dX10_tie_32 ⟨Nat.zero_le _, Nat.zero_le _⟩) (fun r9 er9 => ?_)
          replace er9 := er9.symm
          subst er9
          refine lv_if_ne (tgt := 41) hx hb dX10_tie_35 (by decide) (fun c18 => ?_) (fun c18 => ?_)
          · replace h := it_f c18 h
            refine lv_aload_n hx hb dX10_tie_41 rfl (lv_at hl 0 rfl) ?_
            refine va_get (D := (dC, dI)) (ci := 10) (v := .ref (ad 1)) (C := RX10) (T := TX10) (N := 11) hx hb hts hiX10 hown hK hP 0 rfl rfl 0 (by decide) hf12 (fun _ h9 => h9) rfl dX10_tie_42 ?_
            refine va_get (D := (dC, dI)) (ci := 2) (v := .int (S 1 1)) (C := RX2) (T := TX2) (N := 6) hx hb hts hiX2 hown hK hP 1 rfl rfl 1 (by decide) hf111 (fun _ h9 => h9) rfl dX10_tie_45 ?_
            refine lv_bipush (v := 60) hx hb dX10_tie_48 (by decide) ?_
            refine lv_icmp_lt (tgt := 56) hx hb dX10_tie_50 (by decide) (fun c19 => ?_) (fun c19 => ?_)
            · replace h := it_t c19 h
              refine lv_aload_n hx hb dX10_tie_56 rfl (lv_at hl 0 rfl) ?_
              refine va_get (D := (dC, dI)) (ci := 10) (v := .ref (ad 1)) (C := RX10) (T := TX10) (N := 11) hx hb hts hiX10 hown hK hP 0 rfl rfl 0 (by decide) hf12 (fun _ h9 => h9) rfl dX10_tie_57 ?_
              refine lv_iload_n hx hb dX10_tie_60 rfl (lv_at hl 1 rfl) ?_
              refine lv_iload_n hx hb dX10_tie_61 rfl (lv_at hl 2 rfl) ?_
              refine lv_iload_n hx hb dX10_tie_62 rfl (lv_at hl 3 rfl) ?_
              refine lv_iload hx hb dX10_tie_63 (lv_at hl 4 rfl) ?_
              obtain ⟨r23, S21, L22, k20, h⟩ := ob3_elim h
              refine va_calli (va_runV (As := [.int p1, .int p2, .int p3, .int p4]) (rest := []) ⟨hx, hb, hml, hown, hts⟩ (mX2_tell l dC dI cI cJ ad p1 p2 p3 p4 S L s.heap.size k20) (cwV 4 hts gX10_tie_X2_tell rfl rfl rfl (by decide +kernel) ⟨Nat.le_of_ble_eq_true rfl, Nat.le_of_ble_eq_true rfl⟩) ⟨QXs_blind, va_recv hK hP (ci := 2) (q0 := 1) rfl rfl, fun U hU hW => ⟨rfl, congrArg Array.size hU, QX_at hP hK hD hU hW⟩⟩ rfl rfl hl.1 rfl (lv_room (Nat.le_of_ble_eq_true rfl)) dX10_tie_65 ⟨Nat.zero_le _, Nat.zero_le _⟩) hS (fun q _ hq => AX_mono hS.1 hq) (fun q hq => AX_mono hS.1 hq) (fun r u t H1 locs ht hvm hw hB hz1 hk1 hS => ?_)
              cases hw
              rw [ht] at hB
              have hP := hB
              clear hB hk1 hz1
              generalize H1 = H at hP hS ⊢
              have hD := wX_D hD S21 L22
              cases h
              exact W.iret hx hb hr (fun t ht hW => ⟨⟨_, _, rfl, rfl, by show va_P _ _ _ t.heap; rw [ht]; exact hP⟩, hS.F ht⟩) hS.2.2 dX10_tie_68
            · replace h := it_f c19 h
              refine lv_bipush (v := (-4)) hx hb dX10_tie_53 (by decide) ?_
              cases h
              exact W.iret hx hb hr (fun t ht hW => ⟨⟨_, _, rfl, rfl, by show va_P _ _ _ t.heap; rw [ht]; exact hP⟩, hS.F ht⟩) hS.2.2 dX10_tie_55
          · replace h := it_t c18 h
            refine lv_bipush (v := (-2)) hx hb dX10_tie_38 (by decide) ?_
            cases h
            exact W.iret hx hb hr (fun t ht hW => ⟨⟨_, _, rfl, rfl, by show va_P _ _ _ t.heap; rw [ht]; exact hP⟩, hS.F ht⟩) hS.2.2 dX10_tie_40
      · replace h := it_t c9 h
        refine lv_bipush (v := (-2)) hx hb dX10_tie_23 (by decide) ?_
        cases h
        exact W.iret hx hb hr (fun t ht hW => ⟨⟨_, _, rfl, rfl, by show va_P _ _ _ t.heap; rw [ht]; exact hP⟩, hS.F ht⟩) hS.2.2 dX10_tie_25
set_option maxHeartbeats 4000000 in
set_option maxRecDepth 100000 in
theorem mX11_is (l : Launch) (dC : Nat → ClassId) (dI : Nat → Nat → Nat) (cI cZ : ClassId) (ad : Nat → Nat) (p1 : Int32) (p2 : Int32) (S : Nat → Nat → Int32) {z : Int32} (h : sX11_is p1 p2 S = some z) : Met l yX11_is wsX11_is ({ frames := 1, cells := 0, slots := 0, locals := 22 }) (va_Pc [.ref (ad 0), .int p1, .int p2] (QM dC dI cI cZ ad S)) (vp_Si (fun r => r = z)) 0 0 (fun _ => False) := by
  refine Met.ofW (cc := cX11_is) (maxL := 3) (ret := (some .boolean)) (by decide) rfl ?_
  intro p e s m args below meth c s₁ B hml hv
  obtain ⟨rfl, hP, hK, hD⟩ := hv
  have hx := B.exec
  have hb := B.bytes
  have hr := B.returns
  have hts := atoms_spec (ws := wsX11_is) B.pre
  have hown : s.vm.findClass RX11 = some m.cls := findClass_of_methodNamed B.named
  have hlocks := B.notSynchronized
  have hl := lv_entry ([.ref (ad 0), .int p1, .int p2]) (n := 3) (Nat.le_of_ble_eq_true rfl)
  rw [lg_entry_eq]
  generalize (lg_sl ([.ref (ad 0), .int p1, .int p2]) ++ List.replicate (3 - (lg_sl ([.ref (ad 0), .int p1, .int p2])).length) Slot.unset).toArray = ls at hl ⊢
  have hl : lv_has ls 3 [(0, .ref (ad 0)), (1, .int p1), (2, .int p2)] := hl
  have hf7 := hts (.fieldLink RX11 7 "LawRingsModel" "st" "[I") (by decide +kernel)
  have hiX11 : ∀ w ∈ u_ws RX11 TX11 8, w ∈ wsX11_is := by decide +kernel
  rw [sX11_is] at h
  refine lv_iload_n hx hb dX11_is_0 rfl (lv_at hl 2 rfl) ?_
  refine lv_iconst (v := 0) hx hb dX11_is_1 (by decide) ?_
  refine lv_aload_n hx hb dX11_is_2 rfl (lv_at hl 0 rfl) ?_
  refine va_get (D := (dC, dI)) (ci := 11) (v := .ref (ad 1)) (C := RX11) (T := TX11) (N := 8) hx hb hts hiX11 hown hK hP 0 rfl rfl 0 (by decide) hf7 (fun _ h9 => h9) rfl dX11_is_3 ?_
  refine lv_iload_n hx hb dX11_is_6 rfl (lv_at hl 1 rfl) ?_
  obtain ⟨b1, h⟩ := ck_elim h
  refine va_iald hx hb hK hP 1 0 rfl rfl b1 dX11_is_7 ?_
  refine lv_iconst (v := 1) hx hb dX11_is_8 (by decide) ?_
  refine lv_isub hx hb dX11_is_9 ?_
  obtain ⟨r3, k2, h⟩ := ob_elim h
  refine vp_callSi (W.runS (As := [.int p2, .int 0, .int ((S 1 p1.toNatClampNeg) - 1)]) (rest := []) ⟨hx, hb, hml, hown, hts⟩ (mX11_in l p2 0 ((S 1 p1.toNatClampNeg) - 1) k2) (va_cwS 3 hts gX11_is_X11_in rfl rfl rfl (by decide +kernel) ⟨Nat.le_of_ble_eq_true rfl, Nat.le_of_ble_eq_true rfl⟩) ⟨fun _ _ _ _ q => q, fun U hU hW => ⟨rfl, trivial⟩⟩ rfl rfl hl.1 rfl (lv_room (Nat.le_of_ble_eq_true rfl)) dX11_is_10 ⟨Nat.zero_le _, Nat.zero_le _⟩) (fun r9 er9 => ?_)
  replace er9 := er9.symm
  subst er9
  obtain ⟨b4, h⟩ := zk_elim h
  cases h
  exact W.zret hx hb hr b4 (fun t ht hW => ⟨_, rfl, rfl, ht⟩) (fun q hq => absurd hq List.not_mem_nil) dX11_is_13
set_option maxHeartbeats 4000000 in
set_option maxRecDepth 100000 in
theorem mX11_isTie (l : Launch) (p0 : Int32) {z : Int32} (h : sX11_isTie p0 = some z) : Met l yX11_isTie wsX11_isTie ({ frames := 1, cells := 0, slots := 0, locals := 22 }) (va_Pc [.int p0] (fun _ => True)) (vp_Si (fun r => r = z)) 0 0 (fun _ => False) := by
  refine Met.ofW (cc := cX11_isTie) (maxL := 1) (ret := (some .boolean)) (by decide) rfl ?_
  intro p e s m args below meth c s₁ B hml hv
  obtain ⟨rfl, -⟩ := hv
  have hx := B.exec
  have hb := B.bytes
  have hr := B.returns
  have hts := atoms_spec (ws := wsX11_isTie) B.pre
  have hown : s.vm.findClass RX11 = some m.cls := findClass_of_methodNamed B.named
  have hlocks := B.notSynchronized
  have hl := lv_entry ([.int p0]) (n := 1) (Nat.le_of_ble_eq_true rfl)
  rw [lg_entry_eq]
  generalize (lg_sl ([.int p0]) ++ List.replicate (1 - (lg_sl ([.int p0])).length) Slot.unset).toArray = ls at hl ⊢
  have hl : lv_has ls 1 [(0, .int p0)] := hl
  rw [sX11_isTie] at h
  refine lv_iload_n hx hb dX11_isTie_0 rfl (lv_at hl 0 rfl) ?_
  refine lv_iconst (v := 0) hx hb dX11_isTie_1 (by decide) ?_
  refine lv_iconst (v := 5) hx hb dX11_isTie_2 (by decide) ?_
  obtain ⟨r2, k1, h⟩ := ob_elim h
  refine vp_callSi (W.runS (As := [.int p0, .int 0, .int 5]) (rest := []) ⟨hx, hb, hml, hown, hts⟩ (mX11_in l p0 0 5 k1) (va_cwS 3 hts gX11_isTie_X11_in rfl rfl rfl (by decide +kernel) ⟨Nat.le_of_ble_eq_true rfl, Nat.le_of_ble_eq_true rfl⟩) ⟨fun _ _ _ _ q => q, fun U hU hW => ⟨rfl, trivial⟩⟩ rfl rfl hl.1 rfl (lv_room (Nat.le_of_ble_eq_true rfl)) dX11_isTie_3 ⟨Nat.zero_le _, Nat.zero_le _⟩) (fun r9 er9 => ?_)
  replace er9 := er9.symm
  subst er9
  obtain ⟨b3, h⟩ := zk_elim h
  cases h
  exact W.zret hx hb hr b3 (fun t ht hW => ⟨_, rfl, rfl, ht⟩) (fun q hq => absurd hq List.not_mem_nil) dX11_isTie_6
set_option maxHeartbeats 4000000 in
set_option maxRecDepth 100000 in
theorem mX11_tie (l : Launch) (dC : Nat → ClassId) (dI : Nat → Nat → Nat) (cI cZ : ClassId) (ad : Nat → Nat) (p1 : Int32) (p2 : Int32) (p3 : Int32) (p4 : Int32) (S : Nat → Nat → Int32) (sz : Nat) {z : Int32 × (Nat → Nat → Int32)} (h : sX11_tie p1 p2 p3 p4 S = some z) : Met l yX11_tie wsX11_tie ({ frames := 2, cells := 0, slots := 0, locals := 44 }) (va_Pc [.ref (ad 0), .int p1, .int p2, .int p3, .int p4] (QMs sz dC dI cI cZ ad S)) (va_Qi (fun (r : Int32) (u : (Nat → Nat → Int32)) => (r, u) = z) (fun (u : (Nat → Nat → Int32)) t => va_P (dC, dI) vwCl (wM cI cZ ad u) t.heap) (AX 7 ad sz)) 0 0 (AX 7 ad sz) := by
  refine Met.ofW (cc := cX11_tie) (maxL := 6) (ret := (some .int)) (by decide) rfl ?_
  intro p e s m args below meth c s₁ B hml hv
  obtain ⟨rfl, hsz, hP, hK, hD0⟩ := hv
  have hx := B.exec
  have hb := B.bytes
  have hr := B.returns
  have hts := atoms_spec (ws := wsX11_tie) B.pre
  have hown : s.vm.findClass RX11 = some m.cls := findClass_of_methodNamed B.named
  have hlocks := B.notSynchronized
  subst hsz
  have hD := wM_DA hD0 s.heap.size
  have hS : va_S (AX 7 ad s.heap.size) s.heap s.heap [] := va_S.rf
  have hl := lv_entry ([.ref (ad 0), .int p1, .int p2, .int p3, .int p4]) (n := 6) (Nat.le_of_ble_eq_true rfl)
  rw [lg_entry_eq]
  generalize (lg_sl ([.ref (ad 0), .int p1, .int p2, .int p3, .int p4]) ++ List.replicate (6 - (lg_sl ([.ref (ad 0), .int p1, .int p2, .int p3, .int p4])).length) Slot.unset).toArray = ls at hl ⊢
  have hl : lv_has ls 6 [(0, .ref (ad 0)), (1, .int p1), (2, .int p2), (3, .int p3), (4, .int p4)] := hl
  have hf7 := hts (.fieldLink RX11 7 "LawRingsModel" "st" "[I") (by decide +kernel)
  have hiX11 : ∀ w ∈ u_ws RX11 TX11 8, w ∈ wsX11_tie := by decide +kernel
  rw [sX11_tie] at h
  refine lv_aload_n hx hb dX11_tie_0 rfl (lv_at hl 0 rfl) ?_
  refine lv_iconst (v := 0) hx hb dX11_tie_1 (by decide) ?_
  refine lv_iload_n hx hb dX11_tie_2 rfl (lv_at hl 1 rfl) ?_
  obtain ⟨r2, k1, h⟩ := ob_elim h
  refine vp_callSi (W.runV (As := [.int 0, .int p1]) (rest := []) ⟨hx, hb, hml, hown, hts⟩ (mX11_is l dC dI cI cZ ad 0 p1 S k1) (cwV 2 hts gX11_tie_X11_is rfl rfl rfl (by decide +kernel) ⟨Nat.le_of_ble_eq_true rfl, Nat.le_of_ble_eq_true rfl⟩) ⟨QM_blind, va_recv hK hP (ci := 11) (q0 := 0) rfl rfl, fun U hU hW => ⟨rfl, QM_at hP hK hD hU hW⟩⟩ rfl rfl hl.1 rfl (lv_room (Nat.le_of_ble_eq_true rfl)) dX11_tie_3 ⟨Nat.zero_le _, Nat.zero_le _⟩) (fun r9 er9 => ?_)
  replace er9 := er9.symm
  subst er9
  refine lv_if_eq (tgt := 33) hx hb dX11_tie_6 (by decide) (fun c3 => ?_) (fun c3 => ?_)
  · replace h := it_t c3 h
    refine lv_bipush (v := (-2)) hx hb dX11_tie_33 (by decide) ?_
    cases h
    exact W.iret hx hb hr (fun t ht hW => ⟨⟨_, _, rfl, rfl, by show va_P _ _ _ t.heap; rw [ht]; exact hP⟩, hS.F ht⟩) hS.2.2 dX11_tie_35
  · replace h := it_f c3 h
    refine lv_iload_n hx hb dX11_tie_9 rfl (lv_at hl 2 rfl) ?_
    obtain ⟨r5, k4, h⟩ := ob_elim h
    refine vp_callSi (W.runS (As := [.int p2]) (rest := []) ⟨hx, hb, hml, hown, hts⟩ (mX11_isTie l p2 k4) (va_cwS 1 hts gX11_tie_X11_isTie rfl rfl rfl (by decide +kernel) ⟨Nat.le_of_ble_eq_true rfl, Nat.le_of_ble_eq_true rfl⟩) ⟨fun _ _ _ _ q => q, fun U hU hW => ⟨rfl, trivial⟩⟩ rfl rfl hl.1 rfl (lv_room (Nat.le_of_ble_eq_true rfl)) dX11_tie_10 ⟨Nat.zero_le _, Nat.zero_le _⟩) (fun r9 er9 => ?_)
    replace er9 := er9.symm
    subst er9
    refine lv_if_eq (tgt := 33) hx hb dX11_tie_13 (by decide) (fun c6 => ?_) (fun c6 => ?_)
    · replace h := it_t c6 h
      refine lv_bipush (v := (-2)) hx hb dX11_tie_33 (by decide) ?_
      cases h
      exact W.iret hx hb hr (fun t ht hW => ⟨⟨_, _, rfl, rfl, by show va_P _ _ _ t.heap; rw [ht]; exact hP⟩, hS.F ht⟩) hS.2.2 dX11_tie_35
    · replace h := it_f c6 h
      refine lv_iload_n hx hb dX11_tie_16 rfl (lv_at hl 3 rfl) ?_
      refine lv_iconst (v := (-1)) hx hb dX11_tie_17 (by decide) ?_
      refine lv_iconst (v := 3) hx hb dX11_tie_18 (by decide) ?_
      obtain ⟨r8, k7, h⟩ := ob_elim h
      refine vp_callSi (W.runS (As := [.int p3, .int (-1), .int 3]) (rest := []) ⟨hx, hb, hml, hown, hts⟩ (mX11_in l p3 (-1) 3 k7) (va_cwS 3 hts gX11_tie_X11_in rfl rfl rfl (by decide +kernel) ⟨Nat.le_of_ble_eq_true rfl, Nat.le_of_ble_eq_true rfl⟩) ⟨fun _ _ _ _ q => q, fun U hU hW => ⟨rfl, trivial⟩⟩ rfl rfl hl.1 rfl (lv_room (Nat.le_of_ble_eq_true rfl)) dX11_tie_19 ⟨Nat.zero_le _, Nat.zero_le _⟩) (fun r9 er9 => ?_)
      replace er9 := er9.symm
      subst er9
      refine lv_if_eq (tgt := 33) hx hb dX11_tie_22 (by decide) (fun c9 => ?_) (fun c9 => ?_)
      · replace h := it_t c9 h
        refine lv_bipush (v := (-2)) hx hb dX11_tie_33 (by decide) ?_
        cases h
        exact W.iret hx hb hr (fun t ht hW => ⟨⟨_, _, rfl, rfl, by show va_P _ _ _ t.heap; rw [ht]; exact hP⟩, hS.F ht⟩) hS.2.2 dX11_tie_35
      · replace h := it_f c9 h
        refine lv_iload hx hb dX11_tie_25 (lv_at hl 4 rfl) ?_
        obtain ⟨r11, k10, h⟩ := ob_elim h
        refine vp_callSi (W.runS (As := [.int p4]) (rest := []) ⟨hx, hb, hml, hown, hts⟩ (mX11_isDay l p4 k10) (va_cwS 1 hts gX11_tie_X11_isDay rfl rfl rfl (by decide +kernel) ⟨Nat.le_of_ble_eq_true rfl, Nat.le_of_ble_eq_true rfl⟩) ⟨fun _ _ _ _ q => q, fun U hU hW => ⟨rfl, trivial⟩⟩ rfl rfl hl.1 rfl (lv_room (Nat.le_of_ble_eq_true rfl)) dX11_tie_27 ⟨Nat.zero_le _, Nat.zero_le _⟩) (fun r9 er9 => ?_)
        replace er9 := er9.symm
        subst er9
        refine lv_if_ne (tgt := 36) hx hb dX11_tie_30 (by decide) (fun c12 => ?_) (fun c12 => ?_)
        · replace h := it_f c12 h
          refine lv_aload_n hx hb dX11_tie_36 rfl (lv_at hl 0 rfl) ?_
          refine va_get (D := (dC, dI)) (ci := 11) (v := .ref (ad 1)) (C := RX11) (T := TX11) (N := 8) hx hb hts hiX11 hown hK hP 0 rfl rfl 0 (by decide) hf7 (fun _ h9 => h9) rfl dX11_tie_37 ?_
          refine lv_iconst (v := 1) hx hb dX11_tie_40 (by decide) ?_
          obtain ⟨b13, h⟩ := ck_elim h
          refine va_iald hx hb hK hP 1 0 rfl rfl b13 dX11_tie_41 ?_
          refine lv_bipush (v := 60) hx hb dX11_tie_42 (by decide) ?_
          refine lv_icmp_ne (tgt := 50) hx hb dX11_tie_44 (by decide) (fun c14 => ?_) (fun c14 => ?_)
          · replace h := it_f c14 h
            refine lv_bipush (v := 42) hx hb dX11_tie_50 (by decide) ?_
            refine lv_iconst (v := 4) hx hb dX11_tie_52 (by decide) ?_
            refine lv_aload_n hx hb dX11_tie_53 rfl (lv_at hl 0 rfl) ?_
            refine va_get (D := (dC, dI)) (ci := 11) (v := .ref (ad 1)) (C := RX11) (T := TX11) (N := 8) hx hb hts hiX11 hown hK hP 0 rfl rfl 0 (by decide) hf7 (fun _ h9 => h9) rfl dX11_tie_54 ?_
            refine lv_iconst (v := 1) hx hb dX11_tie_57 (by decide) ?_
            obtain ⟨b15, h⟩ := ck_elim h
            refine va_iald hx hb hK hP 1 0 rfl rfl b15 dX11_tie_58 ?_
            refine lv_imul hx hb dX11_tie_59 ?_
            refine lv_iadd hx hb dX11_tie_60 ?_
            obtain ⟨x16, ex16, h⟩ := bnd_elim h
            refine nm_i ex16 ?_
            refine lv_istore (lv' := [(5, .int x16), (0, .ref (ad 0)), (1, .int p1), (2, .int p2), (3, .int p3), (4, .int p4)]) hx hb dX11_tie_61 hl (by decide) rfl (fun ls hl => ?_)
            refine lv_aload_n hx hb dX11_tie_63 rfl (lv_at hl 1 rfl) ?_
            refine va_get (D := (dC, dI)) (ci := 11) (v := .ref (ad 1)) (C := RX11) (T := TX11) (N := 8) hx hb hts hiX11 hown hK hP 0 rfl rfl 0 (by decide) hf7 (fun _ h9 => h9) rfl dX11_tie_64 ?_
            refine lv_iload hx hb dX11_tie_67 (lv_at hl 0 rfl) ?_
            refine lv_iload_n hx hb dX11_tie_69 rfl (lv_at hl 2 rfl) ?_
            obtain ⟨b17, h⟩ := ck_elim h
            obtain ⟨S18, eS18, h⟩ := bnd_elim h
            refine va_iast hx hb hK hP hD hS 1 0 rfl rfl b17 dX11_tie_70 (fun H locs hP9 _ hS => ?_)
            have hP := swM_1 hP9
            rw [← eS18] at hP
            have hD := wM_D hD S18
            refine lv_aload_n hx hb dX11_tie_71 rfl (lv_at hl 1 rfl) ?_
            refine va_get (D := (dC, dI)) (ci := 11) (v := .ref (ad 1)) (C := RX11) (T := TX11) (N := 8) hx hb hts hiX11 hown hK hP 0 rfl rfl 0 (by decide) hf7 (fun _ h9 => h9) rfl dX11_tie_72 ?_
            refine lv_iload hx hb dX11_tie_75 (lv_at hl 0 rfl) ?_
            refine lv_iconst (v := 1) hx hb dX11_tie_77 (by decide) ?_
            refine lv_iadd hx hb dX11_tie_78 ?_
            refine lv_iload_n hx hb dX11_tie_79 rfl (lv_at hl 3 rfl) ?_
            obtain ⟨b19, h⟩ := ck_elim h
            obtain ⟨S20, eS20, h⟩ := bnd_elim h
            refine va_iast hx hb hK hP hD hS 1 0 rfl rfl b19 dX11_tie_80 (fun H locs hP9 _ hS => ?_)
            have hP := swM_1 hP9
            rw [← eS20] at hP
            have hD := wM_D hD S20
            refine lv_aload_n hx hb dX11_tie_81 rfl (lv_at hl 1 rfl) ?_
            refine va_get (D := (dC, dI)) (ci := 11) (v := .ref (ad 1)) (C := RX11) (T := TX11) (N := 8) hx hb hts hiX11 hown hK hP 0 rfl rfl 0 (by decide) hf7 (fun _ h9 => h9) rfl dX11_tie_82 ?_
            refine lv_iload hx hb dX11_tie_85 (lv_at hl 0 rfl) ?_
            refine lv_iconst (v := 2) hx hb dX11_tie_87 (by decide) ?_
            refine lv_iadd hx hb dX11_tie_88 ?_
            refine lv_iload_n hx hb dX11_tie_89 rfl (lv_at hl 4 rfl) ?_
            obtain ⟨b21, h⟩ := ck_elim h
            obtain ⟨S22, eS22, h⟩ := bnd_elim h
            refine va_iast hx hb hK hP hD hS 1 0 rfl rfl b21 dX11_tie_90 (fun H locs hP9 _ hS => ?_)
            have hP := swM_1 hP9
            rw [← eS22] at hP
            have hD := wM_D hD S22
            refine lv_aload_n hx hb dX11_tie_91 rfl (lv_at hl 1 rfl) ?_
            refine va_get (D := (dC, dI)) (ci := 11) (v := .ref (ad 1)) (C := RX11) (T := TX11) (N := 8) hx hb hts hiX11 hown hK hP 0 rfl rfl 0 (by decide) hf7 (fun _ h9 => h9) rfl dX11_tie_92 ?_
            refine lv_iload hx hb dX11_tie_95 (lv_at hl 0 rfl) ?_
            refine lv_iconst (v := 3) hx hb dX11_tie_97 (by decide) ?_
            refine lv_iadd hx hb dX11_tie_98 ?_
            refine lv_iload hx hb dX11_tie_99 (lv_at hl 5 rfl) ?_
            obtain ⟨b23, h⟩ := ck_elim h
            obtain ⟨S24, eS24, h⟩ := bnd_elim h
            refine va_iast hx hb hK hP hD hS 1 0 rfl rfl b23 dX11_tie_101 (fun H locs hP9 _ hS => ?_)
            have hP := swM_1 hP9
            rw [← eS24] at hP
            have hD := wM_D hD S24
            refine lv_aload_n hx hb dX11_tie_102 rfl (lv_at hl 1 rfl) ?_
            refine lv_iconst (v := 1) hx hb dX11_tie_103 (by decide) ?_
            obtain ⟨r27, S26, k25, h⟩ := ob2_elim h
            refine va_calli (va_runV (As := [.int 1]) (rest := []) ⟨hx, hb, hml, hown, hts⟩ (mX11_one l dC dI cI cZ ad 1 S24 H.size k25) (cwV 1 hts gX11_tie_X11_one rfl rfl rfl (by decide +kernel) ⟨Nat.le_of_ble_eq_true rfl, Nat.le_of_ble_eq_true rfl⟩) ⟨QMs_blind, va_recv hK hP (ci := 11) (q0 := 0) rfl rfl, fun U hU hW => ⟨rfl, congrArg Array.size hU, QM_at hP hK hD hU hW⟩⟩ rfl rfl hl.1 rfl (lv_room (Nat.le_of_ble_eq_true rfl)) dX11_tie_104 ⟨Nat.zero_le _, Nat.zero_le _⟩) hS (fun q _ hq => AX_mono hS.1 hq) (fun q hq => AX_mono hS.1 hq) (fun r u t H1 locs ht hvm hw hB hz1 hk1 hS => ?_)
            cases hw
            rw [ht] at hB
            have hP := hB
            clear hB hk1 hz1
            generalize H1 = H at hP hS ⊢
            have hD := wM_D hD S26
            refine lv_iconst (v := 1) hx hb dX11_tie_107 (by decide) ?_
            refine lv_iadd hx hb dX11_tie_108 ?_
            cases h
            exact W.iret hx hb hr (fun t ht hW => ⟨⟨_, _, rfl, rfl, by show va_P _ _ _ t.heap; rw [ht]; exact hP⟩, hS.F ht⟩) hS.2.2 dX11_tie_109
          · replace h := it_t c14 h
            refine lv_bipush (v := (-4)) hx hb dX11_tie_47 (by decide) ?_
            cases h
            exact W.iret hx hb hr (fun t ht hW => ⟨⟨_, _, rfl, rfl, by show va_P _ _ _ t.heap; rw [ht]; exact hP⟩, hS.F ht⟩) hS.2.2 dX11_tie_49
        · replace h := it_t c12 h
          refine lv_bipush (v := (-2)) hx hb dX11_tie_33 (by decide) ?_
          cases h
          exact W.iret hx hb hr (fun t ht hW => ⟨⟨_, _, rfl, rfl, by show va_P _ _ _ t.heap; rw [ht]; exact hP⟩, hS.F ht⟩) hS.2.2 dX11_tie_35
