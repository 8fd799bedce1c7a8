set_option maxHeartbeats 4000000 in
set_option maxRecDepth 100000 in
theorem mX10_isBelow (l : Launch) (p0 : Int32) (p1 : Int32) {z : Int32} (h : sX10_isBelow p0 p1 = some z) : Met l yX10_isBelow wsX10_isBelow ({ frames := 0, cells := 0, slots := 0, locals := 0 }) (va_Pc [.int p0, .int p1] (fun _ => True)) (vp_Si (fun r => r = z)) 0 0 (fun _ => False) := by
  refine Met.ofW (cc := cX10_isBelow) (maxL := 2) (ret := (some .boolean)) (by decide) rfl ?_
  intro p e s m args below meth c s₁ B hml hv
  obtain ⟨rfl, -⟩ := hv
  have hx := B.exec
  have hb := B.bytes
  have hr := B.returns
  have hts := atoms_spec (ws := wsX10_isBelow) B.pre
  have hown : s.vm.findClass RX10 = some m.cls := findClass_of_methodNamed B.named
  have hlocks := B.notSynchronized
  have hl := lv_entry ([.int p0, .int p1]) (n := 2) (Nat.le_of_ble_eq_true rfl)
  rw [lg_entry_eq]
  generalize (lg_sl ([.int p0, .int p1]) ++ List.replicate (2 - (lg_sl ([.int p0, .int p1])).length) Slot.unset).toArray = ls at hl ⊢
  have hl : lv_has ls 2 [(0, .int p0), (1, .int p1)] := hl
  rw [sX10_isBelow] at h
  refine lv_iload_n hx hb dX10_isBelow_0 rfl (lv_at hl 0 rfl) ?_
  refine lv_if_lt (tgt := 13) hx hb dX10_isBelow_1 (by decide) (fun c1 => ?_) (fun c1 => ?_)
  · replace h := it_t c1 h
    refine lv_iconst (v := 0) hx hb dX10_isBelow_13 (by decide) ?_
    cases h
    exact W.zret hx hb hr rfl (fun t ht hW => ⟨_, rfl, rfl, ht⟩) (fun q hq => absurd hq List.not_mem_nil) dX10_isBelow_14
  · replace h := it_f c1 h
    refine lv_iload_n hx hb dX10_isBelow_4 rfl (lv_at hl 0 rfl) ?_
    refine lv_iload_n hx hb dX10_isBelow_5 rfl (lv_at hl 1 rfl) ?_
    refine lv_icmp_ge (tgt := 13) hx hb dX10_isBelow_6 (by decide) (fun c2 => ?_) (fun c2 => ?_)
    · replace h := it_t c2 h
      refine lv_iconst (v := 0) hx hb dX10_isBelow_13 (by decide) ?_
      cases h
      exact W.zret hx hb hr rfl (fun t ht hW => ⟨_, rfl, rfl, ht⟩) (fun q hq => absurd hq List.not_mem_nil) dX10_isBelow_14
    · replace h := it_f c2 h
      refine lv_iconst (v := 1) hx hb dX10_isBelow_9 (by decide) ?_
      refine lv_goto (tgt := 14) hx hb dX10_isBelow_10 (by decide) ?_
      cases h
      exact W.zret hx hb hr rfl (fun t ht hW => ⟨_, rfl, rfl, ht⟩) (fun q hq => absurd hq List.not_mem_nil) dX10_isBelow_14
set_option maxHeartbeats 4000000 in
set_option maxRecDepth 100000 in
theorem mX10_isDay (l : Launch) (p0 : Int32) {z : Int32} (h : sX10_isDay p0 = some z) : Met l yX10_isDay wsX10_isDay ({ frames := 1, cells := 0, slots := 0, locals := 21 }) (va_Pc [.int p0] (fun _ => True)) (vp_Si (fun r => r = z)) 0 0 (fun _ => False) := by
  refine Met.ofW (cc := cX10_isDay) (maxL := 1) (ret := (some .boolean)) (by decide) rfl ?_
  intro p e s m args below meth c s₁ B hml hv
  obtain ⟨rfl, -⟩ := hv
  have hx := B.exec
  have hb := B.bytes
  have hr := B.returns
  have hts := atoms_spec (ws := wsX10_isDay) B.pre
  have hown : s.vm.findClass RX10 = some m.cls := findClass_of_methodNamed B.named
  have hlocks := B.notSynchronized
  have hl := lv_entry ([.int p0]) (n := 1) (Nat.le_of_ble_eq_true rfl)
  rw [lg_entry_eq]
  generalize (lg_sl ([.int p0]) ++ List.replicate (1 - (lg_sl ([.int p0])).length) Slot.unset).toArray = ls at hl ⊢
  have hl : lv_has ls 1 [(0, .int p0)] := hl
  rw [sX10_isDay] at h
  refine lv_iload_n hx hb dX10_isDay_0 rfl (lv_at hl 0 rfl) ?_
  refine lv_sipush (v := 1000) hx hb dX10_isDay_1 (by decide) ?_
  obtain ⟨r2, k1, h⟩ := ob_elim h
  refine vp_callSi (W.runS (As := [.int p0, .int 1000]) (rest := []) ⟨hx, hb, hml, hown, hts⟩ (mX10_isBelow l p0 1000 k1) (va_cwS 2 hts gX10_isDay_X10_isBelow rfl rfl rfl (by decide +kernel) ⟨Nat.le_of_ble_eq_true rfl, Nat.le_of_ble_eq_true rfl⟩) ⟨fun _ _ _ _ q => q, fun U hU hW => ⟨rfl, trivial⟩⟩ rfl rfl hl.1 rfl (lv_room (Nat.le_of_ble_eq_true rfl)) dX10_isDay_4 ⟨Nat.zero_le _, Nat.zero_le _⟩) (fun r9 er9 => ?_)
  subst er9
  obtain ⟨b3, h⟩ := zk_elim h
  cases h
  exact W.zret hx hb hr b3 (fun t ht hW => ⟨_, rfl, rfl, ht⟩) (fun q hq => absurd hq List.not_mem_nil) dX10_isDay_7
set_option maxHeartbeats 4000000 in
set_option maxRecDepth 100000 in
theorem mX2_add (l : Launch) (dC : Nat → ClassId) (dI : Nat → Nat → Nat) (cI cJ : ClassId) (ad : Nat → Nat) (p1 : Int32) (S : Nat → Nat → Int32) (L : Nat → Nat → Int64) (sz : Nat) {z : Int32 × (Nat → Nat → Int32) × (Nat → Nat → Int64)} (h : sX2_add p1 S L = some z) : Met l yX2_add wsX2_add ({ frames := 0, cells := 0, slots := 0, locals := 0 }) (va_Pc [.ref (ad 1), .int p1] (QXs sz dC dI cI cJ ad S L)) (va_Qi (fun (r : Int32) (u : (Nat → Nat → Int32) × (Nat → Nat → Int64)) => (r, u) = z) (fun (u : (Nat → Nat → Int32) × (Nat → Nat → Int64)) t => va_P (dC, dI) vwCl (wX cI cJ ad u.1 u.2) t.heap) (AX 43 ad sz)) 0 0 (AX 43 ad sz) := by
  refine Met.ofW (cc := cX2_add) (maxL := 2) (ret := (some .int)) (by decide) rfl ?_
  intro p e s m args below meth c s₁ B hml hv
  obtain ⟨rfl, hsz, hP, hK, hD0⟩ := hv
  have hx := B.exec
  have hb := B.bytes
  have hr := B.returns
  have hts := atoms_spec (ws := wsX2_add) B.pre
  have hown : s.vm.findClass RX2 = some m.cls := findClass_of_methodNamed B.named
  have hlocks := B.notSynchronized
  subst hsz
  have hD := wX_DA hD0 s.heap.size
  have hS : va_S (AX 43 ad s.heap.size) s.heap s.heap [] := va_S.rf
  have hl := lv_entry ([.ref (ad 1), .int p1]) (n := 2) (Nat.le_of_ble_eq_true rfl)
  rw [lg_entry_eq]
  generalize (lg_sl ([.ref (ad 1), .int p1]) ++ List.replicate (2 - (lg_sl ([.ref (ad 1), .int p1])).length) Slot.unset).toArray = ls at hl ⊢
  have hl : lv_has ls 2 [(0, .ref (ad 1)), (1, .int p1)] := hl
  have hf9 := hts (.fieldLink RX2 9 "LawRings$Cases" "day" "[I") (by decide +kernel)
  have hiX2 : ∀ w ∈ u_ws RX2 TX2 6, w ∈ wsX2_add := by decide +kernel
  have hf30 := hts (.fieldLink RX2 30 "LawRings$Cases" "size" "I") (by decide +kernel)
  rw [sX2_add] at h
  refine lv_aload_n hx hb dX2_add_0 rfl (lv_at hl 0 rfl) ?_
  refine va_get (D := (dC, dI)) (ci := 2) (v := .ref (ad 13)) (C := RX2) (T := TX2) (N := 6) hx hb hts hiX2 hown hK hP 1 rfl rfl 2 (by decide) hf9 (fun _ h9 => h9) rfl dX2_add_1 ?_
  refine lv_aload_n hx hb dX2_add_4 rfl (lv_at hl 0 rfl) ?_
  refine va_get (D := (dC, dI)) (ci := 2) (v := .int (S 1 0)) (C := RX2) (T := TX2) (N := 6) hx hb hts hiX2 hown hK hP 1 rfl rfl 0 (by decide) hf30 (fun _ h9 => h9) rfl dX2_add_5 ?_
  refine lv_iload_n hx hb dX2_add_8 rfl (lv_at hl 1 rfl) ?_
  obtain ⟨b1, h⟩ := ck_elim h
  obtain ⟨S2, eS2, h⟩ := bnd_elim h
  refine va_iast hx hb hK hP hD hS 13 0 rfl rfl b1 dX2_add_9 (fun H locs hP9 _ hS => ?_)
  have hP := swX_13 hP9
  rw [← eS2] at hP
  have hD := wX_D hD S2 L
  refine lv_aload_n hx hb dX2_add_10 rfl (lv_at hl 0 rfl) ?_
  refine lv_dup hx hb dX2_add_11 rfl ?_
  refine va_get (D := (dC, dI)) (ci := 2) (v := .int (S2 1 0)) (C := RX2) (T := TX2) (N := 6) hx hb hts hiX2 hown hK hP 1 rfl rfl 0 (by decide) hf30 (fun _ h9 => h9) rfl dX2_add_12 ?_
  refine lv_iconst (v := 1) hx hb dX2_add_15 (by decide) ?_
  refine lv_iadd hx hb dX2_add_16 ?_
  obtain ⟨S3, eS3, h⟩ := bnd_elim h
  refine va_put (D := (dC, dI)) (ci := 2) (v := .int ((S2 1 0) + 1)) (ty := .int) (C := RX2) (T := TX2) (N := 6) hx hb hts hiX2 tyX2 tyX2_ok nmX2 hown hK hP hD hS 1 rfl rfl 0 (by decide) hf30 (fun _ h9 => h9) rfl (by decide +kernel) rfl rfl (Nat.le_of_ble_eq_true rfl) dX2_add_17 (fun H locs hP9 _ hS => ?_)
  have hP := swX_1_0 hP9
  rw [← eS3] at hP
  have hD := wX_D hD S3 L
  refine lv_aload_n hx hb dX2_add_20 rfl (lv_at hl 0 rfl) ?_
  refine va_get (D := (dC, dI)) (ci := 2) (v := .int (S3 1 0)) (C := RX2) (T := TX2) (N := 6) hx hb hts hiX2 hown hK hP 1 rfl rfl 0 (by decide) hf30 (fun _ h9 => h9) rfl dX2_add_21 ?_
  refine lv_iconst (v := 1) hx hb dX2_add_24 (by decide) ?_
  refine lv_isub hx hb dX2_add_25 ?_
  cases h
  exact W.iret hx hb hr (fun t ht hW => ⟨⟨_, _, rfl, rfl, by rw [ht]; exact hP⟩, hS.F ht⟩) hS.2.2 dX2_add_26
set_option maxHeartbeats 4000000 in
set_option maxRecDepth 100000 in
theorem mX10_newCase (l : Launch) (dC : Nat → ClassId) (dI : Nat → Nat → Nat) (cI cJ : ClassId) (ad : Nat → Nat) (p1 : Int32) (S : Nat → Nat → Int32) (L : Nat → Nat → Int64) (sz : Nat) {z : Int32 × (Nat → Nat → Int32) × (Nat → Nat → Int64)} (h : sX10_newCase p1 S L = some z) : Met l yX10_newCase wsX10_newCase ({ frames := 2, cells := 0, slots := 0, locals := 41 }) (va_Pc [.ref (ad 0), .int p1] (QXs sz dC dI cI cJ ad S L)) (va_Qi (fun (r : Int32) (u : (Nat → Nat → Int32) × (Nat → Nat → Int64)) => (r, u) = z) (fun (u : (Nat → Nat → Int32) × (Nat → Nat → Int64)) t => va_P (dC, dI) vwCl (wX cI cJ ad u.1 u.2) t.heap) (AX 43 ad sz)) 0 0 (AX 43 ad sz) := by
  refine Met.ofW (cc := cX10_newCase) (maxL := 2) (ret := (some .int)) (by decide) rfl ?_
  intro p e s m args below meth c s₁ B hml hv
  obtain ⟨rfl, hsz, hP, hK, hD0⟩ := hv
  have hx := B.exec
  have hb := B.bytes
  have hr := B.returns
  have hts := atoms_spec (ws := wsX10_newCase) B.pre
  have hown : s.vm.findClass RX10 = some m.cls := findClass_of_methodNamed B.named
  have hlocks := B.notSynchronized
  subst hsz
  have hD := wX_DA hD0 s.heap.size
  have hS : va_S (AX 43 ad s.heap.size) s.heap s.heap [] := va_S.rf
  have hl := lv_entry ([.ref (ad 0), .int p1]) (n := 2) (Nat.le_of_ble_eq_true rfl)
  rw [lg_entry_eq]
  generalize (lg_sl ([.ref (ad 0), .int p1]) ++ List.replicate (2 - (lg_sl ([.ref (ad 0), .int p1])).length) Slot.unset).toArray = ls at hl ⊢
  have hl : lv_has ls 2 [(0, .ref (ad 0)), (1, .int p1)] := hl
  have hf12 := hts (.fieldLink RX10 12 "LawRings" "cases" "LLawRings$Cases;") (by decide +kernel)
  have hiX10 : ∀ w ∈ u_ws RX10 TX10 11, w ∈ wsX10_newCase := by decide +kernel
  have hf94 := hts (.fieldLink RX10 94 "LawRings$Cases" "size" "I") (by decide +kernel)
  have hiX2 : ∀ w ∈ u_ws RX2 TX2 6, w ∈ wsX10_newCase := by decide +kernel
  rw [sX10_newCase] at h
  refine lv_iload_n hx hb dX10_newCase_0 rfl (lv_at hl 1 rfl) ?_
  obtain ⟨r2, k1, h⟩ := ob_elim h
  refine vp_callSi (W.runS (As := [.int p1]) (rest := []) ⟨hx, hb, hml, hown, hts⟩ (mX10_isDay l p1 k1) (va_cwS 1 hts gX10_newCase_X10_isDay rfl rfl rfl (by decide +kernel) ⟨Nat.le_of_ble_eq_true rfl, Nat.le_of_ble_eq_true rfl⟩) ⟨fun _ _ _ _ q => q, fun U hU hW => ⟨rfl, trivial⟩⟩ rfl rfl hl.1 rfl (lv_room (Nat.le_of_ble_eq_true rfl)) dX10_newCase_1 ⟨Nat.zero_le _, Nat.zero_le _⟩) (fun r9 er9 => ?_)
  subst er9
  refine lv_if_ne (tgt := 10) hx hb dX10_newCase_4 (by decide) (fun c3 => ?_) (fun c3 => ?_)
  · replace h := it_f c3 h
    refine lv_aload_n hx hb dX10_newCase_10 rfl (lv_at hl 0 rfl) ?_
    refine va_get (D := (dC, dI)) (ci := 10) (v := .ref (ad 1)) (C := RX10) (T := TX10) (N := 11) hx hb hts hiX10 hown hK hP 0 rfl rfl 0 (by decide) hf12 (fun _ h9 => h9) rfl dX10_newCase_11 ?_
    refine va_get (D := (dC, dI)) (ci := 2) (v := .int (S 1 0)) (C := RX2) (T := TX2) (N := 6) hx hb hts hiX2 hown hK hP 1 rfl rfl 0 (by decide) hf94 (fun _ h9 => h9) rfl dX10_newCase_14 ?_
    refine lv_bipush (v := 16) hx hb dX10_newCase_17 (by decide) ?_
    refine lv_icmp_lt (tgt := 25) hx hb dX10_newCase_19 (by decide) (fun c4 => ?_) (fun c4 => ?_)
    · replace h := it_t c4 h
      refine lv_aload_n hx hb dX10_newCase_25 rfl (lv_at hl 0 rfl) ?_
      refine va_get (D := (dC, dI)) (ci := 10) (v := .ref (ad 1)) (C := RX10) (T := TX10) (N := 11) hx hb hts hiX10 hown hK hP 0 rfl rfl 0 (by decide) hf12 (fun _ h9 => h9) rfl dX10_newCase_26 ?_
      refine lv_iload_n hx hb dX10_newCase_29 rfl (lv_at hl 1 rfl) ?_
      obtain ⟨r8, S6, L7, k5, h⟩ := ob3_elim h
      refine va_calli (va_runV (As := [.int p1]) (rest := []) ⟨hx, hb, hml, hown, hts⟩ (mX2_add l dC dI cI cJ ad p1 S L s.heap.size k5) (cwV 1 hts gX10_newCase_X2_add rfl rfl rfl (by decide +kernel) ⟨Nat.le_of_ble_eq_true rfl, Nat.le_of_ble_eq_true rfl⟩) ⟨QXs_blind, va_recv hK hP (ci := 2) (q0 := 1) rfl rfl, fun U hU hW => ⟨rfl, congrArg Array.size hU, QX_at hP hK hD hU hW⟩⟩ rfl rfl hl.1 rfl (lv_room (Nat.le_of_ble_eq_true rfl)) dX10_newCase_30 ⟨Nat.zero_le _, Nat.zero_le _⟩) hS (fun q _ hq => AX_mono hS.1 hq) (fun q hq => AX_mono hS.1 hq) (fun r u t H1 locs ht hvm hw hB hz1 hk1 hS => ?_)
      cases hw
      rw [ht] at hB
      have hP := hB
      clear hB hk1 hz1
      generalize H1 = H at hP hS ⊢
      have hD := wX_D hD S6 L7
      cases h
      exact W.iret hx hb hr (fun t ht hW => ⟨⟨_, _, rfl, rfl, by rw [ht]; exact hP⟩, hS.F ht⟩) hS.2.2 dX10_newCase_33
    · replace h := it_f c4 h
      refine lv_bipush (v := (-4)) hx hb dX10_newCase_22 (by decide) ?_
      cases h
      exact W.iret hx hb hr (fun t ht hW => ⟨⟨_, _, rfl, rfl, by rw [ht]; exact hP⟩, hS.F ht⟩) hS.2.2 dX10_newCase_24
  · replace h := it_t c3 h
    refine lv_bipush (v := (-2)) hx hb dX10_newCase_7 (by decide) ?_
    cases h
    exact W.iret hx hb hr (fun t ht hW => ⟨⟨_, _, rfl, rfl, by rw [ht]; exact hP⟩, hS.F ht⟩) hS.2.2 dX10_newCase_9
set_option maxHeartbeats 4000000 in
set_option maxRecDepth 100000 in
theorem mX2_landOf (l : Launch) (dC : Nat → ClassId) (dI : Nat → Nat → Nat) (cI cJ : ClassId) (ad : Nat → Nat) (p1 : Int32) (p2 : Int32) (S : Nat → Nat → Int32) (L : Nat → Nat → Int64) {z : Int32} (h : sX2_landOf p1 p2 S L = some z) : Met l yX2_landOf wsX2_landOf ({ frames := 0, cells := 0, slots := 0, locals := 0 }) (va_Pc [.ref (ad 1), .int p1, .int p2] (QX dC dI cI cJ ad S L)) (vp_Si (fun r => r = z)) 0 0 (fun _ => False) := by
  refine Met.ofW (cc := cX2_landOf) (maxL := 3) (ret := (some .int)) (by decide) rfl ?_
  intro p e s m args below meth c s₁ B hml hv
  obtain ⟨rfl, hP, hK, hD⟩ := hv
  have hx := B.exec
  have hb := B.bytes
  have hr := B.returns
  have hts := atoms_spec (ws := wsX2_landOf) B.pre
  have hown : s.vm.findClass RX2 = some m.cls := findClass_of_methodNamed B.named
  have hlocks := B.notSynchronized
  have hl := lv_entry ([.ref (ad 1), .int p1, .int p2]) (n := 3) (Nat.le_of_ble_eq_true rfl)
  rw [lg_entry_eq]
  generalize (lg_sl ([.ref (ad 1), .int p1, .int p2]) ++ List.replicate (3 - (lg_sl ([.ref (ad 1), .int p1, .int p2])).length) Slot.unset).toArray = ls at hl ⊢
  have hl : lv_has ls 3 [(0, .ref (ad 1)), (1, .int p1), (2, .int p2)] := hl
  have hf18 := hts (.fieldLink RX2 18 "LawRings$Cases" "land" "[I") (by decide +kernel)
  have hiX2 : ∀ w ∈ u_ws RX2 TX2 6, w ∈ wsX2_landOf := by decide +kernel
  rw [sX2_landOf] at h
  refine lv_aload_n hx hb dX2_landOf_0 rfl (lv_at hl 0 rfl) ?_
  refine va_get (D := (dC, dI)) (ci := 2) (v := .ref (ad 15)) (C := RX2) (T := TX2) (N := 6) hx hb hts hiX2 hown hK hP 1 rfl rfl 4 (by decide) hf18 (fun _ h9 => h9) rfl dX2_landOf_1 ?_
  refine lv_iload_n hx hb dX2_landOf_4 rfl (lv_at hl 1 rfl) ?_
  refine lv_bipush (v := 6) hx hb dX2_landOf_5 (by decide) ?_
  refine lv_imul hx hb dX2_landOf_7 ?_
  refine lv_iload_n hx hb dX2_landOf_8 rfl (lv_at hl 2 rfl) ?_
  refine lv_iadd hx hb dX2_landOf_9 ?_
  obtain ⟨b1, h⟩ := ck_elim h
  refine va_iald hx hb hK hP 15 0 rfl rfl b1 dX2_landOf_10 ?_
  cases h
  exact W.iret hx hb hr (fun t ht hW => ⟨_, rfl, rfl, ht⟩) (fun q hq => absurd hq List.not_mem_nil) dX2_landOf_11
set_option maxHeartbeats 4000000 in
set_option maxRecDepth 100000 in
theorem mX4_takeTies (l : Launch) (dC : Nat → ClassId) (dI : Nat → Nat → Nat) (cI cJ : ClassId) (ad : Nat → Nat) (p2 : Int32) (S : Nat → Nat → Int32) (L : Nat → Nat → Int64) (sz : Nat) {z : (Nat → Nat → Int32) × (Nat → Nat → Int64)} (h : sX4_takeTies p2 S L = some z) : Met l yX4_takeTies wsX4_takeTies ({ frames := 1, cells := 0, slots := 0, locals := 22 }) (va_Pc [.ref (ad 6), .ref (ad 1), .int p2] (QXs sz dC dI cI cJ ad S L)) (va_Qv (fun (u : (Nat → Nat → Int32) × (Nat → Nat → Int64)) => u = z) (fun (u : (Nat → Nat → Int32) × (Nat → Nat → Int64)) t => va_P (dC, dI) vwCl (wX cI cJ ad u.1 u.2) t.heap) (AX 43 ad sz)) 0 0 (AX 43 ad sz) := by
  refine Met.ofW (cc := cX4_takeTies) (maxL := 4) (ret := none) (by decide) rfl ?_
  intro p e s m args below meth c s₁ B hml hv
  obtain ⟨rfl, hsz, hP, hK, hD0⟩ := hv
  have hx := B.exec
  have hb := B.bytes
  have hr := B.returns
  have hts := atoms_spec (ws := wsX4_takeTies) B.pre
  have hown : s.vm.findClass RX4 = some m.cls := findClass_of_methodNamed B.named
  have hlocks := B.notSynchronized
  subst hsz
  have hD := wX_DA hD0 s.heap.size
  have hS : va_S (AX 43 ad s.heap.size) s.heap s.heap [] := va_S.rf
  have hl := lv_entry ([.ref (ad 6), .ref (ad 1), .int p2]) (n := 4) (Nat.le_of_ble_eq_true rfl)
  rw [lg_entry_eq]
  generalize (lg_sl ([.ref (ad 6), .ref (ad 1), .int p2]) ++ List.replicate (4 - (lg_sl ([.ref (ad 6), .ref (ad 1), .int p2])).length) Slot.unset).toArray = ls at hl ⊢
  have hl : lv_has ls 4 [(0, .ref (ad 6)), (1, .ref (ad 1)), (2, .int p2)] := hl
  have hf9 := hts (.fieldLink RX4 9 "LawRings$Hearing" "ties" "[I") (by decide +kernel)
  have hiX4 : ∀ w ∈ u_ws RX4 TX4 9, w ∈ wsX4_takeTies := by decide +kernel
  rw [sX4_takeTies] at h
  refine lv_iconst (v := 0) hx hb dX4_takeTies_0 (by decide) ?_
  refine lv_istore_n (lv' := [(3, .int 0), (0, .ref (ad 6)), (1, .ref (ad 1)), (2, .int p2)]) hx hb dX4_takeTies_1 rfl hl (by decide) rfl (fun ls hl => ?_)
  refine ww_w (fun WW2 hWW2 => ?_)
  have Lh2 : ∀ (n : Nat) (v1 : Int32) (S2 : (Nat → Nat → Int32)) (L3 : (Nat → Nat → Int64)) (z : ((Nat → Nat → Int32) × (Nat → Nat → Int64))), lX4_takeTies_2 p2 n v1 S2 L3 = some z → ∀ (H : Heap) (locs : List Loc), va_P (dC, dI) vwCl (wX cI cJ ad S2 L3) H → va_S (AX 43 ad s.heap.size) s.heap H locs → ∀ ls : Array Slot, lv_has ls 4 [(0, .ref (ad 6)), (1, .ref (ad 1)), (2, .int p2), (3, .int v1)] → (∀ (YS : (Nat → Nat → Int32)) (YL : (Nat → Nat → Int64)), z = (YS, YL) → ∀ (H : Heap) (locs : List Loc), va_P (dC, dI) vwCl (wX cI cJ ad YS YL) H → va_S (AX 43 ad s.heap.size) s.heap H locs → ∀ ls : Array Slot, lv_has ls 4 [] → WW2 H locs 26 ls) → WW2 H locs 2 ls := by
    intro n
    induction n with
    | zero => intro v1 S2 L3 z h H locs hP hS ls hl K0; rw [lX4_takeTies_2] at h; cases h
    | succ n ih =>
      intro v1 S2 L3 z h H locs hP hS ls hl K0
      have hD := wX_D hD S2 L3
      rw [lX4_takeTies_2] at h
      refine wi_w hWW2 ?_
      refine lv_iload_n hx hb dX4_takeTies_2 rfl (lv_at hl 3 rfl) ?_
      refine lv_bipush (v := 6) hx hb dX4_takeTies_3 (by decide) ?_
      refine lv_icmp_ge (tgt := 26) hx hb dX4_takeTies_5 (by decide) (fun c4 => ?_) (fun c4 => ?_)
      · replace h := it_t c4 h
        refine wu_w hWW2 ?_
        exact K0 S2 L3 (Option.some.inj h).symm H locs hP hS ls (lv_sub hl [] rfl)
      · replace h := it_f c4 h
        refine lv_aload_n hx hb dX4_takeTies_8 rfl (lv_at hl 0 rfl) ?_
        refine va_get (D := (dC, dI)) (ci := 4) (v := .ref (ad 35)) (C := RX4) (T := TX4) (N := 9) hx hb hts hiX4 hown hK hP 6 rfl rfl 3 (by decide) hf9 (fun _ h9 => h9) rfl dX4_takeTies_9 ?_
        refine lv_iload_n hx hb dX4_takeTies_12 rfl (lv_at hl 3 rfl) ?_
        refine lv_aload_n hx hb dX4_takeTies_13 rfl (lv_at hl 1 rfl) ?_
        refine lv_iload_n hx hb dX4_takeTies_14 rfl (lv_at hl 2 rfl) ?_
        refine lv_iload_n hx hb dX4_takeTies_15 rfl (lv_at hl 3 rfl) ?_
        obtain ⟨r6, k5, h⟩ := ob_elim h
        refine vp_callSi (W.runV (As := [.int p2, .int v1]) (rest := [.int v1, .ref (ad 35)]) ⟨hx, hb, hml, hown, hts⟩ (mX2_landOf l dC dI cI cJ ad p2 v1 S2 L3 k5) (cwV 2 hts gX4_takeTies_X2_landOf rfl rfl rfl (by decide +kernel) ⟨Nat.le_of_ble_eq_true rfl, Nat.le_of_ble_eq_true rfl⟩) ⟨QX_blind, va_recv hK hP (ci := 2) (q0 := 1) rfl rfl, fun U hU hW => ⟨rfl, QX_at hP hK hD hU hW⟩⟩ rfl rfl hl.1 rfl (lv_room (Nat.le_of_ble_eq_true rfl)) dX4_takeTies_16 ⟨Nat.zero_le _, Nat.zero_le _⟩) (fun r9 er9 => ?_)
        subst er9
        obtain ⟨b7, h⟩ := ck_elim h
        obtain ⟨S8, eS8, h⟩ := bnd_elim h
        refine va_iast hx hb hK hP hD hS 35 0 rfl rfl b7 dX4_takeTies_19 (fun H locs hP9 _ hS => ?_)
        have hP := swX_35 hP9
        rw [← eS8] at hP
        have hD := wX_D hD S8 L3
        obtain ⟨x9, ex9, h⟩ := bnd_elim h
        refine lv_iinc (v := x9) (lv' := [(3, .int x9), (0, .ref (ad 6)), (1, .ref (ad 1)), (2, .int p2)]) hx hb dX4_takeTies_20 hl (k := 3) rfl (by rw [ex9]; rfl) (by decide) rfl (fun ls hl => ?_)
        refine lv_goto (tgt := 2) hx hb dX4_takeTies_23 (by decide) ?_
        refine wu_w hWW2 ?_
        exact ih x9 S8 L3 z h H locs hP hS ls (lv_sub hl [1, 2, 3, 0] rfl) K0
  obtain ⟨S11, L12, k10, h⟩ := ob2_elim h
  refine wu_w hWW2 ?_
  refine Lh2 FU 0 S L _ k10 s.heap [] hP hS ls (lv_sub hl [1, 2, 3, 0] rfl) ?_
  intro y0 y1 hy H locs hP hS ls hl
  cases hy
  have hD := wX_D hD S11 L12
  refine wi_w hWW2 ?_
  cases h
  exact W.vret hx hb hr (fun t ht hW => ⟨⟨_, rfl, rfl, by rw [ht]; exact hP⟩, hS.F ht⟩) hS.2.2 dX4_takeTies_26
set_option maxHeartbeats 4000000 in
set_option maxRecDepth 100000 in
theorem mX6_stands (l : Launch) (dC : Nat → ClassId) (dI : Nat → Nat → Nat) (cI cJ : ClassId) (ad : Nat → Nat) (p1 : Int32) (p2 : Int32) (S : Nat → Nat → Int32) (L : Nat → Nat → Int64) {z : Int32} (h : sX6_stands p1 p2 S L = some z) : Met l yX6_stands wsX6_stands ({ frames := 0, cells := 0, slots := 0, locals := 0 }) (va_Pc [.ref (ad 2), .int p1, .int p2] (QX dC dI cI cJ ad S L)) (vp_Si (fun r => r = z)) 0 0 (fun _ => False) := by
  refine Met.ofW (cc := cX6_stands) (maxL := 3) (ret := (some .boolean)) (by decide) rfl ?_
  intro p e s m args below meth c s₁ B hml hv
  obtain ⟨rfl, hP, hK, hD⟩ := hv
  have hx := B.exec
  have hb := B.bytes
  have hr := B.returns
  have hts := atoms_spec (ws := wsX6_stands) B.pre
  have hown : s.vm.findClass RX6 = some m.cls := findClass_of_methodNamed B.named
  have hlocks := B.notSynchronized
  have hl := lv_entry ([.ref (ad 2), .int p1, .int p2]) (n := 3) (Nat.le_of_ble_eq_true rfl)
  rw [lg_entry_eq]
  generalize (lg_sl ([.ref (ad 2), .int p1, .int p2]) ++ List.replicate (3 - (lg_sl ([.ref (ad 2), .int p1, .int p2])).length) Slot.unset).toArray = ls at hl ⊢
  have hl : lv_has ls 3 [(0, .ref (ad 2)), (1, .int p1), (2, .int p2)] := hl
  have hf24 := hts (.fieldLink RX6 24 "LawRings$Rules" "from" "[I") (by decide +kernel)
  have hiX6 : ∀ w ∈ u_ws RX6 TX6 13, w ∈ wsX6_stands := by decide +kernel
  have hf27 := hts (.fieldLink RX6 27 "LawRings$Rules" "struck" "[I") (by decide +kernel)
  rw [sX6_stands] at h
  refine lv_aload_n hx hb dX6_stands_0 rfl (lv_at hl 0 rfl) ?_
  refine va_get (D := (dC, dI)) (ci := 6) (v := .ref (ad 21)) (C := RX6) (T := TX6) (N := 13) hx hb hts hiX6 hown hK hP 2 rfl rfl 5 (by decide) hf24 (fun _ h9 => h9) rfl dX6_stands_1 ?_
  refine lv_iload_n hx hb dX6_stands_4 rfl (lv_at hl 1 rfl) ?_
  obtain ⟨b1, h⟩ := ck_elim h
  refine va_iald hx hb hK hP 21 0 rfl rfl b1 dX6_stands_5 ?_
  refine lv_iload_n hx hb dX6_stands_6 rfl (lv_at hl 2 rfl) ?_
  refine lv_icmp_gt (tgt := 34) hx hb dX6_stands_7 (by decide) (fun c2 => ?_) (fun c2 => ?_)
  · replace h := it_t c2 h
    refine lv_iconst (v := 0) hx hb dX6_stands_34 (by decide) ?_
    cases h
    exact W.zret hx hb hr rfl (fun t ht hW => ⟨_, rfl, rfl, ht⟩) (fun q hq => absurd hq List.not_mem_nil) dX6_stands_35
  · replace h := it_f c2 h
    refine lv_aload_n hx hb dX6_stands_10 rfl (lv_at hl 0 rfl) ?_
    refine va_get (D := (dC, dI)) (ci := 6) (v := .ref (ad 22)) (C := RX6) (T := TX6) (N := 13) hx hb hts hiX6 hown hK hP 2 rfl rfl 6 (by decide) hf27 (fun _ h9 => h9) rfl dX6_stands_11 ?_
    refine lv_iload_n hx hb dX6_stands_14 rfl (lv_at hl 1 rfl) ?_
    obtain ⟨b3, h⟩ := ck_elim h
    refine va_iald hx hb hK hP 22 0 rfl rfl b3 dX6_stands_15 ?_
    refine lv_iconst (v := (-1)) hx hb dX6_stands_16 (by decide) ?_
    refine lv_icmp_eq (tgt := 30) hx hb dX6_stands_17 (by decide) (fun c4 => ?_) (fun c4 => ?_)
    · replace h := it_t c4 h
      refine lv_iconst (v := 1) hx hb dX6_stands_30 (by decide) ?_
      refine lv_goto (tgt := 35) hx hb dX6_stands_31 (by decide) ?_
      cases h
      exact W.zret hx hb hr rfl (fun t ht hW => ⟨_, rfl, rfl, ht⟩) (fun q hq => absurd hq List.not_mem_nil) dX6_stands_35
    · replace h := it_f c4 h
      refine lv_iload_n hx hb dX6_stands_20 rfl (lv_at hl 2 rfl) ?_
      refine lv_aload_n hx hb dX6_stands_21 rfl (lv_at hl 0 rfl) ?_
      refine va_get (D := (dC, dI)) (ci := 6) (v := .ref (ad 22)) (C := RX6) (T := TX6) (N := 13) hx hb hts hiX6 hown hK hP 2 rfl rfl 6 (by decide) hf27 (fun _ h9 => h9) rfl dX6_stands_22 ?_
      refine lv_iload_n hx hb dX6_stands_25 rfl (lv_at hl 1 rfl) ?_
      obtain ⟨b5, h⟩ := ck_elim h
      refine va_iald hx hb hK hP 22 0 rfl rfl b5 dX6_stands_26 ?_
      refine lv_icmp_ge (tgt := 34) hx hb dX6_stands_27 (by decide) (fun c6 => ?_) (fun c6 => ?_)
      · replace h := it_t c6 h
        refine lv_iconst (v := 0) hx hb dX6_stands_34 (by decide) ?_
        cases h
        exact W.zret hx hb hr rfl (fun t ht hW => ⟨_, rfl, rfl, ht⟩) (fun q hq => absurd hq List.not_mem_nil) dX6_stands_35
      · replace h := it_f c6 h
        refine lv_iconst (v := 1) hx hb dX6_stands_30 (by decide) ?_
        refine lv_goto (tgt := 35) hx hb dX6_stands_31 (by decide) ?_
        cases h
        exact W.zret hx hb hr rfl (fun t ht hW => ⟨_, rfl, rfl, ht⟩) (fun q hq => absurd hq List.not_mem_nil) dX6_stands_35
set_option maxHeartbeats 4000000 in
set_option maxRecDepth 100000 in
theorem mX6_standing (l : Launch) (dC : Nat → ClassId) (dI : Nat → Nat → Nat) (cI cJ : ClassId) (ad : Nat → Nat) (p1 : Int32) (S : Nat → Nat → Int32) (L : Nat → Nat → Int64) {z : Int64} (h : sX6_standing p1 S L = some z) : Met l yX6_standing wsX6_standing ({ frames := 1, cells := 0, slots := 0, locals := 22 }) (va_Pc [.ref (ad 2), .int p1] (QX dC dI cI cJ ad S L)) (vp_Sl (fun r => r = z)) 0 0 (fun _ => False) := by
  refine Met.ofW (cc := cX6_standing) (maxL := 5) (ret := (some .long)) (by decide) rfl ?_
  intro p e s m args below meth c s₁ B hml hv
  obtain ⟨rfl, hP, hK, hD⟩ := hv
  have hx := B.exec
  have hb := B.bytes
  have hr := B.returns
  have hts := atoms_spec (ws := wsX6_standing) B.pre
  have hown : s.vm.findClass RX6 = some m.cls := findClass_of_methodNamed B.named
  have hlocks := B.notSynchronized
  have hl := lv_entry ([.ref (ad 2), .int p1]) (n := 5) (Nat.le_of_ble_eq_true rfl)
  rw [lg_entry_eq]
  generalize (lg_sl ([.ref (ad 2), .int p1]) ++ List.replicate (5 - (lg_sl ([.ref (ad 2), .int p1])).length) Slot.unset).toArray = ls at hl ⊢
  have hl : lv_has ls 5 [(0, .ref (ad 2)), (1, .int p1)] := hl
  have hf49 := hts (.fieldLink RX6 49 "LawRings$Rules" "size" "I") (by decide +kernel)
  have hiX6 : ∀ w ∈ u_ws RX6 TX6 13, w ∈ wsX6_standing := by decide +kernel
  rw [sX6_standing] at h
  refine lv_lconst (v := 0) hx hb dX6_standing_0 (by decide) ?_
  refine lv_lstore_n (lv' := [(2, .long 0), (0, .ref (ad 2)), (1, .int p1)]) hx hb dX6_standing_1 rfl hl (by decide) rfl (fun ls hl => ?_)
  refine lv_iconst (v := 0) hx hb dX6_standing_2 (by decide) ?_
  refine lv_istore (lv' := [(4, .int 0), (2, .long 0), (0, .ref (ad 2)), (1, .int p1)]) hx hb dX6_standing_3 hl (by decide) rfl (fun ls hl => ?_)
  refine ww_r (fun WW5 hWW5 => ?_)
  have Lh5 : ∀ (n : Nat) (v1 : Int64) (v2 : Int32) (z : (Int64)), lX6_standing_5 p1 S L n v1 v2 = some z → ∀ ls : Array Slot, lv_has ls 5 [(0, .ref (ad 2)), (1, .int p1), (2, .long v1), (4, .int v2)] → (∀ (y0 : Int64), z = y0 → ∀ ls : Array Slot, lv_has ls 5 [(2, .long y0)] → WW5  37 ls) → WW5  5 ls := by
    intro n
    induction n with
    | zero => intro v1 v2 z h ls hl K0; rw [lX6_standing_5] at h; cases h
    | succ n ih =>
      intro v1 v2 z h ls hl K0
      rw [lX6_standing_5] at h
      refine wi_r hWW5 ?_
      refine lv_iload hx hb dX6_standing_5 (lv_at hl 3 rfl) ?_
      refine lv_aload_n hx hb dX6_standing_7 rfl (lv_at hl 0 rfl) ?_
      refine va_get (D := (dC, dI)) (ci := 6) (v := .int (S 2 0)) (C := RX6) (T := TX6) (N := 13) hx hb hts hiX6 hown hK hP 2 rfl rfl 0 (by decide) hf49 (fun _ h9 => h9) rfl dX6_standing_8 ?_
      refine lv_icmp_ge (tgt := 37) hx hb dX6_standing_11 (by decide) (fun c3 => ?_) (fun c3 => ?_)
      · replace h := it_t c3 h
        refine wu_r hWW5 ?_
        exact K0 v1 (Option.some.inj h).symm ls (lv_sub hl [2] rfl)
      · replace h := it_f c3 h
        refine lv_aload_n hx hb dX6_standing_14 rfl (lv_at hl 0 rfl) ?_
        refine lv_iload hx hb dX6_standing_15 (lv_at hl 3 rfl) ?_
        refine lv_iload_n hx hb dX6_standing_17 rfl (lv_at hl 1 rfl) ?_
        obtain ⟨r5, k4, h⟩ := ob_elim h
        refine vp_callSi (W.runV (As := [.int v2, .int p1]) (rest := []) ⟨hx, hb, hml, hown, hts⟩ (mX6_stands l dC dI cI cJ ad v2 p1 S L k4) (cwV 2 hts gX6_standing_X6_stands rfl rfl rfl (by decide +kernel) ⟨Nat.le_of_ble_eq_true rfl, Nat.le_of_ble_eq_true rfl⟩) ⟨QX_blind, va_recv hK hP (ci := 6) (q0 := 2) rfl rfl, fun U hU hW => ⟨rfl, QX_at hP hK hD hU hW⟩⟩ rfl rfl hl.1 rfl (lv_room (Nat.le_of_ble_eq_true rfl)) dX6_standing_18 ⟨Nat.zero_le _, Nat.zero_le _⟩) (fun r9 er9 => ?_)
        subst er9
        refine lv_if_eq (tgt := 31) hx hb dX6_standing_21 (by decide) (fun c6 => ?_) (fun c6 => ?_)
        · replace h := it_t c6 h
          obtain ⟨x7, ex7, h⟩ := bnd_elim h
          refine lv_iinc (v := x7) (lv' := [(4, .int x7), (0, .ref (ad 2)), (1, .int p1), (2, .long v1)]) hx hb dX6_standing_31 hl (k := 3) rfl (by rw [ex7]; rfl) (by decide) rfl (fun ls hl => ?_)
          refine lv_goto (tgt := 5) hx hb dX6_standing_34 (by decide) ?_
          refine wu_r hWW5 ?_
          exact ih v1 x7 z h ls (lv_sub hl [1, 2, 3, 0] rfl) K0
        · replace h := it_f c6 h
          refine lv_lload_n hx hb dX6_standing_24 rfl (lv_at hl 2 rfl) ?_
          refine lv_lconst (v := 1) hx hb dX6_standing_25 (by decide) ?_
          refine lv_iload hx hb dX6_standing_26 (lv_at hl 3 rfl) ?_
          refine lv_lshl (v := lsh 1 v2) hx hb dX6_standing_28 rfl ?_
          refine lv_lor hx hb dX6_standing_29 ?_
          obtain ⟨x8, ex8, h⟩ := bnd_elim h
          refine nm_l ex8 ?_
          refine lv_lstore_n (lv' := [(2, .long x8), (0, .ref (ad 2)), (1, .int p1), (4, .int v2)]) hx hb dX6_standing_30 rfl hl (by decide) rfl (fun ls hl => ?_)
          obtain ⟨x9, ex9, h⟩ := bnd_elim h
          refine lv_iinc (v := x9) (lv' := [(4, .int x9), (2, .long x8), (0, .ref (ad 2)), (1, .int p1)]) hx hb dX6_standing_31 hl (k := 3) rfl (by rw [ex9]; rfl) (by decide) rfl (fun ls hl => ?_)
          refine lv_goto (tgt := 5) hx hb dX6_standing_34 (by decide) ?_
          refine wu_r hWW5 ?_
          exact ih x8 x9 z h ls (lv_sub hl [2, 3, 1, 0] rfl) K0
  obtain ⟨w11, k10, h⟩ := ob_elim h
  refine wu_r hWW5 ?_
  refine Lh5 FU 0 0 _ k10 ls (lv_sub hl [2, 3, 1, 0] rfl) ?_
  intro y0 hy ls hl
  cases hy
  refine wi_r hWW5 ?_
  refine lv_lload_n hx hb dX6_standing_37 rfl (lv_at hl 0 rfl) ?_
  cases h
  exact W.lret hx hb hr (fun t ht hW => ⟨_, rfl, rfl, ht⟩) (fun q hq => absurd hq List.not_mem_nil) dX6_standing_38
set_option maxHeartbeats 4000000 in
set_option maxRecDepth 100000 in
theorem mX6_letBy (l : Launch) (dC : Nat → ClassId) (dI : Nat → Nat → Nat) (cI cJ : ClassId) (ad : Nat → Nat) (p2 : Int32) (S : Nat → Nat → Int32) (L : Nat → Nat → Int64) {z : Int64} (h : sX6_letBy p2 S L = some z) : Met l yX6_letBy wsX6_letBy ({ frames := 0, cells := 0, slots := 0, locals := 0 }) (va_Pc [.ref (ad 2), .ref (ad 35), .int p2] (QX dC dI cI cJ ad S L)) (vp_Sl (fun r => r = z)) 0 0 (fun _ => False) := by
  refine Met.ofW (cc := cX6_letBy) (maxL := 6) (ret := (some .long)) (by decide) rfl ?_
  intro p e s m args below meth c s₁ B hml hv
  obtain ⟨rfl, hP, hK, hD⟩ := hv
  have hx := B.exec
  have hb := B.bytes
  have hr := B.returns
  have hts := atoms_spec (ws := wsX6_letBy) B.pre
  have hown : s.vm.findClass RX6 = some m.cls := findClass_of_methodNamed B.named
  have hlocks := B.notSynchronized
  have hl := lv_entry ([.ref (ad 2), .ref (ad 35), .int p2]) (n := 6) (Nat.le_of_ble_eq_true rfl)
  rw [lg_entry_eq]
  generalize (lg_sl ([.ref (ad 2), .ref (ad 35), .int p2]) ++ List.replicate (6 - (lg_sl ([.ref (ad 2), .ref (ad 35), .int p2])).length) Slot.unset).toArray = ls at hl ⊢
  have hl : lv_has ls 6 [(0, .ref (ad 2)), (1, .ref (ad 35)), (2, .int p2)] := hl
  have hf43 := hts (.fieldLink RX6 43 "LawRings$Rules" "broken" "[J") (by decide +kernel)
  have hiX6 : ∀ w ∈ u_ws RX6 TX6 13, w ∈ wsX6_letBy := by decide +kernel
  have hk74 := hts (.constantLong RX6 74 (-1)) (by decide +kernel)
  have hf46 := hts (.fieldLink RX6 46 "LawRings$Rules" "paired" "[J") (by decide +kernel)
  rw [sX6_letBy] at h
  refine lv_aload_n hx hb dX6_letBy_0 rfl (lv_at hl 0 rfl) ?_
  refine va_get (D := (dC, dI)) (ci := 6) (v := .ref (ad 27)) (C := RX6) (T := TX6) (N := 13) hx hb hts hiX6 hown hK hP 2 rfl rfl 11 (by decide) hf43 (fun _ h9 => h9) rfl dX6_letBy_1 ?_
  refine lv_iload_n hx hb dX6_letBy_4 rfl (lv_at hl 2 rfl) ?_
  refine lv_iconst (v := 5) hx hb dX6_letBy_5 (by decide) ?_
  refine lv_imul hx hb dX6_letBy_6 ?_
  refine lv_aload_n hx hb dX6_letBy_7 rfl (lv_at hl 1 rfl) ?_
  refine lv_iload_n hx hb dX6_letBy_8 rfl (lv_at hl 2 rfl) ?_
  obtain ⟨b1, h⟩ := ck_elim h
  refine va_iald hx hb hK hP 35 0 rfl rfl b1 dX6_letBy_9 ?_
  refine lv_iadd hx hb dX6_letBy_10 ?_
  refine lv_iconst (v := 1) hx hb dX6_letBy_11 (by decide) ?_
  refine lv_iadd hx hb dX6_letBy_12 ?_
  obtain ⟨b2, h⟩ := ck_elim h
  refine va_lald hx hb hK hP 27 1 rfl rfl b2 dX6_letBy_13 ?_
  refine lv_ldc2 (v := (-1)) hx hb hown hk74 dX6_letBy_14 ?_
  refine lv_lxor hx hb dX6_letBy_17 ?_
  obtain ⟨x3, ex3, h⟩ := bnd_elim h
  refine nm_l ex3 ?_
  refine lv_lstore_n (lv' := [(3, .long x3), (0, .ref (ad 2)), (1, .ref (ad 35)), (2, .int p2)]) hx hb dX6_letBy_18 rfl hl (by decide) rfl (fun ls hl => ?_)
  refine lv_iload_n hx hb dX6_letBy_19 rfl (lv_at hl 3 rfl) ?_
  refine lv_iconst (v := 1) hx hb dX6_letBy_20 (by decide) ?_
  refine lv_iadd hx hb dX6_letBy_21 ?_
  obtain ⟨x4, ex4, h⟩ := bnd_elim h
  refine nm_i ex4 ?_
  refine lv_istore (lv' := [(5, .int x4), (3, .long x3), (0, .ref (ad 2)), (1, .ref (ad 35)), (2, .int p2)]) hx hb dX6_letBy_22 hl (by decide) rfl (fun ls hl => ?_)
  refine ww_r (fun WW24 hWW24 => ?_)
  have Lh24 : ∀ (n : Nat) (v5 : Int64) (v6 : Int32) (z : (Int64)), lX6_letBy_24 p2 S L n v5 v6 = some z → ∀ ls : Array Slot, lv_has ls 6 [(0, .ref (ad 2)), (1, .ref (ad 35)), (2, .int p2), (3, .long v5), (5, .int v6)] → (∀ (y0 : Int64), z = y0 → ∀ ls : Array Slot, lv_has ls 6 [(3, .long y0)] → WW24  66 ls) → WW24  24 ls := by
    intro n
    induction n with
    | zero => intro v5 v6 z h ls hl K0; rw [lX6_letBy_24] at h; cases h
    | succ n ih =>
      intro v5 v6 z h ls hl K0
      rw [lX6_letBy_24] at h
      refine wi_r hWW24 ?_
      refine lv_iload hx hb dX6_letBy_24 (lv_at hl 4 rfl) ?_
      refine lv_bipush (v := 6) hx hb dX6_letBy_26 (by decide) ?_
      refine lv_icmp_ge (tgt := 66) hx hb dX6_letBy_28 (by decide) (fun c7 => ?_) (fun c7 => ?_)
      · replace h := it_t c7 h
        refine wu_r hWW24 ?_
        exact K0 v5 (Option.some.inj h).symm ls (lv_sub hl [3] rfl)
      · replace h := it_f c7 h
        refine lv_aload_n hx hb dX6_letBy_31 rfl (lv_at hl 1 rfl) ?_
        refine lv_iload hx hb dX6_letBy_32 (lv_at hl 4 rfl) ?_
        obtain ⟨b8, h⟩ := ck_elim h
        refine va_iald hx hb hK hP 35 0 rfl rfl b8 dX6_letBy_34 ?_
        refine lv_aload_n hx hb dX6_letBy_35 rfl (lv_at hl 1 rfl) ?_
        refine lv_iload_n hx hb dX6_letBy_36 rfl (lv_at hl 2 rfl) ?_
        obtain ⟨b9, h⟩ := ck_elim h
        refine va_iald hx hb hK hP 35 0 rfl rfl b9 dX6_letBy_37 ?_
        refine lv_icmp_eq (tgt := 60) hx hb dX6_letBy_38 (by decide) (fun c10 => ?_) (fun c10 => ?_)
        · replace h := it_t c10 h
          obtain ⟨x11, ex11, h⟩ := bnd_elim h
          refine lv_iinc (v := x11) (lv' := [(5, .int x11), (0, .ref (ad 2)), (1, .ref (ad 35)), (2, .int p2), (3, .long v5)]) hx hb dX6_letBy_60 hl (k := 4) rfl (by rw [ex11]; rfl) (by decide) rfl (fun ls hl => ?_)
          refine lv_goto (tgt := 24) hx hb dX6_letBy_63 (by decide) ?_
          refine wu_r hWW24 ?_
          exact ih v5 x11 z h ls (lv_sub hl [1, 2, 3, 4, 0] rfl) K0
        · replace h := it_f c10 h
          refine lv_lload_n hx hb dX6_letBy_41 rfl (lv_at hl 3 rfl) ?_
          refine lv_aload_n hx hb dX6_letBy_42 rfl (lv_at hl 0 rfl) ?_
          refine va_get (D := (dC, dI)) (ci := 6) (v := .ref (ad 28)) (C := RX6) (T := TX6) (N := 13) hx hb hts hiX6 hown hK hP 2 rfl rfl 12 (by decide) hf46 (fun _ h9 => h9) rfl dX6_letBy_43 ?_
          refine lv_iload_n hx hb dX6_letBy_46 rfl (lv_at hl 2 rfl) ?_
          refine lv_bipush (v := 6) hx hb dX6_letBy_47 (by decide) ?_
          refine lv_imul hx hb dX6_letBy_49 ?_
          refine lv_iload hx hb dX6_letBy_50 (lv_at hl 4 rfl) ?_
          refine lv_iadd hx hb dX6_letBy_52 ?_
          obtain ⟨b12, h⟩ := ck_elim h
          refine va_lald hx hb hK hP 28 1 rfl rfl b12 dX6_letBy_53 ?_
          refine lv_ldc2 (v := (-1)) hx hb hown hk74 dX6_letBy_54 ?_
          refine lv_lxor hx hb dX6_letBy_57 ?_
          refine lv_land hx hb dX6_letBy_58 ?_
          obtain ⟨x13, ex13, h⟩ := bnd_elim h
          refine nm_l ex13 ?_
          refine lv_lstore_n (lv' := [(3, .long x13), (0, .ref (ad 2)), (1, .ref (ad 35)), (2, .int p2), (5, .int v6)]) hx hb dX6_letBy_59 rfl hl (by decide) rfl (fun ls hl => ?_)
          obtain ⟨x14, ex14, h⟩ := bnd_elim h
          refine lv_iinc (v := x14) (lv' := [(5, .int x14), (3, .long x13), (0, .ref (ad 2)), (1, .ref (ad 35)), (2, .int p2)]) hx hb dX6_letBy_60 hl (k := 4) rfl (by rw [ex14]; rfl) (by decide) rfl (fun ls hl => ?_)
          refine lv_goto (tgt := 24) hx hb dX6_letBy_63 (by decide) ?_
          refine wu_r hWW24 ?_
          exact ih x13 x14 z h ls (lv_sub hl [2, 3, 4, 1, 0] rfl) K0
  obtain ⟨w16, k15, h⟩ := ob_elim h
  refine wu_r hWW24 ?_
  refine Lh24 FU x3 x4 _ k15 ls (lv_sub hl [2, 3, 4, 1, 0] rfl) ?_
  intro y0 hy ls hl
  cases hy
  refine wi_r hWW24 ?_
  refine lv_lload_n hx hb dX6_letBy_66 rfl (lv_at hl 0 rfl) ?_
  cases h
  exact W.lret hx hb hr (fun t ht hW => ⟨_, rfl, rfl, ht⟩) (fun q hq => absurd hq List.not_mem_nil) dX6_letBy_67
set_option maxHeartbeats 4000000 in
set_option maxRecDepth 100000 in
theorem mX4_open (l : Launch) (dC : Nat → ClassId) (dI : Nat → Nat → Nat) (cI cJ : ClassId) (ad : Nat → Nat) (p2 : Int32) (S : Nat → Nat → Int32) (L : Nat → Nat → Int64) (sz : Nat) {z : (Nat → Nat → Int32) × (Nat → Nat → Int64)} (h : sX4_open p2 S L = some z) : Met l yX4_open wsX4_open ({ frames := 2, cells := 0, slots := 0, locals := 46 }) (va_Pc [.ref (ad 6), .ref (ad 1), .int p2] (QXs sz dC dI cI cJ ad S L)) (va_Qv (fun (u : (Nat → Nat → Int32) × (Nat → Nat → Int64)) => u = z) (fun (u : (Nat → Nat → Int32) × (Nat → Nat → Int64)) t => va_P (dC, dI) vwCl (wX cI cJ ad u.1 u.2) t.heap) (AX 43 ad sz)) 0 0 (AX 43 ad sz) := by
  refine Met.ofW (cc := cX4_open) (maxL := 4) (ret := none) (by decide) rfl ?_
  intro p e s m args below meth c s₁ B hml hv
  obtain ⟨rfl, hsz, hP, hK, hD0⟩ := hv
  have hx := B.exec
  have hb := B.bytes
  have hr := B.returns
  have hts := atoms_spec (ws := wsX4_open) B.pre
  have hown : s.vm.findClass RX4 = some m.cls := findClass_of_methodNamed B.named
  have hlocks := B.notSynchronized
  subst hsz
  have hD := wX_DA hD0 s.heap.size
  have hS : va_S (AX 43 ad s.heap.size) s.heap s.heap [] := va_S.rf
  have hl := lv_entry ([.ref (ad 6), .ref (ad 1), .int p2]) (n := 4) (Nat.le_of_ble_eq_true rfl)
  rw [lg_entry_eq]
  generalize (lg_sl ([.ref (ad 6), .ref (ad 1), .int p2]) ++ List.replicate (4 - (lg_sl ([.ref (ad 6), .ref (ad 1), .int p2])).length) Slot.unset).toArray = ls at hl ⊢
  have hl : lv_has ls 4 [(0, .ref (ad 6)), (1, .ref (ad 1)), (2, .int p2)] := hl
  have hf28 := hts (.fieldLink RX4 28 "LawRings$Hearing" "rules" "LLawRings$Rules;") (by decide +kernel)
  have hiX4 : ∀ w ∈ u_ws RX4 TX4 9, w ∈ wsX4_open := by decide +kernel
  have hf44 := hts (.fieldLink RX4 44 "LawRings$Cases" "day" "[I") (by decide +kernel)
  have hiX2 : ∀ w ∈ u_ws RX2 TX2 6, w ∈ wsX4_open := by decide +kernel
  have hf55 := hts (.fieldLink RX4 55 "LawRings$Hearing" "held" "J") (by decide +kernel)
  have hf9 := hts (.fieldLink RX4 9 "LawRings$Hearing" "ties" "[I") (by decide +kernel)
  rw [sX4_open] at h
  refine lv_aload_n hx hb dX4_open_0 rfl (lv_at hl 0 rfl) ?_
  refine lv_aload_n hx hb dX4_open_1 rfl (lv_at hl 1 rfl) ?_
  refine lv_iload_n hx hb dX4_open_2 rfl (lv_at hl 2 rfl) ?_
  obtain ⟨S2, L3, k1, h⟩ := ob2_elim h
  refine va_callv (va_runV (As := [.ref (ad 1), .int p2]) (rest := []) ⟨hx, hb, hml, hown, hts⟩ (mX4_takeTies l dC dI cI cJ ad p2 S L s.heap.size k1) (cwV 2 hts gX4_open_X4_takeTies rfl rfl rfl (by decide +kernel) ⟨Nat.le_of_ble_eq_true rfl, Nat.le_of_ble_eq_true rfl⟩) ⟨QXs_blind, va_recv hK hP (ci := 4) (q0 := 6) rfl rfl, fun U hU hW => ⟨rfl, congrArg Array.size hU, QX_at hP hK hD hU hW⟩⟩ rfl rfl hl.1 rfl (lv_room (Nat.le_of_ble_eq_true rfl)) dX4_open_3 ⟨Nat.zero_le _, Nat.zero_le _⟩) hS (fun q _ hq => AX_mono hS.1 hq) (fun q hq => AX_mono hS.1 hq) (fun u t H1 locs ht hvm hw hB hz1 hk1 hS => ?_)
  cases hw
  rw [ht] at hB
  have hP := hB
  clear hB hk1 hz1
  generalize H1 = H at hP hS ⊢
  have hD := wX_D hD S2 L3
  refine lv_aload_n hx hb dX4_open_6 rfl (lv_at hl 0 rfl) ?_
  refine lv_aload_n hx hb dX4_open_7 rfl (lv_at hl 0 rfl) ?_
  refine va_get (D := (dC, dI)) (ci := 4) (v := .ref (ad 2)) (C := RX4) (T := TX4) (N := 9) hx hb hts hiX4 hown hK hP 6 rfl rfl 0 (by decide) hf28 (fun _ h9 => h9) rfl dX4_open_8 ?_
  refine lv_aload_n hx hb dX4_open_11 rfl (lv_at hl 1 rfl) ?_
  refine va_get (D := (dC, dI)) (ci := 2) (v := .ref (ad 13)) (C := RX2) (T := TX2) (N := 6) hx hb hts hiX2 hown hK hP 1 rfl rfl 2 (by decide) hf44 (fun _ h9 => h9) rfl dX4_open_12 ?_
  refine lv_iload_n hx hb dX4_open_15 rfl (lv_at hl 2 rfl) ?_
  obtain ⟨b4, h⟩ := ck_elim h
  refine va_iald hx hb hK hP 13 0 rfl rfl b4 dX4_open_16 ?_
  obtain ⟨r6, k5, h⟩ := ob_elim h
  refine vp_callSl (W.runV (As := [.int (S2 13 p2.toNatClampNeg)]) (rest := [.ref (ad 6)]) ⟨hx, hb, hml, hown, hts⟩ (mX6_standing l dC dI cI cJ ad (S2 13 p2.toNatClampNeg) S2 L3 k5) (cwV 1 hts gX4_open_X6_standing rfl rfl rfl (by decide +kernel) ⟨Nat.le_of_ble_eq_true rfl, Nat.le_of_ble_eq_true rfl⟩) ⟨QX_blind, va_recv hK hP (ci := 6) (q0 := 2) rfl rfl, fun U hU hW => ⟨rfl, QX_at hP hK hD hU hW⟩⟩ rfl rfl hl.1 rfl (lv_room (Nat.le_of_ble_eq_true rfl)) dX4_open_17 ⟨Nat.zero_le _, Nat.zero_le _⟩) (fun r9 er9 => ?_)
  subst er9
  obtain ⟨L7, eL7, h⟩ := bnd_elim h
  refine va_put (D := (dC, dI)) (ci := 4) (v := .long r6) (ty := .long) (C := RX4) (T := TX4) (N := 9) hx hb hts hiX4 tyX4 tyX4_ok nmX4 hown hK hP hD hS 6 rfl rfl 4 (by decide) hf55 (fun _ h9 => h9) rfl (by decide +kernel) rfl rfl (Nat.le_of_ble_eq_true rfl) dX4_open_20 (fun H locs hP9 _ hS => ?_)
  have hP := swX_6_4 hP9
  rw [← eL7] at hP
  have hD := wX_D hD S2 L7
  refine lv_iconst (v := 0) hx hb dX4_open_23 (by decide) ?_
  refine lv_istore_n (lv' := [(3, .int 0), (0, .ref (ad 6)), (1, .ref (ad 1)), (2, .int p2)]) hx hb dX4_open_24 rfl hl (by decide) rfl (fun ls hl => ?_)
  refine ww_w (fun WW25 hWW25 => ?_)
  have Lh25 : ∀ (n : Nat) (v8 : Int32) (S9 : (Nat → Nat → Int32)) (L10 : (Nat → Nat → Int64)) (z : ((Nat → Nat → Int32) × (Nat → Nat → Int64))), lX4_open_25 n v8 S9 L10 = some z → ∀ (H : Heap) (locs : List Loc), va_P (dC, dI) vwCl (wX cI cJ ad S9 L10) H → va_S (AX 43 ad s.heap.size) s.heap H locs → ∀ ls : Array Slot, lv_has ls 4 [(0, .ref (ad 6)), (3, .int v8)] → (∀ (YS : (Nat → Nat → Int32)) (YL : (Nat → Nat → Int64)), z = (YS, YL) → ∀ (H : Heap) (locs : List Loc), va_P (dC, dI) vwCl (wX cI cJ ad YS YL) H → va_S (AX 43 ad s.heap.size) s.heap H locs → ∀ ls : Array Slot, lv_has ls 4 [] → WW25 H locs 58 ls) → WW25 H locs 25 ls := by
    intro n
    induction n with
    | zero => intro v8 S9 L10 z h H locs hP hS ls hl K0; rw [lX4_open_25] at h; cases h
    | succ n ih =>
      intro v8 S9 L10 z h H locs hP hS ls hl K0
      have hD := wX_D hD S9 L10
      rw [lX4_open_25] at h
      refine wi_w hWW25 ?_
      refine lv_iload_n hx hb dX4_open_25 rfl (lv_at hl 1 rfl) ?_
      refine lv_bipush (v := 6) hx hb dX4_open_26 (by decide) ?_
      refine lv_icmp_ge (tgt := 58) hx hb dX4_open_28 (by decide) (fun c11 => ?_) (fun c11 => ?_)
      · replace h := it_t c11 h
        refine wu_w hWW25 ?_
        exact K0 S9 L10 (Option.some.inj h).symm H locs hP hS ls (lv_sub hl [] rfl)
      · replace h := it_f c11 h
        refine lv_aload_n hx hb dX4_open_31 rfl (lv_at hl 0 rfl) ?_
        refine lv_dup hx hb dX4_open_32 rfl ?_
        refine va_get (D := (dC, dI)) (ci := 4) (v := .long (L10 6 4)) (C := RX4) (T := TX4) (N := 9) hx hb hts hiX4 hown hK hP 6 rfl rfl 4 (by decide) hf55 (fun _ h9 => h9) rfl dX4_open_33 ?_
        refine lv_aload_n hx hb dX4_open_36 rfl (lv_at hl 0 rfl) ?_
        refine va_get (D := (dC, dI)) (ci := 4) (v := .ref (ad 2)) (C := RX4) (T := TX4) (N := 9) hx hb hts hiX4 hown hK hP 6 rfl rfl 0 (by decide) hf28 (fun _ h9 => h9) rfl dX4_open_37 ?_
        refine lv_aload_n hx hb dX4_open_40 rfl (lv_at hl 0 rfl) ?_
        refine va_get (D := (dC, dI)) (ci := 4) (v := .ref (ad 35)) (C := RX4) (T := TX4) (N := 9) hx hb hts hiX4 hown hK hP 6 rfl rfl 3 (by decide) hf9 (fun _ h9 => h9) rfl dX4_open_41 ?_
        refine lv_iload_n hx hb dX4_open_44 rfl (lv_at hl 1 rfl) ?_
        obtain ⟨r13, k12, h⟩ := ob_elim h
        refine vp_callSl (W.runV (As := [.ref (ad 35), .int v8]) (rest := [.long (L10 6 4), .ref (ad 6)]) ⟨hx, hb, hml, hown, hts⟩ (mX6_letBy l dC dI cI cJ ad v8 S9 L10 k12) (cwV 2 hts gX4_open_X6_letBy rfl rfl rfl (by decide +kernel) ⟨Nat.le_of_ble_eq_true rfl, Nat.le_of_ble_eq_true rfl⟩) ⟨QX_blind, va_recv hK hP (ci := 6) (q0 := 2) rfl rfl, fun U hU hW => ⟨rfl, QX_at hP hK hD hU hW⟩⟩ rfl rfl hl.1 rfl (lv_room (Nat.le_of_ble_eq_true rfl)) dX4_open_45 ⟨Nat.zero_le _, Nat.zero_le _⟩) (fun r9 er9 => ?_)
        subst er9
        refine lv_land hx hb dX4_open_48 ?_
        obtain ⟨L14, eL14, h⟩ := bnd_elim h
        refine va_put (D := (dC, dI)) (ci := 4) (v := .long ((L10 6 4) &&& r13)) (ty := .long) (C := RX4) (T := TX4) (N := 9) hx hb hts hiX4 tyX4 tyX4_ok nmX4 hown hK hP hD hS 6 rfl rfl 4 (by decide) hf55 (fun _ h9 => h9) rfl (by decide +kernel) rfl rfl (Nat.le_of_ble_eq_true rfl) dX4_open_49 (fun H locs hP9 _ hS => ?_)
        have hP := swX_6_4 hP9
        rw [← eL14] at hP
        have hD := wX_D hD S9 L14
        obtain ⟨x15, ex15, h⟩ := bnd_elim h
        refine lv_iinc (v := x15) (lv' := [(3, .int x15), (0, .ref (ad 6))]) hx hb dX4_open_52 hl (k := 1) rfl (by rw [ex15]; rfl) (by decide) rfl (fun ls hl => ?_)
        refine lv_goto (tgt := 25) hx hb dX4_open_55 (by decide) ?_
        refine wu_w hWW25 ?_
        exact ih x15 S9 L14 z h H locs hP hS ls (lv_sub hl [1, 0] rfl) K0
  obtain ⟨S17, L18, k16, h⟩ := ob2_elim h
  refine wu_w hWW25 ?_
  refine Lh25 FU 0 S2 L7 _ k16 H locs hP hS ls (lv_sub hl [1, 0] rfl) ?_
  intro y0 y1 hy H locs hP hS ls hl
  cases hy
  have hD := wX_D hD S17 L18
  refine wi_w hWW25 ?_
  cases h
  exact W.vret hx hb hr (fun t ht hW => ⟨⟨_, rfl, rfl, by rw [ht]; exact hP⟩, hS.F ht⟩) hS.2.2 dX4_open_58
set_option maxHeartbeats 4000000 in
set_option maxRecDepth 100000 in
theorem mX9_has (l : Launch) (dC : Nat → ClassId) (dI : Nat → Nat → Nat) (cI cJ : ClassId) (ad : Nat → Nat) (p1 : Int32) (S : Nat → Nat → Int32) (L : Nat → Nat → Int64) {z : Int32} (h : sX9_has p1 S L = some z) : Met l yX9_has wsX9_has ({ frames := 0, cells := 0, slots := 0, locals := 0 }) (va_Pc [.ref (ad 5), .int p1] (QX dC dI cI cJ ad S L)) (vp_Si (fun r => r = z)) 0 0 (fun _ => False) := by
  refine Met.ofW (cc := cX9_has) (maxL := 3) (ret := (some .boolean)) (by decide) rfl ?_
  intro p e s m args below meth c s₁ B hml hv
  obtain ⟨rfl, hP, hK, hD⟩ := hv
  have hx := B.exec
  have hb := B.bytes
  have hr := B.returns
  have hts := atoms_spec (ws := wsX9_has) B.pre
  have hown : s.vm.findClass RX9 = some m.cls := findClass_of_methodNamed B.named
  have hlocks := B.notSynchronized
  have hl := lv_entry ([.ref (ad 5), .int p1]) (n := 3) (Nat.le_of_ble_eq_true rfl)
  rw [lg_entry_eq]
  generalize (lg_sl ([.ref (ad 5), .int p1]) ++ List.replicate (3 - (lg_sl ([.ref (ad 5), .int p1])).length) Slot.unset).toArray = ls at hl ⊢
  have hl : lv_has ls 3 [(0, .ref (ad 5)), (1, .int p1)] := hl
  have hf15 := hts (.fieldLink RX9 15 "LawRings$Trials" "size" "I") (by decide +kernel)
  have hiX9 : ∀ w ∈ u_ws RX9 TX9 2, w ∈ wsX9_has := by decide +kernel
  have hf9 := hts (.fieldLink RX9 9 "LawRings$Trials" "rule" "[I") (by decide +kernel)
  rw [sX9_has] at h
  refine lv_iconst (v := 0) hx hb dX9_has_0 (by decide) ?_
  refine lv_istore_n (lv' := [(2, .int 0), (0, .ref (ad 5)), (1, .int p1)]) hx hb dX9_has_1 rfl hl (by decide) rfl (fun ls hl => ?_)
  refine ww_r (fun WW2 hWW2 => ?_)
  have Lh2 : ∀ (n : Nat) (v1 : Int32) (z : (Unit ⊕ Unit)), lX9_has_2 p1 S L n v1 = some z → ∀ ls : Array Slot, lv_has ls 3 [(0, .ref (ad 5)), (1, .int p1), (2, .int v1)] → (z = .inl () → ∀ ls : Array Slot, lv_has ls 3 [] → WW2  20 ls) → (z = .inr () → ∀ ls : Array Slot, lv_has ls 3 [] → WW2  28 ls) → WW2  2 ls := by
    intro n
    induction n with
    | zero => intro v1 z h ls hl K0 K1; rw [lX9_has_2] at h; cases h
    | succ n ih =>
      intro v1 z h ls hl K0 K1
      rw [lX9_has_2] at h
      refine wi_r hWW2 ?_
      refine lv_iload_n hx hb dX9_has_2 rfl (lv_at hl 2 rfl) ?_
      refine lv_aload_n hx hb dX9_has_3 rfl (lv_at hl 0 rfl) ?_
      refine va_get (D := (dC, dI)) (ci := 9) (v := .int (S 5 0)) (C := RX9) (T := TX9) (N := 2) hx hb hts hiX9 hown hK hP 5 rfl rfl 0 (by decide) hf15 (fun _ h9 => h9) rfl dX9_has_4 ?_
      refine lv_icmp_ge (tgt := 28) hx hb dX9_has_7 (by decide) (fun c2 => ?_) (fun c2 => ?_)
      · replace h := it_t c2 h
        refine wu_r hWW2 ?_
        exact K1 (Option.some.inj h).symm ls (lv_sub hl [] rfl)
      · replace h := it_f c2 h
        refine lv_aload_n hx hb dX9_has_10 rfl (lv_at hl 0 rfl) ?_
        refine va_get (D := (dC, dI)) (ci := 9) (v := .ref (ad 34)) (C := RX9) (T := TX9) (N := 2) hx hb hts hiX9 hown hK hP 5 rfl rfl 1 (by decide) hf9 (fun _ h9 => h9) rfl dX9_has_11 ?_
        refine lv_iload_n hx hb dX9_has_14 rfl (lv_at hl 2 rfl) ?_
        obtain ⟨b3, h⟩ := ck_elim h
        refine va_iald hx hb hK hP 34 0 rfl rfl b3 dX9_has_15 ?_
        refine lv_iload_n hx hb dX9_has_16 rfl (lv_at hl 1 rfl) ?_
        refine lv_icmp_ne (tgt := 22) hx hb dX9_has_17 (by decide) (fun c4 => ?_) (fun c4 => ?_)
        · replace h := it_f c4 h
          obtain ⟨x5, ex5, h⟩ := bnd_elim h
          refine lv_iinc (v := x5) (lv' := [(2, .int x5), (0, .ref (ad 5)), (1, .int p1)]) hx hb dX9_has_22 hl (k := 2) rfl (by rw [ex5]; rfl) (by decide) rfl (fun ls hl => ?_)
          refine lv_goto (tgt := 2) hx hb dX9_has_25 (by decide) ?_
          refine wu_r hWW2 ?_
          exact ih x5 z h ls (lv_sub hl [1, 2, 0] rfl) K0 K1
        · replace h := it_t c4 h
          refine wu_r hWW2 ?_
          exact K0 (Option.some.inj h).symm ls (lv_sub hl [] rfl)
  obtain ⟨q9, k6, h⟩ | ⟨q9, k6, h⟩ := os2_elim h
  · refine wu_r hWW2 ?_
    refine Lh2 FU 0 _ k6 ls (lv_sub hl [1, 2, 0] rfl) ?_ (fun hy => by cases hy)
    intro hy ls hl
    cases hy
    refine wi_r hWW2 ?_
    refine lv_iconst (v := 1) hx hb dX9_has_20 (by decide) ?_
    cases h
    exact W.zret hx hb hr rfl (fun t ht hW => ⟨_, rfl, rfl, ht⟩) (fun q hq => absurd hq List.not_mem_nil) dX9_has_21
  · refine wu_r hWW2 ?_
    refine Lh2 FU 0 _ k6 ls (lv_sub hl [1, 2, 0] rfl) (fun hy => by cases hy) ?_
    intro hy ls hl
    cases hy
    refine wi_r hWW2 ?_
    refine lv_iconst (v := 0) hx hb dX9_has_28 (by decide) ?_
    cases h
    exact W.zret hx hb hr rfl (fun t ht hW => ⟨_, rfl, rfl, ht⟩) (fun q hq => absurd hq List.not_mem_nil) dX9_has_29
set_option maxHeartbeats 4000000 in
set_option maxRecDepth 100000 in
theorem mX9_rulesAt (l : Launch) (dC : Nat → ClassId) (dI : Nat → Nat → Nat) (cI cJ : ClassId) (ad : Nat → Nat) (p1 : Int32) (S : Nat → Nat → Int32) (L : Nat → Nat → Int64) {z : Int64} (h : sX9_rulesAt p1 S L = some z) : Met l yX9_rulesAt wsX9_rulesAt ({ frames := 0, cells := 0, slots := 0, locals := 0 }) (va_Pc [.ref (ad 5), .int p1] (QX dC dI cI cJ ad S L)) (vp_Sl (fun r => r = z)) 0 0 (fun _ => False) := by
  refine Met.ofW (cc := cX9_rulesAt) (maxL := 5) (ret := (some .long)) (by decide) rfl ?_
  intro p e s m args below meth c s₁ B hml hv
  obtain ⟨rfl, hP, hK, hD⟩ := hv
  have hx := B.exec
  have hb := B.bytes
  have hr := B.returns
  have hts := atoms_spec (ws := wsX9_rulesAt) B.pre
  have hown : s.vm.findClass RX9 = some m.cls := findClass_of_methodNamed B.named
  have hlocks := B.notSynchronized
  have hl := lv_entry ([.ref (ad 5), .int p1]) (n := 5) (Nat.le_of_ble_eq_true rfl)
  rw [lg_entry_eq]
  generalize (lg_sl ([.ref (ad 5), .int p1]) ++ List.replicate (5 - (lg_sl ([.ref (ad 5), .int p1])).length) Slot.unset).toArray = ls at hl ⊢
  have hl : lv_has ls 5 [(0, .ref (ad 5)), (1, .int p1)] := hl
  have hf15 := hts (.fieldLink RX9 15 "LawRings$Trials" "size" "I") (by decide +kernel)
  have hiX9 : ∀ w ∈ u_ws RX9 TX9 2, w ∈ wsX9_rulesAt := by decide +kernel
  have hf9 := hts (.fieldLink RX9 9 "LawRings$Trials" "rule" "[I") (by decide +kernel)
  rw [sX9_rulesAt] at h
  refine lv_lconst (v := 0) hx hb dX9_rulesAt_0 (by decide) ?_
  refine lv_lstore_n (lv' := [(2, .long 0), (0, .ref (ad 5)), (1, .int p1)]) hx hb dX9_rulesAt_1 rfl hl (by decide) rfl (fun ls hl => ?_)
  refine lv_iconst (v := 0) hx hb dX9_rulesAt_2 (by decide) ?_
  refine lv_istore (lv' := [(4, .int 0), (2, .long 0), (0, .ref (ad 5)), (1, .int p1)]) hx hb dX9_rulesAt_3 hl (by decide) rfl (fun ls hl => ?_)
  refine ww_r (fun WW5 hWW5 => ?_)
  have Lh5 : ∀ (n : Nat) (v1 : Int64) (v2 : Int32) (z : (Int64)), lX9_rulesAt_5 p1 S L n v1 v2 = some z → ∀ ls : Array Slot, lv_has ls 5 [(0, .ref (ad 5)), (1, .int p1), (2, .long v1), (4, .int v2)] → (∀ (y0 : Int64), z = y0 → ∀ ls : Array Slot, lv_has ls 5 [(2, .long y0)] → WW5  41 ls) → WW5  5 ls := by
    intro n
    induction n with
    | zero => intro v1 v2 z h ls hl K0; rw [lX9_rulesAt_5] at h; cases h
    | succ n ih =>
      intro v1 v2 z h ls hl K0
      rw [lX9_rulesAt_5] at h
      refine wi_r hWW5 ?_
      refine lv_iload hx hb dX9_rulesAt_5 (lv_at hl 3 rfl) ?_
      refine lv_aload_n hx hb dX9_rulesAt_7 rfl (lv_at hl 0 rfl) ?_
      refine va_get (D := (dC, dI)) (ci := 9) (v := .int (S 5 0)) (C := RX9) (T := TX9) (N := 2) hx hb hts hiX9 hown hK hP 5 rfl rfl 0 (by decide) hf15 (fun _ h9 => h9) rfl dX9_rulesAt_8 ?_
      refine lv_icmp_ge (tgt := 41) hx hb dX9_rulesAt_11 (by decide) (fun c3 => ?_) (fun c3 => ?_)
      · replace h := it_t c3 h
        refine wu_r hWW5 ?_
        exact K0 v1 (Option.some.inj h).symm ls (lv_sub hl [2] rfl)
      · replace h := it_f c3 h
        refine lv_iload_n hx hb dX9_rulesAt_14 rfl (lv_at hl 1 rfl) ?_
        refine lv_iload hx hb dX9_rulesAt_15 (lv_at hl 3 rfl) ?_
        refine lv_iushr (v := iush p1 v2) hx hb dX9_rulesAt_17 rfl ?_
        refine lv_iconst (v := 1) hx hb dX9_rulesAt_18 (by decide) ?_
        refine lv_iand hx hb dX9_rulesAt_19 ?_
        refine lv_if_eq (tgt := 35) hx hb dX9_rulesAt_20 (by decide) (fun c4 => ?_) (fun c4 => ?_)
        · replace h := it_t c4 h
          obtain ⟨x5, ex5, h⟩ := bnd_elim h
          refine lv_iinc (v := x5) (lv' := [(4, .int x5), (0, .ref (ad 5)), (1, .int p1), (2, .long v1)]) hx hb dX9_rulesAt_35 hl (k := 3) rfl (by rw [ex5]; rfl) (by decide) rfl (fun ls hl => ?_)
          refine lv_goto (tgt := 5) hx hb dX9_rulesAt_38 (by decide) ?_
          refine wu_r hWW5 ?_
          exact ih v1 x5 z h ls (lv_sub hl [1, 2, 3, 0] rfl) K0
        · replace h := it_f c4 h
          refine lv_lload_n hx hb dX9_rulesAt_23 rfl (lv_at hl 2 rfl) ?_
          refine lv_lconst (v := 1) hx hb dX9_rulesAt_24 (by decide) ?_
          refine lv_aload_n hx hb dX9_rulesAt_25 rfl (lv_at hl 0 rfl) ?_
          refine va_get (D := (dC, dI)) (ci := 9) (v := .ref (ad 34)) (C := RX9) (T := TX9) (N := 2) hx hb hts hiX9 hown hK hP 5 rfl rfl 1 (by decide) hf9 (fun _ h9 => h9) rfl dX9_rulesAt_26 ?_
          refine lv_iload hx hb dX9_rulesAt_29 (lv_at hl 3 rfl) ?_
          obtain ⟨b6, h⟩ := ck_elim h
          refine va_iald hx hb hK hP 34 0 rfl rfl b6 dX9_rulesAt_31 ?_
          refine lv_lshl (v := lsh 1 (S 34 v2.toNatClampNeg)) hx hb dX9_rulesAt_32 rfl ?_
          refine lv_lor hx hb dX9_rulesAt_33 ?_
          obtain ⟨x7, ex7, h⟩ := bnd_elim h
          refine nm_l ex7 ?_
          refine lv_lstore_n (lv' := [(2, .long x7), (0, .ref (ad 5)), (1, .int p1), (4, .int v2)]) hx hb dX9_rulesAt_34 rfl hl (by decide) rfl (fun ls hl => ?_)
          obtain ⟨x8, ex8, h⟩ := bnd_elim h
          refine lv_iinc (v := x8) (lv' := [(4, .int x8), (2, .long x7), (0, .ref (ad 5)), (1, .int p1)]) hx hb dX9_rulesAt_35 hl (k := 3) rfl (by rw [ex8]; rfl) (by decide) rfl (fun ls hl => ?_)
          refine lv_goto (tgt := 5) hx hb dX9_rulesAt_38 (by decide) ?_
          refine wu_r hWW5 ?_
          exact ih x7 x8 z h ls (lv_sub hl [2, 3, 1, 0] rfl) K0
  obtain ⟨w10, k9, h⟩ := ob_elim h
  refine wu_r hWW5 ?_
  refine Lh5 FU 0 0 _ k9 ls (lv_sub hl [2, 3, 1, 0] rfl) ?_
  intro y0 hy ls hl
  cases hy
  refine wi_r hWW5 ?_
  refine lv_lload_n hx hb dX9_rulesAt_41 rfl (lv_at hl 0 rfl) ?_
  cases h
  exact W.lret hx hb hr (fun t ht hW => ⟨_, rfl, rfl, ht⟩) (fun q hq => absurd hq List.not_mem_nil) dX9_rulesAt_42
