set_option maxHeartbeats 4000000 in
set_option maxRecDepth 100000 in
theorem lcase_21 {p : Program} {l : Launch} {e : Env} {s : State} {m : MethodId} {below : List Frame} {meth : Method} {c : Code} {b Ln : Nat} {xs : Nat → Int32} (C : LC p s m c b Ln xs) (hL : Ln ≤ 3072) {dC : Nat → ClassId} {dI : Nat → Nat → Nat} {cI cJ cZ : ClassId} {ad bd : Nat → Nat} (hK : va_K (dC, dI) vwCl [(cI, .int), (cJ, .long), (cZ, .boolean)] s) {Q : State → Prop} {i : Nat} (hi : i + 6 ≤ Ln) {S M : Nat → Nat → Int32} {L : Nat → Nat → Int64} {H : Heap} {locs : List Loc} (hP : va_P (dC, dI) vwCl (wX cI cJ ad S L ++ wM cI cZ bd M) H) (hD : va_D (fun q : Nat => s.heap.size ≤ q) (wX cI cJ ad S L ++ wM cI cZ bd M)) (hS : va_S (fun q : Nat => s.heap.size ≤ q) s.heap H locs) (R : Rel S L M) {ls : Array Slot} (hl : lv_has ls 4 [(0, .ref b), (1, .ref (ad 0)), (2, .ref (bd 0)), (3, .int (nI i))]) (kk : ∀ (S9 : Nat → Nat → Int32) (L9 : Nat → Nat → Int64) (M9 : Nat → Nat → Int32) (H9 : Heap) (locs9 : List Loc) (ls9 : Array Slot), va_P (dC, dI) vwCl (wX cI cJ ad S9 L9 ++ wM cI cZ bd M9) H9 → va_S (fun q : Nat => s.heap.size ≤ q) s.heap H9 locs9 → Rel S9 L9 M9 → lv_has ls9 4 [(0, .ref b), (1, .ref (ad 0)), (2, .ref (bd 0)), (3, .int (nI i))] → W p l e room_1 s m #[Value.ref b] below meth c H9 locs9 50 2278 Q (F0 m 1245 ls9 [])) : W p l e room_1 s m #[Value.ref b] below meth c H locs 50 2278 Q (F0 m 1063 ls []) := by
  obtain ⟨hx, hb, hml, hown, hts, hX, hbl⟩ := C
  have hA : ∀ q : Nat, s.heap.size ≤ q → (fun q : Nat => s.heap.size ≤ q) q := fun _ h => h
  have hbA : ¬ (fun q : Nat => s.heap.size ≤ q) b := Nat.not_le.mpr hbl
  have hKX := hK.sub (tys' := [(cI, .int), (cJ, .long)]) [0, 1] rfl
  have hKM := hK.sub (tys' := [(cI, .int), (cZ, .boolean)]) [0, 2] rfl
  obtain ⟨r, S1, L1, M1, e1, e2, R1⟩ := op_trial R (xs (nI (i + 1)).toNatClampNeg)
  refine lv_aload_n hx hb dL_law_1063 rfl (lv_at hl 1 rfl) ?_
  refine lv_aload_n hx hb dL_law_1064 rfl (lv_at hl 0 rfl) ?_
  refine lv_iload_n hx hb dL_law_1065 rfl (lv_at hl 3 rfl) ?_
  refine lv_iconst (v := 1) hx hb dL_law_1066 (by decide) ?_
  refine lv_iadd hx hb dL_law_1067 ?_
  refine nm_i (x := nI (i + 1)) (by show nI (i + 1) = nI i + nI 1; rw [nI_add]) ?_
  refine va_sld hx hb hX hbl hbA hS (vp_in_nI (n := i + 1) (by omega) (by omega)) dL_law_1068 ?_
  have hPX := P_l hP
  have hDX := D_l hD
  have hFr := freeX hD hS hA
  refine va_calli (va_runV (As := [.int (xs (nI (i + 1)).toNatClampNeg)]) (rest := []) ⟨hx, hb, hml, hown, hts⟩ (mX10_trial l dC dI cI cJ ad (xs (nI (i + 1)).toNatClampNeg) S L H.size e1) (cwV 1 hts gL_law_X10_trial rfl rfl rfl (by decide +kernel) ⟨(Nat.le_of_ble_eq_true rfl), (Nat.le_of_ble_eq_true rfl)⟩) ⟨QXs_blind, va_recv hKX hPX (ci := 10) (q0 := 0) rfl rfl, fun U hU hW => ⟨rfl, congrArg Array.size hU, QX_at hPX hKX hDX hU hW⟩⟩ rfl rfl hl.1 rfl (lv_room (Nat.le_of_ble_eq_true rfl)) dL_law_1069 ⟨(Nat.le_of_ble_eq_true rfl), (Nat.le_of_ble_eq_true rfl)⟩) hS (fun q _ h => hFr q h) hFr (fun r9 u t H1 locs ht hvm hw hB hz1 hk1 hS => ?_)
  obtain ⟨er9, eu9⟩ := Prod.mk.inj hw
  subst er9
  have eu9 := eu9.symm
  subst eu9
  have hP1 : va_P (dC, dI) vwCl (wX cI cJ ad S1 L1) H1 := by rw [← ht]; exact hB
  have hP := joinX hP hD hk1 hP1
  have hD := XM_D hD S1 L1 M
  generalize H1 = H at hP hS ⊢
  refine lv_aload_n hx hb dL_law_1072 rfl (lv_at hl 2 rfl) ?_
  refine lv_aload_n hx hb dL_law_1073 rfl (lv_at hl 0 rfl) ?_
  refine lv_iload_n hx hb dL_law_1074 rfl (lv_at hl 3 rfl) ?_
  refine lv_iconst (v := 1) hx hb dL_law_1075 (by decide) ?_
  refine lv_iadd hx hb dL_law_1076 ?_
  refine nm_i (x := nI (i + 1)) (by show nI (i + 1) = nI i + nI 1; rw [nI_add]) ?_
  refine va_sld hx hb hX hbl hbA hS (vp_in_nI (n := i + 1) (by omega) (by omega)) dL_law_1077 ?_
  have hPM := P_r hP
  have hDM := D_r hD
  have hFr := freeM hD hS hA
  refine va_calli (va_runV (As := [.int (xs (nI (i + 1)).toNatClampNeg)]) (rest := [.int r9]) ⟨hx, hb, hml, hown, hts⟩ (mX11_trial l dC dI cI cZ bd (xs (nI (i + 1)).toNatClampNeg) M H.size e2) (cwV 1 hts gL_law_X11_trial rfl rfl rfl (by decide +kernel) ⟨(Nat.le_of_ble_eq_true rfl), (Nat.le_of_ble_eq_true rfl)⟩) ⟨QMs_blind, va_recv hKM hPM (ci := 11) (q0 := 0) rfl rfl, fun U hU hW => ⟨rfl, congrArg Array.size hU, QM_at hPM hKM hDM hU hW⟩⟩ rfl rfl hl.1 rfl (lv_room (Nat.le_of_ble_eq_true rfl)) dL_law_1078 ⟨(Nat.le_of_ble_eq_true rfl), (Nat.le_of_ble_eq_true rfl)⟩) hS (fun q _ h => hFr q h) hFr (fun r10 u t H1 locs ht hvm hw hB hz1 hk1 hS => ?_)
  obtain ⟨er9, eu9⟩ := Prod.mk.inj hw
  subst er9
  have eu9 := eu9.symm
  subst eu9
  have hP1 : va_P (dC, dI) vwCl (wM cI cZ bd M1) H1 := by rw [← ht]; exact hB
  have hP := joinM hP hD hk1 hP1
  have hD := XM_D hD S1 L1 M1
  generalize H1 = H at hP hS ⊢
  refine lv_icmp_eq (tgt := 1245) hx hb dL_law_1081 (by decide) (fun _ => ?_) (fun c9 => absurd rfl c9)
  exact kk S1 L1 M1 _ _ _ hP hS R1 hl
set_option maxHeartbeats 4000000 in
set_option maxRecDepth 100000 in
theorem lcase_22 {p : Program} {l : Launch} {e : Env} {s : State} {m : MethodId} {below : List Frame} {meth : Method} {c : Code} {b Ln : Nat} {xs : Nat → Int32} (C : LC p s m c b Ln xs) (hL : Ln ≤ 3072) {dC : Nat → ClassId} {dI : Nat → Nat → Nat} {cI cJ cZ : ClassId} {ad bd : Nat → Nat} (hK : va_K (dC, dI) vwCl [(cI, .int), (cJ, .long), (cZ, .boolean)] s) {Q : State → Prop} {i : Nat} (hi : i + 6 ≤ Ln) {S M : Nat → Nat → Int32} {L : Nat → Nat → Int64} {H : Heap} {locs : List Loc} (hP : va_P (dC, dI) vwCl (wX cI cJ ad S L ++ wM cI cZ bd M) H) (hD : va_D (fun q : Nat => s.heap.size ≤ q) (wX cI cJ ad S L ++ wM cI cZ bd M)) (hS : va_S (fun q : Nat => s.heap.size ≤ q) s.heap H locs) (R : Rel S L M) {ls : Array Slot} (hl : lv_has ls 4 [(0, .ref b), (1, .ref (ad 0)), (2, .ref (bd 0)), (3, .int (nI i))]) (kk : ∀ (S9 : Nat → Nat → Int32) (L9 : Nat → Nat → Int64) (M9 : Nat → Nat → Int32) (H9 : Heap) (locs9 : List Loc) (ls9 : Array Slot), va_P (dC, dI) vwCl (wX cI cJ ad S9 L9 ++ wM cI cZ bd M9) H9 → va_S (fun q : Nat => s.heap.size ≤ q) s.heap H9 locs9 → Rel S9 L9 M9 → lv_has ls9 4 [(0, .ref b), (1, .ref (ad 0)), (2, .ref (bd 0)), (3, .int (nI i))] → W p l e room_1 s m #[Value.ref b] below meth c H9 locs9 50 2278 Q (F0 m 1245 ls9 [])) : W p l e room_1 s m #[Value.ref b] below meth c H locs 50 2278 Q (F0 m 1086 ls []) := by
  obtain ⟨hx, hb, hml, hown, hts, hX, hbl⟩ := C
  have hA : ∀ q : Nat, s.heap.size ≤ q → (fun q : Nat => s.heap.size ≤ q) q := fun _ h => h
  have hbA : ¬ (fun q : Nat => s.heap.size ≤ q) b := Nat.not_le.mpr hbl
  have hKX := hK.sub (tys' := [(cI, .int), (cJ, .long)]) [0, 1] rfl
  have hKM := hK.sub (tys' := [(cI, .int), (cZ, .boolean)]) [0, 2] rfl
  obtain ⟨r, S1, L1, M1, e1, e2, R1⟩ := op_untry R
  refine lv_aload_n hx hb dL_law_1086 rfl (lv_at hl 1 rfl) ?_
  have hPX := P_l hP
  have hDX := D_l hD
  have hFr := freeX hD hS hA
  refine va_calli (va_runV (As := []) (rest := []) ⟨hx, hb, hml, hown, hts⟩ (mX10_untry l dC dI cI cJ ad S L H.size e1) (cwV 0 hts gL_law_X10_untry rfl rfl rfl (by decide +kernel) ⟨(Nat.le_of_ble_eq_true rfl), (Nat.le_of_ble_eq_true rfl)⟩) ⟨QXs_blind, va_recv hKX hPX (ci := 10) (q0 := 0) rfl rfl, fun U hU hW => ⟨rfl, congrArg Array.size hU, QX_at hPX hKX hDX hU hW⟩⟩ rfl rfl hl.1 rfl (lv_room (Nat.le_of_ble_eq_true rfl)) dL_law_1087 ⟨(Nat.le_of_ble_eq_true rfl), (Nat.le_of_ble_eq_true rfl)⟩) hS (fun q _ h => hFr q h) hFr (fun r9 u t H1 locs ht hvm hw hB hz1 hk1 hS => ?_)
  obtain ⟨er9, eu9⟩ := Prod.mk.inj hw
  subst er9
  have eu9 := eu9.symm
  subst eu9
  have hP1 : va_P (dC, dI) vwCl (wX cI cJ ad S1 L1) H1 := by rw [← ht]; exact hB
  have hP := joinX hP hD hk1 hP1
  have hD := XM_D hD S1 L1 M
  generalize H1 = H at hP hS ⊢
  refine lv_aload_n hx hb dL_law_1090 rfl (lv_at hl 2 rfl) ?_
  have hPM := P_r hP
  have hDM := D_r hD
  have hFr := freeM hD hS hA
  refine va_calli (va_runV (As := []) (rest := [.int r9]) ⟨hx, hb, hml, hown, hts⟩ (mX11_untry l dC dI cI cZ bd M H.size e2) (cwV 0 hts gL_law_X11_untry rfl rfl rfl (by decide +kernel) ⟨(Nat.le_of_ble_eq_true rfl), (Nat.le_of_ble_eq_true rfl)⟩) ⟨QMs_blind, va_recv hKM hPM (ci := 11) (q0 := 0) rfl rfl, fun U hU hW => ⟨rfl, congrArg Array.size hU, QM_at hPM hKM hDM hU hW⟩⟩ rfl rfl hl.1 rfl (lv_room (Nat.le_of_ble_eq_true rfl)) dL_law_1091 ⟨(Nat.le_of_ble_eq_true rfl), (Nat.le_of_ble_eq_true rfl)⟩) hS (fun q _ h => hFr q h) hFr (fun r10 u t H1 locs ht hvm hw hB hz1 hk1 hS => ?_)
  obtain ⟨er9, eu9⟩ := Prod.mk.inj hw
  subst er9
  have eu9 := eu9.symm
  subst eu9
  have hP1 : va_P (dC, dI) vwCl (wM cI cZ bd M1) H1 := by rw [← ht]; exact hB
  have hP := joinM hP hD hk1 hP1
  have hD := XM_D hD S1 L1 M1
  generalize H1 = H at hP hS ⊢
  refine lv_icmp_eq (tgt := 1245) hx hb dL_law_1094 (by decide) (fun _ => ?_) (fun c9 => absurd rfl c9)
  exact kk S1 L1 M1 _ _ _ hP hS R1 hl
set_option maxHeartbeats 4000000 in
set_option maxRecDepth 100000 in
theorem lcase_23 {p : Program} {l : Launch} {e : Env} {s : State} {m : MethodId} {below : List Frame} {meth : Method} {c : Code} {b Ln : Nat} {xs : Nat → Int32} (C : LC p s m c b Ln xs) (hL : Ln ≤ 3072) {dC : Nat → ClassId} {dI : Nat → Nat → Nat} {cI cJ cZ : ClassId} {ad bd : Nat → Nat} (hK : va_K (dC, dI) vwCl [(cI, .int), (cJ, .long), (cZ, .boolean)] s) {Q : State → Prop} {i : Nat} (hi : i + 6 ≤ Ln) {S M : Nat → Nat → Int32} {L : Nat → Nat → Int64} {H : Heap} {locs : List Loc} (hP : va_P (dC, dI) vwCl (wX cI cJ ad S L ++ wM cI cZ bd M) H) (hD : va_D (fun q : Nat => s.heap.size ≤ q) (wX cI cJ ad S L ++ wM cI cZ bd M)) (hS : va_S (fun q : Nat => s.heap.size ≤ q) s.heap H locs) (R : Rel S L M) {ls : Array Slot} (hl : lv_has ls 4 [(0, .ref b), (1, .ref (ad 0)), (2, .ref (bd 0)), (3, .int (nI i))]) (kk : ∀ (S9 : Nat → Nat → Int32) (L9 : Nat → Nat → Int64) (M9 : Nat → Nat → Int32) (H9 : Heap) (locs9 : List Loc) (ls9 : Array Slot), va_P (dC, dI) vwCl (wX cI cJ ad S9 L9 ++ wM cI cZ bd M9) H9 → va_S (fun q : Nat => s.heap.size ≤ q) s.heap H9 locs9 → Rel S9 L9 M9 → lv_has ls9 4 [(0, .ref b), (1, .ref (ad 0)), (2, .ref (bd 0)), (3, .int (nI i))] → W p l e room_1 s m #[Value.ref b] below meth c H9 locs9 50 2278 Q (F0 m 1245 ls9 [])) : W p l e room_1 s m #[Value.ref b] below meth c H locs 50 2278 Q (F0 m 1099 ls []) := by
  obtain ⟨hx, hb, hml, hown, hts, hX, hbl⟩ := C
  have hA : ∀ q : Nat, s.heap.size ≤ q → (fun q : Nat => s.heap.size ≤ q) q := fun _ h => h
  have hbA : ¬ (fun q : Nat => s.heap.size ≤ q) b := Nat.not_le.mpr hbl
  have hKX := hK.sub (tys' := [(cI, .int), (cJ, .long)]) [0, 1] rfl
  have hKM := hK.sub (tys' := [(cI, .int), (cZ, .boolean)]) [0, 2] rfl
  obtain ⟨r, S1, L1, M1, e1, e2, R1⟩ := op_kindOf R (xs (nI (i + 1)).toNatClampNeg) (xs (nI (i + 2)).toNatClampNeg)
  refine lv_aload_n hx hb dL_law_1099 rfl (lv_at hl 1 rfl) ?_
  refine lv_aload_n hx hb dL_law_1100 rfl (lv_at hl 0 rfl) ?_
  refine lv_iload_n hx hb dL_law_1101 rfl (lv_at hl 3 rfl) ?_
  refine lv_iconst (v := 1) hx hb dL_law_1102 (by decide) ?_
  refine lv_iadd hx hb dL_law_1103 ?_
  refine nm_i (x := nI (i + 1)) (by show nI (i + 1) = nI i + nI 1; rw [nI_add]) ?_
  refine va_sld hx hb hX hbl hbA hS (vp_in_nI (n := i + 1) (by omega) (by omega)) dL_law_1104 ?_
  refine lv_aload_n hx hb dL_law_1105 rfl (lv_at hl 0 rfl) ?_
  refine lv_iload_n hx hb dL_law_1106 rfl (lv_at hl 3 rfl) ?_
  refine lv_iconst (v := 2) hx hb dL_law_1107 (by decide) ?_
  refine lv_iadd hx hb dL_law_1108 ?_
  refine nm_i (x := nI (i + 2)) (by show nI (i + 2) = nI i + nI 2; rw [nI_add]) ?_
  refine va_sld hx hb hX hbl hbA hS (vp_in_nI (n := i + 2) (by omega) (by omega)) dL_law_1109 ?_
  have hPX := P_l hP
  have hDX := D_l hD
  have hFr := freeX hD hS hA
  refine va_calli (va_runV (As := [.int (xs (nI (i + 1)).toNatClampNeg), .int (xs (nI (i + 2)).toNatClampNeg)]) (rest := []) ⟨hx, hb, hml, hown, hts⟩ (mX10_kindOf l dC dI cI cJ ad (xs (nI (i + 1)).toNatClampNeg) (xs (nI (i + 2)).toNatClampNeg) S L H.size e1) (cwV 2 hts gL_law_X10_kindOf rfl rfl rfl (by decide +kernel) ⟨(Nat.le_of_ble_eq_true rfl), (Nat.le_of_ble_eq_true rfl)⟩) ⟨QXs_blind, va_recv hKX hPX (ci := 10) (q0 := 0) rfl rfl, fun U hU hW => ⟨rfl, congrArg Array.size hU, QX_at hPX hKX hDX hU hW⟩⟩ rfl rfl hl.1 rfl (lv_room (Nat.le_of_ble_eq_true rfl)) dL_law_1110 ⟨(Nat.le_of_ble_eq_true rfl), (Nat.le_of_ble_eq_true rfl)⟩) hS (fun q _ h => hFr q h) hFr (fun r9 u t H1 locs ht hvm hw hB hz1 hk1 hS => ?_)
  obtain ⟨er9, eu9⟩ := Prod.mk.inj hw
  subst er9
  have eu9 := eu9.symm
  subst eu9
  have hP1 : va_P (dC, dI) vwCl (wX cI cJ ad S1 L1) H1 := by rw [← ht]; exact hB
  have hP := joinX hP hD hk1 hP1
  have hD := XM_D hD S1 L1 M
  generalize H1 = H at hP hS ⊢
  refine lv_aload_n hx hb dL_law_1113 rfl (lv_at hl 2 rfl) ?_
  refine lv_aload_n hx hb dL_law_1114 rfl (lv_at hl 0 rfl) ?_
  refine lv_iload_n hx hb dL_law_1115 rfl (lv_at hl 3 rfl) ?_
  refine lv_iconst (v := 1) hx hb dL_law_1116 (by decide) ?_
  refine lv_iadd hx hb dL_law_1117 ?_
  refine nm_i (x := nI (i + 1)) (by show nI (i + 1) = nI i + nI 1; rw [nI_add]) ?_
  refine va_sld hx hb hX hbl hbA hS (vp_in_nI (n := i + 1) (by omega) (by omega)) dL_law_1118 ?_
  refine lv_aload_n hx hb dL_law_1119 rfl (lv_at hl 0 rfl) ?_
  refine lv_iload_n hx hb dL_law_1120 rfl (lv_at hl 3 rfl) ?_
  refine lv_iconst (v := 2) hx hb dL_law_1121 (by decide) ?_
  refine lv_iadd hx hb dL_law_1122 ?_
  refine nm_i (x := nI (i + 2)) (by show nI (i + 2) = nI i + nI 2; rw [nI_add]) ?_
  refine va_sld hx hb hX hbl hbA hS (vp_in_nI (n := i + 2) (by omega) (by omega)) dL_law_1123 ?_
  have hPM := P_r hP
  have hDM := D_r hD
  have hFr := freeM hD hS hA
  refine va_calli (va_runV (As := [.int (xs (nI (i + 1)).toNatClampNeg), .int (xs (nI (i + 2)).toNatClampNeg)]) (rest := [.int r9]) ⟨hx, hb, hml, hown, hts⟩ (mX11_kindOf l dC dI cI cZ bd (xs (nI (i + 1)).toNatClampNeg) (xs (nI (i + 2)).toNatClampNeg) M H.size e2) (cwV 2 hts gL_law_X11_kindOf rfl rfl rfl (by decide +kernel) ⟨(Nat.le_of_ble_eq_true rfl), (Nat.le_of_ble_eq_true rfl)⟩) ⟨QMs_blind, va_recv hKM hPM (ci := 11) (q0 := 0) rfl rfl, fun U hU hW => ⟨rfl, congrArg Array.size hU, QM_at hPM hKM hDM hU hW⟩⟩ rfl rfl hl.1 rfl (lv_room (Nat.le_of_ble_eq_true rfl)) dL_law_1124 ⟨(Nat.le_of_ble_eq_true rfl), (Nat.le_of_ble_eq_true rfl)⟩) hS (fun q _ h => hFr q h) hFr (fun r10 u t H1 locs ht hvm hw hB hz1 hk1 hS => ?_)
  obtain ⟨er9, eu9⟩ := Prod.mk.inj hw
  subst er9
  have eu9 := eu9.symm
  subst eu9
  have hP1 : va_P (dC, dI) vwCl (wM cI cZ bd M1) H1 := by rw [← ht]; exact hB
  have hP := joinM hP hD hk1 hP1
  have hD := XM_D hD S1 L1 M1
  generalize H1 = H at hP hS ⊢
  refine lv_icmp_eq (tgt := 1245) hx hb dL_law_1127 (by decide) (fun _ => ?_) (fun c9 => absurd rfl c9)
  exact kk S1 L1 M1 _ _ _ hP hS R1 hl
set_option maxHeartbeats 4000000 in
set_option maxRecDepth 100000 in
theorem lcase_24 {p : Program} {l : Launch} {e : Env} {s : State} {m : MethodId} {below : List Frame} {meth : Method} {c : Code} {b Ln : Nat} {xs : Nat → Int32} (C : LC p s m c b Ln xs) (hL : Ln ≤ 3072) {dC : Nat → ClassId} {dI : Nat → Nat → Nat} {cI cJ cZ : ClassId} {ad bd : Nat → Nat} (hK : va_K (dC, dI) vwCl [(cI, .int), (cJ, .long), (cZ, .boolean)] s) {Q : State → Prop} {i : Nat} (hi : i + 6 ≤ Ln) {S M : Nat → Nat → Int32} {L : Nat → Nat → Int64} {H : Heap} {locs : List Loc} (hP : va_P (dC, dI) vwCl (wX cI cJ ad S L ++ wM cI cZ bd M) H) (hD : va_D (fun q : Nat => s.heap.size ≤ q) (wX cI cJ ad S L ++ wM cI cZ bd M)) (hS : va_S (fun q : Nat => s.heap.size ≤ q) s.heap H locs) (R : Rel S L M) {ls : Array Slot} (hl : lv_has ls 4 [(0, .ref b), (1, .ref (ad 0)), (2, .ref (bd 0)), (3, .int (nI i))]) (kk : ∀ (S9 : Nat → Nat → Int32) (L9 : Nat → Nat → Int64) (M9 : Nat → Nat → Int32) (H9 : Heap) (locs9 : List Loc) (ls9 : Array Slot), va_P (dC, dI) vwCl (wX cI cJ ad S9 L9 ++ wM cI cZ bd M9) H9 → va_S (fun q : Nat => s.heap.size ≤ q) s.heap H9 locs9 → Rel S9 L9 M9 → lv_has ls9 4 [(0, .ref b), (1, .ref (ad 0)), (2, .ref (bd 0)), (3, .int (nI i))] → W p l e room_1 s m #[Value.ref b] below meth c H9 locs9 50 2278 Q (F0 m 1245 ls9 [])) : W p l e room_1 s m #[Value.ref b] below meth c H locs 50 2278 Q (F0 m 1132 ls []) := by
  obtain ⟨hx, hb, hml, hown, hts, hX, hbl⟩ := C
  have hA : ∀ q : Nat, s.heap.size ≤ q → (fun q : Nat => s.heap.size ≤ q) q := fun _ h => h
  have hbA : ¬ (fun q : Nat => s.heap.size ≤ q) b := Nat.not_le.mpr hbl
  have hKX := hK.sub (tys' := [(cI, .int), (cJ, .long)]) [0, 1] rfl
  have hKM := hK.sub (tys' := [(cI, .int), (cZ, .boolean)]) [0, 2] rfl
  obtain ⟨r, S1, L1, M1, e1, e2, R1⟩ := op_fewest R
  refine lv_aload_n hx hb dL_law_1132 rfl (lv_at hl 1 rfl) ?_
  have hPX := P_l hP
  have hDX := D_l hD
  have hFr := freeX hD hS hA
  refine va_calli (va_runV (As := []) (rest := []) ⟨hx, hb, hml, hown, hts⟩ (mX10_fewest l dC dI cI cJ ad S L H.size e1) (cwV 0 hts gL_law_X10_fewest rfl rfl rfl (by decide +kernel) ⟨(Nat.le_of_ble_eq_true rfl), (Nat.le_of_ble_eq_true rfl)⟩) ⟨QXs_blind, va_recv hKX hPX (ci := 10) (q0 := 0) rfl rfl, fun U hU hW => ⟨rfl, congrArg Array.size hU, QX_at hPX hKX hDX hU hW⟩⟩ rfl rfl hl.1 rfl (lv_room (Nat.le_of_ble_eq_true rfl)) dL_law_1133 ⟨(Nat.le_of_ble_eq_true rfl), (Nat.le_of_ble_eq_true rfl)⟩) hS (fun q _ h => hFr q h) hFr (fun r9 u t H1 locs ht hvm hw hB hz1 hk1 hS => ?_)
  obtain ⟨er9, eu9⟩ := Prod.mk.inj hw
  subst er9
  have eu9 := eu9.symm
  subst eu9
  have hP1 : va_P (dC, dI) vwCl (wX cI cJ ad S1 L1) H1 := by rw [← ht]; exact hB
  have hP := joinX hP hD hk1 hP1
  have hD := XM_D hD S1 L1 M
  generalize H1 = H at hP hS ⊢
  refine lv_aload_n hx hb dL_law_1136 rfl (lv_at hl 2 rfl) ?_
  have hPM := P_r hP
  have hDM := D_r hD
  have hFr := freeM hD hS hA
  refine va_calli (va_runV (As := []) (rest := [.int r9]) ⟨hx, hb, hml, hown, hts⟩ (mX11_fewest l dC dI cI cZ bd M H.size e2) (cwV 0 hts gL_law_X11_fewest rfl rfl rfl (by decide +kernel) ⟨(Nat.le_of_ble_eq_true rfl), (Nat.le_of_ble_eq_true rfl)⟩) ⟨QMs_blind, va_recv hKM hPM (ci := 11) (q0 := 0) rfl rfl, fun U hU hW => ⟨rfl, congrArg Array.size hU, QM_at hPM hKM hDM hU hW⟩⟩ rfl rfl hl.1 rfl (lv_room (Nat.le_of_ble_eq_true rfl)) dL_law_1137 ⟨(Nat.le_of_ble_eq_true rfl), (Nat.le_of_ble_eq_true rfl)⟩) hS (fun q _ h => hFr q h) hFr (fun r10 u t H1 locs ht hvm hw hB hz1 hk1 hS => ?_)
  obtain ⟨er9, eu9⟩ := Prod.mk.inj hw
  subst er9
  have eu9 := eu9.symm
  subst eu9
  have hP1 : va_P (dC, dI) vwCl (wM cI cZ bd M1) H1 := by rw [← ht]; exact hB
  have hP := joinM hP hD hk1 hP1
  have hD := XM_D hD S1 L1 M1
  generalize H1 = H at hP hS ⊢
  refine lv_icmp_eq (tgt := 1245) hx hb dL_law_1140 (by decide) (fun _ => ?_) (fun c9 => absurd rfl c9)
  exact kk S1 L1 M1 _ _ _ hP hS R1 hl
set_option maxHeartbeats 4000000 in
set_option maxRecDepth 100000 in
theorem lcase_25 {p : Program} {l : Launch} {e : Env} {s : State} {m : MethodId} {below : List Frame} {meth : Method} {c : Code} {b Ln : Nat} {xs : Nat → Int32} (C : LC p s m c b Ln xs) (hL : Ln ≤ 3072) {dC : Nat → ClassId} {dI : Nat → Nat → Nat} {cI cJ cZ : ClassId} {ad bd : Nat → Nat} (hK : va_K (dC, dI) vwCl [(cI, .int), (cJ, .long), (cZ, .boolean)] s) {Q : State → Prop} {i : Nat} (hi : i + 6 ≤ Ln) {S M : Nat → Nat → Int32} {L : Nat → Nat → Int64} {H : Heap} {locs : List Loc} (hP : va_P (dC, dI) vwCl (wX cI cJ ad S L ++ wM cI cZ bd M) H) (hD : va_D (fun q : Nat => s.heap.size ≤ q) (wX cI cJ ad S L ++ wM cI cZ bd M)) (hS : va_S (fun q : Nat => s.heap.size ≤ q) s.heap H locs) (R : Rel S L M) {ls : Array Slot} (hl : lv_has ls 4 [(0, .ref b), (1, .ref (ad 0)), (2, .ref (bd 0)), (3, .int (nI i))]) (kk : ∀ (S9 : Nat → Nat → Int32) (L9 : Nat → Nat → Int64) (M9 : Nat → Nat → Int32) (H9 : Heap) (locs9 : List Loc) (ls9 : Array Slot), va_P (dC, dI) vwCl (wX cI cJ ad S9 L9 ++ wM cI cZ bd M9) H9 → va_S (fun q : Nat => s.heap.size ≤ q) s.heap H9 locs9 → Rel S9 L9 M9 → lv_has ls9 4 [(0, .ref b), (1, .ref (ad 0)), (2, .ref (bd 0)), (3, .int (nI i))] → W p l e room_1 s m #[Value.ref b] below meth c H9 locs9 50 2278 Q (F0 m 1245 ls9 [])) : W p l e room_1 s m #[Value.ref b] below meth c H locs 50 2278 Q (F0 m 1145 ls []) := by
  obtain ⟨hx, hb, hml, hown, hts, hX, hbl⟩ := C
  have hA : ∀ q : Nat, s.heap.size ≤ q → (fun q : Nat => s.heap.size ≤ q) q := fun _ h => h
  have hbA : ¬ (fun q : Nat => s.heap.size ≤ q) b := Nat.not_le.mpr hbl
  have hKX := hK.sub (tys' := [(cI, .int), (cJ, .long)]) [0, 1] rfl
  have hKM := hK.sub (tys' := [(cI, .int), (cZ, .boolean)]) [0, 2] rfl
  obtain ⟨r, S1, L1, M1, e1, e2, R1⟩ := op_ask R (xs (nI (i + 1)).toNatClampNeg) (xs (nI (i + 2)).toNatClampNeg) (xs (nI (i + 3)).toNatClampNeg) (xs (nI (i + 4)).toNatClampNeg) (xs (nI (i + 5)).toNatClampNeg)
  refine lv_aload_n hx hb dL_law_1145 rfl (lv_at hl 1 rfl) ?_
  refine lv_aload_n hx hb dL_law_1146 rfl (lv_at hl 0 rfl) ?_
  refine lv_iload_n hx hb dL_law_1147 rfl (lv_at hl 3 rfl) ?_
  refine lv_iconst (v := 1) hx hb dL_law_1148 (by decide) ?_
  refine lv_iadd hx hb dL_law_1149 ?_
  refine nm_i (x := nI (i + 1)) (by show nI (i + 1) = nI i + nI 1; rw [nI_add]) ?_
  refine va_sld hx hb hX hbl hbA hS (vp_in_nI (n := i + 1) (by omega) (by omega)) dL_law_1150 ?_
  refine lv_aload_n hx hb dL_law_1151 rfl (lv_at hl 0 rfl) ?_
  refine lv_iload_n hx hb dL_law_1152 rfl (lv_at hl 3 rfl) ?_
  refine lv_iconst (v := 2) hx hb dL_law_1153 (by decide) ?_
  refine lv_iadd hx hb dL_law_1154 ?_
  refine nm_i (x := nI (i + 2)) (by show nI (i + 2) = nI i + nI 2; rw [nI_add]) ?_
  refine va_sld hx hb hX hbl hbA hS (vp_in_nI (n := i + 2) (by omega) (by omega)) dL_law_1155 ?_
  refine lv_aload_n hx hb dL_law_1156 rfl (lv_at hl 0 rfl) ?_
  refine lv_iload_n hx hb dL_law_1157 rfl (lv_at hl 3 rfl) ?_
  refine lv_iconst (v := 3) hx hb dL_law_1158 (by decide) ?_
  refine lv_iadd hx hb dL_law_1159 ?_
  refine nm_i (x := nI (i + 3)) (by show nI (i + 3) = nI i + nI 3; rw [nI_add]) ?_
  refine va_sld hx hb hX hbl hbA hS (vp_in_nI (n := i + 3) (by omega) (by omega)) dL_law_1160 ?_
  refine lv_aload_n hx hb dL_law_1161 rfl (lv_at hl 0 rfl) ?_
  refine lv_iload_n hx hb dL_law_1162 rfl (lv_at hl 3 rfl) ?_
  refine lv_iconst (v := 4) hx hb dL_law_1163 (by decide) ?_
  refine lv_iadd hx hb dL_law_1164 ?_
  refine nm_i (x := nI (i + 4)) (by show nI (i + 4) = nI i + nI 4; rw [nI_add]) ?_
  refine va_sld hx hb hX hbl hbA hS (vp_in_nI (n := i + 4) (by omega) (by omega)) dL_law_1165 ?_
  refine lv_aload_n hx hb dL_law_1166 rfl (lv_at hl 0 rfl) ?_
  refine lv_iload_n hx hb dL_law_1167 rfl (lv_at hl 3 rfl) ?_
  refine lv_iconst (v := 5) hx hb dL_law_1168 (by decide) ?_
  refine lv_iadd hx hb dL_law_1169 ?_
  refine nm_i (x := nI (i + 5)) (by show nI (i + 5) = nI i + nI 5; rw [nI_add]) ?_
  refine va_sld hx hb hX hbl hbA hS (vp_in_nI (n := i + 5) (by omega) (by omega)) dL_law_1170 ?_
  have hPX := P_l hP
  have hDX := D_l hD
  have hFr := freeX hD hS hA
  refine va_calli (va_runV (As := [.int (xs (nI (i + 1)).toNatClampNeg), .int (xs (nI (i + 2)).toNatClampNeg), .int (xs (nI (i + 3)).toNatClampNeg), .int (xs (nI (i + 4)).toNatClampNeg), .int (xs (nI (i + 5)).toNatClampNeg)]) (rest := []) ⟨hx, hb, hml, hown, hts⟩ (mX10_ask l dC dI cI cJ ad (xs (nI (i + 1)).toNatClampNeg) (xs (nI (i + 2)).toNatClampNeg) (xs (nI (i + 3)).toNatClampNeg) (xs (nI (i + 4)).toNatClampNeg) (xs (nI (i + 5)).toNatClampNeg) S L H.size e1) (cwV 5 hts gL_law_X10_ask rfl rfl rfl (by decide +kernel) ⟨(Nat.le_of_ble_eq_true rfl), (Nat.le_of_ble_eq_true rfl)⟩) ⟨QXs_blind, va_recv hKX hPX (ci := 10) (q0 := 0) rfl rfl, fun U hU hW => ⟨rfl, congrArg Array.size hU, QX_at hPX hKX hDX hU hW⟩⟩ rfl rfl hl.1 rfl (lv_room (Nat.le_of_ble_eq_true rfl)) dL_law_1171 ⟨(Nat.le_of_ble_eq_true rfl), (Nat.le_of_ble_eq_true rfl)⟩) hS (fun q _ h => hFr q h) hFr (fun r9 u t H1 locs ht hvm hw hB hz1 hk1 hS => ?_)
  obtain ⟨er9, eu9⟩ := Prod.mk.inj hw
  subst er9
  have eu9 := eu9.symm
  subst eu9
  have hP1 : va_P (dC, dI) vwCl (wX cI cJ ad S1 L1) H1 := by rw [← ht]; exact hB
  have hP := joinX hP hD hk1 hP1
  have hD := XM_D hD S1 L1 M
  generalize H1 = H at hP hS ⊢
  refine lv_aload_n hx hb dL_law_1174 rfl (lv_at hl 2 rfl) ?_
  refine lv_aload_n hx hb dL_law_1175 rfl (lv_at hl 0 rfl) ?_
  refine lv_iload_n hx hb dL_law_1176 rfl (lv_at hl 3 rfl) ?_
  refine lv_iconst (v := 1) hx hb dL_law_1177 (by decide) ?_
  refine lv_iadd hx hb dL_law_1178 ?_
  refine nm_i (x := nI (i + 1)) (by show nI (i + 1) = nI i + nI 1; rw [nI_add]) ?_
  refine va_sld hx hb hX hbl hbA hS (vp_in_nI (n := i + 1) (by omega) (by omega)) dL_law_1179 ?_
  refine lv_aload_n hx hb dL_law_1180 rfl (lv_at hl 0 rfl) ?_
  refine lv_iload_n hx hb dL_law_1181 rfl (lv_at hl 3 rfl) ?_
  refine lv_iconst (v := 2) hx hb dL_law_1182 (by decide) ?_
  refine lv_iadd hx hb dL_law_1183 ?_
  refine nm_i (x := nI (i + 2)) (by show nI (i + 2) = nI i + nI 2; rw [nI_add]) ?_
  refine va_sld hx hb hX hbl hbA hS (vp_in_nI (n := i + 2) (by omega) (by omega)) dL_law_1184 ?_
  refine lv_aload_n hx hb dL_law_1185 rfl (lv_at hl 0 rfl) ?_
  refine lv_iload_n hx hb dL_law_1186 rfl (lv_at hl 3 rfl) ?_
  refine lv_iconst (v := 3) hx hb dL_law_1187 (by decide) ?_
  refine lv_iadd hx hb dL_law_1188 ?_
  refine nm_i (x := nI (i + 3)) (by show nI (i + 3) = nI i + nI 3; rw [nI_add]) ?_
  refine va_sld hx hb hX hbl hbA hS (vp_in_nI (n := i + 3) (by omega) (by omega)) dL_law_1189 ?_
  refine lv_aload_n hx hb dL_law_1190 rfl (lv_at hl 0 rfl) ?_
  refine lv_iload_n hx hb dL_law_1191 rfl (lv_at hl 3 rfl) ?_
  refine lv_iconst (v := 4) hx hb dL_law_1192 (by decide) ?_
  refine lv_iadd hx hb dL_law_1193 ?_
  refine nm_i (x := nI (i + 4)) (by show nI (i + 4) = nI i + nI 4; rw [nI_add]) ?_
  refine va_sld hx hb hX hbl hbA hS (vp_in_nI (n := i + 4) (by omega) (by omega)) dL_law_1194 ?_
  refine lv_aload_n hx hb dL_law_1195 rfl (lv_at hl 0 rfl) ?_
  refine lv_iload_n hx hb dL_law_1196 rfl (lv_at hl 3 rfl) ?_
  refine lv_iconst (v := 5) hx hb dL_law_1197 (by decide) ?_
  refine lv_iadd hx hb dL_law_1198 ?_
  refine nm_i (x := nI (i + 5)) (by show nI (i + 5) = nI i + nI 5; rw [nI_add]) ?_
  refine va_sld hx hb hX hbl hbA hS (vp_in_nI (n := i + 5) (by omega) (by omega)) dL_law_1199 ?_
  have hPM := P_r hP
  have hDM := D_r hD
  have hFr := freeM hD hS hA
  refine va_calli (va_runV (As := [.int (xs (nI (i + 1)).toNatClampNeg), .int (xs (nI (i + 2)).toNatClampNeg), .int (xs (nI (i + 3)).toNatClampNeg), .int (xs (nI (i + 4)).toNatClampNeg), .int (xs (nI (i + 5)).toNatClampNeg)]) (rest := [.int r9]) ⟨hx, hb, hml, hown, hts⟩ (mX11_ask l dC dI cI cZ bd (xs (nI (i + 1)).toNatClampNeg) (xs (nI (i + 2)).toNatClampNeg) (xs (nI (i + 3)).toNatClampNeg) (xs (nI (i + 4)).toNatClampNeg) (xs (nI (i + 5)).toNatClampNeg) M H.size e2) (cwV 5 hts gL_law_X11_ask rfl rfl rfl (by decide +kernel) ⟨(Nat.le_of_ble_eq_true rfl), (Nat.le_of_ble_eq_true rfl)⟩) ⟨QMs_blind, va_recv hKM hPM (ci := 11) (q0 := 0) rfl rfl, fun U hU hW => ⟨rfl, congrArg Array.size hU, QM_at hPM hKM hDM hU hW⟩⟩ rfl rfl hl.1 rfl (lv_room (Nat.le_of_ble_eq_true rfl)) dL_law_1200 ⟨(Nat.le_of_ble_eq_true rfl), (Nat.le_of_ble_eq_true rfl)⟩) hS (fun q _ h => hFr q h) hFr (fun r10 u t H1 locs ht hvm hw hB hz1 hk1 hS => ?_)
  obtain ⟨er9, eu9⟩ := Prod.mk.inj hw
  subst er9
  have eu9 := eu9.symm
  subst eu9
  have hP1 : va_P (dC, dI) vwCl (wM cI cZ bd M1) H1 := by rw [← ht]; exact hB
  have hP := joinM hP hD hk1 hP1
  have hD := XM_D hD S1 L1 M1
  generalize H1 = H at hP hS ⊢
  refine lv_icmp_eq (tgt := 1245) hx hb dL_law_1203 (by decide) (fun _ => ?_) (fun c9 => absurd rfl c9)
  exact kk S1 L1 M1 _ _ _ hP hS R1 hl
set_option maxHeartbeats 4000000 in
set_option maxRecDepth 100000 in
theorem lcase_26 {p : Program} {l : Launch} {e : Env} {s : State} {m : MethodId} {below : List Frame} {meth : Method} {c : Code} {b Ln : Nat} {xs : Nat → Int32} (C : LC p s m c b Ln xs) (hL : Ln ≤ 3072) {dC : Nat → ClassId} {dI : Nat → Nat → Nat} {cI cJ cZ : ClassId} {ad bd : Nat → Nat} (hK : va_K (dC, dI) vwCl [(cI, .int), (cJ, .long), (cZ, .boolean)] s) {Q : State → Prop} {i : Nat} (hi : i + 6 ≤ Ln) {S M : Nat → Nat → Int32} {L : Nat → Nat → Int64} {H : Heap} {locs : List Loc} (hP : va_P (dC, dI) vwCl (wX cI cJ ad S L ++ wM cI cZ bd M) H) (hD : va_D (fun q : Nat => s.heap.size ≤ q) (wX cI cJ ad S L ++ wM cI cZ bd M)) (hS : va_S (fun q : Nat => s.heap.size ≤ q) s.heap H locs) (R : Rel S L M) {ls : Array Slot} (hl : lv_has ls 4 [(0, .ref b), (1, .ref (ad 0)), (2, .ref (bd 0)), (3, .int (nI i))]) (kk : ∀ (S9 : Nat → Nat → Int32) (L9 : Nat → Nat → Int64) (M9 : Nat → Nat → Int32) (H9 : Heap) (locs9 : List Loc) (ls9 : Array Slot), va_P (dC, dI) vwCl (wX cI cJ ad S9 L9 ++ wM cI cZ bd M9) H9 → va_S (fun q : Nat => s.heap.size ≤ q) s.heap H9 locs9 → Rel S9 L9 M9 → lv_has ls9 4 [(0, .ref b), (1, .ref (ad 0)), (2, .ref (bd 0)), (3, .int (nI i))] → W p l e room_1 s m #[Value.ref b] below meth c H9 locs9 50 2278 Q (F0 m 1245 ls9 [])) : W p l e room_1 s m #[Value.ref b] below meth c H locs 50 2278 Q (F0 m 1208 ls []) := by
  obtain ⟨hx, hb, hml, hown, hts, hX, hbl⟩ := C
  have hA : ∀ q : Nat, s.heap.size ≤ q → (fun q : Nat => s.heap.size ≤ q) q := fun _ h => h
  have hbA : ¬ (fun q : Nat => s.heap.size ≤ q) b := Nat.not_le.mpr hbl
  have hKX := hK.sub (tys' := [(cI, .int), (cJ, .long)]) [0, 1] rfl
  have hKM := hK.sub (tys' := [(cI, .int), (cZ, .boolean)]) [0, 2] rfl
  obtain ⟨r, e1, e2⟩ := op_count R (xs (nI (i + 1)).toNatClampNeg)
  refine lv_aload_n hx hb dL_law_1208 rfl (lv_at hl 1 rfl) ?_
  refine lv_aload_n hx hb dL_law_1209 rfl (lv_at hl 0 rfl) ?_
  refine lv_iload_n hx hb dL_law_1210 rfl (lv_at hl 3 rfl) ?_
  refine lv_iconst (v := 1) hx hb dL_law_1211 (by decide) ?_
  refine lv_iadd hx hb dL_law_1212 ?_
  refine nm_i (x := nI (i + 1)) (by show nI (i + 1) = nI i + nI 1; rw [nI_add]) ?_
  refine va_sld hx hb hX hbl hbA hS (vp_in_nI (n := i + 1) (by omega) (by omega)) dL_law_1213 ?_
  have hPX := P_l hP
  have hDX := D_l hD
  refine vp_callSi (W.runV (As := [.int (xs (nI (i + 1)).toNatClampNeg)]) (rest := []) ⟨hx, hb, hml, hown, hts⟩ (mX10_count l dC dI cI cJ ad (xs (nI (i + 1)).toNatClampNeg) S L e1) (cwV 1 hts gL_law_X10_count rfl rfl rfl (by decide +kernel) ⟨(Nat.le_of_ble_eq_true rfl), (Nat.le_of_ble_eq_true rfl)⟩) ⟨QX_blind, va_recv hKX hPX (ci := 10) (q0 := 0) rfl rfl, fun U hU hW => ⟨rfl, QX_at hPX hKX hDX hU hW⟩⟩ rfl rfl hl.1 rfl (lv_room (Nat.le_of_ble_eq_true rfl)) dL_law_1214 ⟨(Nat.le_of_ble_eq_true rfl), (Nat.le_of_ble_eq_true rfl)⟩) (fun r9 er9 => ?_)
  subst er9
  refine lv_aload_n hx hb dL_law_1217 rfl (lv_at hl 2 rfl) ?_
  refine lv_aload_n hx hb dL_law_1218 rfl (lv_at hl 0 rfl) ?_
  refine lv_iload_n hx hb dL_law_1219 rfl (lv_at hl 3 rfl) ?_
  refine lv_iconst (v := 1) hx hb dL_law_1220 (by decide) ?_
  refine lv_iadd hx hb dL_law_1221 ?_
  refine nm_i (x := nI (i + 1)) (by show nI (i + 1) = nI i + nI 1; rw [nI_add]) ?_
  refine va_sld hx hb hX hbl hbA hS (vp_in_nI (n := i + 1) (by omega) (by omega)) dL_law_1222 ?_
  have hPM := P_r hP
  have hDM := D_r hD
  refine vp_callSi (W.runV (As := [.int (xs (nI (i + 1)).toNatClampNeg)]) (rest := [.int r9]) ⟨hx, hb, hml, hown, hts⟩ (mX11_count l dC dI cI cZ bd (xs (nI (i + 1)).toNatClampNeg) M e2) (cwV 1 hts gL_law_X11_count rfl rfl rfl (by decide +kernel) ⟨(Nat.le_of_ble_eq_true rfl), (Nat.le_of_ble_eq_true rfl)⟩) ⟨QM_blind, va_recv hKM hPM (ci := 11) (q0 := 0) rfl rfl, fun U hU hW => ⟨rfl, QM_at hPM hKM hDM hU hW⟩⟩ rfl rfl hl.1 rfl (lv_room (Nat.le_of_ble_eq_true rfl)) dL_law_1223 ⟨(Nat.le_of_ble_eq_true rfl), (Nat.le_of_ble_eq_true rfl)⟩) (fun r10 er9 => ?_)
  subst er9
  refine lv_icmp_eq (tgt := 1245) hx hb dL_law_1226 (by decide) (fun _ => ?_) (fun c9 => absurd rfl c9)
  exact kk S L M _ _ _ hP hS R hl
set_option maxHeartbeats 4000000 in
set_option maxRecDepth 100000 in
theorem lcase_27 {p : Program} {l : Launch} {e : Env} {s : State} {m : MethodId} {below : List Frame} {meth : Method} {c : Code} {b Ln : Nat} {xs : Nat → Int32} (C : LC p s m c b Ln xs) (hL : Ln ≤ 3072) {dC : Nat → ClassId} {dI : Nat → Nat → Nat} {cI cJ cZ : ClassId} {ad bd : Nat → Nat} (hK : va_K (dC, dI) vwCl [(cI, .int), (cJ, .long), (cZ, .boolean)] s) {Q : State → Prop} {i : Nat} (hi : i + 6 ≤ Ln) {S M : Nat → Nat → Int32} {L : Nat → Nat → Int64} {H : Heap} {locs : List Loc} (hP : va_P (dC, dI) vwCl (wX cI cJ ad S L ++ wM cI cZ bd M) H) (hD : va_D (fun q : Nat => s.heap.size ≤ q) (wX cI cJ ad S L ++ wM cI cZ bd M)) (hS : va_S (fun q : Nat => s.heap.size ≤ q) s.heap H locs) (R : Rel S L M) {ls : Array Slot} (hl : lv_has ls 4 [(0, .ref b), (1, .ref (ad 0)), (2, .ref (bd 0)), (3, .int (nI i))]) (kk : ∀ (S9 : Nat → Nat → Int32) (L9 : Nat → Nat → Int64) (M9 : Nat → Nat → Int32) (H9 : Heap) (locs9 : List Loc) (ls9 : Array Slot), va_P (dC, dI) vwCl (wX cI cJ ad S9 L9 ++ wM cI cZ bd M9) H9 → va_S (fun q : Nat => s.heap.size ≤ q) s.heap H9 locs9 → Rel S9 L9 M9 → lv_has ls9 4 [(0, .ref b), (1, .ref (ad 0)), (2, .ref (bd 0)), (3, .int (nI i))] → W p l e room_1 s m #[Value.ref b] below meth c H9 locs9 50 2278 Q (F0 m 1245 ls9 [])) : W p l e room_1 s m #[Value.ref b] below meth c H locs 50 2278 Q (F0 m 1231 ls []) := by
  obtain ⟨hx, hb, hml, hown, hts, hX, hbl⟩ := C
  have hA : ∀ q : Nat, s.heap.size ≤ q → (fun q : Nat => s.heap.size ≤ q) q := fun _ h => h
  have hbA : ¬ (fun q : Nat => s.heap.size ≤ q) b := Nat.not_le.mpr hbl
  have hKX := hK.sub (tys' := [(cI, .int), (cJ, .long)]) [0, 1] rfl
  have hKM := hK.sub (tys' := [(cI, .int), (cZ, .boolean)]) [0, 2] rfl
  obtain ⟨r, S1, L1, M1, e1, e2, R1⟩ := op_digest R
  refine lv_aload_n hx hb dL_law_1231 rfl (lv_at hl 1 rfl) ?_
  have hPX := P_l hP
  have hDX := D_l hD
  have hFr := freeX hD hS hA
  refine va_calll (va_runV (As := []) (rest := []) ⟨hx, hb, hml, hown, hts⟩ (mX10_digest l dC dI cI cJ ad S L H.size e1) (cwV 0 hts gL_law_X10_digest rfl rfl rfl (by decide +kernel) ⟨(Nat.le_of_ble_eq_true rfl), (Nat.le_of_ble_eq_true rfl)⟩) ⟨QXs_blind, va_recv hKX hPX (ci := 10) (q0 := 0) rfl rfl, fun U hU hW => ⟨rfl, congrArg Array.size hU, QX_at hPX hKX hDX hU hW⟩⟩ rfl rfl hl.1 rfl (lv_room (Nat.le_of_ble_eq_true rfl)) dL_law_1232 ⟨(Nat.le_of_ble_eq_true rfl), (Nat.le_of_ble_eq_true rfl)⟩) hS (fun q _ h => hFr q h) hFr (fun r9 u t H1 locs ht hvm hw hB hz1 hk1 hS => ?_)
  obtain ⟨er9, eu9⟩ := Prod.mk.inj hw
  subst er9
  have eu9 := eu9.symm
  subst eu9
  have hP1 : va_P (dC, dI) vwCl (wX cI cJ ad S1 L1) H1 := by rw [← ht]; exact hB
  have hP := joinX hP hD hk1 hP1
  have hD := XM_D hD S1 L1 M
  generalize H1 = H at hP hS ⊢
  refine lv_aload_n hx hb dL_law_1235 rfl (lv_at hl 2 rfl) ?_
  have hPM := P_r hP
  have hDM := D_r hD
  have hFr := freeM hD hS hA
  refine va_calll (va_runV (As := []) (rest := [.long r9]) ⟨hx, hb, hml, hown, hts⟩ (mX11_digest l dC dI cI cZ bd M H.size e2) (cwV 0 hts gL_law_X11_digest rfl rfl rfl (by decide +kernel) ⟨(Nat.le_of_ble_eq_true rfl), (Nat.le_of_ble_eq_true rfl)⟩) ⟨QMs_blind, va_recv hKM hPM (ci := 11) (q0 := 0) rfl rfl, fun U hU hW => ⟨rfl, congrArg Array.size hU, QM_at hPM hKM hDM hU hW⟩⟩ rfl rfl hl.1 rfl (lv_room (Nat.le_of_ble_eq_true rfl)) dL_law_1236 ⟨(Nat.le_of_ble_eq_true rfl), (Nat.le_of_ble_eq_true rfl)⟩) hS (fun q _ h => hFr q h) hFr (fun r10 u t H1 locs ht hvm hw hB hz1 hk1 hS => ?_)
  obtain ⟨er9, eu9⟩ := Prod.mk.inj hw
  subst er9
  have eu9 := eu9.symm
  subst eu9
  have hP1 : va_P (dC, dI) vwCl (wM cI cZ bd M1) H1 := by rw [← ht]; exact hB
  have hP := joinM hP hD hk1 hP1
  have hD := XM_D hD S1 L1 M1
  generalize H1 = H at hP hS ⊢
  refine W.lcmp hx hb dL_law_1239 ?_
  refine lv_if_eq (tgt := 1245) hx hb dL_law_1240 (by decide) (fun _ => ?_) (fun c9 => absurd (lg0.mpr rfl) c9)
  exact kk S1 L1 M1 _ _ _ hP hS R1 hl
