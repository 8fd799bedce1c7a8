set_option maxHeartbeats 4000000 in
set_option maxRecDepth 100000 in
theorem lcase_7 {p : Program} {l : Launch} {e : Env} {s : State} {m : MethodId} {below : List Frame} {meth : Method} {c : Code} {b Ln : Nat} {xs : Nat → Int32} (C : LC p s m c b Ln xs) (hL : Ln ≤ 3072) {dC : Nat → ClassId} {dI : Nat → Nat → Nat} {cI cJ cZ : ClassId} {ad bd : Nat → Nat} (hK : va_K (dC, dI) vwCl [(cI, .int), (cJ, .long), (cZ, .boolean)] s) {Q : State → Prop} {i : Nat} (hi : i + 6 ≤ Ln) {S M : Nat → Nat → Int32} {L : Nat → Nat → Int64} {H : Heap} {locs : List Loc} (hP : va_P (dC, dI) vwCl (wX cI cJ ad S L ++ wM cI cZ bd M) H) (hD : va_D (fun q : Nat => s.heap.size ≤ q) (wX cI cJ ad S L ++ wM cI cZ bd M)) (hS : va_S (fun q : Nat => s.heap.size ≤ q) s.heap H locs) (R : Rel S L M) {ls : Array Slot} (hl : lv_has ls 4 [(0, .ref b), (1, .ref (ad 0)), (2, .ref (bd 0)), (3, .int (nI i))]) (kk : ∀ (S9 : Nat → Nat → Int32) (L9 : Nat → Nat → Int64) (M9 : Nat → Nat → Int32) (H9 : Heap) (locs9 : List Loc) (ls9 : Array Slot), va_P (dC, dI) vwCl (wX cI cJ ad S9 L9 ++ wM cI cZ bd M9) H9 → va_S (fun q : Nat => s.heap.size ≤ q) s.heap H9 locs9 → Rel S9 L9 M9 → lv_has ls9 4 [(0, .ref b), (1, .ref (ad 0)), (2, .ref (bd 0)), (3, .int (nI i))] → W p l e room_1 s m #[Value.ref b] below meth c H9 locs9 50 2278 Q (F0 m 1245 ls9 [])) : W p l e room_1 s m #[Value.ref b] below meth c H locs 50 2278 Q (F0 m 451 ls []) := by
  obtain ⟨hx, hb, hml, hown, hts, hX, hbl⟩ := C
  have hA : ∀ q : Nat, s.heap.size ≤ q → (fun q : Nat => s.heap.size ≤ q) q := fun _ h => h
  have hbA : ¬ (fun q : Nat => s.heap.size ≤ q) b := Nat.not_le.mpr hbl
  have hKX := hK.sub (tys' := [(cI, .int), (cJ, .long)]) [0, 1] rfl
  have hKM := hK.sub (tys' := [(cI, .int), (cZ, .boolean)]) [0, 2] rfl
  obtain ⟨r, S1, L1, M1, e1, e2, R1⟩ := op_way R (xs (nI (i + 1)).toNatClampNeg) (xs (nI (i + 2)).toNatClampNeg)
  refine lv_aload_n hx hb dL_law_451 rfl (lv_at hl 1 rfl) ?_
  refine lv_aload_n hx hb dL_law_452 rfl (lv_at hl 0 rfl) ?_
  refine lv_iload_n hx hb dL_law_453 rfl (lv_at hl 3 rfl) ?_
  refine lv_iconst (v := 1) hx hb dL_law_454 (by decide) ?_
  refine lv_iadd hx hb dL_law_455 ?_
  refine nm_i (x := nI (i + 1)) (by show nI (i + 1) = nI i + nI 1; rw [nI_add]) ?_
  refine va_sld hx hb hX hbl hbA hS (vp_in_nI (n := i + 1) (by omega) (by omega)) dL_law_456 ?_
  refine lv_aload_n hx hb dL_law_457 rfl (lv_at hl 0 rfl) ?_
  refine lv_iload_n hx hb dL_law_458 rfl (lv_at hl 3 rfl) ?_
  refine lv_iconst (v := 2) hx hb dL_law_459 (by decide) ?_
  refine lv_iadd hx hb dL_law_460 ?_
  refine nm_i (x := nI (i + 2)) (by show nI (i + 2) = nI i + nI 2; rw [nI_add]) ?_
  refine va_sld hx hb hX hbl hbA hS (vp_in_nI (n := i + 2) (by omega) (by omega)) dL_law_461 ?_
  have hPX := P_l hP
  have hDX := D_l hD
  have hFr := freeX hD hS hA
  refine va_calli (va_runV (As := [.int (xs (nI (i + 1)).toNatClampNeg), .int (xs (nI (i + 2)).toNatClampNeg)]) (rest := []) ⟨hx, hb, hml, hown, hts⟩ (mX10_way l dC dI cI cJ ad (xs (nI (i + 1)).toNatClampNeg) (xs (nI (i + 2)).toNatClampNeg) S L H.size e1) (cwV 2 hts gL_law_X10_way rfl rfl rfl (by decide +kernel) ⟨(Nat.le_of_ble_eq_true rfl), (Nat.le_of_ble_eq_true rfl)⟩) ⟨QXs_blind, va_recv hKX hPX (ci := 10) (q0 := 0) rfl rfl, fun U hU hW => ⟨rfl, congrArg Array.size hU, QX_at hPX hKX hDX hU hW⟩⟩ rfl rfl hl.1 rfl (lv_room (Nat.le_of_ble_eq_true rfl)) dL_law_462 ⟨(Nat.le_of_ble_eq_true rfl), (Nat.le_of_ble_eq_true rfl)⟩) hS (fun q _ h => hFr q h) hFr (fun r9 u t H1 locs ht hvm hw hB hz1 hk1 hS => ?_)
  obtain ⟨er9, eu9⟩ := Prod.mk.inj hw
  subst er9
  have eu9 := eu9.symm
  subst eu9
  have hP1 : va_P (dC, dI) vwCl (wX cI cJ ad S1 L1) H1 := by rw [← ht]; exact hB
  have hP := joinX hP hD hk1 hP1
  have hD := XM_D hD S1 L1 M
  generalize H1 = H at hP hS ⊢
  refine lv_aload_n hx hb dL_law_465 rfl (lv_at hl 2 rfl) ?_
  refine lv_aload_n hx hb dL_law_466 rfl (lv_at hl 0 rfl) ?_
  refine lv_iload_n hx hb dL_law_467 rfl (lv_at hl 3 rfl) ?_
  refine lv_iconst (v := 1) hx hb dL_law_468 (by decide) ?_
  refine lv_iadd hx hb dL_law_469 ?_
  refine nm_i (x := nI (i + 1)) (by show nI (i + 1) = nI i + nI 1; rw [nI_add]) ?_
  refine va_sld hx hb hX hbl hbA hS (vp_in_nI (n := i + 1) (by omega) (by omega)) dL_law_470 ?_
  refine lv_aload_n hx hb dL_law_471 rfl (lv_at hl 0 rfl) ?_
  refine lv_iload_n hx hb dL_law_472 rfl (lv_at hl 3 rfl) ?_
  refine lv_iconst (v := 2) hx hb dL_law_473 (by decide) ?_
  refine lv_iadd hx hb dL_law_474 ?_
  refine nm_i (x := nI (i + 2)) (by show nI (i + 2) = nI i + nI 2; rw [nI_add]) ?_
  refine va_sld hx hb hX hbl hbA hS (vp_in_nI (n := i + 2) (by omega) (by omega)) dL_law_475 ?_
  have hPM := P_r hP
  have hDM := D_r hD
  have hFr := freeM hD hS hA
  refine va_calli (va_runV (As := [.int (xs (nI (i + 1)).toNatClampNeg), .int (xs (nI (i + 2)).toNatClampNeg)]) (rest := [.int r9]) ⟨hx, hb, hml, hown, hts⟩ (mX11_way l dC dI cI cZ bd (xs (nI (i + 1)).toNatClampNeg) (xs (nI (i + 2)).toNatClampNeg) M H.size e2) (cwV 2 hts gL_law_X11_way rfl rfl rfl (by decide +kernel) ⟨(Nat.le_of_ble_eq_true rfl), (Nat.le_of_ble_eq_true rfl)⟩) ⟨QMs_blind, va_recv hKM hPM (ci := 11) (q0 := 0) rfl rfl, fun U hU hW => ⟨rfl, congrArg Array.size hU, QM_at hPM hKM hDM hU hW⟩⟩ rfl rfl hl.1 rfl (lv_room (Nat.le_of_ble_eq_true rfl)) dL_law_476 ⟨(Nat.le_of_ble_eq_true rfl), (Nat.le_of_ble_eq_true rfl)⟩) hS (fun q _ h => hFr q h) hFr (fun r10 u t H1 locs ht hvm hw hB hz1 hk1 hS => ?_)
  obtain ⟨er9, eu9⟩ := Prod.mk.inj hw
  subst er9
  have eu9 := eu9.symm
  subst eu9
  have hP1 : va_P (dC, dI) vwCl (wM cI cZ bd M1) H1 := by rw [← ht]; exact hB
  have hP := joinM hP hD hk1 hP1
  have hD := XM_D hD S1 L1 M1
  generalize H1 = H at hP hS ⊢
  refine lv_icmp_eq (tgt := 1245) hx hb dL_law_479 (by decide) (fun _ => ?_) (fun c9 => absurd rfl c9)
  exact kk S1 L1 M1 _ _ _ hP hS R1 hl
set_option maxHeartbeats 4000000 in
set_option maxRecDepth 100000 in
theorem lcase_8 {p : Program} {l : Launch} {e : Env} {s : State} {m : MethodId} {below : List Frame} {meth : Method} {c : Code} {b Ln : Nat} {xs : Nat → Int32} (C : LC p s m c b Ln xs) (hL : Ln ≤ 3072) {dC : Nat → ClassId} {dI : Nat → Nat → Nat} {cI cJ cZ : ClassId} {ad bd : Nat → Nat} (hK : va_K (dC, dI) vwCl [(cI, .int), (cJ, .long), (cZ, .boolean)] s) {Q : State → Prop} {i : Nat} (hi : i + 6 ≤ Ln) {S M : Nat → Nat → Int32} {L : Nat → Nat → Int64} {H : Heap} {locs : List Loc} (hP : va_P (dC, dI) vwCl (wX cI cJ ad S L ++ wM cI cZ bd M) H) (hD : va_D (fun q : Nat => s.heap.size ≤ q) (wX cI cJ ad S L ++ wM cI cZ bd M)) (hS : va_S (fun q : Nat => s.heap.size ≤ q) s.heap H locs) (R : Rel S L M) {ls : Array Slot} (hl : lv_has ls 4 [(0, .ref b), (1, .ref (ad 0)), (2, .ref (bd 0)), (3, .int (nI i))]) (kk : ∀ (S9 : Nat → Nat → Int32) (L9 : Nat → Nat → Int64) (M9 : Nat → Nat → Int32) (H9 : Heap) (locs9 : List Loc) (ls9 : Array Slot), va_P (dC, dI) vwCl (wX cI cJ ad S9 L9 ++ wM cI cZ bd M9) H9 → va_S (fun q : Nat => s.heap.size ≤ q) s.heap H9 locs9 → Rel S9 L9 M9 → lv_has ls9 4 [(0, .ref b), (1, .ref (ad 0)), (2, .ref (bd 0)), (3, .int (nI i))] → W p l e room_1 s m #[Value.ref b] below meth c H9 locs9 50 2278 Q (F0 m 1245 ls9 [])) : W p l e room_1 s m #[Value.ref b] below meth c H locs 50 2278 Q (F0 m 484 ls []) := by
  obtain ⟨hx, hb, hml, hown, hts, hX, hbl⟩ := C
  have hA : ∀ q : Nat, s.heap.size ≤ q → (fun q : Nat => s.heap.size ≤ q) q := fun _ h => h
  have hbA : ¬ (fun q : Nat => s.heap.size ≤ q) b := Nat.not_le.mpr hbl
  have hKX := hK.sub (tys' := [(cI, .int), (cJ, .long)]) [0, 1] rfl
  have hKM := hK.sub (tys' := [(cI, .int), (cZ, .boolean)]) [0, 2] rfl
  obtain ⟨r, S1, L1, M1, e1, e2, R1⟩ := op_treaty R (xs (nI (i + 1)).toNatClampNeg) (xs (nI (i + 2)).toNatClampNeg) (xs (nI (i + 3)).toNatClampNeg)
  refine lv_aload_n hx hb dL_law_484 rfl (lv_at hl 1 rfl) ?_
  refine lv_aload_n hx hb dL_law_485 rfl (lv_at hl 0 rfl) ?_
  refine lv_iload_n hx hb dL_law_486 rfl (lv_at hl 3 rfl) ?_
  refine lv_iconst (v := 1) hx hb dL_law_487 (by decide) ?_
  refine lv_iadd hx hb dL_law_488 ?_
  refine nm_i (x := nI (i + 1)) (by show nI (i + 1) = nI i + nI 1; rw [nI_add]) ?_
  refine va_sld hx hb hX hbl hbA hS (vp_in_nI (n := i + 1) (by omega) (by omega)) dL_law_489 ?_
  refine lv_aload_n hx hb dL_law_490 rfl (lv_at hl 0 rfl) ?_
  refine lv_iload_n hx hb dL_law_491 rfl (lv_at hl 3 rfl) ?_
  refine lv_iconst (v := 2) hx hb dL_law_492 (by decide) ?_
  refine lv_iadd hx hb dL_law_493 ?_
  refine nm_i (x := nI (i + 2)) (by show nI (i + 2) = nI i + nI 2; rw [nI_add]) ?_
  refine va_sld hx hb hX hbl hbA hS (vp_in_nI (n := i + 2) (by omega) (by omega)) dL_law_494 ?_
  refine lv_aload_n hx hb dL_law_495 rfl (lv_at hl 0 rfl) ?_
  refine lv_iload_n hx hb dL_law_496 rfl (lv_at hl 3 rfl) ?_
  refine lv_iconst (v := 3) hx hb dL_law_497 (by decide) ?_
  refine lv_iadd hx hb dL_law_498 ?_
  refine nm_i (x := nI (i + 3)) (by show nI (i + 3) = nI i + nI 3; rw [nI_add]) ?_
  refine va_sld hx hb hX hbl hbA hS (vp_in_nI (n := i + 3) (by omega) (by omega)) dL_law_499 ?_
  have hPX := P_l hP
  have hDX := D_l hD
  have hFr := freeX hD hS hA
  refine va_calli (va_runV (As := [.int (xs (nI (i + 1)).toNatClampNeg), .int (xs (nI (i + 2)).toNatClampNeg), .int (xs (nI (i + 3)).toNatClampNeg)]) (rest := []) ⟨hx, hb, hml, hown, hts⟩ (mX10_treaty l dC dI cI cJ ad (xs (nI (i + 1)).toNatClampNeg) (xs (nI (i + 2)).toNatClampNeg) (xs (nI (i + 3)).toNatClampNeg) S L H.size e1) (cwV 3 hts gL_law_X10_treaty rfl rfl rfl (by decide +kernel) ⟨(Nat.le_of_ble_eq_true rfl), (Nat.le_of_ble_eq_true rfl)⟩) ⟨QXs_blind, va_recv hKX hPX (ci := 10) (q0 := 0) rfl rfl, fun U hU hW => ⟨rfl, congrArg Array.size hU, QX_at hPX hKX hDX hU hW⟩⟩ rfl rfl hl.1 rfl (lv_room (Nat.le_of_ble_eq_true rfl)) dL_law_500 ⟨(Nat.le_of_ble_eq_true rfl), (Nat.le_of_ble_eq_true rfl)⟩) hS (fun q _ h => hFr q h) hFr (fun r9 u t H1 locs ht hvm hw hB hz1 hk1 hS => ?_)
  obtain ⟨er9, eu9⟩ := Prod.mk.inj hw
  subst er9
  have eu9 := eu9.symm
  subst eu9
  have hP1 : va_P (dC, dI) vwCl (wX cI cJ ad S1 L1) H1 := by rw [← ht]; exact hB
  have hP := joinX hP hD hk1 hP1
  have hD := XM_D hD S1 L1 M
  generalize H1 = H at hP hS ⊢
  refine lv_aload_n hx hb dL_law_503 rfl (lv_at hl 2 rfl) ?_
  refine lv_aload_n hx hb dL_law_504 rfl (lv_at hl 0 rfl) ?_
  refine lv_iload_n hx hb dL_law_505 rfl (lv_at hl 3 rfl) ?_
  refine lv_iconst (v := 1) hx hb dL_law_506 (by decide) ?_
  refine lv_iadd hx hb dL_law_507 ?_
  refine nm_i (x := nI (i + 1)) (by show nI (i + 1) = nI i + nI 1; rw [nI_add]) ?_
  refine va_sld hx hb hX hbl hbA hS (vp_in_nI (n := i + 1) (by omega) (by omega)) dL_law_508 ?_
  refine lv_aload_n hx hb dL_law_509 rfl (lv_at hl 0 rfl) ?_
  refine lv_iload_n hx hb dL_law_510 rfl (lv_at hl 3 rfl) ?_
  refine lv_iconst (v := 2) hx hb dL_law_511 (by decide) ?_
  refine lv_iadd hx hb dL_law_512 ?_
  refine nm_i (x := nI (i + 2)) (by show nI (i + 2) = nI i + nI 2; rw [nI_add]) ?_
  refine va_sld hx hb hX hbl hbA hS (vp_in_nI (n := i + 2) (by omega) (by omega)) dL_law_513 ?_
  refine lv_aload_n hx hb dL_law_514 rfl (lv_at hl 0 rfl) ?_
  refine lv_iload_n hx hb dL_law_515 rfl (lv_at hl 3 rfl) ?_
  refine lv_iconst (v := 3) hx hb dL_law_516 (by decide) ?_
  refine lv_iadd hx hb dL_law_517 ?_
  refine nm_i (x := nI (i + 3)) (by show nI (i + 3) = nI i + nI 3; rw [nI_add]) ?_
  refine va_sld hx hb hX hbl hbA hS (vp_in_nI (n := i + 3) (by omega) (by omega)) dL_law_518 ?_
  have hPM := P_r hP
  have hDM := D_r hD
  have hFr := freeM hD hS hA
  refine va_calli (va_runV (As := [.int (xs (nI (i + 1)).toNatClampNeg), .int (xs (nI (i + 2)).toNatClampNeg), .int (xs (nI (i + 3)).toNatClampNeg)]) (rest := [.int r9]) ⟨hx, hb, hml, hown, hts⟩ (mX11_treaty l dC dI cI cZ bd (xs (nI (i + 1)).toNatClampNeg) (xs (nI (i + 2)).toNatClampNeg) (xs (nI (i + 3)).toNatClampNeg) M H.size e2) (cwV 3 hts gL_law_X11_treaty rfl rfl rfl (by decide +kernel) ⟨(Nat.le_of_ble_eq_true rfl), (Nat.le_of_ble_eq_true rfl)⟩) ⟨QMs_blind, va_recv hKM hPM (ci := 11) (q0 := 0) rfl rfl, fun U hU hW => ⟨rfl, congrArg Array.size hU, QM_at hPM hKM hDM hU hW⟩⟩ rfl rfl hl.1 rfl (lv_room (Nat.le_of_ble_eq_true rfl)) dL_law_519 ⟨(Nat.le_of_ble_eq_true rfl), (Nat.le_of_ble_eq_true rfl)⟩) hS (fun q _ h => hFr q h) hFr (fun r10 u t H1 locs ht hvm hw hB hz1 hk1 hS => ?_)
  obtain ⟨er9, eu9⟩ := Prod.mk.inj hw
  subst er9
  have eu9 := eu9.symm
  subst eu9
  have hP1 : va_P (dC, dI) vwCl (wM cI cZ bd M1) H1 := by rw [← ht]; exact hB
  have hP := joinM hP hD hk1 hP1
  have hD := XM_D hD S1 L1 M1
  generalize H1 = H at hP hS ⊢
  refine lv_icmp_eq (tgt := 1245) hx hb dL_law_522 (by decide) (fun _ => ?_) (fun c9 => absurd rfl c9)
  exact kk S1 L1 M1 _ _ _ hP hS R1 hl
set_option maxHeartbeats 4000000 in
set_option maxRecDepth 100000 in
theorem lcase_9 {p : Program} {l : Launch} {e : Env} {s : State} {m : MethodId} {below : List Frame} {meth : Method} {c : Code} {b Ln : Nat} {xs : Nat → Int32} (C : LC p s m c b Ln xs) (hL : Ln ≤ 3072) {dC : Nat → ClassId} {dI : Nat → Nat → Nat} {cI cJ cZ : ClassId} {ad bd : Nat → Nat} (hK : va_K (dC, dI) vwCl [(cI, .int), (cJ, .long), (cZ, .boolean)] s) {Q : State → Prop} {i : Nat} (hi : i + 6 ≤ Ln) {S M : Nat → Nat → Int32} {L : Nat → Nat → Int64} {H : Heap} {locs : List Loc} (hP : va_P (dC, dI) vwCl (wX cI cJ ad S L ++ wM cI cZ bd M) H) (hD : va_D (fun q : Nat => s.heap.size ≤ q) (wX cI cJ ad S L ++ wM cI cZ bd M)) (hS : va_S (fun q : Nat => s.heap.size ≤ q) s.heap H locs) (R : Rel S L M) {ls : Array Slot} (hl : lv_has ls 4 [(0, .ref b), (1, .ref (ad 0)), (2, .ref (bd 0)), (3, .int (nI i))]) (kk : ∀ (S9 : Nat → Nat → Int32) (L9 : Nat → Nat → Int64) (M9 : Nat → Nat → Int32) (H9 : Heap) (locs9 : List Loc) (ls9 : Array Slot), va_P (dC, dI) vwCl (wX cI cJ ad S9 L9 ++ wM cI cZ bd M9) H9 → va_S (fun q : Nat => s.heap.size ≤ q) s.heap H9 locs9 → Rel S9 L9 M9 → lv_has ls9 4 [(0, .ref b), (1, .ref (ad 0)), (2, .ref (bd 0)), (3, .int (nI i))] → W p l e room_1 s m #[Value.ref b] below meth c H9 locs9 50 2278 Q (F0 m 1245 ls9 [])) : W p l e room_1 s m #[Value.ref b] below meth c H locs 50 2278 Q (F0 m 527 ls []) := by
  obtain ⟨hx, hb, hml, hown, hts, hX, hbl⟩ := C
  have hA : ∀ q : Nat, s.heap.size ≤ q → (fun q : Nat => s.heap.size ≤ q) q := fun _ h => h
  have hbA : ¬ (fun q : Nat => s.heap.size ≤ q) b := Nat.not_le.mpr hbl
  have hKX := hK.sub (tys' := [(cI, .int), (cJ, .long)]) [0, 1] rfl
  have hKM := hK.sub (tys' := [(cI, .int), (cZ, .boolean)]) [0, 2] rfl
  obtain ⟨r, S1, L1, M1, e1, e2, R1⟩ := op_holds R (xs (nI (i + 1)).toNatClampNeg) (xs (nI (i + 2)).toNatClampNeg)
  refine lv_aload_n hx hb dL_law_527 rfl (lv_at hl 1 rfl) ?_
  refine lv_aload_n hx hb dL_law_528 rfl (lv_at hl 0 rfl) ?_
  refine lv_iload_n hx hb dL_law_529 rfl (lv_at hl 3 rfl) ?_
  refine lv_iconst (v := 1) hx hb dL_law_530 (by decide) ?_
  refine lv_iadd hx hb dL_law_531 ?_
  refine nm_i (x := nI (i + 1)) (by show nI (i + 1) = nI i + nI 1; rw [nI_add]) ?_
  refine va_sld hx hb hX hbl hbA hS (vp_in_nI (n := i + 1) (by omega) (by omega)) dL_law_532 ?_
  refine lv_aload_n hx hb dL_law_533 rfl (lv_at hl 0 rfl) ?_
  refine lv_iload_n hx hb dL_law_534 rfl (lv_at hl 3 rfl) ?_
  refine lv_iconst (v := 2) hx hb dL_law_535 (by decide) ?_
  refine lv_iadd hx hb dL_law_536 ?_
  refine nm_i (x := nI (i + 2)) (by show nI (i + 2) = nI i + nI 2; rw [nI_add]) ?_
  refine va_sld hx hb hX hbl hbA hS (vp_in_nI (n := i + 2) (by omega) (by omega)) dL_law_537 ?_
  have hPX := P_l hP
  have hDX := D_l hD
  have hFr := freeX hD hS hA
  refine va_calli (va_runV (As := [.int (xs (nI (i + 1)).toNatClampNeg), .int (xs (nI (i + 2)).toNatClampNeg)]) (rest := []) ⟨hx, hb, hml, hown, hts⟩ (mX10_holds l dC dI cI cJ ad (xs (nI (i + 1)).toNatClampNeg) (xs (nI (i + 2)).toNatClampNeg) S L H.size e1) (cwV 2 hts gL_law_X10_holds rfl rfl rfl (by decide +kernel) ⟨(Nat.le_of_ble_eq_true rfl), (Nat.le_of_ble_eq_true rfl)⟩) ⟨QXs_blind, va_recv hKX hPX (ci := 10) (q0 := 0) rfl rfl, fun U hU hW => ⟨rfl, congrArg Array.size hU, QX_at hPX hKX hDX hU hW⟩⟩ rfl rfl hl.1 rfl (lv_room (Nat.le_of_ble_eq_true rfl)) dL_law_538 ⟨(Nat.le_of_ble_eq_true rfl), (Nat.le_of_ble_eq_true rfl)⟩) hS (fun q _ h => hFr q h) hFr (fun r9 u t H1 locs ht hvm hw hB hz1 hk1 hS => ?_)
  obtain ⟨er9, eu9⟩ := Prod.mk.inj hw
  subst er9
  have eu9 := eu9.symm
  subst eu9
  have hP1 : va_P (dC, dI) vwCl (wX cI cJ ad S1 L1) H1 := by rw [← ht]; exact hB
  have hP := joinX hP hD hk1 hP1
  have hD := XM_D hD S1 L1 M
  generalize H1 = H at hP hS ⊢
  refine lv_aload_n hx hb dL_law_541 rfl (lv_at hl 2 rfl) ?_
  refine lv_aload_n hx hb dL_law_542 rfl (lv_at hl 0 rfl) ?_
  refine lv_iload_n hx hb dL_law_543 rfl (lv_at hl 3 rfl) ?_
  refine lv_iconst (v := 1) hx hb dL_law_544 (by decide) ?_
  refine lv_iadd hx hb dL_law_545 ?_
  refine nm_i (x := nI (i + 1)) (by show nI (i + 1) = nI i + nI 1; rw [nI_add]) ?_
  refine va_sld hx hb hX hbl hbA hS (vp_in_nI (n := i + 1) (by omega) (by omega)) dL_law_546 ?_
  refine lv_aload_n hx hb dL_law_547 rfl (lv_at hl 0 rfl) ?_
  refine lv_iload_n hx hb dL_law_548 rfl (lv_at hl 3 rfl) ?_
  refine lv_iconst (v := 2) hx hb dL_law_549 (by decide) ?_
  refine lv_iadd hx hb dL_law_550 ?_
  refine nm_i (x := nI (i + 2)) (by show nI (i + 2) = nI i + nI 2; rw [nI_add]) ?_
  refine va_sld hx hb hX hbl hbA hS (vp_in_nI (n := i + 2) (by omega) (by omega)) dL_law_551 ?_
  have hPM := P_r hP
  have hDM := D_r hD
  have hFr := freeM hD hS hA
  refine va_calli (va_runV (As := [.int (xs (nI (i + 1)).toNatClampNeg), .int (xs (nI (i + 2)).toNatClampNeg)]) (rest := [.int r9]) ⟨hx, hb, hml, hown, hts⟩ (mX11_holds l dC dI cI cZ bd (xs (nI (i + 1)).toNatClampNeg) (xs (nI (i + 2)).toNatClampNeg) M H.size e2) (cwV 2 hts gL_law_X11_holds rfl rfl rfl (by decide +kernel) ⟨(Nat.le_of_ble_eq_true rfl), (Nat.le_of_ble_eq_true rfl)⟩) ⟨QMs_blind, va_recv hKM hPM (ci := 11) (q0 := 0) rfl rfl, fun U hU hW => ⟨rfl, congrArg Array.size hU, QM_at hPM hKM hDM hU hW⟩⟩ rfl rfl hl.1 rfl (lv_room (Nat.le_of_ble_eq_true rfl)) dL_law_552 ⟨(Nat.le_of_ble_eq_true rfl), (Nat.le_of_ble_eq_true rfl)⟩) hS (fun q _ h => hFr q h) hFr (fun r10 u t H1 locs ht hvm hw hB hz1 hk1 hS => ?_)
  obtain ⟨er9, eu9⟩ := Prod.mk.inj hw
  subst er9
  have eu9 := eu9.symm
  subst eu9
  have hP1 : va_P (dC, dI) vwCl (wM cI cZ bd M1) H1 := by rw [← ht]; exact hB
  have hP := joinM hP hD hk1 hP1
  have hD := XM_D hD S1 L1 M1
  generalize H1 = H at hP hS ⊢
  refine lv_icmp_eq (tgt := 1245) hx hb dL_law_555 (by decide) (fun _ => ?_) (fun c9 => absurd rfl c9)
  exact kk S1 L1 M1 _ _ _ hP hS R1 hl
set_option maxHeartbeats 4000000 in
set_option maxRecDepth 100000 in
theorem lcase_10 {p : Program} {l : Launch} {e : Env} {s : State} {m : MethodId} {below : List Frame} {meth : Method} {c : Code} {b Ln : Nat} {xs : Nat → Int32} (C : LC p s m c b Ln xs) (hL : Ln ≤ 3072) {dC : Nat → ClassId} {dI : Nat → Nat → Nat} {cI cJ cZ : ClassId} {ad bd : Nat → Nat} (hK : va_K (dC, dI) vwCl [(cI, .int), (cJ, .long), (cZ, .boolean)] s) {Q : State → Prop} {i : Nat} (hi : i + 6 ≤ Ln) {S M : Nat → Nat → Int32} {L : Nat → Nat → Int64} {H : Heap} {locs : List Loc} (hP : va_P (dC, dI) vwCl (wX cI cJ ad S L ++ wM cI cZ bd M) H) (hD : va_D (fun q : Nat => s.heap.size ≤ q) (wX cI cJ ad S L ++ wM cI cZ bd M)) (hS : va_S (fun q : Nat => s.heap.size ≤ q) s.heap H locs) (R : Rel S L M) {ls : Array Slot} (hl : lv_has ls 4 [(0, .ref b), (1, .ref (ad 0)), (2, .ref (bd 0)), (3, .int (nI i))]) (kk : ∀ (S9 : Nat → Nat → Int32) (L9 : Nat → Nat → Int64) (M9 : Nat → Nat → Int32) (H9 : Heap) (locs9 : List Loc) (ls9 : Array Slot), va_P (dC, dI) vwCl (wX cI cJ ad S9 L9 ++ wM cI cZ bd M9) H9 → va_S (fun q : Nat => s.heap.size ≤ q) s.heap H9 locs9 → Rel S9 L9 M9 → lv_has ls9 4 [(0, .ref b), (1, .ref (ad 0)), (2, .ref (bd 0)), (3, .int (nI i))] → W p l e room_1 s m #[Value.ref b] below meth c H9 locs9 50 2278 Q (F0 m 1245 ls9 [])) : W p l e room_1 s m #[Value.ref b] below meth c H locs 50 2278 Q (F0 m 560 ls []) := by
  obtain ⟨hx, hb, hml, hown, hts, hX, hbl⟩ := C
  have hA : ∀ q : Nat, s.heap.size ≤ q → (fun q : Nat => s.heap.size ≤ q) q := fun _ h => h
  have hbA : ¬ (fun q : Nat => s.heap.size ≤ q) b := Nat.not_le.mpr hbl
  have hKX := hK.sub (tys' := [(cI, .int), (cJ, .long)]) [0, 1] rfl
  have hKM := hK.sub (tys' := [(cI, .int), (cZ, .boolean)]) [0, 2] rfl
  obtain ⟨r, S1, L1, M1, e1, e2, R1⟩ := op_says R (xs (nI (i + 1)).toNatClampNeg) (xs (nI (i + 2)).toNatClampNeg) (xs (nI (i + 3)).toNatClampNeg)
  refine lv_aload_n hx hb dL_law_560 rfl (lv_at hl 1 rfl) ?_
  refine lv_aload_n hx hb dL_law_561 rfl (lv_at hl 0 rfl) ?_
  refine lv_iload_n hx hb dL_law_562 rfl (lv_at hl 3 rfl) ?_
  refine lv_iconst (v := 1) hx hb dL_law_563 (by decide) ?_
  refine lv_iadd hx hb dL_law_564 ?_
  refine nm_i (x := nI (i + 1)) (by show nI (i + 1) = nI i + nI 1; rw [nI_add]) ?_
  refine va_sld hx hb hX hbl hbA hS (vp_in_nI (n := i + 1) (by omega) (by omega)) dL_law_565 ?_
  refine lv_aload_n hx hb dL_law_566 rfl (lv_at hl 0 rfl) ?_
  refine lv_iload_n hx hb dL_law_567 rfl (lv_at hl 3 rfl) ?_
  refine lv_iconst (v := 2) hx hb dL_law_568 (by decide) ?_
  refine lv_iadd hx hb dL_law_569 ?_
  refine nm_i (x := nI (i + 2)) (by show nI (i + 2) = nI i + nI 2; rw [nI_add]) ?_
  refine va_sld hx hb hX hbl hbA hS (vp_in_nI (n := i + 2) (by omega) (by omega)) dL_law_570 ?_
  refine lv_aload_n hx hb dL_law_571 rfl (lv_at hl 0 rfl) ?_
  refine lv_iload_n hx hb dL_law_572 rfl (lv_at hl 3 rfl) ?_
  refine lv_iconst (v := 3) hx hb dL_law_573 (by decide) ?_
  refine lv_iadd hx hb dL_law_574 ?_
  refine nm_i (x := nI (i + 3)) (by show nI (i + 3) = nI i + nI 3; rw [nI_add]) ?_
  refine va_sld hx hb hX hbl hbA hS (vp_in_nI (n := i + 3) (by omega) (by omega)) dL_law_575 ?_
  have hPX := P_l hP
  have hDX := D_l hD
  have hFr := freeX hD hS hA
  refine va_calli (va_runV (As := [.int (xs (nI (i + 1)).toNatClampNeg), .int (xs (nI (i + 2)).toNatClampNeg), .int (xs (nI (i + 3)).toNatClampNeg)]) (rest := []) ⟨hx, hb, hml, hown, hts⟩ (mX10_says l dC dI cI cJ ad (xs (nI (i + 1)).toNatClampNeg) (xs (nI (i + 2)).toNatClampNeg) (xs (nI (i + 3)).toNatClampNeg) S L H.size e1) (cwV 3 hts gL_law_X10_says rfl rfl rfl (by decide +kernel) ⟨(Nat.le_of_ble_eq_true rfl), (Nat.le_of_ble_eq_true rfl)⟩) ⟨QXs_blind, va_recv hKX hPX (ci := 10) (q0 := 0) rfl rfl, fun U hU hW => ⟨rfl, congrArg Array.size hU, QX_at hPX hKX hDX hU hW⟩⟩ rfl rfl hl.1 rfl (lv_room (Nat.le_of_ble_eq_true rfl)) dL_law_576 ⟨(Nat.le_of_ble_eq_true rfl), (Nat.le_of_ble_eq_true rfl)⟩) hS (fun q _ h => hFr q h) hFr (fun r9 u t H1 locs ht hvm hw hB hz1 hk1 hS => ?_)
  obtain ⟨er9, eu9⟩ := Prod.mk.inj hw
  subst er9
  have eu9 := eu9.symm
  subst eu9
  have hP1 : va_P (dC, dI) vwCl (wX cI cJ ad S1 L1) H1 := by rw [← ht]; exact hB
  have hP := joinX hP hD hk1 hP1
  have hD := XM_D hD S1 L1 M
  generalize H1 = H at hP hS ⊢
  refine lv_aload_n hx hb dL_law_579 rfl (lv_at hl 2 rfl) ?_
  refine lv_aload_n hx hb dL_law_580 rfl (lv_at hl 0 rfl) ?_
  refine lv_iload_n hx hb dL_law_581 rfl (lv_at hl 3 rfl) ?_
  refine lv_iconst (v := 1) hx hb dL_law_582 (by decide) ?_
  refine lv_iadd hx hb dL_law_583 ?_
  refine nm_i (x := nI (i + 1)) (by show nI (i + 1) = nI i + nI 1; rw [nI_add]) ?_
  refine va_sld hx hb hX hbl hbA hS (vp_in_nI (n := i + 1) (by omega) (by omega)) dL_law_584 ?_
  refine lv_aload_n hx hb dL_law_585 rfl (lv_at hl 0 rfl) ?_
  refine lv_iload_n hx hb dL_law_586 rfl (lv_at hl 3 rfl) ?_
  refine lv_iconst (v := 2) hx hb dL_law_587 (by decide) ?_
  refine lv_iadd hx hb dL_law_588 ?_
  refine nm_i (x := nI (i + 2)) (by show nI (i + 2) = nI i + nI 2; rw [nI_add]) ?_
  refine va_sld hx hb hX hbl hbA hS (vp_in_nI (n := i + 2) (by omega) (by omega)) dL_law_589 ?_
  refine lv_aload_n hx hb dL_law_590 rfl (lv_at hl 0 rfl) ?_
  refine lv_iload_n hx hb dL_law_591 rfl (lv_at hl 3 rfl) ?_
  refine lv_iconst (v := 3) hx hb dL_law_592 (by decide) ?_
  refine lv_iadd hx hb dL_law_593 ?_
  refine nm_i (x := nI (i + 3)) (by show nI (i + 3) = nI i + nI 3; rw [nI_add]) ?_
  refine va_sld hx hb hX hbl hbA hS (vp_in_nI (n := i + 3) (by omega) (by omega)) dL_law_594 ?_
  have hPM := P_r hP
  have hDM := D_r hD
  have hFr := freeM hD hS hA
  refine va_calli (va_runV (As := [.int (xs (nI (i + 1)).toNatClampNeg), .int (xs (nI (i + 2)).toNatClampNeg), .int (xs (nI (i + 3)).toNatClampNeg)]) (rest := [.int r9]) ⟨hx, hb, hml, hown, hts⟩ (mX11_says l dC dI cI cZ bd (xs (nI (i + 1)).toNatClampNeg) (xs (nI (i + 2)).toNatClampNeg) (xs (nI (i + 3)).toNatClampNeg) M H.size e2) (cwV 3 hts gL_law_X11_says rfl rfl rfl (by decide +kernel) ⟨(Nat.le_of_ble_eq_true rfl), (Nat.le_of_ble_eq_true rfl)⟩) ⟨QMs_blind, va_recv hKM hPM (ci := 11) (q0 := 0) rfl rfl, fun U hU hW => ⟨rfl, congrArg Array.size hU, QM_at hPM hKM hDM hU hW⟩⟩ rfl rfl hl.1 rfl (lv_room (Nat.le_of_ble_eq_true rfl)) dL_law_595 ⟨(Nat.le_of_ble_eq_true rfl), (Nat.le_of_ble_eq_true rfl)⟩) hS (fun q _ h => hFr q h) hFr (fun r10 u t H1 locs ht hvm hw hB hz1 hk1 hS => ?_)
  obtain ⟨er9, eu9⟩ := Prod.mk.inj hw
  subst er9
  have eu9 := eu9.symm
  subst eu9
  have hP1 : va_P (dC, dI) vwCl (wM cI cZ bd M1) H1 := by rw [← ht]; exact hB
  have hP := joinM hP hD hk1 hP1
  have hD := XM_D hD S1 L1 M1
  generalize H1 = H at hP hS ⊢
  refine lv_icmp_eq (tgt := 1245) hx hb dL_law_598 (by decide) (fun _ => ?_) (fun c9 => absurd rfl c9)
  exact kk S1 L1 M1 _ _ _ hP hS R1 hl
set_option maxHeartbeats 4000000 in
set_option maxRecDepth 100000 in
theorem lcase_11 {p : Program} {l : Launch} {e : Env} {s : State} {m : MethodId} {below : List Frame} {meth : Method} {c : Code} {b Ln : Nat} {xs : Nat → Int32} (C : LC p s m c b Ln xs) (hL : Ln ≤ 3072) {dC : Nat → ClassId} {dI : Nat → Nat → Nat} {cI cJ cZ : ClassId} {ad bd : Nat → Nat} (hK : va_K (dC, dI) vwCl [(cI, .int), (cJ, .long), (cZ, .boolean)] s) {Q : State → Prop} {i : Nat} (hi : i + 6 ≤ Ln) {S M : Nat → Nat → Int32} {L : Nat → Nat → Int64} {H : Heap} {locs : List Loc} (hP : va_P (dC, dI) vwCl (wX cI cJ ad S L ++ wM cI cZ bd M) H) (hD : va_D (fun q : Nat => s.heap.size ≤ q) (wX cI cJ ad S L ++ wM cI cZ bd M)) (hS : va_S (fun q : Nat => s.heap.size ≤ q) s.heap H locs) (R : Rel S L M) {ls : Array Slot} (hl : lv_has ls 4 [(0, .ref b), (1, .ref (ad 0)), (2, .ref (bd 0)), (3, .int (nI i))]) (kk : ∀ (S9 : Nat → Nat → Int32) (L9 : Nat → Nat → Int64) (M9 : Nat → Nat → Int32) (H9 : Heap) (locs9 : List Loc) (ls9 : Array Slot), va_P (dC, dI) vwCl (wX cI cJ ad S9 L9 ++ wM cI cZ bd M9) H9 → va_S (fun q : Nat => s.heap.size ≤ q) s.heap H9 locs9 → Rel S9 L9 M9 → lv_has ls9 4 [(0, .ref b), (1, .ref (ad 0)), (2, .ref (bd 0)), (3, .int (nI i))] → W p l e room_1 s m #[Value.ref b] below meth c H9 locs9 50 2278 Q (F0 m 1245 ls9 [])) : W p l e room_1 s m #[Value.ref b] below meth c H locs 50 2278 Q (F0 m 603 ls []) := by
  obtain ⟨hx, hb, hml, hown, hts, hX, hbl⟩ := C
  have hA : ∀ q : Nat, s.heap.size ≤ q → (fun q : Nat => s.heap.size ≤ q) q := fun _ h => h
  have hbA : ¬ (fun q : Nat => s.heap.size ≤ q) b := Nat.not_le.mpr hbl
  have hKX := hK.sub (tys' := [(cI, .int), (cJ, .long)]) [0, 1] rfl
  have hKM := hK.sub (tys' := [(cI, .int), (cZ, .boolean)]) [0, 2] rfl
  obtain ⟨r, S1, L1, M1, e1, e2, R1⟩ := op_said R (xs (nI (i + 1)).toNatClampNeg) (xs (nI (i + 2)).toNatClampNeg) (xs (nI (i + 3)).toNatClampNeg)
  refine lv_aload_n hx hb dL_law_603 rfl (lv_at hl 1 rfl) ?_
  refine lv_aload_n hx hb dL_law_604 rfl (lv_at hl 0 rfl) ?_
  refine lv_iload_n hx hb dL_law_605 rfl (lv_at hl 3 rfl) ?_
  refine lv_iconst (v := 1) hx hb dL_law_606 (by decide) ?_
  refine lv_iadd hx hb dL_law_607 ?_
  refine nm_i (x := nI (i + 1)) (by show nI (i + 1) = nI i + nI 1; rw [nI_add]) ?_
  refine va_sld hx hb hX hbl hbA hS (vp_in_nI (n := i + 1) (by omega) (by omega)) dL_law_608 ?_
  refine lv_aload_n hx hb dL_law_609 rfl (lv_at hl 0 rfl) ?_
  refine lv_iload_n hx hb dL_law_610 rfl (lv_at hl 3 rfl) ?_
  refine lv_iconst (v := 2) hx hb dL_law_611 (by decide) ?_
  refine lv_iadd hx hb dL_law_612 ?_
  refine nm_i (x := nI (i + 2)) (by show nI (i + 2) = nI i + nI 2; rw [nI_add]) ?_
  refine va_sld hx hb hX hbl hbA hS (vp_in_nI (n := i + 2) (by omega) (by omega)) dL_law_613 ?_
  refine lv_aload_n hx hb dL_law_614 rfl (lv_at hl 0 rfl) ?_
  refine lv_iload_n hx hb dL_law_615 rfl (lv_at hl 3 rfl) ?_
  refine lv_iconst (v := 3) hx hb dL_law_616 (by decide) ?_
  refine lv_iadd hx hb dL_law_617 ?_
  refine nm_i (x := nI (i + 3)) (by show nI (i + 3) = nI i + nI 3; rw [nI_add]) ?_
  refine va_sld hx hb hX hbl hbA hS (vp_in_nI (n := i + 3) (by omega) (by omega)) dL_law_618 ?_
  have hPX := P_l hP
  have hDX := D_l hD
  have hFr := freeX hD hS hA
  refine va_calli (va_runV (As := [.int (xs (nI (i + 1)).toNatClampNeg), .int (xs (nI (i + 2)).toNatClampNeg), .int (xs (nI (i + 3)).toNatClampNeg)]) (rest := []) ⟨hx, hb, hml, hown, hts⟩ (mX10_said l dC dI cI cJ ad (xs (nI (i + 1)).toNatClampNeg) (xs (nI (i + 2)).toNatClampNeg) (xs (nI (i + 3)).toNatClampNeg) S L H.size e1) (cwV 3 hts gL_law_X10_said rfl rfl rfl (by decide +kernel) ⟨(Nat.le_of_ble_eq_true rfl), (Nat.le_of_ble_eq_true rfl)⟩) ⟨QXs_blind, va_recv hKX hPX (ci := 10) (q0 := 0) rfl rfl, fun U hU hW => ⟨rfl, congrArg Array.size hU, QX_at hPX hKX hDX hU hW⟩⟩ rfl rfl hl.1 rfl (lv_room (Nat.le_of_ble_eq_true rfl)) dL_law_619 ⟨(Nat.le_of_ble_eq_true rfl), (Nat.le_of_ble_eq_true rfl)⟩) hS (fun q _ h => hFr q h) hFr (fun r9 u t H1 locs ht hvm hw hB hz1 hk1 hS => ?_)
  obtain ⟨er9, eu9⟩ := Prod.mk.inj hw
  subst er9
  have eu9 := eu9.symm
  subst eu9
  have hP1 : va_P (dC, dI) vwCl (wX cI cJ ad S1 L1) H1 := by rw [← ht]; exact hB
  have hP := joinX hP hD hk1 hP1
  have hD := XM_D hD S1 L1 M
  generalize H1 = H at hP hS ⊢
  refine lv_aload_n hx hb dL_law_622 rfl (lv_at hl 2 rfl) ?_
  refine lv_aload_n hx hb dL_law_623 rfl (lv_at hl 0 rfl) ?_
  refine lv_iload_n hx hb dL_law_624 rfl (lv_at hl 3 rfl) ?_
  refine lv_iconst (v := 1) hx hb dL_law_625 (by decide) ?_
  refine lv_iadd hx hb dL_law_626 ?_
  refine nm_i (x := nI (i + 1)) (by show nI (i + 1) = nI i + nI 1; rw [nI_add]) ?_
  refine va_sld hx hb hX hbl hbA hS (vp_in_nI (n := i + 1) (by omega) (by omega)) dL_law_627 ?_
  refine lv_aload_n hx hb dL_law_628 rfl (lv_at hl 0 rfl) ?_
  refine lv_iload_n hx hb dL_law_629 rfl (lv_at hl 3 rfl) ?_
  refine lv_iconst (v := 2) hx hb dL_law_630 (by decide) ?_
  refine lv_iadd hx hb dL_law_631 ?_
  refine nm_i (x := nI (i + 2)) (by show nI (i + 2) = nI i + nI 2; rw [nI_add]) ?_
  refine va_sld hx hb hX hbl hbA hS (vp_in_nI (n := i + 2) (by omega) (by omega)) dL_law_632 ?_
  refine lv_aload_n hx hb dL_law_633 rfl (lv_at hl 0 rfl) ?_
  refine lv_iload_n hx hb dL_law_634 rfl (lv_at hl 3 rfl) ?_
  refine lv_iconst (v := 3) hx hb dL_law_635 (by decide) ?_
  refine lv_iadd hx hb dL_law_636 ?_
  refine nm_i (x := nI (i + 3)) (by show nI (i + 3) = nI i + nI 3; rw [nI_add]) ?_
  refine va_sld hx hb hX hbl hbA hS (vp_in_nI (n := i + 3) (by omega) (by omega)) dL_law_637 ?_
  have hPM := P_r hP
  have hDM := D_r hD
  have hFr := freeM hD hS hA
  refine va_calli (va_runV (As := [.int (xs (nI (i + 1)).toNatClampNeg), .int (xs (nI (i + 2)).toNatClampNeg), .int (xs (nI (i + 3)).toNatClampNeg)]) (rest := [.int r9]) ⟨hx, hb, hml, hown, hts⟩ (mX11_said l dC dI cI cZ bd (xs (nI (i + 1)).toNatClampNeg) (xs (nI (i + 2)).toNatClampNeg) (xs (nI (i + 3)).toNatClampNeg) M H.size e2) (cwV 3 hts gL_law_X11_said rfl rfl rfl (by decide +kernel) ⟨(Nat.le_of_ble_eq_true rfl), (Nat.le_of_ble_eq_true rfl)⟩) ⟨QMs_blind, va_recv hKM hPM (ci := 11) (q0 := 0) rfl rfl, fun U hU hW => ⟨rfl, congrArg Array.size hU, QM_at hPM hKM hDM hU hW⟩⟩ rfl rfl hl.1 rfl (lv_room (Nat.le_of_ble_eq_true rfl)) dL_law_638 ⟨(Nat.le_of_ble_eq_true rfl), (Nat.le_of_ble_eq_true rfl)⟩) hS (fun q _ h => hFr q h) hFr (fun r10 u t H1 locs ht hvm hw hB hz1 hk1 hS => ?_)
  obtain ⟨er9, eu9⟩ := Prod.mk.inj hw
  subst er9
  have eu9 := eu9.symm
  subst eu9
  have hP1 : va_P (dC, dI) vwCl (wM cI cZ bd M1) H1 := by rw [← ht]; exact hB
  have hP := joinM hP hD hk1 hP1
  have hD := XM_D hD S1 L1 M1
  generalize H1 = H at hP hS ⊢
  refine lv_icmp_eq (tgt := 1245) hx hb dL_law_641 (by decide) (fun _ => ?_) (fun c9 => absurd rfl c9)
  exact kk S1 L1 M1 _ _ _ hP hS R1 hl
set_option maxHeartbeats 4000000 in
set_option maxRecDepth 100000 in
theorem lcase_12 {p : Program} {l : Launch} {e : Env} {s : State} {m : MethodId} {below : List Frame} {meth : Method} {c : Code} {b Ln : Nat} {xs : Nat → Int32} (C : LC p s m c b Ln xs) (hL : Ln ≤ 3072) {dC : Nat → ClassId} {dI : Nat → Nat → Nat} {cI cJ cZ : ClassId} {ad bd : Nat → Nat} (hK : va_K (dC, dI) vwCl [(cI, .int), (cJ, .long), (cZ, .boolean)] s) {Q : State → Prop} {i : Nat} (hi : i + 6 ≤ Ln) {S M : Nat → Nat → Int32} {L : Nat → Nat → Int64} {H : Heap} {locs : List Loc} (hP : va_P (dC, dI) vwCl (wX cI cJ ad S L ++ wM cI cZ bd M) H) (hD : va_D (fun q : Nat => s.heap.size ≤ q) (wX cI cJ ad S L ++ wM cI cZ bd M)) (hS : va_S (fun q : Nat => s.heap.size ≤ q) s.heap H locs) (R : Rel S L M) {ls : Array Slot} (hl : lv_has ls 4 [(0, .ref b), (1, .ref (ad 0)), (2, .ref (bd 0)), (3, .int (nI i))]) (kk : ∀ (S9 : Nat → Nat → Int32) (L9 : Nat → Nat → Int64) (M9 : Nat → Nat → Int32) (H9 : Heap) (locs9 : List Loc) (ls9 : Array Slot), va_P (dC, dI) vwCl (wX cI cJ ad S9 L9 ++ wM cI cZ bd M9) H9 → va_S (fun q : Nat => s.heap.size ≤ q) s.heap H9 locs9 → Rel S9 L9 M9 → lv_has ls9 4 [(0, .ref b), (1, .ref (ad 0)), (2, .ref (bd 0)), (3, .int (nI i))] → W p l e room_1 s m #[Value.ref b] below meth c H9 locs9 50 2278 Q (F0 m 1245 ls9 [])) : W p l e room_1 s m #[Value.ref b] below meth c H locs 50 2278 Q (F0 m 646 ls []) := by
  obtain ⟨hx, hb, hml, hown, hts, hX, hbl⟩ := C
  have hA : ∀ q : Nat, s.heap.size ≤ q → (fun q : Nat => s.heap.size ≤ q) q := fun _ h => h
  have hbA : ¬ (fun q : Nat => s.heap.size ≤ q) b := Nat.not_le.mpr hbl
  have hKX := hK.sub (tys' := [(cI, .int), (cJ, .long)]) [0, 1] rfl
  have hKM := hK.sub (tys' := [(cI, .int), (cZ, .boolean)]) [0, 2] rfl
  obtain ⟨r, S1, L1, M1, e1, e2, R1⟩ := op_ends R (xs (nI (i + 1)).toNatClampNeg) (xs (nI (i + 2)).toNatClampNeg) (xs (nI (i + 3)).toNatClampNeg)
  refine lv_aload_n hx hb dL_law_646 rfl (lv_at hl 1 rfl) ?_
  refine lv_aload_n hx hb dL_law_647 rfl (lv_at hl 0 rfl) ?_
  refine lv_iload_n hx hb dL_law_648 rfl (lv_at hl 3 rfl) ?_
  refine lv_iconst (v := 1) hx hb dL_law_649 (by decide) ?_
  refine lv_iadd hx hb dL_law_650 ?_
  refine nm_i (x := nI (i + 1)) (by show nI (i + 1) = nI i + nI 1; rw [nI_add]) ?_
  refine va_sld hx hb hX hbl hbA hS (vp_in_nI (n := i + 1) (by omega) (by omega)) dL_law_651 ?_
  refine lv_aload_n hx hb dL_law_652 rfl (lv_at hl 0 rfl) ?_
  refine lv_iload_n hx hb dL_law_653 rfl (lv_at hl 3 rfl) ?_
  refine lv_iconst (v := 2) hx hb dL_law_654 (by decide) ?_
  refine lv_iadd hx hb dL_law_655 ?_
  refine nm_i (x := nI (i + 2)) (by show nI (i + 2) = nI i + nI 2; rw [nI_add]) ?_
  refine va_sld hx hb hX hbl hbA hS (vp_in_nI (n := i + 2) (by omega) (by omega)) dL_law_656 ?_
  refine lv_aload_n hx hb dL_law_657 rfl (lv_at hl 0 rfl) ?_
  refine lv_iload_n hx hb dL_law_658 rfl (lv_at hl 3 rfl) ?_
  refine lv_iconst (v := 3) hx hb dL_law_659 (by decide) ?_
  refine lv_iadd hx hb dL_law_660 ?_
  refine nm_i (x := nI (i + 3)) (by show nI (i + 3) = nI i + nI 3; rw [nI_add]) ?_
  refine va_sld hx hb hX hbl hbA hS (vp_in_nI (n := i + 3) (by omega) (by omega)) dL_law_661 ?_
  have hPX := P_l hP
  have hDX := D_l hD
  have hFr := freeX hD hS hA
  refine va_calli (va_runV (As := [.int (xs (nI (i + 1)).toNatClampNeg), .int (xs (nI (i + 2)).toNatClampNeg), .int (xs (nI (i + 3)).toNatClampNeg)]) (rest := []) ⟨hx, hb, hml, hown, hts⟩ (mX10_ends l dC dI cI cJ ad (xs (nI (i + 1)).toNatClampNeg) (xs (nI (i + 2)).toNatClampNeg) (xs (nI (i + 3)).toNatClampNeg) S L H.size e1) (cwV 3 hts gL_law_X10_ends rfl rfl rfl (by decide +kernel) ⟨(Nat.le_of_ble_eq_true rfl), (Nat.le_of_ble_eq_true rfl)⟩) ⟨QXs_blind, va_recv hKX hPX (ci := 10) (q0 := 0) rfl rfl, fun U hU hW => ⟨rfl, congrArg Array.size hU, QX_at hPX hKX hDX hU hW⟩⟩ rfl rfl hl.1 rfl (lv_room (Nat.le_of_ble_eq_true rfl)) dL_law_662 ⟨(Nat.le_of_ble_eq_true rfl), (Nat.le_of_ble_eq_true rfl)⟩) hS (fun q _ h => hFr q h) hFr (fun r9 u t H1 locs ht hvm hw hB hz1 hk1 hS => ?_)
  obtain ⟨er9, eu9⟩ := Prod.mk.inj hw
  subst er9
  have eu9 := eu9.symm
  subst eu9
  have hP1 : va_P (dC, dI) vwCl (wX cI cJ ad S1 L1) H1 := by rw [← ht]; exact hB
  have hP := joinX hP hD hk1 hP1
  have hD := XM_D hD S1 L1 M
  generalize H1 = H at hP hS ⊢
  refine lv_aload_n hx hb dL_law_665 rfl (lv_at hl 2 rfl) ?_
  refine lv_aload_n hx hb dL_law_666 rfl (lv_at hl 0 rfl) ?_
  refine lv_iload_n hx hb dL_law_667 rfl (lv_at hl 3 rfl) ?_
  refine lv_iconst (v := 1) hx hb dL_law_668 (by decide) ?_
  refine lv_iadd hx hb dL_law_669 ?_
  refine nm_i (x := nI (i + 1)) (by show nI (i + 1) = nI i + nI 1; rw [nI_add]) ?_
  refine va_sld hx hb hX hbl hbA hS (vp_in_nI (n := i + 1) (by omega) (by omega)) dL_law_670 ?_
  refine lv_aload_n hx hb dL_law_671 rfl (lv_at hl 0 rfl) ?_
  refine lv_iload_n hx hb dL_law_672 rfl (lv_at hl 3 rfl) ?_
  refine lv_iconst (v := 2) hx hb dL_law_673 (by decide) ?_
  refine lv_iadd hx hb dL_law_674 ?_
  refine nm_i (x := nI (i + 2)) (by show nI (i + 2) = nI i + nI 2; rw [nI_add]) ?_
  refine va_sld hx hb hX hbl hbA hS (vp_in_nI (n := i + 2) (by omega) (by omega)) dL_law_675 ?_
  refine lv_aload_n hx hb dL_law_676 rfl (lv_at hl 0 rfl) ?_
  refine lv_iload_n hx hb dL_law_677 rfl (lv_at hl 3 rfl) ?_
  refine lv_iconst (v := 3) hx hb dL_law_678 (by decide) ?_
  refine lv_iadd hx hb dL_law_679 ?_
  refine nm_i (x := nI (i + 3)) (by show nI (i + 3) = nI i + nI 3; rw [nI_add]) ?_
  refine va_sld hx hb hX hbl hbA hS (vp_in_nI (n := i + 3) (by omega) (by omega)) dL_law_680 ?_
  have hPM := P_r hP
  have hDM := D_r hD
  have hFr := freeM hD hS hA
  refine va_calli (va_runV (As := [.int (xs (nI (i + 1)).toNatClampNeg), .int (xs (nI (i + 2)).toNatClampNeg), .int (xs (nI (i + 3)).toNatClampNeg)]) (rest := [.int r9]) ⟨hx, hb, hml, hown, hts⟩ (mX11_ends l dC dI cI cZ bd (xs (nI (i + 1)).toNatClampNeg) (xs (nI (i + 2)).toNatClampNeg) (xs (nI (i + 3)).toNatClampNeg) M H.size e2) (cwV 3 hts gL_law_X11_ends rfl rfl rfl (by decide +kernel) ⟨(Nat.le_of_ble_eq_true rfl), (Nat.le_of_ble_eq_true rfl)⟩) ⟨QMs_blind, va_recv hKM hPM (ci := 11) (q0 := 0) rfl rfl, fun U hU hW => ⟨rfl, congrArg Array.size hU, QM_at hPM hKM hDM hU hW⟩⟩ rfl rfl hl.1 rfl (lv_room (Nat.le_of_ble_eq_true rfl)) dL_law_681 ⟨(Nat.le_of_ble_eq_true rfl), (Nat.le_of_ble_eq_true rfl)⟩) hS (fun q _ h => hFr q h) hFr (fun r10 u t H1 locs ht hvm hw hB hz1 hk1 hS => ?_)
  obtain ⟨er9, eu9⟩ := Prod.mk.inj hw
  subst er9
  have eu9 := eu9.symm
  subst eu9
  have hP1 : va_P (dC, dI) vwCl (wM cI cZ bd M1) H1 := by rw [← ht]; exact hB
  have hP := joinM hP hD hk1 hP1
  have hD := XM_D hD S1 L1 M1
  generalize H1 = H at hP hS ⊢
  refine lv_icmp_eq (tgt := 1245) hx hb dL_law_684 (by decide) (fun _ => ?_) (fun c9 => absurd rfl c9)
  exact kk S1 L1 M1 _ _ _ hP hS R1 hl
set_option maxHeartbeats 4000000 in
set_option maxRecDepth 100000 in
theorem lcase_13 {p : Program} {l : Launch} {e : Env} {s : State} {m : MethodId} {below : List Frame} {meth : Method} {c : Code} {b Ln : Nat} {xs : Nat → Int32} (C : LC p s m c b Ln xs) (hL : Ln ≤ 3072) {dC : Nat → ClassId} {dI : Nat → Nat → Nat} {cI cJ cZ : ClassId} {ad bd : Nat → Nat} (hK : va_K (dC, dI) vwCl [(cI, .int), (cJ, .long), (cZ, .boolean)] s) {Q : State → Prop} {i : Nat} (hi : i + 6 ≤ Ln) {S M : Nat → Nat → Int32} {L : Nat → Nat → Int64} {H : Heap} {locs : List Loc} (hP : va_P (dC, dI) vwCl (wX cI cJ ad S L ++ wM cI cZ bd M) H) (hD : va_D (fun q : Nat => s.heap.size ≤ q) (wX cI cJ ad S L ++ wM cI cZ bd M)) (hS : va_S (fun q : Nat => s.heap.size ≤ q) s.heap H locs) (R : Rel S L M) {ls : Array Slot} (hl : lv_has ls 4 [(0, .ref b), (1, .ref (ad 0)), (2, .ref (bd 0)), (3, .int (nI i))]) (kk : ∀ (S9 : Nat → Nat → Int32) (L9 : Nat → Nat → Int64) (M9 : Nat → Nat → Int32) (H9 : Heap) (locs9 : List Loc) (ls9 : Array Slot), va_P (dC, dI) vwCl (wX cI cJ ad S9 L9 ++ wM cI cZ bd M9) H9 → va_S (fun q : Nat => s.heap.size ≤ q) s.heap H9 locs9 → Rel S9 L9 M9 → lv_has ls9 4 [(0, .ref b), (1, .ref (ad 0)), (2, .ref (bd 0)), (3, .int (nI i))] → W p l e room_1 s m #[Value.ref b] below meth c H9 locs9 50 2278 Q (F0 m 1245 ls9 [])) : W p l e room_1 s m #[Value.ref b] below meth c H locs 50 2278 Q (F0 m 689 ls []) := by
  obtain ⟨hx, hb, hml, hown, hts, hX, hbl⟩ := C
  have hA : ∀ q : Nat, s.heap.size ≤ q → (fun q : Nat => s.heap.size ≤ q) q := fun _ h => h
  have hbA : ¬ (fun q : Nat => s.heap.size ≤ q) b := Nat.not_le.mpr hbl
  have hKX := hK.sub (tys' := [(cI, .int), (cJ, .long)]) [0, 1] rfl
  have hKM := hK.sub (tys' := [(cI, .int), (cZ, .boolean)]) [0, 2] rfl
  obtain ⟨r, S1, L1, M1, e1, e2, R1⟩ := op_chain R (xs (nI (i + 1)).toNatClampNeg) (xs (nI (i + 2)).toNatClampNeg) (xs (nI (i + 3)).toNatClampNeg) (xs (nI (i + 4)).toNatClampNeg)
  refine lv_aload_n hx hb dL_law_689 rfl (lv_at hl 1 rfl) ?_
  refine lv_aload_n hx hb dL_law_690 rfl (lv_at hl 0 rfl) ?_
  refine lv_iload_n hx hb dL_law_691 rfl (lv_at hl 3 rfl) ?_
  refine lv_iconst (v := 1) hx hb dL_law_692 (by decide) ?_
  refine lv_iadd hx hb dL_law_693 ?_
  refine nm_i (x := nI (i + 1)) (by show nI (i + 1) = nI i + nI 1; rw [nI_add]) ?_
  refine va_sld hx hb hX hbl hbA hS (vp_in_nI (n := i + 1) (by omega) (by omega)) dL_law_694 ?_
  refine lv_aload_n hx hb dL_law_695 rfl (lv_at hl 0 rfl) ?_
  refine lv_iload_n hx hb dL_law_696 rfl (lv_at hl 3 rfl) ?_
  refine lv_iconst (v := 2) hx hb dL_law_697 (by decide) ?_
  refine lv_iadd hx hb dL_law_698 ?_
  refine nm_i (x := nI (i + 2)) (by show nI (i + 2) = nI i + nI 2; rw [nI_add]) ?_
  refine va_sld hx hb hX hbl hbA hS (vp_in_nI (n := i + 2) (by omega) (by omega)) dL_law_699 ?_
  refine lv_aload_n hx hb dL_law_700 rfl (lv_at hl 0 rfl) ?_
  refine lv_iload_n hx hb dL_law_701 rfl (lv_at hl 3 rfl) ?_
  refine lv_iconst (v := 3) hx hb dL_law_702 (by decide) ?_
  refine lv_iadd hx hb dL_law_703 ?_
  refine nm_i (x := nI (i + 3)) (by show nI (i + 3) = nI i + nI 3; rw [nI_add]) ?_
  refine va_sld hx hb hX hbl hbA hS (vp_in_nI (n := i + 3) (by omega) (by omega)) dL_law_704 ?_
  refine lv_aload_n hx hb dL_law_705 rfl (lv_at hl 0 rfl) ?_
  refine lv_iload_n hx hb dL_law_706 rfl (lv_at hl 3 rfl) ?_
  refine lv_iconst (v := 4) hx hb dL_law_707 (by decide) ?_
  refine lv_iadd hx hb dL_law_708 ?_
  refine nm_i (x := nI (i + 4)) (by show nI (i + 4) = nI i + nI 4; rw [nI_add]) ?_
  refine va_sld hx hb hX hbl hbA hS (vp_in_nI (n := i + 4) (by omega) (by omega)) dL_law_709 ?_
  have hPX := P_l hP
  have hDX := D_l hD
  have hFr := freeX hD hS hA
  refine va_calli (va_runV (As := [.int (xs (nI (i + 1)).toNatClampNeg), .int (xs (nI (i + 2)).toNatClampNeg), .int (xs (nI (i + 3)).toNatClampNeg), .int (xs (nI (i + 4)).toNatClampNeg)]) (rest := []) ⟨hx, hb, hml, hown, hts⟩ (mX10_chain l dC dI cI cJ ad (xs (nI (i + 1)).toNatClampNeg) (xs (nI (i + 2)).toNatClampNeg) (xs (nI (i + 3)).toNatClampNeg) (xs (nI (i + 4)).toNatClampNeg) S L H.size e1) (cwV 4 hts gL_law_X10_chain rfl rfl rfl (by decide +kernel) ⟨(Nat.le_of_ble_eq_true rfl), (Nat.le_of_ble_eq_true rfl)⟩) ⟨QXs_blind, va_recv hKX hPX (ci := 10) (q0 := 0) rfl rfl, fun U hU hW => ⟨rfl, congrArg Array.size hU, QX_at hPX hKX hDX hU hW⟩⟩ rfl rfl hl.1 rfl (lv_room (Nat.le_of_ble_eq_true rfl)) dL_law_710 ⟨(Nat.le_of_ble_eq_true rfl), (Nat.le_of_ble_eq_true rfl)⟩) hS (fun q _ h => hFr q h) hFr (fun r9 u t H1 locs ht hvm hw hB hz1 hk1 hS => ?_)
  obtain ⟨er9, eu9⟩ := Prod.mk.inj hw
  subst er9
  have eu9 := eu9.symm
  subst eu9
  have hP1 : va_P (dC, dI) vwCl (wX cI cJ ad S1 L1) H1 := by rw [← ht]; exact hB
  have hP := joinX hP hD hk1 hP1
  have hD := XM_D hD S1 L1 M
  generalize H1 = H at hP hS ⊢
  refine lv_aload_n hx hb dL_law_713 rfl (lv_at hl 2 rfl) ?_
  refine lv_aload_n hx hb dL_law_714 rfl (lv_at hl 0 rfl) ?_
  refine lv_iload_n hx hb dL_law_715 rfl (lv_at hl 3 rfl) ?_
  refine lv_iconst (v := 1) hx hb dL_law_716 (by decide) ?_
  refine lv_iadd hx hb dL_law_717 ?_
  refine nm_i (x := nI (i + 1)) (by show nI (i + 1) = nI i + nI 1; rw [nI_add]) ?_
  refine va_sld hx hb hX hbl hbA hS (vp_in_nI (n := i + 1) (by omega) (by omega)) dL_law_718 ?_
  refine lv_aload_n hx hb dL_law_719 rfl (lv_at hl 0 rfl) ?_
  refine lv_iload_n hx hb dL_law_720 rfl (lv_at hl 3 rfl) ?_
  refine lv_iconst (v := 2) hx hb dL_law_721 (by decide) ?_
  refine lv_iadd hx hb dL_law_722 ?_
  refine nm_i (x := nI (i + 2)) (by show nI (i + 2) = nI i + nI 2; rw [nI_add]) ?_
  refine va_sld hx hb hX hbl hbA hS (vp_in_nI (n := i + 2) (by omega) (by omega)) dL_law_723 ?_
  refine lv_aload_n hx hb dL_law_724 rfl (lv_at hl 0 rfl) ?_
  refine lv_iload_n hx hb dL_law_725 rfl (lv_at hl 3 rfl) ?_
  refine lv_iconst (v := 3) hx hb dL_law_726 (by decide) ?_
  refine lv_iadd hx hb dL_law_727 ?_
  refine nm_i (x := nI (i + 3)) (by show nI (i + 3) = nI i + nI 3; rw [nI_add]) ?_
  refine va_sld hx hb hX hbl hbA hS (vp_in_nI (n := i + 3) (by omega) (by omega)) dL_law_728 ?_
  refine lv_aload_n hx hb dL_law_729 rfl (lv_at hl 0 rfl) ?_
  refine lv_iload_n hx hb dL_law_730 rfl (lv_at hl 3 rfl) ?_
  refine lv_iconst (v := 4) hx hb dL_law_731 (by decide) ?_
  refine lv_iadd hx hb dL_law_732 ?_
  refine nm_i (x := nI (i + 4)) (by show nI (i + 4) = nI i + nI 4; rw [nI_add]) ?_
  refine va_sld hx hb hX hbl hbA hS (vp_in_nI (n := i + 4) (by omega) (by omega)) dL_law_733 ?_
  have hPM := P_r hP
  have hDM := D_r hD
  have hFr := freeM hD hS hA
  refine va_calli (va_runV (As := [.int (xs (nI (i + 1)).toNatClampNeg), .int (xs (nI (i + 2)).toNatClampNeg), .int (xs (nI (i + 3)).toNatClampNeg), .int (xs (nI (i + 4)).toNatClampNeg)]) (rest := [.int r9]) ⟨hx, hb, hml, hown, hts⟩ (mX11_chain l dC dI cI cZ bd (xs (nI (i + 1)).toNatClampNeg) (xs (nI (i + 2)).toNatClampNeg) (xs (nI (i + 3)).toNatClampNeg) (xs (nI (i + 4)).toNatClampNeg) M H.size e2) (cwV 4 hts gL_law_X11_chain rfl rfl rfl (by decide +kernel) ⟨(Nat.le_of_ble_eq_true rfl), (Nat.le_of_ble_eq_true rfl)⟩) ⟨QMs_blind, va_recv hKM hPM (ci := 11) (q0 := 0) rfl rfl, fun U hU hW => ⟨rfl, congrArg Array.size hU, QM_at hPM hKM hDM hU hW⟩⟩ rfl rfl hl.1 rfl (lv_room (Nat.le_of_ble_eq_true rfl)) dL_law_734 ⟨(Nat.le_of_ble_eq_true rfl), (Nat.le_of_ble_eq_true rfl)⟩) hS (fun q _ h => hFr q h) hFr (fun r10 u t H1 locs ht hvm hw hB hz1 hk1 hS => ?_)
  obtain ⟨er9, eu9⟩ := Prod.mk.inj hw
  subst er9
  have eu9 := eu9.symm
  subst eu9
  have hP1 : va_P (dC, dI) vwCl (wM cI cZ bd M1) H1 := by rw [← ht]; exact hB
  have hP := joinM hP hD hk1 hP1
  have hD := XM_D hD S1 L1 M1
  generalize H1 = H at hP hS ⊢
  refine lv_icmp_eq (tgt := 1245) hx hb dL_law_737 (by decide) (fun _ => ?_) (fun c9 => absurd rfl c9)
  exact kk S1 L1 M1 _ _ _ hP hS R1 hl
