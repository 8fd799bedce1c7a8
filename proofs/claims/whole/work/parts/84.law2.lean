set_option maxHeartbeats 4000000 in
set_option maxRecDepth 100000 in
theorem lcase_14 {p : Program} {l : Launch} {e : Env} {s : State} {m : MethodId} {below : List Frame} {meth : Method} {c : Code} {b Ln : Nat} {xs : Nat → Int32} (C : LC p s m c b Ln xs) (hL : Ln ≤ 3072) {dC : Nat → ClassId} {dI : Nat → Nat → Nat} {cI cJ cZ : ClassId} {ad bd : Nat → Nat} (hK : va_K (dC, dI) vwCl [(cI, .int), (cJ, .long), (cZ, .boolean)] s) {Q : State → Prop} {i : Nat} (hi : i + 6 ≤ Ln) {S M : Nat → Nat → Int32} {L : Nat → Nat → Int64} {H : Heap} {locs : List Loc} (hP : va_P (dC, dI) vwCl (wX cI cJ ad S L ++ wM cI cZ bd M) H) (hD : va_D (fun q : Nat => s.heap.size ≤ q) (wX cI cJ ad S L ++ wM cI cZ bd M)) (hS : va_S (fun q : Nat => s.heap.size ≤ q) s.heap H locs) (R : Rel S L M) {ls : Array Slot} (hl : lv_has ls 4 [(0, .ref b), (1, .ref (ad 0)), (2, .ref (bd 0)), (3, .int (nI i))]) (kk : ∀ (S9 : Nat → Nat → Int32) (L9 : Nat → Nat → Int64) (M9 : Nat → Nat → Int32) (H9 : Heap) (locs9 : List Loc) (ls9 : Array Slot), va_P (dC, dI) vwCl (wX cI cJ ad S9 L9 ++ wM cI cZ bd M9) H9 → va_S (fun q : Nat => s.heap.size ≤ q) s.heap H9 locs9 → Rel S9 L9 M9 → lv_has ls9 4 [(0, .ref b), (1, .ref (ad 0)), (2, .ref (bd 0)), (3, .int (nI i))] → W p l e room_1 s m #[Value.ref b] below meth c H9 locs9 50 2278 Q (F0 m 1245 ls9 [])) : W p l e room_1 s m #[Value.ref b] below meth c H locs 50 2278 Q (F0 m 742 ls []) := by
  obtain ⟨hx, hb, hml, hown, hts, hX, hbl⟩ := C
  have hA : ∀ q : Nat, s.heap.size ≤ q → (fun q : Nat => s.heap.size ≤ q) q := fun _ h => h
  have hbA : ¬ (fun q : Nat => s.heap.size ≤ q) b := Nat.not_le.mpr hbl
  have hKX := hK.sub (tys' := [(cI, .int), (cJ, .long)]) [0, 1] rfl
  have hKM := hK.sub (tys' := [(cI, .int), (cZ, .boolean)]) [0, 2] rfl
  obtain ⟨r, S1, L1, M1, e1, e2, R1⟩ := op_parts R (xs (nI (i + 1)).toNatClampNeg) (xs (nI (i + 2)).toNatClampNeg) (xs (nI (i + 3)).toNatClampNeg) (xs (nI (i + 4)).toNatClampNeg)
  refine lv_aload_n hx hb dL_law_742 rfl (lv_at hl 1 rfl) ?_
  refine lv_aload_n hx hb dL_law_743 rfl (lv_at hl 0 rfl) ?_
  refine lv_iload_n hx hb dL_law_744 rfl (lv_at hl 3 rfl) ?_
  refine lv_iconst (v := 1) hx hb dL_law_745 (by decide) ?_
  refine lv_iadd hx hb dL_law_746 ?_
  refine nm_i (x := nI (i + 1)) (by show nI (i + 1) = nI i + nI 1; rw [nI_add]) ?_
  refine va_sld hx hb hX hbl hbA hS (vp_in_nI (n := i + 1) (by omega) (by omega)) dL_law_747 ?_
  refine lv_aload_n hx hb dL_law_748 rfl (lv_at hl 0 rfl) ?_
  refine lv_iload_n hx hb dL_law_749 rfl (lv_at hl 3 rfl) ?_
  refine lv_iconst (v := 2) hx hb dL_law_750 (by decide) ?_
  refine lv_iadd hx hb dL_law_751 ?_
  refine nm_i (x := nI (i + 2)) (by show nI (i + 2) = nI i + nI 2; rw [nI_add]) ?_
  refine va_sld hx hb hX hbl hbA hS (vp_in_nI (n := i + 2) (by omega) (by omega)) dL_law_752 ?_
  refine lv_aload_n hx hb dL_law_753 rfl (lv_at hl 0 rfl) ?_
  refine lv_iload_n hx hb dL_law_754 rfl (lv_at hl 3 rfl) ?_
  refine lv_iconst (v := 3) hx hb dL_law_755 (by decide) ?_
  refine lv_iadd hx hb dL_law_756 ?_
  refine nm_i (x := nI (i + 3)) (by show nI (i + 3) = nI i + nI 3; rw [nI_add]) ?_
  refine va_sld hx hb hX hbl hbA hS (vp_in_nI (n := i + 3) (by omega) (by omega)) dL_law_757 ?_
  refine lv_aload_n hx hb dL_law_758 rfl (lv_at hl 0 rfl) ?_
  refine lv_iload_n hx hb dL_law_759 rfl (lv_at hl 3 rfl) ?_
  refine lv_iconst (v := 4) hx hb dL_law_760 (by decide) ?_
  refine lv_iadd hx hb dL_law_761 ?_
  refine nm_i (x := nI (i + 4)) (by show nI (i + 4) = nI i + nI 4; rw [nI_add]) ?_
  refine va_sld hx hb hX hbl hbA hS (vp_in_nI (n := i + 4) (by omega) (by omega)) dL_law_762 ?_
  have hPX := P_l hP
  have hDX := D_l hD
  have hFr := freeX hD hS hA
  refine va_calli (va_runV (As := [.int (xs (nI (i + 1)).toNatClampNeg), .int (xs (nI (i + 2)).toNatClampNeg), .int (xs (nI (i + 3)).toNatClampNeg), .int (xs (nI (i + 4)).toNatClampNeg)]) (rest := []) ⟨hx, hb, hml, hown, hts⟩ (mX10_parts l dC dI cI cJ ad (xs (nI (i + 1)).toNatClampNeg) (xs (nI (i + 2)).toNatClampNeg) (xs (nI (i + 3)).toNatClampNeg) (xs (nI (i + 4)).toNatClampNeg) S L H.size e1) (cwV 4 hts gL_law_X10_parts rfl rfl rfl (by decide +kernel) ⟨(Nat.le_of_ble_eq_true rfl), (Nat.le_of_ble_eq_true rfl)⟩) ⟨QXs_blind, va_recv hKX hPX (ci := 10) (q0 := 0) rfl rfl, fun U hU hW => ⟨rfl, congrArg Array.size hU, QX_at hPX hKX hDX hU hW⟩⟩ rfl rfl hl.1 rfl (lv_room (Nat.le_of_ble_eq_true rfl)) dL_law_763 ⟨(Nat.le_of_ble_eq_true rfl), (Nat.le_of_ble_eq_true rfl)⟩) hS (fun q _ h => hFr q h) hFr (fun r9 u t H1 locs ht hvm hw hB hz1 hk1 hS => ?_)
  obtain ⟨er9, eu9⟩ := Prod.mk.inj hw
  subst er9
  have eu9 := eu9.symm
  subst eu9
  have hP1 : va_P (dC, dI) vwCl (wX cI cJ ad S1 L1) H1 := by rw [← ht]; exact hB
  have hP := joinX hP hD hk1 hP1
  have hD := XM_D hD S1 L1 M
  generalize H1 = H at hP hS ⊢
  refine lv_aload_n hx hb dL_law_766 rfl (lv_at hl 2 rfl) ?_
  refine lv_aload_n hx hb dL_law_767 rfl (lv_at hl 0 rfl) ?_
  refine lv_iload_n hx hb dL_law_768 rfl (lv_at hl 3 rfl) ?_
  refine lv_iconst (v := 1) hx hb dL_law_769 (by decide) ?_
  refine lv_iadd hx hb dL_law_770 ?_
  refine nm_i (x := nI (i + 1)) (by show nI (i + 1) = nI i + nI 1; rw [nI_add]) ?_
  refine va_sld hx hb hX hbl hbA hS (vp_in_nI (n := i + 1) (by omega) (by omega)) dL_law_771 ?_
  refine lv_aload_n hx hb dL_law_772 rfl (lv_at hl 0 rfl) ?_
  refine lv_iload_n hx hb dL_law_773 rfl (lv_at hl 3 rfl) ?_
  refine lv_iconst (v := 2) hx hb dL_law_774 (by decide) ?_
  refine lv_iadd hx hb dL_law_775 ?_
  refine nm_i (x := nI (i + 2)) (by show nI (i + 2) = nI i + nI 2; rw [nI_add]) ?_
  refine va_sld hx hb hX hbl hbA hS (vp_in_nI (n := i + 2) (by omega) (by omega)) dL_law_776 ?_
  refine lv_aload_n hx hb dL_law_777 rfl (lv_at hl 0 rfl) ?_
  refine lv_iload_n hx hb dL_law_778 rfl (lv_at hl 3 rfl) ?_
  refine lv_iconst (v := 3) hx hb dL_law_779 (by decide) ?_
  refine lv_iadd hx hb dL_law_780 ?_
  refine nm_i (x := nI (i + 3)) (by show nI (i + 3) = nI i + nI 3; rw [nI_add]) ?_
  refine va_sld hx hb hX hbl hbA hS (vp_in_nI (n := i + 3) (by omega) (by omega)) dL_law_781 ?_
  refine lv_aload_n hx hb dL_law_782 rfl (lv_at hl 0 rfl) ?_
  refine lv_iload_n hx hb dL_law_783 rfl (lv_at hl 3 rfl) ?_
  refine lv_iconst (v := 4) hx hb dL_law_784 (by decide) ?_
  refine lv_iadd hx hb dL_law_785 ?_
  refine nm_i (x := nI (i + 4)) (by show nI (i + 4) = nI i + nI 4; rw [nI_add]) ?_
  refine va_sld hx hb hX hbl hbA hS (vp_in_nI (n := i + 4) (by omega) (by omega)) dL_law_786 ?_
  have hPM := P_r hP
  have hDM := D_r hD
  have hFr := freeM hD hS hA
  refine va_calli (va_runV (As := [.int (xs (nI (i + 1)).toNatClampNeg), .int (xs (nI (i + 2)).toNatClampNeg), .int (xs (nI (i + 3)).toNatClampNeg), .int (xs (nI (i + 4)).toNatClampNeg)]) (rest := [.int r9]) ⟨hx, hb, hml, hown, hts⟩ (mX11_parts l dC dI cI cZ bd (xs (nI (i + 1)).toNatClampNeg) (xs (nI (i + 2)).toNatClampNeg) (xs (nI (i + 3)).toNatClampNeg) (xs (nI (i + 4)).toNatClampNeg) M H.size e2) (cwV 4 hts gL_law_X11_parts rfl rfl rfl (by decide +kernel) ⟨(Nat.le_of_ble_eq_true rfl), (Nat.le_of_ble_eq_true rfl)⟩) ⟨QMs_blind, va_recv hKM hPM (ci := 11) (q0 := 0) rfl rfl, fun U hU hW => ⟨rfl, congrArg Array.size hU, QM_at hPM hKM hDM hU hW⟩⟩ rfl rfl hl.1 rfl (lv_room (Nat.le_of_ble_eq_true rfl)) dL_law_787 ⟨(Nat.le_of_ble_eq_true rfl), (Nat.le_of_ble_eq_true rfl)⟩) hS (fun q _ h => hFr q h) hFr (fun r10 u t H1 locs ht hvm hw hB hz1 hk1 hS => ?_)
  obtain ⟨er9, eu9⟩ := Prod.mk.inj hw
  subst er9
  have eu9 := eu9.symm
  subst eu9
  have hP1 : va_P (dC, dI) vwCl (wM cI cZ bd M1) H1 := by rw [← ht]; exact hB
  have hP := joinM hP hD hk1 hP1
  have hD := XM_D hD S1 L1 M1
  generalize H1 = H at hP hS ⊢
  refine lv_icmp_eq (tgt := 1245) hx hb dL_law_790 (by decide) (fun _ => ?_) (fun c9 => absurd rfl c9)
  exact kk S1 L1 M1 _ _ _ hP hS R1 hl
set_option maxHeartbeats 4000000 in
set_option maxRecDepth 100000 in
theorem lcase_15 {p : Program} {l : Launch} {e : Env} {s : State} {m : MethodId} {below : List Frame} {meth : Method} {c : Code} {b Ln : Nat} {xs : Nat → Int32} (C : LC p s m c b Ln xs) (hL : Ln ≤ 3072) {dC : Nat → ClassId} {dI : Nat → Nat → Nat} {cI cJ cZ : ClassId} {ad bd : Nat → Nat} (hK : va_K (dC, dI) vwCl [(cI, .int), (cJ, .long), (cZ, .boolean)] s) {Q : State → Prop} {i : Nat} (hi : i + 6 ≤ Ln) {S M : Nat → Nat → Int32} {L : Nat → Nat → Int64} {H : Heap} {locs : List Loc} (hP : va_P (dC, dI) vwCl (wX cI cJ ad S L ++ wM cI cZ bd M) H) (hD : va_D (fun q : Nat => s.heap.size ≤ q) (wX cI cJ ad S L ++ wM cI cZ bd M)) (hS : va_S (fun q : Nat => s.heap.size ≤ q) s.heap H locs) (R : Rel S L M) {ls : Array Slot} (hl : lv_has ls 4 [(0, .ref b), (1, .ref (ad 0)), (2, .ref (bd 0)), (3, .int (nI i))]) (kk : ∀ (S9 : Nat → Nat → Int32) (L9 : Nat → Nat → Int64) (M9 : Nat → Nat → Int32) (H9 : Heap) (locs9 : List Loc) (ls9 : Array Slot), va_P (dC, dI) vwCl (wX cI cJ ad S9 L9 ++ wM cI cZ bd M9) H9 → va_S (fun q : Nat => s.heap.size ≤ q) s.heap H9 locs9 → Rel S9 L9 M9 → lv_has ls9 4 [(0, .ref b), (1, .ref (ad 0)), (2, .ref (bd 0)), (3, .int (nI i))] → W p l e room_1 s m #[Value.ref b] below meth c H9 locs9 50 2278 Q (F0 m 1245 ls9 [])) : W p l e room_1 s m #[Value.ref b] below meth c H locs 50 2278 Q (F0 m 795 ls []) := by
  obtain ⟨hx, hb, hml, hown, hts, hX, hbl⟩ := C
  have hA : ∀ q : Nat, s.heap.size ≤ q → (fun q : Nat => s.heap.size ≤ q) q := fun _ h => h
  have hbA : ¬ (fun q : Nat => s.heap.size ≤ q) b := Nat.not_le.mpr hbl
  have hKX := hK.sub (tys' := [(cI, .int), (cJ, .long)]) [0, 1] rfl
  have hKM := hK.sub (tys' := [(cI, .int), (cZ, .boolean)]) [0, 2] rfl
  obtain ⟨r, S1, L1, M1, e1, e2, R1⟩ := op_endsIn R (xs (nI (i + 1)).toNatClampNeg) (xs (nI (i + 2)).toNatClampNeg) (xs (nI (i + 3)).toNatClampNeg) (xs (nI (i + 4)).toNatClampNeg)
  refine lv_aload_n hx hb dL_law_795 rfl (lv_at hl 1 rfl) ?_
  refine lv_aload_n hx hb dL_law_796 rfl (lv_at hl 0 rfl) ?_
  refine lv_iload_n hx hb dL_law_797 rfl (lv_at hl 3 rfl) ?_
  refine lv_iconst (v := 1) hx hb dL_law_798 (by decide) ?_
  refine lv_iadd hx hb dL_law_799 ?_
  refine nm_i (x := nI (i + 1)) (by show nI (i + 1) = nI i + nI 1; rw [nI_add]) ?_
  refine va_sld hx hb hX hbl hbA hS (vp_in_nI (n := i + 1) (by omega) (by omega)) dL_law_800 ?_
  refine lv_aload_n hx hb dL_law_801 rfl (lv_at hl 0 rfl) ?_
  refine lv_iload_n hx hb dL_law_802 rfl (lv_at hl 3 rfl) ?_
  refine lv_iconst (v := 2) hx hb dL_law_803 (by decide) ?_
  refine lv_iadd hx hb dL_law_804 ?_
  refine nm_i (x := nI (i + 2)) (by show nI (i + 2) = nI i + nI 2; rw [nI_add]) ?_
  refine va_sld hx hb hX hbl hbA hS (vp_in_nI (n := i + 2) (by omega) (by omega)) dL_law_805 ?_
  refine lv_aload_n hx hb dL_law_806 rfl (lv_at hl 0 rfl) ?_
  refine lv_iload_n hx hb dL_law_807 rfl (lv_at hl 3 rfl) ?_
  refine lv_iconst (v := 3) hx hb dL_law_808 (by decide) ?_
  refine lv_iadd hx hb dL_law_809 ?_
  refine nm_i (x := nI (i + 3)) (by show nI (i + 3) = nI i + nI 3; rw [nI_add]) ?_
  refine va_sld hx hb hX hbl hbA hS (vp_in_nI (n := i + 3) (by omega) (by omega)) dL_law_810 ?_
  refine lv_aload_n hx hb dL_law_811 rfl (lv_at hl 0 rfl) ?_
  refine lv_iload_n hx hb dL_law_812 rfl (lv_at hl 3 rfl) ?_
  refine lv_iconst (v := 4) hx hb dL_law_813 (by decide) ?_
  refine lv_iadd hx hb dL_law_814 ?_
  refine nm_i (x := nI (i + 4)) (by show nI (i + 4) = nI i + nI 4; rw [nI_add]) ?_
  refine va_sld hx hb hX hbl hbA hS (vp_in_nI (n := i + 4) (by omega) (by omega)) dL_law_815 ?_
  have hPX := P_l hP
  have hDX := D_l hD
  have hFr := freeX hD hS hA
  refine va_calli (va_runV (As := [.int (xs (nI (i + 1)).toNatClampNeg), .int (xs (nI (i + 2)).toNatClampNeg), .int (xs (nI (i + 3)).toNatClampNeg), .int (xs (nI (i + 4)).toNatClampNeg)]) (rest := []) ⟨hx, hb, hml, hown, hts⟩ (mX10_endsIn l dC dI cI cJ ad (xs (nI (i + 1)).toNatClampNeg) (xs (nI (i + 2)).toNatClampNeg) (xs (nI (i + 3)).toNatClampNeg) (xs (nI (i + 4)).toNatClampNeg) S L H.size e1) (cwV 4 hts gL_law_X10_endsIn rfl rfl rfl (by decide +kernel) ⟨(Nat.le_of_ble_eq_true rfl), (Nat.le_of_ble_eq_true rfl)⟩) ⟨QXs_blind, va_recv hKX hPX (ci := 10) (q0 := 0) rfl rfl, fun U hU hW => ⟨rfl, congrArg Array.size hU, QX_at hPX hKX hDX hU hW⟩⟩ rfl rfl hl.1 rfl (lv_room (Nat.le_of_ble_eq_true rfl)) dL_law_816 ⟨(Nat.le_of_ble_eq_true rfl), (Nat.le_of_ble_eq_true rfl)⟩) hS (fun q _ h => hFr q h) hFr (fun r9 u t H1 locs ht hvm hw hB hz1 hk1 hS => ?_)
  obtain ⟨er9, eu9⟩ := Prod.mk.inj hw
  subst er9
  have eu9 := eu9.symm
  subst eu9
  have hP1 : va_P (dC, dI) vwCl (wX cI cJ ad S1 L1) H1 := by rw [← ht]; exact hB
  have hP := joinX hP hD hk1 hP1
  have hD := XM_D hD S1 L1 M
  generalize H1 = H at hP hS ⊢
  refine lv_aload_n hx hb dL_law_819 rfl (lv_at hl 2 rfl) ?_
  refine lv_aload_n hx hb dL_law_820 rfl (lv_at hl 0 rfl) ?_
  refine lv_iload_n hx hb dL_law_821 rfl (lv_at hl 3 rfl) ?_
  refine lv_iconst (v := 1) hx hb dL_law_822 (by decide) ?_
  refine lv_iadd hx hb dL_law_823 ?_
  refine nm_i (x := nI (i + 1)) (by show nI (i + 1) = nI i + nI 1; rw [nI_add]) ?_
  refine va_sld hx hb hX hbl hbA hS (vp_in_nI (n := i + 1) (by omega) (by omega)) dL_law_824 ?_
  refine lv_aload_n hx hb dL_law_825 rfl (lv_at hl 0 rfl) ?_
  refine lv_iload_n hx hb dL_law_826 rfl (lv_at hl 3 rfl) ?_
  refine lv_iconst (v := 2) hx hb dL_law_827 (by decide) ?_
  refine lv_iadd hx hb dL_law_828 ?_
  refine nm_i (x := nI (i + 2)) (by show nI (i + 2) = nI i + nI 2; rw [nI_add]) ?_
  refine va_sld hx hb hX hbl hbA hS (vp_in_nI (n := i + 2) (by omega) (by omega)) dL_law_829 ?_
  refine lv_aload_n hx hb dL_law_830 rfl (lv_at hl 0 rfl) ?_
  refine lv_iload_n hx hb dL_law_831 rfl (lv_at hl 3 rfl) ?_
  refine lv_iconst (v := 3) hx hb dL_law_832 (by decide) ?_
  refine lv_iadd hx hb dL_law_833 ?_
  refine nm_i (x := nI (i + 3)) (by show nI (i + 3) = nI i + nI 3; rw [nI_add]) ?_
  refine va_sld hx hb hX hbl hbA hS (vp_in_nI (n := i + 3) (by omega) (by omega)) dL_law_834 ?_
  refine lv_aload_n hx hb dL_law_835 rfl (lv_at hl 0 rfl) ?_
  refine lv_iload_n hx hb dL_law_836 rfl (lv_at hl 3 rfl) ?_
  refine lv_iconst (v := 4) hx hb dL_law_837 (by decide) ?_
  refine lv_iadd hx hb dL_law_838 ?_
  refine nm_i (x := nI (i + 4)) (by show nI (i + 4) = nI i + nI 4; rw [nI_add]) ?_
  refine va_sld hx hb hX hbl hbA hS (vp_in_nI (n := i + 4) (by omega) (by omega)) dL_law_839 ?_
  have hPM := P_r hP
  have hDM := D_r hD
  have hFr := freeM hD hS hA
  refine va_calli (va_runV (As := [.int (xs (nI (i + 1)).toNatClampNeg), .int (xs (nI (i + 2)).toNatClampNeg), .int (xs (nI (i + 3)).toNatClampNeg), .int (xs (nI (i + 4)).toNatClampNeg)]) (rest := [.int r9]) ⟨hx, hb, hml, hown, hts⟩ (mX11_endsIn l dC dI cI cZ bd (xs (nI (i + 1)).toNatClampNeg) (xs (nI (i + 2)).toNatClampNeg) (xs (nI (i + 3)).toNatClampNeg) (xs (nI (i + 4)).toNatClampNeg) M H.size e2) (cwV 4 hts gL_law_X11_endsIn rfl rfl rfl (by decide +kernel) ⟨(Nat.le_of_ble_eq_true rfl), (Nat.le_of_ble_eq_true rfl)⟩) ⟨QMs_blind, va_recv hKM hPM (ci := 11) (q0 := 0) rfl rfl, fun U hU hW => ⟨rfl, congrArg Array.size hU, QM_at hPM hKM hDM hU hW⟩⟩ rfl rfl hl.1 rfl (lv_room (Nat.le_of_ble_eq_true rfl)) dL_law_840 ⟨(Nat.le_of_ble_eq_true rfl), (Nat.le_of_ble_eq_true rfl)⟩) hS (fun q _ h => hFr q h) hFr (fun r10 u t H1 locs ht hvm hw hB hz1 hk1 hS => ?_)
  obtain ⟨er9, eu9⟩ := Prod.mk.inj hw
  subst er9
  have eu9 := eu9.symm
  subst eu9
  have hP1 : va_P (dC, dI) vwCl (wM cI cZ bd M1) H1 := by rw [← ht]; exact hB
  have hP := joinM hP hD hk1 hP1
  have hD := XM_D hD S1 L1 M1
  generalize H1 = H at hP hS ⊢
  refine lv_icmp_eq (tgt := 1245) hx hb dL_law_843 (by decide) (fun _ => ?_) (fun c9 => absurd rfl c9)
  exact kk S1 L1 M1 _ _ _ hP hS R1 hl
set_option maxHeartbeats 4000000 in
set_option maxRecDepth 100000 in
theorem lcase_16 {p : Program} {l : Launch} {e : Env} {s : State} {m : MethodId} {below : List Frame} {meth : Method} {c : Code} {b Ln : Nat} {xs : Nat → Int32} (C : LC p s m c b Ln xs) (hL : Ln ≤ 3072) {dC : Nat → ClassId} {dI : Nat → Nat → Nat} {cI cJ cZ : ClassId} {ad bd : Nat → Nat} (hK : va_K (dC, dI) vwCl [(cI, .int), (cJ, .long), (cZ, .boolean)] s) {Q : State → Prop} {i : Nat} (hi : i + 6 ≤ Ln) {S M : Nat → Nat → Int32} {L : Nat → Nat → Int64} {H : Heap} {locs : List Loc} (hP : va_P (dC, dI) vwCl (wX cI cJ ad S L ++ wM cI cZ bd M) H) (hD : va_D (fun q : Nat => s.heap.size ≤ q) (wX cI cJ ad S L ++ wM cI cZ bd M)) (hS : va_S (fun q : Nat => s.heap.size ≤ q) s.heap H locs) (R : Rel S L M) {ls : Array Slot} (hl : lv_has ls 4 [(0, .ref b), (1, .ref (ad 0)), (2, .ref (bd 0)), (3, .int (nI i))]) (kk : ∀ (S9 : Nat → Nat → Int32) (L9 : Nat → Nat → Int64) (M9 : Nat → Nat → Int32) (H9 : Heap) (locs9 : List Loc) (ls9 : Array Slot), va_P (dC, dI) vwCl (wX cI cJ ad S9 L9 ++ wM cI cZ bd M9) H9 → va_S (fun q : Nat => s.heap.size ≤ q) s.heap H9 locs9 → Rel S9 L9 M9 → lv_has ls9 4 [(0, .ref b), (1, .ref (ad 0)), (2, .ref (bd 0)), (3, .int (nI i))] → W p l e room_1 s m #[Value.ref b] below meth c H9 locs9 50 2278 Q (F0 m 1245 ls9 [])) : W p l e room_1 s m #[Value.ref b] below meth c H locs 50 2278 Q (F0 m 848 ls []) := by
  obtain ⟨hx, hb, hml, hown, hts, hX, hbl⟩ := C
  have hA : ∀ q : Nat, s.heap.size ≤ q → (fun q : Nat => s.heap.size ≤ q) q := fun _ h => h
  have hbA : ¬ (fun q : Nat => s.heap.size ≤ q) b := Nat.not_le.mpr hbl
  have hKX := hK.sub (tys' := [(cI, .int), (cJ, .long)]) [0, 1] rfl
  have hKM := hK.sub (tys' := [(cI, .int), (cZ, .boolean)]) [0, 2] rfl
  obtain ⟨r, S1, L1, M1, e1, e2, R1⟩ := op_unlike R (xs (nI (i + 1)).toNatClampNeg) (xs (nI (i + 2)).toNatClampNeg) (xs (nI (i + 3)).toNatClampNeg) (xs (nI (i + 4)).toNatClampNeg)
  refine lv_aload_n hx hb dL_law_848 rfl (lv_at hl 1 rfl) ?_
  refine lv_aload_n hx hb dL_law_849 rfl (lv_at hl 0 rfl) ?_
  refine lv_iload_n hx hb dL_law_850 rfl (lv_at hl 3 rfl) ?_
  refine lv_iconst (v := 1) hx hb dL_law_851 (by decide) ?_
  refine lv_iadd hx hb dL_law_852 ?_
  refine nm_i (x := nI (i + 1)) (by show nI (i + 1) = nI i + nI 1; rw [nI_add]) ?_
  refine va_sld hx hb hX hbl hbA hS (vp_in_nI (n := i + 1) (by omega) (by omega)) dL_law_853 ?_
  refine lv_aload_n hx hb dL_law_854 rfl (lv_at hl 0 rfl) ?_
  refine lv_iload_n hx hb dL_law_855 rfl (lv_at hl 3 rfl) ?_
  refine lv_iconst (v := 2) hx hb dL_law_856 (by decide) ?_
  refine lv_iadd hx hb dL_law_857 ?_
  refine nm_i (x := nI (i + 2)) (by show nI (i + 2) = nI i + nI 2; rw [nI_add]) ?_
  refine va_sld hx hb hX hbl hbA hS (vp_in_nI (n := i + 2) (by omega) (by omega)) dL_law_858 ?_
  refine lv_aload_n hx hb dL_law_859 rfl (lv_at hl 0 rfl) ?_
  refine lv_iload_n hx hb dL_law_860 rfl (lv_at hl 3 rfl) ?_
  refine lv_iconst (v := 3) hx hb dL_law_861 (by decide) ?_
  refine lv_iadd hx hb dL_law_862 ?_
  refine nm_i (x := nI (i + 3)) (by show nI (i + 3) = nI i + nI 3; rw [nI_add]) ?_
  refine va_sld hx hb hX hbl hbA hS (vp_in_nI (n := i + 3) (by omega) (by omega)) dL_law_863 ?_
  refine lv_aload_n hx hb dL_law_864 rfl (lv_at hl 0 rfl) ?_
  refine lv_iload_n hx hb dL_law_865 rfl (lv_at hl 3 rfl) ?_
  refine lv_iconst (v := 4) hx hb dL_law_866 (by decide) ?_
  refine lv_iadd hx hb dL_law_867 ?_
  refine nm_i (x := nI (i + 4)) (by show nI (i + 4) = nI i + nI 4; rw [nI_add]) ?_
  refine va_sld hx hb hX hbl hbA hS (vp_in_nI (n := i + 4) (by omega) (by omega)) dL_law_868 ?_
  have hPX := P_l hP
  have hDX := D_l hD
  have hFr := freeX hD hS hA
  refine va_calli (va_runV (As := [.int (xs (nI (i + 1)).toNatClampNeg), .int (xs (nI (i + 2)).toNatClampNeg), .int (xs (nI (i + 3)).toNatClampNeg), .int (xs (nI (i + 4)).toNatClampNeg)]) (rest := []) ⟨hx, hb, hml, hown, hts⟩ (mX10_unlike l dC dI cI cJ ad (xs (nI (i + 1)).toNatClampNeg) (xs (nI (i + 2)).toNatClampNeg) (xs (nI (i + 3)).toNatClampNeg) (xs (nI (i + 4)).toNatClampNeg) S L H.size e1) (cwV 4 hts gL_law_X10_unlike rfl rfl rfl (by decide +kernel) ⟨(Nat.le_of_ble_eq_true rfl), (Nat.le_of_ble_eq_true rfl)⟩) ⟨QXs_blind, va_recv hKX hPX (ci := 10) (q0 := 0) rfl rfl, fun U hU hW => ⟨rfl, congrArg Array.size hU, QX_at hPX hKX hDX hU hW⟩⟩ rfl rfl hl.1 rfl (lv_room (Nat.le_of_ble_eq_true rfl)) dL_law_869 ⟨(Nat.le_of_ble_eq_true rfl), (Nat.le_of_ble_eq_true rfl)⟩) hS (fun q _ h => hFr q h) hFr (fun r9 u t H1 locs ht hvm hw hB hz1 hk1 hS => ?_)
  obtain ⟨er9, eu9⟩ := Prod.mk.inj hw
  subst er9
  have eu9 := eu9.symm
  subst eu9
  have hP1 : va_P (dC, dI) vwCl (wX cI cJ ad S1 L1) H1 := by rw [← ht]; exact hB
  have hP := joinX hP hD hk1 hP1
  have hD := XM_D hD S1 L1 M
  generalize H1 = H at hP hS ⊢
  refine lv_aload_n hx hb dL_law_872 rfl (lv_at hl 2 rfl) ?_
  refine lv_aload_n hx hb dL_law_873 rfl (lv_at hl 0 rfl) ?_
  refine lv_iload_n hx hb dL_law_874 rfl (lv_at hl 3 rfl) ?_
  refine lv_iconst (v := 1) hx hb dL_law_875 (by decide) ?_
  refine lv_iadd hx hb dL_law_876 ?_
  refine nm_i (x := nI (i + 1)) (by show nI (i + 1) = nI i + nI 1; rw [nI_add]) ?_
  refine va_sld hx hb hX hbl hbA hS (vp_in_nI (n := i + 1) (by omega) (by omega)) dL_law_877 ?_
  refine lv_aload_n hx hb dL_law_878 rfl (lv_at hl 0 rfl) ?_
  refine lv_iload_n hx hb dL_law_879 rfl (lv_at hl 3 rfl) ?_
  refine lv_iconst (v := 2) hx hb dL_law_880 (by decide) ?_
  refine lv_iadd hx hb dL_law_881 ?_
  refine nm_i (x := nI (i + 2)) (by show nI (i + 2) = nI i + nI 2; rw [nI_add]) ?_
  refine va_sld hx hb hX hbl hbA hS (vp_in_nI (n := i + 2) (by omega) (by omega)) dL_law_882 ?_
  refine lv_aload_n hx hb dL_law_883 rfl (lv_at hl 0 rfl) ?_
  refine lv_iload_n hx hb dL_law_884 rfl (lv_at hl 3 rfl) ?_
  refine lv_iconst (v := 3) hx hb dL_law_885 (by decide) ?_
  refine lv_iadd hx hb dL_law_886 ?_
  refine nm_i (x := nI (i + 3)) (by show nI (i + 3) = nI i + nI 3; rw [nI_add]) ?_
  refine va_sld hx hb hX hbl hbA hS (vp_in_nI (n := i + 3) (by omega) (by omega)) dL_law_887 ?_
  refine lv_aload_n hx hb dL_law_888 rfl (lv_at hl 0 rfl) ?_
  refine lv_iload_n hx hb dL_law_889 rfl (lv_at hl 3 rfl) ?_
  refine lv_iconst (v := 4) hx hb dL_law_890 (by decide) ?_
  refine lv_iadd hx hb dL_law_891 ?_
  refine nm_i (x := nI (i + 4)) (by show nI (i + 4) = nI i + nI 4; rw [nI_add]) ?_
  refine va_sld hx hb hX hbl hbA hS (vp_in_nI (n := i + 4) (by omega) (by omega)) dL_law_892 ?_
  have hPM := P_r hP
  have hDM := D_r hD
  have hFr := freeM hD hS hA
  refine va_calli (va_runV (As := [.int (xs (nI (i + 1)).toNatClampNeg), .int (xs (nI (i + 2)).toNatClampNeg), .int (xs (nI (i + 3)).toNatClampNeg), .int (xs (nI (i + 4)).toNatClampNeg)]) (rest := [.int r9]) ⟨hx, hb, hml, hown, hts⟩ (mX11_unlike l dC dI cI cZ bd (xs (nI (i + 1)).toNatClampNeg) (xs (nI (i + 2)).toNatClampNeg) (xs (nI (i + 3)).toNatClampNeg) (xs (nI (i + 4)).toNatClampNeg) M H.size e2) (cwV 4 hts gL_law_X11_unlike rfl rfl rfl (by decide +kernel) ⟨(Nat.le_of_ble_eq_true rfl), (Nat.le_of_ble_eq_true rfl)⟩) ⟨QMs_blind, va_recv hKM hPM (ci := 11) (q0 := 0) rfl rfl, fun U hU hW => ⟨rfl, congrArg Array.size hU, QM_at hPM hKM hDM hU hW⟩⟩ rfl rfl hl.1 rfl (lv_room (Nat.le_of_ble_eq_true rfl)) dL_law_893 ⟨(Nat.le_of_ble_eq_true rfl), (Nat.le_of_ble_eq_true rfl)⟩) hS (fun q _ h => hFr q h) hFr (fun r10 u t H1 locs ht hvm hw hB hz1 hk1 hS => ?_)
  obtain ⟨er9, eu9⟩ := Prod.mk.inj hw
  subst er9
  have eu9 := eu9.symm
  subst eu9
  have hP1 : va_P (dC, dI) vwCl (wM cI cZ bd M1) H1 := by rw [← ht]; exact hB
  have hP := joinM hP hD hk1 hP1
  have hD := XM_D hD S1 L1 M1
  generalize H1 = H at hP hS ⊢
  refine lv_icmp_eq (tgt := 1245) hx hb dL_law_896 (by decide) (fun _ => ?_) (fun c9 => absurd rfl c9)
  exact kk S1 L1 M1 _ _ _ hP hS R1 hl
set_option maxHeartbeats 4000000 in
set_option maxRecDepth 100000 in
theorem lcase_17 {p : Program} {l : Launch} {e : Env} {s : State} {m : MethodId} {below : List Frame} {meth : Method} {c : Code} {b Ln : Nat} {xs : Nat → Int32} (C : LC p s m c b Ln xs) (hL : Ln ≤ 3072) {dC : Nat → ClassId} {dI : Nat → Nat → Nat} {cI cJ cZ : ClassId} {ad bd : Nat → Nat} (hK : va_K (dC, dI) vwCl [(cI, .int), (cJ, .long), (cZ, .boolean)] s) {Q : State → Prop} {i : Nat} (hi : i + 6 ≤ Ln) {S M : Nat → Nat → Int32} {L : Nat → Nat → Int64} {H : Heap} {locs : List Loc} (hP : va_P (dC, dI) vwCl (wX cI cJ ad S L ++ wM cI cZ bd M) H) (hD : va_D (fun q : Nat => s.heap.size ≤ q) (wX cI cJ ad S L ++ wM cI cZ bd M)) (hS : va_S (fun q : Nat => s.heap.size ≤ q) s.heap H locs) (R : Rel S L M) {ls : Array Slot} (hl : lv_has ls 4 [(0, .ref b), (1, .ref (ad 0)), (2, .ref (bd 0)), (3, .int (nI i))]) (kk : ∀ (S9 : Nat → Nat → Int32) (L9 : Nat → Nat → Int64) (M9 : Nat → Nat → Int32) (H9 : Heap) (locs9 : List Loc) (ls9 : Array Slot), va_P (dC, dI) vwCl (wX cI cJ ad S9 L9 ++ wM cI cZ bd M9) H9 → va_S (fun q : Nat => s.heap.size ≤ q) s.heap H9 locs9 → Rel S9 L9 M9 → lv_has ls9 4 [(0, .ref b), (1, .ref (ad 0)), (2, .ref (bd 0)), (3, .int (nI i))] → W p l e room_1 s m #[Value.ref b] below meth c H9 locs9 50 2278 Q (F0 m 1245 ls9 [])) : W p l e room_1 s m #[Value.ref b] below meth c H locs 50 2278 Q (F0 m 901 ls []) := by
  obtain ⟨hx, hb, hml, hown, hts, hX, hbl⟩ := C
  have hA : ∀ q : Nat, s.heap.size ≤ q → (fun q : Nat => s.heap.size ≤ q) q := fun _ h => h
  have hbA : ¬ (fun q : Nat => s.heap.size ≤ q) b := Nat.not_le.mpr hbl
  have hKX := hK.sub (tys' := [(cI, .int), (cJ, .long)]) [0, 1] rfl
  have hKM := hK.sub (tys' := [(cI, .int), (cZ, .boolean)]) [0, 2] rfl
  obtain ⟨r, S1, L1, M1, e1, e2, R1⟩ := op_least R (xs (nI (i + 1)).toNatClampNeg) (xs (nI (i + 2)).toNatClampNeg) (xs (nI (i + 3)).toNatClampNeg) (xs (nI (i + 4)).toNatClampNeg)
  refine lv_aload_n hx hb dL_law_901 rfl (lv_at hl 1 rfl) ?_
  refine lv_aload_n hx hb dL_law_902 rfl (lv_at hl 0 rfl) ?_
  refine lv_iload_n hx hb dL_law_903 rfl (lv_at hl 3 rfl) ?_
  refine lv_iconst (v := 1) hx hb dL_law_904 (by decide) ?_
  refine lv_iadd hx hb dL_law_905 ?_
  refine nm_i (x := nI (i + 1)) (by show nI (i + 1) = nI i + nI 1; rw [nI_add]) ?_
  refine va_sld hx hb hX hbl hbA hS (vp_in_nI (n := i + 1) (by omega) (by omega)) dL_law_906 ?_
  refine lv_aload_n hx hb dL_law_907 rfl (lv_at hl 0 rfl) ?_
  refine lv_iload_n hx hb dL_law_908 rfl (lv_at hl 3 rfl) ?_
  refine lv_iconst (v := 2) hx hb dL_law_909 (by decide) ?_
  refine lv_iadd hx hb dL_law_910 ?_
  refine nm_i (x := nI (i + 2)) (by show nI (i + 2) = nI i + nI 2; rw [nI_add]) ?_
  refine va_sld hx hb hX hbl hbA hS (vp_in_nI (n := i + 2) (by omega) (by omega)) dL_law_911 ?_
  refine lv_aload_n hx hb dL_law_912 rfl (lv_at hl 0 rfl) ?_
  refine lv_iload_n hx hb dL_law_913 rfl (lv_at hl 3 rfl) ?_
  refine lv_iconst (v := 3) hx hb dL_law_914 (by decide) ?_
  refine lv_iadd hx hb dL_law_915 ?_
  refine nm_i (x := nI (i + 3)) (by show nI (i + 3) = nI i + nI 3; rw [nI_add]) ?_
  refine va_sld hx hb hX hbl hbA hS (vp_in_nI (n := i + 3) (by omega) (by omega)) dL_law_916 ?_
  refine lv_aload_n hx hb dL_law_917 rfl (lv_at hl 0 rfl) ?_
  refine lv_iload_n hx hb dL_law_918 rfl (lv_at hl 3 rfl) ?_
  refine lv_iconst (v := 4) hx hb dL_law_919 (by decide) ?_
  refine lv_iadd hx hb dL_law_920 ?_
  refine nm_i (x := nI (i + 4)) (by show nI (i + 4) = nI i + nI 4; rw [nI_add]) ?_
  refine va_sld hx hb hX hbl hbA hS (vp_in_nI (n := i + 4) (by omega) (by omega)) dL_law_921 ?_
  have hPX := P_l hP
  have hDX := D_l hD
  have hFr := freeX hD hS hA
  refine va_calli (va_runV (As := [.int (xs (nI (i + 1)).toNatClampNeg), .int (xs (nI (i + 2)).toNatClampNeg), .int (xs (nI (i + 3)).toNatClampNeg), .int (xs (nI (i + 4)).toNatClampNeg)]) (rest := []) ⟨hx, hb, hml, hown, hts⟩ (mX10_least l dC dI cI cJ ad (xs (nI (i + 1)).toNatClampNeg) (xs (nI (i + 2)).toNatClampNeg) (xs (nI (i + 3)).toNatClampNeg) (xs (nI (i + 4)).toNatClampNeg) S L H.size e1) (cwV 4 hts gL_law_X10_least rfl rfl rfl (by decide +kernel) ⟨(Nat.le_of_ble_eq_true rfl), (Nat.le_of_ble_eq_true rfl)⟩) ⟨QXs_blind, va_recv hKX hPX (ci := 10) (q0 := 0) rfl rfl, fun U hU hW => ⟨rfl, congrArg Array.size hU, QX_at hPX hKX hDX hU hW⟩⟩ rfl rfl hl.1 rfl (lv_room (Nat.le_of_ble_eq_true rfl)) dL_law_922 ⟨(Nat.le_of_ble_eq_true rfl), (Nat.le_of_ble_eq_true rfl)⟩) hS (fun q _ h => hFr q h) hFr (fun r9 u t H1 locs ht hvm hw hB hz1 hk1 hS => ?_)
  obtain ⟨er9, eu9⟩ := Prod.mk.inj hw
  subst er9
  have eu9 := eu9.symm
  subst eu9
  have hP1 : va_P (dC, dI) vwCl (wX cI cJ ad S1 L1) H1 := by rw [← ht]; exact hB
  have hP := joinX hP hD hk1 hP1
  have hD := XM_D hD S1 L1 M
  generalize H1 = H at hP hS ⊢
  refine lv_aload_n hx hb dL_law_925 rfl (lv_at hl 2 rfl) ?_
  refine lv_aload_n hx hb dL_law_926 rfl (lv_at hl 0 rfl) ?_
  refine lv_iload_n hx hb dL_law_927 rfl (lv_at hl 3 rfl) ?_
  refine lv_iconst (v := 1) hx hb dL_law_928 (by decide) ?_
  refine lv_iadd hx hb dL_law_929 ?_
  refine nm_i (x := nI (i + 1)) (by show nI (i + 1) = nI i + nI 1; rw [nI_add]) ?_
  refine va_sld hx hb hX hbl hbA hS (vp_in_nI (n := i + 1) (by omega) (by omega)) dL_law_930 ?_
  refine lv_aload_n hx hb dL_law_931 rfl (lv_at hl 0 rfl) ?_
  refine lv_iload_n hx hb dL_law_932 rfl (lv_at hl 3 rfl) ?_
  refine lv_iconst (v := 2) hx hb dL_law_933 (by decide) ?_
  refine lv_iadd hx hb dL_law_934 ?_
  refine nm_i (x := nI (i + 2)) (by show nI (i + 2) = nI i + nI 2; rw [nI_add]) ?_
  refine va_sld hx hb hX hbl hbA hS (vp_in_nI (n := i + 2) (by omega) (by omega)) dL_law_935 ?_
  refine lv_aload_n hx hb dL_law_936 rfl (lv_at hl 0 rfl) ?_
  refine lv_iload_n hx hb dL_law_937 rfl (lv_at hl 3 rfl) ?_
  refine lv_iconst (v := 3) hx hb dL_law_938 (by decide) ?_
  refine lv_iadd hx hb dL_law_939 ?_
  refine nm_i (x := nI (i + 3)) (by show nI (i + 3) = nI i + nI 3; rw [nI_add]) ?_
  refine va_sld hx hb hX hbl hbA hS (vp_in_nI (n := i + 3) (by omega) (by omega)) dL_law_940 ?_
  refine lv_aload_n hx hb dL_law_941 rfl (lv_at hl 0 rfl) ?_
  refine lv_iload_n hx hb dL_law_942 rfl (lv_at hl 3 rfl) ?_
  refine lv_iconst (v := 4) hx hb dL_law_943 (by decide) ?_
  refine lv_iadd hx hb dL_law_944 ?_
  refine nm_i (x := nI (i + 4)) (by show nI (i + 4) = nI i + nI 4; rw [nI_add]) ?_
  refine va_sld hx hb hX hbl hbA hS (vp_in_nI (n := i + 4) (by omega) (by omega)) dL_law_945 ?_
  have hPM := P_r hP
  have hDM := D_r hD
  have hFr := freeM hD hS hA
  refine va_calli (va_runV (As := [.int (xs (nI (i + 1)).toNatClampNeg), .int (xs (nI (i + 2)).toNatClampNeg), .int (xs (nI (i + 3)).toNatClampNeg), .int (xs (nI (i + 4)).toNatClampNeg)]) (rest := [.int r9]) ⟨hx, hb, hml, hown, hts⟩ (mX11_least l dC dI cI cZ bd (xs (nI (i + 1)).toNatClampNeg) (xs (nI (i + 2)).toNatClampNeg) (xs (nI (i + 3)).toNatClampNeg) (xs (nI (i + 4)).toNatClampNeg) M H.size e2) (cwV 4 hts gL_law_X11_least rfl rfl rfl (by decide +kernel) ⟨(Nat.le_of_ble_eq_true rfl), (Nat.le_of_ble_eq_true rfl)⟩) ⟨QMs_blind, va_recv hKM hPM (ci := 11) (q0 := 0) rfl rfl, fun U hU hW => ⟨rfl, congrArg Array.size hU, QM_at hPM hKM hDM hU hW⟩⟩ rfl rfl hl.1 rfl (lv_room (Nat.le_of_ble_eq_true rfl)) dL_law_946 ⟨(Nat.le_of_ble_eq_true rfl), (Nat.le_of_ble_eq_true rfl)⟩) hS (fun q _ h => hFr q h) hFr (fun r10 u t H1 locs ht hvm hw hB hz1 hk1 hS => ?_)
  obtain ⟨er9, eu9⟩ := Prod.mk.inj hw
  subst er9
  have eu9 := eu9.symm
  subst eu9
  have hP1 : va_P (dC, dI) vwCl (wM cI cZ bd M1) H1 := by rw [← ht]; exact hB
  have hP := joinM hP hD hk1 hP1
  have hD := XM_D hD S1 L1 M1
  generalize H1 = H at hP hS ⊢
  refine lv_icmp_eq (tgt := 1245) hx hb dL_law_949 (by decide) (fun _ => ?_) (fun c9 => absurd rfl c9)
  exact kk S1 L1 M1 _ _ _ hP hS R1 hl
set_option maxHeartbeats 4000000 in
set_option maxRecDepth 100000 in
theorem lcase_18 {p : Program} {l : Launch} {e : Env} {s : State} {m : MethodId} {below : List Frame} {meth : Method} {c : Code} {b Ln : Nat} {xs : Nat → Int32} (C : LC p s m c b Ln xs) (hL : Ln ≤ 3072) {dC : Nat → ClassId} {dI : Nat → Nat → Nat} {cI cJ cZ : ClassId} {ad bd : Nat → Nat} (hK : va_K (dC, dI) vwCl [(cI, .int), (cJ, .long), (cZ, .boolean)] s) {Q : State → Prop} {i : Nat} (hi : i + 6 ≤ Ln) {S M : Nat → Nat → Int32} {L : Nat → Nat → Int64} {H : Heap} {locs : List Loc} (hP : va_P (dC, dI) vwCl (wX cI cJ ad S L ++ wM cI cZ bd M) H) (hD : va_D (fun q : Nat => s.heap.size ≤ q) (wX cI cJ ad S L ++ wM cI cZ bd M)) (hS : va_S (fun q : Nat => s.heap.size ≤ q) s.heap H locs) (R : Rel S L M) {ls : Array Slot} (hl : lv_has ls 4 [(0, .ref b), (1, .ref (ad 0)), (2, .ref (bd 0)), (3, .int (nI i))]) (kk : ∀ (S9 : Nat → Nat → Int32) (L9 : Nat → Nat → Int64) (M9 : Nat → Nat → Int32) (H9 : Heap) (locs9 : List Loc) (ls9 : Array Slot), va_P (dC, dI) vwCl (wX cI cJ ad S9 L9 ++ wM cI cZ bd M9) H9 → va_S (fun q : Nat => s.heap.size ≤ q) s.heap H9 locs9 → Rel S9 L9 M9 → lv_has ls9 4 [(0, .ref b), (1, .ref (ad 0)), (2, .ref (bd 0)), (3, .int (nI i))] → W p l e room_1 s m #[Value.ref b] below meth c H9 locs9 50 2278 Q (F0 m 1245 ls9 [])) : W p l e room_1 s m #[Value.ref b] below meth c H locs 50 2278 Q (F0 m 954 ls []) := by
  obtain ⟨hx, hb, hml, hown, hts, hX, hbl⟩ := C
  have hA : ∀ q : Nat, s.heap.size ≤ q → (fun q : Nat => s.heap.size ≤ q) q := fun _ h => h
  have hbA : ¬ (fun q : Nat => s.heap.size ≤ q) b := Nat.not_le.mpr hbl
  have hKX := hK.sub (tys' := [(cI, .int), (cJ, .long)]) [0, 1] rfl
  have hKM := hK.sub (tys' := [(cI, .int), (cZ, .boolean)]) [0, 2] rfl
  obtain ⟨r, S1, L1, M1, e1, e2, R1⟩ := op_reached R (xs (nI (i + 1)).toNatClampNeg) (xs (nI (i + 2)).toNatClampNeg) (xs (nI (i + 3)).toNatClampNeg)
  refine lv_aload_n hx hb dL_law_954 rfl (lv_at hl 1 rfl) ?_
  refine lv_aload_n hx hb dL_law_955 rfl (lv_at hl 0 rfl) ?_
  refine lv_iload_n hx hb dL_law_956 rfl (lv_at hl 3 rfl) ?_
  refine lv_iconst (v := 1) hx hb dL_law_957 (by decide) ?_
  refine lv_iadd hx hb dL_law_958 ?_
  refine nm_i (x := nI (i + 1)) (by show nI (i + 1) = nI i + nI 1; rw [nI_add]) ?_
  refine va_sld hx hb hX hbl hbA hS (vp_in_nI (n := i + 1) (by omega) (by omega)) dL_law_959 ?_
  refine lv_aload_n hx hb dL_law_960 rfl (lv_at hl 0 rfl) ?_
  refine lv_iload_n hx hb dL_law_961 rfl (lv_at hl 3 rfl) ?_
  refine lv_iconst (v := 2) hx hb dL_law_962 (by decide) ?_
  refine lv_iadd hx hb dL_law_963 ?_
  refine nm_i (x := nI (i + 2)) (by show nI (i + 2) = nI i + nI 2; rw [nI_add]) ?_
  refine va_sld hx hb hX hbl hbA hS (vp_in_nI (n := i + 2) (by omega) (by omega)) dL_law_964 ?_
  refine lv_aload_n hx hb dL_law_965 rfl (lv_at hl 0 rfl) ?_
  refine lv_iload_n hx hb dL_law_966 rfl (lv_at hl 3 rfl) ?_
  refine lv_iconst (v := 3) hx hb dL_law_967 (by decide) ?_
  refine lv_iadd hx hb dL_law_968 ?_
  refine nm_i (x := nI (i + 3)) (by show nI (i + 3) = nI i + nI 3; rw [nI_add]) ?_
  refine va_sld hx hb hX hbl hbA hS (vp_in_nI (n := i + 3) (by omega) (by omega)) dL_law_969 ?_
  have hPX := P_l hP
  have hDX := D_l hD
  have hFr := freeX hD hS hA
  refine va_calli (va_runV (As := [.int (xs (nI (i + 1)).toNatClampNeg), .int (xs (nI (i + 2)).toNatClampNeg), .int (xs (nI (i + 3)).toNatClampNeg)]) (rest := []) ⟨hx, hb, hml, hown, hts⟩ (mX10_reached l dC dI cI cJ ad (xs (nI (i + 1)).toNatClampNeg) (xs (nI (i + 2)).toNatClampNeg) (xs (nI (i + 3)).toNatClampNeg) S L H.size e1) (cwV 3 hts gL_law_X10_reached rfl rfl rfl (by decide +kernel) ⟨(Nat.le_of_ble_eq_true rfl), (Nat.le_of_ble_eq_true rfl)⟩) ⟨QXs_blind, va_recv hKX hPX (ci := 10) (q0 := 0) rfl rfl, fun U hU hW => ⟨rfl, congrArg Array.size hU, QX_at hPX hKX hDX hU hW⟩⟩ rfl rfl hl.1 rfl (lv_room (Nat.le_of_ble_eq_true rfl)) dL_law_970 ⟨(Nat.le_of_ble_eq_true rfl), (Nat.le_of_ble_eq_true rfl)⟩) hS (fun q _ h => hFr q h) hFr (fun r9 u t H1 locs ht hvm hw hB hz1 hk1 hS => ?_)
  obtain ⟨er9, eu9⟩ := Prod.mk.inj hw
  subst er9
  have eu9 := eu9.symm
  subst eu9
  have hP1 : va_P (dC, dI) vwCl (wX cI cJ ad S1 L1) H1 := by rw [← ht]; exact hB
  have hP := joinX hP hD hk1 hP1
  have hD := XM_D hD S1 L1 M
  generalize H1 = H at hP hS ⊢
  refine lv_aload_n hx hb dL_law_973 rfl (lv_at hl 2 rfl) ?_
  refine lv_aload_n hx hb dL_law_974 rfl (lv_at hl 0 rfl) ?_
  refine lv_iload_n hx hb dL_law_975 rfl (lv_at hl 3 rfl) ?_
  refine lv_iconst (v := 1) hx hb dL_law_976 (by decide) ?_
  refine lv_iadd hx hb dL_law_977 ?_
  refine nm_i (x := nI (i + 1)) (by show nI (i + 1) = nI i + nI 1; rw [nI_add]) ?_
  refine va_sld hx hb hX hbl hbA hS (vp_in_nI (n := i + 1) (by omega) (by omega)) dL_law_978 ?_
  refine lv_aload_n hx hb dL_law_979 rfl (lv_at hl 0 rfl) ?_
  refine lv_iload_n hx hb dL_law_980 rfl (lv_at hl 3 rfl) ?_
  refine lv_iconst (v := 2) hx hb dL_law_981 (by decide) ?_
  refine lv_iadd hx hb dL_law_982 ?_
  refine nm_i (x := nI (i + 2)) (by show nI (i + 2) = nI i + nI 2; rw [nI_add]) ?_
  refine va_sld hx hb hX hbl hbA hS (vp_in_nI (n := i + 2) (by omega) (by omega)) dL_law_983 ?_
  refine lv_aload_n hx hb dL_law_984 rfl (lv_at hl 0 rfl) ?_
  refine lv_iload_n hx hb dL_law_985 rfl (lv_at hl 3 rfl) ?_
  refine lv_iconst (v := 3) hx hb dL_law_986 (by decide) ?_
  refine lv_iadd hx hb dL_law_987 ?_
  refine nm_i (x := nI (i + 3)) (by show nI (i + 3) = nI i + nI 3; rw [nI_add]) ?_
  refine va_sld hx hb hX hbl hbA hS (vp_in_nI (n := i + 3) (by omega) (by omega)) dL_law_988 ?_
  have hPM := P_r hP
  have hDM := D_r hD
  have hFr := freeM hD hS hA
  refine va_calli (va_runV (As := [.int (xs (nI (i + 1)).toNatClampNeg), .int (xs (nI (i + 2)).toNatClampNeg), .int (xs (nI (i + 3)).toNatClampNeg)]) (rest := [.int r9]) ⟨hx, hb, hml, hown, hts⟩ (mX11_reached l dC dI cI cZ bd (xs (nI (i + 1)).toNatClampNeg) (xs (nI (i + 2)).toNatClampNeg) (xs (nI (i + 3)).toNatClampNeg) M H.size e2) (cwV 3 hts gL_law_X11_reached rfl rfl rfl (by decide +kernel) ⟨(Nat.le_of_ble_eq_true rfl), (Nat.le_of_ble_eq_true rfl)⟩) ⟨QMs_blind, va_recv hKM hPM (ci := 11) (q0 := 0) rfl rfl, fun U hU hW => ⟨rfl, congrArg Array.size hU, QM_at hPM hKM hDM hU hW⟩⟩ rfl rfl hl.1 rfl (lv_room (Nat.le_of_ble_eq_true rfl)) dL_law_989 ⟨(Nat.le_of_ble_eq_true rfl), (Nat.le_of_ble_eq_true rfl)⟩) hS (fun q _ h => hFr q h) hFr (fun r10 u t H1 locs ht hvm hw hB hz1 hk1 hS => ?_)
  obtain ⟨er9, eu9⟩ := Prod.mk.inj hw
  subst er9
  have eu9 := eu9.symm
  subst eu9
  have hP1 : va_P (dC, dI) vwCl (wM cI cZ bd M1) H1 := by rw [← ht]; exact hB
  have hP := joinM hP hD hk1 hP1
  have hD := XM_D hD S1 L1 M1
  generalize H1 = H at hP hS ⊢
  refine lv_icmp_eq (tgt := 1245) hx hb dL_law_992 (by decide) (fun _ => ?_) (fun c9 => absurd rfl c9)
  exact kk S1 L1 M1 _ _ _ hP hS R1 hl
set_option maxHeartbeats 4000000 in
set_option maxRecDepth 100000 in
theorem lcase_19 {p : Program} {l : Launch} {e : Env} {s : State} {m : MethodId} {below : List Frame} {meth : Method} {c : Code} {b Ln : Nat} {xs : Nat → Int32} (C : LC p s m c b Ln xs) (hL : Ln ≤ 3072) {dC : Nat → ClassId} {dI : Nat → Nat → Nat} {cI cJ cZ : ClassId} {ad bd : Nat → Nat} (hK : va_K (dC, dI) vwCl [(cI, .int), (cJ, .long), (cZ, .boolean)] s) {Q : State → Prop} {i : Nat} (hi : i + 6 ≤ Ln) {S M : Nat → Nat → Int32} {L : Nat → Nat → Int64} {H : Heap} {locs : List Loc} (hP : va_P (dC, dI) vwCl (wX cI cJ ad S L ++ wM cI cZ bd M) H) (hD : va_D (fun q : Nat => s.heap.size ≤ q) (wX cI cJ ad S L ++ wM cI cZ bd M)) (hS : va_S (fun q : Nat => s.heap.size ≤ q) s.heap H locs) (R : Rel S L M) {ls : Array Slot} (hl : lv_has ls 4 [(0, .ref b), (1, .ref (ad 0)), (2, .ref (bd 0)), (3, .int (nI i))]) (kk : ∀ (S9 : Nat → Nat → Int32) (L9 : Nat → Nat → Int64) (M9 : Nat → Nat → Int32) (H9 : Heap) (locs9 : List Loc) (ls9 : Array Slot), va_P (dC, dI) vwCl (wX cI cJ ad S9 L9 ++ wM cI cZ bd M9) H9 → va_S (fun q : Nat => s.heap.size ≤ q) s.heap H9 locs9 → Rel S9 L9 M9 → lv_has ls9 4 [(0, .ref b), (1, .ref (ad 0)), (2, .ref (bd 0)), (3, .int (nI i))] → W p l e room_1 s m #[Value.ref b] below meth c H9 locs9 50 2278 Q (F0 m 1245 ls9 [])) : W p l e room_1 s m #[Value.ref b] below meth c H locs 50 2278 Q (F0 m 997 ls []) := by
  obtain ⟨hx, hb, hml, hown, hts, hX, hbl⟩ := C
  have hA : ∀ q : Nat, s.heap.size ≤ q → (fun q : Nat => s.heap.size ≤ q) q := fun _ h => h
  have hbA : ¬ (fun q : Nat => s.heap.size ≤ q) b := Nat.not_le.mpr hbl
  have hKX := hK.sub (tys' := [(cI, .int), (cJ, .long)]) [0, 1] rfl
  have hKM := hK.sub (tys' := [(cI, .int), (cZ, .boolean)]) [0, 2] rfl
  obtain ⟨r, S1, L1, M1, e1, e2, R1⟩ := op_same R (xs (nI (i + 1)).toNatClampNeg) (xs (nI (i + 2)).toNatClampNeg)
  refine lv_aload_n hx hb dL_law_997 rfl (lv_at hl 1 rfl) ?_
  refine lv_aload_n hx hb dL_law_998 rfl (lv_at hl 0 rfl) ?_
  refine lv_iload_n hx hb dL_law_999 rfl (lv_at hl 3 rfl) ?_
  refine lv_iconst (v := 1) hx hb dL_law_1000 (by decide) ?_
  refine lv_iadd hx hb dL_law_1001 ?_
  refine nm_i (x := nI (i + 1)) (by show nI (i + 1) = nI i + nI 1; rw [nI_add]) ?_
  refine va_sld hx hb hX hbl hbA hS (vp_in_nI (n := i + 1) (by omega) (by omega)) dL_law_1002 ?_
  refine lv_aload_n hx hb dL_law_1003 rfl (lv_at hl 0 rfl) ?_
  refine lv_iload_n hx hb dL_law_1004 rfl (lv_at hl 3 rfl) ?_
  refine lv_iconst (v := 2) hx hb dL_law_1005 (by decide) ?_
  refine lv_iadd hx hb dL_law_1006 ?_
  refine nm_i (x := nI (i + 2)) (by show nI (i + 2) = nI i + nI 2; rw [nI_add]) ?_
  refine va_sld hx hb hX hbl hbA hS (vp_in_nI (n := i + 2) (by omega) (by omega)) dL_law_1007 ?_
  have hPX := P_l hP
  have hDX := D_l hD
  have hFr := freeX hD hS hA
  refine va_calli (va_runV (As := [.int (xs (nI (i + 1)).toNatClampNeg), .int (xs (nI (i + 2)).toNatClampNeg)]) (rest := []) ⟨hx, hb, hml, hown, hts⟩ (mX10_same l dC dI cI cJ ad (xs (nI (i + 1)).toNatClampNeg) (xs (nI (i + 2)).toNatClampNeg) S L H.size e1) (cwV 2 hts gL_law_X10_same rfl rfl rfl (by decide +kernel) ⟨(Nat.le_of_ble_eq_true rfl), (Nat.le_of_ble_eq_true rfl)⟩) ⟨QXs_blind, va_recv hKX hPX (ci := 10) (q0 := 0) rfl rfl, fun U hU hW => ⟨rfl, congrArg Array.size hU, QX_at hPX hKX hDX hU hW⟩⟩ rfl rfl hl.1 rfl (lv_room (Nat.le_of_ble_eq_true rfl)) dL_law_1008 ⟨(Nat.le_of_ble_eq_true rfl), (Nat.le_of_ble_eq_true rfl)⟩) hS (fun q _ h => hFr q h) hFr (fun r9 u t H1 locs ht hvm hw hB hz1 hk1 hS => ?_)
  obtain ⟨er9, eu9⟩ := Prod.mk.inj hw
  subst er9
  have eu9 := eu9.symm
  subst eu9
  have hP1 : va_P (dC, dI) vwCl (wX cI cJ ad S1 L1) H1 := by rw [← ht]; exact hB
  have hP := joinX hP hD hk1 hP1
  have hD := XM_D hD S1 L1 M
  generalize H1 = H at hP hS ⊢
  refine lv_aload_n hx hb dL_law_1011 rfl (lv_at hl 2 rfl) ?_
  refine lv_aload_n hx hb dL_law_1012 rfl (lv_at hl 0 rfl) ?_
  refine lv_iload_n hx hb dL_law_1013 rfl (lv_at hl 3 rfl) ?_
  refine lv_iconst (v := 1) hx hb dL_law_1014 (by decide) ?_
  refine lv_iadd hx hb dL_law_1015 ?_
  refine nm_i (x := nI (i + 1)) (by show nI (i + 1) = nI i + nI 1; rw [nI_add]) ?_
  refine va_sld hx hb hX hbl hbA hS (vp_in_nI (n := i + 1) (by omega) (by omega)) dL_law_1016 ?_
  refine lv_aload_n hx hb dL_law_1017 rfl (lv_at hl 0 rfl) ?_
  refine lv_iload_n hx hb dL_law_1018 rfl (lv_at hl 3 rfl) ?_
  refine lv_iconst (v := 2) hx hb dL_law_1019 (by decide) ?_
  refine lv_iadd hx hb dL_law_1020 ?_
  refine nm_i (x := nI (i + 2)) (by show nI (i + 2) = nI i + nI 2; rw [nI_add]) ?_
  refine va_sld hx hb hX hbl hbA hS (vp_in_nI (n := i + 2) (by omega) (by omega)) dL_law_1021 ?_
  have hPM := P_r hP
  have hDM := D_r hD
  have hFr := freeM hD hS hA
  refine va_calli (va_runV (As := [.int (xs (nI (i + 1)).toNatClampNeg), .int (xs (nI (i + 2)).toNatClampNeg)]) (rest := [.int r9]) ⟨hx, hb, hml, hown, hts⟩ (mX11_same l dC dI cI cZ bd (xs (nI (i + 1)).toNatClampNeg) (xs (nI (i + 2)).toNatClampNeg) M H.size e2) (cwV 2 hts gL_law_X11_same rfl rfl rfl (by decide +kernel) ⟨(Nat.le_of_ble_eq_true rfl), (Nat.le_of_ble_eq_true rfl)⟩) ⟨QMs_blind, va_recv hKM hPM (ci := 11) (q0 := 0) rfl rfl, fun U hU hW => ⟨rfl, congrArg Array.size hU, QM_at hPM hKM hDM hU hW⟩⟩ rfl rfl hl.1 rfl (lv_room (Nat.le_of_ble_eq_true rfl)) dL_law_1022 ⟨(Nat.le_of_ble_eq_true rfl), (Nat.le_of_ble_eq_true rfl)⟩) hS (fun q _ h => hFr q h) hFr (fun r10 u t H1 locs ht hvm hw hB hz1 hk1 hS => ?_)
  obtain ⟨er9, eu9⟩ := Prod.mk.inj hw
  subst er9
  have eu9 := eu9.symm
  subst eu9
  have hP1 : va_P (dC, dI) vwCl (wM cI cZ bd M1) H1 := by rw [← ht]; exact hB
  have hP := joinM hP hD hk1 hP1
  have hD := XM_D hD S1 L1 M1
  generalize H1 = H at hP hS ⊢
  refine lv_icmp_eq (tgt := 1245) hx hb dL_law_1025 (by decide) (fun _ => ?_) (fun c9 => absurd rfl c9)
  exact kk S1 L1 M1 _ _ _ hP hS R1 hl
set_option maxHeartbeats 4000000 in
set_option maxRecDepth 100000 in
theorem lcase_20 {p : Program} {l : Launch} {e : Env} {s : State} {m : MethodId} {below : List Frame} {meth : Method} {c : Code} {b Ln : Nat} {xs : Nat → Int32} (C : LC p s m c b Ln xs) (hL : Ln ≤ 3072) {dC : Nat → ClassId} {dI : Nat → Nat → Nat} {cI cJ cZ : ClassId} {ad bd : Nat → Nat} (hK : va_K (dC, dI) vwCl [(cI, .int), (cJ, .long), (cZ, .boolean)] s) {Q : State → Prop} {i : Nat} (hi : i + 6 ≤ Ln) {S M : Nat → Nat → Int32} {L : Nat → Nat → Int64} {H : Heap} {locs : List Loc} (hP : va_P (dC, dI) vwCl (wX cI cJ ad S L ++ wM cI cZ bd M) H) (hD : va_D (fun q : Nat => s.heap.size ≤ q) (wX cI cJ ad S L ++ wM cI cZ bd M)) (hS : va_S (fun q : Nat => s.heap.size ≤ q) s.heap H locs) (R : Rel S L M) {ls : Array Slot} (hl : lv_has ls 4 [(0, .ref b), (1, .ref (ad 0)), (2, .ref (bd 0)), (3, .int (nI i))]) (kk : ∀ (S9 : Nat → Nat → Int32) (L9 : Nat → Nat → Int64) (M9 : Nat → Nat → Int32) (H9 : Heap) (locs9 : List Loc) (ls9 : Array Slot), va_P (dC, dI) vwCl (wX cI cJ ad S9 L9 ++ wM cI cZ bd M9) H9 → va_S (fun q : Nat => s.heap.size ≤ q) s.heap H9 locs9 → Rel S9 L9 M9 → lv_has ls9 4 [(0, .ref b), (1, .ref (ad 0)), (2, .ref (bd 0)), (3, .int (nI i))] → W p l e room_1 s m #[Value.ref b] below meth c H9 locs9 50 2278 Q (F0 m 1245 ls9 [])) : W p l e room_1 s m #[Value.ref b] below meth c H locs 50 2278 Q (F0 m 1030 ls []) := by
  obtain ⟨hx, hb, hml, hown, hts, hX, hbl⟩ := C
  have hA : ∀ q : Nat, s.heap.size ≤ q → (fun q : Nat => s.heap.size ≤ q) q := fun _ h => h
  have hbA : ¬ (fun q : Nat => s.heap.size ≤ q) b := Nat.not_le.mpr hbl
  have hKX := hK.sub (tys' := [(cI, .int), (cJ, .long)]) [0, 1] rfl
  have hKM := hK.sub (tys' := [(cI, .int), (cZ, .boolean)]) [0, 2] rfl
  obtain ⟨r, S1, L1, M1, e1, e2, R1⟩ := op_dead R (xs (nI (i + 1)).toNatClampNeg) (xs (nI (i + 2)).toNatClampNeg)
  refine lv_aload_n hx hb dL_law_1030 rfl (lv_at hl 1 rfl) ?_
  refine lv_aload_n hx hb dL_law_1031 rfl (lv_at hl 0 rfl) ?_
  refine lv_iload_n hx hb dL_law_1032 rfl (lv_at hl 3 rfl) ?_
  refine lv_iconst (v := 1) hx hb dL_law_1033 (by decide) ?_
  refine lv_iadd hx hb dL_law_1034 ?_
  refine nm_i (x := nI (i + 1)) (by show nI (i + 1) = nI i + nI 1; rw [nI_add]) ?_
  refine va_sld hx hb hX hbl hbA hS (vp_in_nI (n := i + 1) (by omega) (by omega)) dL_law_1035 ?_
  refine lv_aload_n hx hb dL_law_1036 rfl (lv_at hl 0 rfl) ?_
  refine lv_iload_n hx hb dL_law_1037 rfl (lv_at hl 3 rfl) ?_
  refine lv_iconst (v := 2) hx hb dL_law_1038 (by decide) ?_
  refine lv_iadd hx hb dL_law_1039 ?_
  refine nm_i (x := nI (i + 2)) (by show nI (i + 2) = nI i + nI 2; rw [nI_add]) ?_
  refine va_sld hx hb hX hbl hbA hS (vp_in_nI (n := i + 2) (by omega) (by omega)) dL_law_1040 ?_
  have hPX := P_l hP
  have hDX := D_l hD
  have hFr := freeX hD hS hA
  refine va_calli (va_runV (As := [.int (xs (nI (i + 1)).toNatClampNeg), .int (xs (nI (i + 2)).toNatClampNeg)]) (rest := []) ⟨hx, hb, hml, hown, hts⟩ (mX10_dead l dC dI cI cJ ad (xs (nI (i + 1)).toNatClampNeg) (xs (nI (i + 2)).toNatClampNeg) S L H.size e1) (cwV 2 hts gL_law_X10_dead rfl rfl rfl (by decide +kernel) ⟨(Nat.le_of_ble_eq_true rfl), (Nat.le_of_ble_eq_true rfl)⟩) ⟨QXs_blind, va_recv hKX hPX (ci := 10) (q0 := 0) rfl rfl, fun U hU hW => ⟨rfl, congrArg Array.size hU, QX_at hPX hKX hDX hU hW⟩⟩ rfl rfl hl.1 rfl (lv_room (Nat.le_of_ble_eq_true rfl)) dL_law_1041 ⟨(Nat.le_of_ble_eq_true rfl), (Nat.le_of_ble_eq_true rfl)⟩) hS (fun q _ h => hFr q h) hFr (fun r9 u t H1 locs ht hvm hw hB hz1 hk1 hS => ?_)
  obtain ⟨er9, eu9⟩ := Prod.mk.inj hw
  subst er9
  have eu9 := eu9.symm
  subst eu9
  have hP1 : va_P (dC, dI) vwCl (wX cI cJ ad S1 L1) H1 := by rw [← ht]; exact hB
  have hP := joinX hP hD hk1 hP1
  have hD := XM_D hD S1 L1 M
  generalize H1 = H at hP hS ⊢
  refine lv_aload_n hx hb dL_law_1044 rfl (lv_at hl 2 rfl) ?_
  refine lv_aload_n hx hb dL_law_1045 rfl (lv_at hl 0 rfl) ?_
  refine lv_iload_n hx hb dL_law_1046 rfl (lv_at hl 3 rfl) ?_
  refine lv_iconst (v := 1) hx hb dL_law_1047 (by decide) ?_
  refine lv_iadd hx hb dL_law_1048 ?_
  refine nm_i (x := nI (i + 1)) (by show nI (i + 1) = nI i + nI 1; rw [nI_add]) ?_
  refine va_sld hx hb hX hbl hbA hS (vp_in_nI (n := i + 1) (by omega) (by omega)) dL_law_1049 ?_
  refine lv_aload_n hx hb dL_law_1050 rfl (lv_at hl 0 rfl) ?_
  refine lv_iload_n hx hb dL_law_1051 rfl (lv_at hl 3 rfl) ?_
  refine lv_iconst (v := 2) hx hb dL_law_1052 (by decide) ?_
  refine lv_iadd hx hb dL_law_1053 ?_
  refine nm_i (x := nI (i + 2)) (by show nI (i + 2) = nI i + nI 2; rw [nI_add]) ?_
  refine va_sld hx hb hX hbl hbA hS (vp_in_nI (n := i + 2) (by omega) (by omega)) dL_law_1054 ?_
  have hPM := P_r hP
  have hDM := D_r hD
  have hFr := freeM hD hS hA
  refine va_calli (va_runV (As := [.int (xs (nI (i + 1)).toNatClampNeg), .int (xs (nI (i + 2)).toNatClampNeg)]) (rest := [.int r9]) ⟨hx, hb, hml, hown, hts⟩ (mX11_dead l dC dI cI cZ bd (xs (nI (i + 1)).toNatClampNeg) (xs (nI (i + 2)).toNatClampNeg) M H.size e2) (cwV 2 hts gL_law_X11_dead rfl rfl rfl (by decide +kernel) ⟨(Nat.le_of_ble_eq_true rfl), (Nat.le_of_ble_eq_true rfl)⟩) ⟨QMs_blind, va_recv hKM hPM (ci := 11) (q0 := 0) rfl rfl, fun U hU hW => ⟨rfl, congrArg Array.size hU, QM_at hPM hKM hDM hU hW⟩⟩ rfl rfl hl.1 rfl (lv_room (Nat.le_of_ble_eq_true rfl)) dL_law_1055 ⟨(Nat.le_of_ble_eq_true rfl), (Nat.le_of_ble_eq_true rfl)⟩) hS (fun q _ h => hFr q h) hFr (fun r10 u t H1 locs ht hvm hw hB hz1 hk1 hS => ?_)
  obtain ⟨er9, eu9⟩ := Prod.mk.inj hw
  subst er9
  have eu9 := eu9.symm
  subst eu9
  have hP1 : va_P (dC, dI) vwCl (wM cI cZ bd M1) H1 := by rw [← ht]; exact hB
  have hP := joinM hP hD hk1 hP1
  have hD := XM_D hD S1 L1 M1
  generalize H1 = H at hP hS ⊢
  refine lv_icmp_eq (tgt := 1245) hx hb dL_law_1058 (by decide) (fun _ => ?_) (fun c9 => absurd rfl c9)
  exact kk S1 L1 M1 _ _ _ hP hS R1 hl
