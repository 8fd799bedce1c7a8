set_option maxHeartbeats 4000000 in
set_option maxRecDepth 100000 in
theorem law_loop {p : Program} {l : Launch} {e : Env} {s : State} {m : MethodId} {below : List Frame} {meth : Method} {c : Code} {b Ln : Nat} {xs : Nat → Int32} (C : LC p s m c b Ln xs) (hL : Ln ≤ 3072) {dC : Nat → ClassId} {dI : Nat → Nat → Nat} {cI cJ cZ : ClassId} {ad bd : Nat → Nat} (hK : va_K (dC, dI) vwCl [(cI, .int), (cJ, .long), (cZ, .boolean)] s) (hr : meth.sig.returnType = ret) (hlocks : meth.locks = false) : ∀ (n i : Nat), Ln ≤ i + n → i ≤ 3078 → ∀ (S : Nat → Nat → Int32) (L : Nat → Nat → Int64) (M : Nat → Nat → Int32) (H : Heap) (locs : List Loc), va_P (dC, dI) vwCl (wX cI cJ ad S L ++ wM cI cZ bd M) H → va_D (fun q : Nat => s.heap.size ≤ q) (wX cI cJ ad S L ++ wM cI cZ bd M) → va_S (fun q : Nat => s.heap.size ≤ q) s.heap H locs → Rel S L M → ∀ ls : Array Slot, lv_has ls 4 [(0, .ref b), (1, .ref (ad 0)), (2, .ref (bd 0)), (3, .int (nI i))] → W p l e room_1 s m #[Value.ref b] below meth c H locs 50 2278 (lw_Z below #[Value.ref b] s) (F0 m 18 ls []) := by
  obtain ⟨hx, hb, hml, hown, hts, hX, hbl⟩ := id C
  have hbA : ¬ (fun q : Nat => s.heap.size ≤ q) b := Nat.not_le.mpr hbl
  have h6 : (nI Ln - nI 6).toInt = (Ln : Int) - 6 := by have h9 := pk_sub_toInt (a := Ln) (b := 6) (by omega) (by omega); omega
  intro n
  induction n with
  | zero =>
    intro i hi hi2 S L M H locs hP hD hS R ls hl
    refine lv_iload_n hx hb dL_law_18 rfl (lv_at hl 3 rfl) ?_
    refine lv_aload_n hx hb dL_law_19 rfl (lv_at hl 0 rfl) ?_
    refine va_slen hx hb hX hbl hbA hS dL_law_20 ?_
    refine lv_bipush (v := 6) hx hb dL_law_21 (by decide) ?_
    refine lv_isub hx hb dL_law_23 ?_
    refine lv_icmp_gt (tgt := 1251) hx hb dL_law_24 (by decide) (fun c4 => ?_) (fun c4 => ?_)
    · refine lv_iconst (v := 1) hx hb dL_law_1251 (by decide) ?_
      exact va_forget hS.2.2 (lw_ret hx hb hr hlocks dL_law_1252)
    · exfalso; apply c4; show nI Ln - nI 6 < nI i; rw [Int32.lt_iff_toInt_lt, h6, nI_toInt (by omega)]; omega
  | succ n ih =>
    intro i hi hi2 S L M H locs hP hD hS R ls hl
    refine lv_iload_n hx hb dL_law_18 rfl (lv_at hl 3 rfl) ?_
    refine lv_aload_n hx hb dL_law_19 rfl (lv_at hl 0 rfl) ?_
    refine va_slen hx hb hX hbl hbA hS dL_law_20 ?_
    refine lv_bipush (v := 6) hx hb dL_law_21 (by decide) ?_
    refine lv_isub hx hb dL_law_23 ?_
    refine lv_icmp_gt (tgt := 1251) hx hb dL_law_24 (by decide) (fun c4 => ?_) (fun c4 => ?_)
    · refine lv_iconst (v := 1) hx hb dL_law_1251 (by decide) ?_
      exact va_forget hS.2.2 (lw_ret hx hb hr hlocks dL_law_1252)
    · have hi6 : i + 6 ≤ Ln := by
        apply Classical.byContradiction; intro q; apply c4; show nI Ln - nI 6 < nI i; rw [Int32.lt_iff_toInt_lt, h6, nI_toInt (by omega)]; omega
      have kk : ∀ (S9 : Nat → Nat → Int32) (L9 : Nat → Nat → Int64) (M9 : Nat → Nat → Int32) (H9 : Heap) (locs9 : List Loc) (ls9 : Array Slot), va_P (dC, dI) vwCl (wX cI cJ ad S9 L9 ++ wM cI cZ bd M9) H9 → va_S (fun q : Nat => s.heap.size ≤ q) s.heap H9 locs9 → Rel S9 L9 M9 → lv_has ls9 4 [(0, .ref b), (1, .ref (ad 0)), (2, .ref (bd 0)), (3, .int (nI i))] → W p l e room_1 s m #[Value.ref b] below meth c H9 locs9 50 2278 (lw_Z below #[Value.ref b] s) (F0 m 1245 ls9 []) := by
        intro S9 L9 M9 H9 locs9 ls9 hP9 hS9 R9 hl9
        refine lv_iinc (v := nI (i + 6)) (lv' := [(3, .int (nI (i + 6))), (0, .ref b), (1, .ref (ad 0)), (2, .ref (bd 0))]) hx hb dL_law_1245 hl9 (k := 3) rfl (by rw [← nI_add]; rfl) (by decide) rfl (fun ls hl => ?_)
        refine lv_goto (tgt := 18) hx hb dL_law_1248 (by decide) ?_
        exact ih (i + 6) (by omega) (by omega) S9 L9 M9 H9 locs9 hP9 (XM_D hD S9 L9 M9) hS9 R9 ls (lv_sub hl [1, 2, 3, 0] rfl)
      refine lv_aload_n hx hb dL_law_27 rfl (lv_at hl 0 rfl) ?_
      refine lv_iload_n hx hb dL_law_28 rfl (lv_at hl 3 rfl) ?_
      refine va_sld hx hb hX hbl hbA hS (vp_in_nI (n := i) (by omega) (by omega)) dL_law_29 ?_
      refine lv_bipush (v := 31) hx hb dL_law_30 (by decide) ?_
      refine lv_iand hx hb dL_law_32 ?_
      obtain ⟨j, hj, ej⟩ := pk_andE (xs (nI i).toNatClampNeg) (m := 31) 5 (by decide)
      refine nm_i ej.symm ?_
      have hj : j < 32 := hj
      by_cases hj28 : 28 ≤ j
      · refine lv_tableOut (tgt := 1245) hx hb dL_law_33 (Or.inr (by rw [nI_toInt (by omega)]; omega)) (by decide) ?_
        exact kk S L M H locs ls hP hS R hl
      · clear ej
        rcases (show j = 0 ∨ j = 1 ∨ j = 2 ∨ j = 3 ∨ j = 4 ∨ j = 5 ∨ j = 6 ∨ j = 7 ∨ j = 8 ∨ j = 9 ∨ j = 10 ∨ j = 11 ∨ j = 12 ∨ j = 13 ∨ j = 14 ∨ j = 15 ∨ j = 16 ∨ j = 17 ∨ j = 18 ∨ j = 19 ∨ j = 20 ∨ j = 21 ∨ j = 22 ∨ j = 23 ∨ j = 24 ∨ j = 25 ∨ j = 26 ∨ j = 27 by omega) with rfl | rfl | rfl | rfl | rfl | rfl | rfl | rfl | rfl | rfl | rfl | rfl | rfl | rfl | rfl | rfl | rfl | rfl | rfl | rfl | rfl | rfl | rfl | rfl | rfl | rfl | rfl | rfl
        · exact lv_tableIn (tgt := 160) (off := 127) hx hb dL_law_33 (by decide) (by decide) rfl (by decide) (lcase_0 C hL hK hi6 hP hD hS R hl kk)
        · exact lv_tableIn (tgt := 183) (off := 150) hx hb dL_law_33 (by decide) (by decide) rfl (by decide) (lcase_1 C hL hK hi6 hP hD hS R hl kk)
        · exact lv_tableIn (tgt := 236) (off := 203) hx hb dL_law_33 (by decide) (by decide) rfl (by decide) (lcase_2 C hL hK hi6 hP hD hS R hl kk)
        · exact lv_tableIn (tgt := 269) (off := 236) hx hb dL_law_33 (by decide) (by decide) rfl (by decide) (lcase_3 C hL hK hi6 hP hD hS R hl kk)
        · exact lv_tableIn (tgt := 332) (off := 299) hx hb dL_law_33 (by decide) (by decide) rfl (by decide) (lcase_4 C hL hK hi6 hP hD hS R hl kk)
        · exact lv_tableIn (tgt := 375) (off := 342) hx hb dL_law_33 (by decide) (by decide) rfl (by decide) (lcase_5 C hL hK hi6 hP hD hS R hl kk)
        · exact lv_tableIn (tgt := 408) (off := 375) hx hb dL_law_33 (by decide) (by decide) rfl (by decide) (lcase_6 C hL hK hi6 hP hD hS R hl kk)
        · exact lv_tableIn (tgt := 451) (off := 418) hx hb dL_law_33 (by decide) (by decide) rfl (by decide) (lcase_7 C hL hK hi6 hP hD hS R hl kk)
        · exact lv_tableIn (tgt := 484) (off := 451) hx hb dL_law_33 (by decide) (by decide) rfl (by decide) (lcase_8 C hL hK hi6 hP hD hS R hl kk)
        · exact lv_tableIn (tgt := 527) (off := 494) hx hb dL_law_33 (by decide) (by decide) rfl (by decide) (lcase_9 C hL hK hi6 hP hD hS R hl kk)
        · exact lv_tableIn (tgt := 560) (off := 527) hx hb dL_law_33 (by decide) (by decide) rfl (by decide) (lcase_10 C hL hK hi6 hP hD hS R hl kk)
        · exact lv_tableIn (tgt := 603) (off := 570) hx hb dL_law_33 (by decide) (by decide) rfl (by decide) (lcase_11 C hL hK hi6 hP hD hS R hl kk)
        · exact lv_tableIn (tgt := 646) (off := 613) hx hb dL_law_33 (by decide) (by decide) rfl (by decide) (lcase_12 C hL hK hi6 hP hD hS R hl kk)
        · exact lv_tableIn (tgt := 689) (off := 656) hx hb dL_law_33 (by decide) (by decide) rfl (by decide) (lcase_13 C hL hK hi6 hP hD hS R hl kk)
        · exact lv_tableIn (tgt := 742) (off := 709) hx hb dL_law_33 (by decide) (by decide) rfl (by decide) (lcase_14 C hL hK hi6 hP hD hS R hl kk)
        · exact lv_tableIn (tgt := 795) (off := 762) hx hb dL_law_33 (by decide) (by decide) rfl (by decide) (lcase_15 C hL hK hi6 hP hD hS R hl kk)
        · exact lv_tableIn (tgt := 848) (off := 815) hx hb dL_law_33 (by decide) (by decide) rfl (by decide) (lcase_16 C hL hK hi6 hP hD hS R hl kk)
        · exact lv_tableIn (tgt := 901) (off := 868) hx hb dL_law_33 (by decide) (by decide) rfl (by decide) (lcase_17 C hL hK hi6 hP hD hS R hl kk)
        · exact lv_tableIn (tgt := 954) (off := 921) hx hb dL_law_33 (by decide) (by decide) rfl (by decide) (lcase_18 C hL hK hi6 hP hD hS R hl kk)
        · exact lv_tableIn (tgt := 997) (off := 964) hx hb dL_law_33 (by decide) (by decide) rfl (by decide) (lcase_19 C hL hK hi6 hP hD hS R hl kk)
        · exact lv_tableIn (tgt := 1030) (off := 997) hx hb dL_law_33 (by decide) (by decide) rfl (by decide) (lcase_20 C hL hK hi6 hP hD hS R hl kk)
        · exact lv_tableIn (tgt := 1063) (off := 1030) hx hb dL_law_33 (by decide) (by decide) rfl (by decide) (lcase_21 C hL hK hi6 hP hD hS R hl kk)
        · exact lv_tableIn (tgt := 1086) (off := 1053) hx hb dL_law_33 (by decide) (by decide) rfl (by decide) (lcase_22 C hL hK hi6 hP hD hS R hl kk)
        · exact lv_tableIn (tgt := 1099) (off := 1066) hx hb dL_law_33 (by decide) (by decide) rfl (by decide) (lcase_23 C hL hK hi6 hP hD hS R hl kk)
        · exact lv_tableIn (tgt := 1132) (off := 1099) hx hb dL_law_33 (by decide) (by decide) rfl (by decide) (lcase_24 C hL hK hi6 hP hD hS R hl kk)
        · exact lv_tableIn (tgt := 1145) (off := 1112) hx hb dL_law_33 (by decide) (by decide) rfl (by decide) (lcase_25 C hL hK hi6 hP hD hS R hl kk)
        · exact lv_tableIn (tgt := 1208) (off := 1175) hx hb dL_law_33 (by decide) (by decide) rfl (by decide) (lcase_26 C hL hK hi6 hP hD hS R hl kk)
        · exact lv_tableIn (tgt := 1231) (off := 1198) hx hb dL_law_33 (by decide) (by decide) rfl (by decide) (lcase_27 C hL hK hi6 hP hD hS R hl kk)
