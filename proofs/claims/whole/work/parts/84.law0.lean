set_option maxHeartbeats 4000000 in
set_option maxRecDepth 100000 in
theorem lcase_0 {p : Program} {l : Launch} {e : Env} {s : State} {m : MethodId} {below : List Frame} {meth : Method} {c : Code} {b Ln : Nat} {xs : Nat → Int32} (C : LC p s m c b Ln xs) (hL : Ln ≤ 3072) {dC : Nat → ClassId} {dI : Nat → Nat → Nat} {cI cJ cZ : ClassId} {ad bd : Nat → Nat} (hK : va_K (dC, dI) vwCl [(cI, .int), (cJ, .long), (cZ, .boolean)] s) {Q : State → Prop} {i : Nat} (hi : i + 6 ≤ Ln) {S M : Nat → Nat → Int32} {L : Nat → Nat → Int64} {H : Heap} {locs : List Loc} (hP : va_P (dC, dI) vwCl (wX cI cJ ad S L ++ wM cI cZ bd M) H) (hD : va_D (fun q : Nat => s.heap.size ≤ q) (wX cI cJ ad S L ++ wM cI cZ bd M)) (hS : va_S (fun q : Nat => s.heap.size ≤ q) s.heap H locs) (R : Rel S L M) {ls : Array Slot} (hl : lv_has ls 4 [(0, .ref b), (1, .ref (ad 0)), (2, .ref (bd 0)), (3, .int (nI i))]) (kk : ∀ (S9 : Nat → Nat → Int32) (L9 : Nat → Nat → Int64) (M9 : Nat → Nat → Int32) (H9 : Heap) (locs9 : List Loc) (ls9 : Array Slot), va_P (dC, dI) vwCl (wX cI cJ ad S9 L9 ++ wM cI cZ bd M9) H9 → va_S (fun q : Nat => s.heap.size ≤ q) s.heap H9 locs9 → Rel S9 L9 M9 → lv_has ls9 4 [(0, .ref b), (1, .ref (ad 0)), (2, .ref (bd 0)), (3, .int (nI i))] → W p l e room_1 s m #[Value.ref b] below meth c H9 locs9 50 2278 Q (F0 m 1245 ls9 [])) : W p l e room_1 s m #[Value.ref b] below meth c H locs 50 2278 Q (F0 m 160 ls []) := by
  obtain ⟨hx, hb, hml, hown, hts, hX, hbl⟩ := C
  have hA : ∀ q : Nat, s.heap.size ≤ q → (fun q : Nat => s.heap.size ≤ q) q := fun _ h => h
  have hbA : ¬ (fun q : Nat => s.heap.size ≤ q) b := Nat.not_le.mpr hbl
  have hKX := hK.sub (tys' := [(cI, .int), (cJ, .long)]) [0, 1] rfl
  have hKM := hK.sub (tys' := [(cI, .int), (cZ, .boolean)]) [0, 2] rfl
  obtain ⟨r, S1, L1, M1, e1, e2, R1⟩ := op_newCase R (xs (nI (i + 1)).toNatClampNeg)
  refine lv_aload_n hx hb dL_law_160 rfl (lv_at hl 1 rfl) ?_
  refine lv_aload_n hx hb dL_law_161 rfl (lv_at hl 0 rfl) ?_
  refine lv_iload_n hx hb dL_law_162 rfl (lv_at hl 3 rfl) ?_
  refine lv_iconst (v := 1) hx hb dL_law_163 (by decide) ?_
  refine lv_iadd hx hb dL_law_164 ?_
  refine nm_i (x := nI (i + 1)) (by show nI (i + 1) = nI i + nI 1; rw [nI_add]) ?_
  refine va_sld hx hb hX hbl hbA hS (vp_in_nI (n := i + 1) (by omega) (by omega)) dL_law_165 ?_
  have hPX := P_l hP
  have hDX := D_l hD
  have hFr := freeX hD hS hA
  refine va_calli (va_runV (As := [.int (xs (nI (i + 1)).toNatClampNeg)]) (rest := []) ⟨hx, hb, hml, hown, hts⟩ (mX10_newCase l dC dI cI cJ ad (xs (nI (i + 1)).toNatClampNeg) S L H.size e1) (cwV 1 hts gL_law_X10_newCase rfl rfl rfl (by decide +kernel) ⟨(Nat.le_of_ble_eq_true rfl), (Nat.le_of_ble_eq_true rfl)⟩) ⟨QXs_blind, va_recv hKX hPX (ci := 10) (q0 := 0) rfl rfl, fun U hU hW => ⟨rfl, congrArg Array.size hU, QX_at hPX hKX hDX hU hW⟩⟩ rfl rfl hl.1 rfl (lv_room (Nat.le_of_ble_eq_true rfl)) dL_law_166 ⟨(Nat.le_of_ble_eq_true rfl), (Nat.le_of_ble_eq_true rfl)⟩) hS (fun q _ h => hFr q h) hFr (fun r9 u t H1 locs ht hvm hw hB hz1 hk1 hS => ?_)
  obtain ⟨er9, eu9⟩ := Prod.mk.inj hw
  subst er9
  have eu9 := eu9.symm
  subst eu9
  have hP1 : va_P (dC, dI) vwCl (wX cI cJ ad S1 L1) H1 := by rw [← ht]; exact hB
  have hP := joinX hP hD hk1 hP1
  have hD := XM_D hD S1 L1 M
  generalize H1 = H at hP hS ⊢
  refine lv_aload_n hx hb dL_law_169 rfl (lv_at hl 2 rfl) ?_
  refine lv_aload_n hx hb dL_law_170 rfl (lv_at hl 0 rfl) ?_
  refine lv_iload_n hx hb dL_law_171 rfl (lv_at hl 3 rfl) ?_
  refine lv_iconst (v := 1) hx hb dL_law_172 (by decide) ?_
  refine lv_iadd hx hb dL_law_173 ?_
  refine nm_i (x := nI (i + 1)) (by show nI (i + 1) = nI i + nI 1; rw [nI_add]) ?_
  refine va_sld hx hb hX hbl hbA hS (vp_in_nI (n := i + 1) (by omega) (by omega)) dL_law_174 ?_
  have hPM := P_r hP
  have hDM := D_r hD
  have hFr := freeM hD hS hA
  refine va_calli (va_runV (As := [.int (xs (nI (i + 1)).toNatClampNeg)]) (rest := [.int r9]) ⟨hx, hb, hml, hown, hts⟩ (mX11_newCase l dC dI cI cZ bd (xs (nI (i + 1)).toNatClampNeg) M H.size e2) (cwV 1 hts gL_law_X11_newCase rfl rfl rfl (by decide +kernel) ⟨(Nat.le_of_ble_eq_true rfl), (Nat.le_of_ble_eq_true rfl)⟩) ⟨QMs_blind, va_recv hKM hPM (ci := 11) (q0 := 0) rfl rfl, fun U hU hW => ⟨rfl, congrArg Array.size hU, QM_at hPM hKM hDM hU hW⟩⟩ rfl rfl hl.1 rfl (lv_room (Nat.le_of_ble_eq_true rfl)) dL_law_175 ⟨(Nat.le_of_ble_eq_true rfl), (Nat.le_of_ble_eq_true rfl)⟩) hS (fun q _ h => hFr q h) hFr (fun r10 u t H1 locs ht hvm hw hB hz1 hk1 hS => ?_)
  obtain ⟨er9, eu9⟩ := Prod.mk.inj hw
  subst er9
  have eu9 := eu9.symm
  subst eu9
  have hP1 : va_P (dC, dI) vwCl (wM cI cZ bd M1) H1 := by rw [← ht]; exact hB
  have hP := joinM hP hD hk1 hP1
  have hD := XM_D hD S1 L1 M1
  generalize H1 = H at hP hS ⊢
  refine lv_icmp_eq (tgt := 1245) hx hb dL_law_178 (by decide) (fun _ => ?_) (fun c9 => absurd rfl c9)
  exact kk S1 L1 M1 _ _ _ hP hS R1 hl
set_option maxHeartbeats 4000000 in
set_option maxRecDepth 100000 in
theorem lcase_1 {p : Program} {l : Launch} {e : Env} {s : State} {m : MethodId} {below : List Frame} {meth : Method} {c : Code} {b Ln : Nat} {xs : Nat → Int32} (C : LC p s m c b Ln xs) (hL : Ln ≤ 3072) {dC : Nat → ClassId} {dI : Nat → Nat → Nat} {cI cJ cZ : ClassId} {ad bd : Nat → Nat} (hK : va_K (dC, dI) vwCl [(cI, .int), (cJ, .long), (cZ, .boolean)] s) {Q : State → Prop} {i : Nat} (hi : i + 6 ≤ Ln) {S M : Nat → Nat → Int32} {L : Nat → Nat → Int64} {H : Heap} {locs : List Loc} (hP : va_P (dC, dI) vwCl (wX cI cJ ad S L ++ wM cI cZ bd M) H) (hD : va_D (fun q : Nat => s.heap.size ≤ q) (wX cI cJ ad S L ++ wM cI cZ bd M)) (hS : va_S (fun q : Nat => s.heap.size ≤ q) s.heap H locs) (R : Rel S L M) {ls : Array Slot} (hl : lv_has ls 4 [(0, .ref b), (1, .ref (ad 0)), (2, .ref (bd 0)), (3, .int (nI i))]) (kk : ∀ (S9 : Nat → Nat → Int32) (L9 : Nat → Nat → Int64) (M9 : Nat → Nat → Int32) (H9 : Heap) (locs9 : List Loc) (ls9 : Array Slot), va_P (dC, dI) vwCl (wX cI cJ ad S9 L9 ++ wM cI cZ bd M9) H9 → va_S (fun q : Nat => s.heap.size ≤ q) s.heap H9 locs9 → Rel S9 L9 M9 → lv_has ls9 4 [(0, .ref b), (1, .ref (ad 0)), (2, .ref (bd 0)), (3, .int (nI i))] → W p l e room_1 s m #[Value.ref b] below meth c H9 locs9 50 2278 Q (F0 m 1245 ls9 [])) : W p l e room_1 s m #[Value.ref b] below meth c H locs 50 2278 Q (F0 m 183 ls []) := by
  obtain ⟨hx, hb, hml, hown, hts, hX, hbl⟩ := C
  have hA : ∀ q : Nat, s.heap.size ≤ q → (fun q : Nat => s.heap.size ≤ q) q := fun _ h => h
  have hbA : ¬ (fun q : Nat => s.heap.size ≤ q) b := Nat.not_le.mpr hbl
  have hKX := hK.sub (tys' := [(cI, .int), (cJ, .long)]) [0, 1] rfl
  have hKM := hK.sub (tys' := [(cI, .int), (cZ, .boolean)]) [0, 2] rfl
  obtain ⟨r, S1, L1, M1, e1, e2, R1⟩ := op_tie R (xs (nI (i + 1)).toNatClampNeg) (xs (nI (i + 2)).toNatClampNeg) (xs (nI (i + 3)).toNatClampNeg) (xs (nI (i + 4)).toNatClampNeg)
  refine lv_aload_n hx hb dL_law_183 rfl (lv_at hl 1 rfl) ?_
  refine lv_aload_n hx hb dL_law_184 rfl (lv_at hl 0 rfl) ?_
  refine lv_iload_n hx hb dL_law_185 rfl (lv_at hl 3 rfl) ?_
  refine lv_iconst (v := 1) hx hb dL_law_186 (by decide) ?_
  refine lv_iadd hx hb dL_law_187 ?_
  refine nm_i (x := nI (i + 1)) (by show nI (i + 1) = nI i + nI 1; rw [nI_add]) ?_
  refine va_sld hx hb hX hbl hbA hS (vp_in_nI (n := i + 1) (by omega) (by omega)) dL_law_188 ?_
  refine lv_aload_n hx hb dL_law_189 rfl (lv_at hl 0 rfl) ?_
  refine lv_iload_n hx hb dL_law_190 rfl (lv_at hl 3 rfl) ?_
  refine lv_iconst (v := 2) hx hb dL_law_191 (by decide) ?_
  refine lv_iadd hx hb dL_law_192 ?_
  refine nm_i (x := nI (i + 2)) (by show nI (i + 2) = nI i + nI 2; rw [nI_add]) ?_
  refine va_sld hx hb hX hbl hbA hS (vp_in_nI (n := i + 2) (by omega) (by omega)) dL_law_193 ?_
  refine lv_aload_n hx hb dL_law_194 rfl (lv_at hl 0 rfl) ?_
  refine lv_iload_n hx hb dL_law_195 rfl (lv_at hl 3 rfl) ?_
  refine lv_iconst (v := 3) hx hb dL_law_196 (by decide) ?_
  refine lv_iadd hx hb dL_law_197 ?_
  refine nm_i (x := nI (i + 3)) (by show nI (i + 3) = nI i + nI 3; rw [nI_add]) ?_
  refine va_sld hx hb hX hbl hbA hS (vp_in_nI (n := i + 3) (by omega) (by omega)) dL_law_198 ?_
  refine lv_aload_n hx hb dL_law_199 rfl (lv_at hl 0 rfl) ?_
  refine lv_iload_n hx hb dL_law_200 rfl (lv_at hl 3 rfl) ?_
  refine lv_iconst (v := 4) hx hb dL_law_201 (by decide) ?_
  refine lv_iadd hx hb dL_law_202 ?_
  refine nm_i (x := nI (i + 4)) (by show nI (i + 4) = nI i + nI 4; rw [nI_add]) ?_
  refine va_sld hx hb hX hbl hbA hS (vp_in_nI (n := i + 4) (by omega) (by omega)) dL_law_203 ?_
  have hPX := P_l hP
  have hDX := D_l hD
  have hFr := freeX hD hS hA
  refine va_calli (va_runV (As := [.int (xs (nI (i + 1)).toNatClampNeg), .int (xs (nI (i + 2)).toNatClampNeg), .int (xs (nI (i + 3)).toNatClampNeg), .int (xs (nI (i + 4)).toNatClampNeg)]) (rest := []) ⟨hx, hb, hml, hown, hts⟩ (mX10_tie l dC dI cI cJ ad (xs (nI (i + 1)).toNatClampNeg) (xs (nI (i + 2)).toNatClampNeg) (xs (nI (i + 3)).toNatClampNeg) (xs (nI (i + 4)).toNatClampNeg) S L H.size e1) (cwV 4 hts gL_law_X10_tie rfl rfl rfl (by decide +kernel) ⟨(Nat.le_of_ble_eq_true rfl), (Nat.le_of_ble_eq_true rfl)⟩) ⟨QXs_blind, va_recv hKX hPX (ci := 10) (q0 := 0) rfl rfl, fun U hU hW => ⟨rfl, congrArg Array.size hU, QX_at hPX hKX hDX hU hW⟩⟩ rfl rfl hl.1 rfl (lv_room (Nat.le_of_ble_eq_true rfl)) dL_law_204 ⟨(Nat.le_of_ble_eq_true rfl), (Nat.le_of_ble_eq_true rfl)⟩) hS (fun q _ h => hFr q h) hFr (fun r9 u t H1 locs ht hvm hw hB hz1 hk1 hS => ?_)
  obtain ⟨er9, eu9⟩ := Prod.mk.inj hw
  subst er9
  have eu9 := eu9.symm
  subst eu9
  have hP1 : va_P (dC, dI) vwCl (wX cI cJ ad S1 L1) H1 := by rw [← ht]; exact hB
  have hP := joinX hP hD hk1 hP1
  have hD := XM_D hD S1 L1 M
  generalize H1 = H at hP hS ⊢
  refine lv_aload_n hx hb dL_law_207 rfl (lv_at hl 2 rfl) ?_
  refine lv_aload_n hx hb dL_law_208 rfl (lv_at hl 0 rfl) ?_
  refine lv_iload_n hx hb dL_law_209 rfl (lv_at hl 3 rfl) ?_
  refine lv_iconst (v := 1) hx hb dL_law_210 (by decide) ?_
  refine lv_iadd hx hb dL_law_211 ?_
  refine nm_i (x := nI (i + 1)) (by show nI (i + 1) = nI i + nI 1; rw [nI_add]) ?_
  refine va_sld hx hb hX hbl hbA hS (vp_in_nI (n := i + 1) (by omega) (by omega)) dL_law_212 ?_
  refine lv_aload_n hx hb dL_law_213 rfl (lv_at hl 0 rfl) ?_
  refine lv_iload_n hx hb dL_law_214 rfl (lv_at hl 3 rfl) ?_
  refine lv_iconst (v := 2) hx hb dL_law_215 (by decide) ?_
  refine lv_iadd hx hb dL_law_216 ?_
  refine nm_i (x := nI (i + 2)) (by show nI (i + 2) = nI i + nI 2; rw [nI_add]) ?_
  refine va_sld hx hb hX hbl hbA hS (vp_in_nI (n := i + 2) (by omega) (by omega)) dL_law_217 ?_
  refine lv_aload_n hx hb dL_law_218 rfl (lv_at hl 0 rfl) ?_
  refine lv_iload_n hx hb dL_law_219 rfl (lv_at hl 3 rfl) ?_
  refine lv_iconst (v := 3) hx hb dL_law_220 (by decide) ?_
  refine lv_iadd hx hb dL_law_221 ?_
  refine nm_i (x := nI (i + 3)) (by show nI (i + 3) = nI i + nI 3; rw [nI_add]) ?_
  refine va_sld hx hb hX hbl hbA hS (vp_in_nI (n := i + 3) (by omega) (by omega)) dL_law_222 ?_
  refine lv_aload_n hx hb dL_law_223 rfl (lv_at hl 0 rfl) ?_
  refine lv_iload_n hx hb dL_law_224 rfl (lv_at hl 3 rfl) ?_
  refine lv_iconst (v := 4) hx hb dL_law_225 (by decide) ?_
  refine lv_iadd hx hb dL_law_226 ?_
  refine nm_i (x := nI (i + 4)) (by show nI (i + 4) = nI i + nI 4; rw [nI_add]) ?_
  refine va_sld hx hb hX hbl hbA hS (vp_in_nI (n := i + 4) (by omega) (by omega)) dL_law_227 ?_
  have hPM := P_r hP
  have hDM := D_r hD
  have hFr := freeM hD hS hA
  refine va_calli (va_runV (As := [.int (xs (nI (i + 1)).toNatClampNeg), .int (xs (nI (i + 2)).toNatClampNeg), .int (xs (nI (i + 3)).toNatClampNeg), .int (xs (nI (i + 4)).toNatClampNeg)]) (rest := [.int r9]) ⟨hx, hb, hml, hown, hts⟩ (mX11_tie l dC dI cI cZ bd (xs (nI (i + 1)).toNatClampNeg) (xs (nI (i + 2)).toNatClampNeg) (xs (nI (i + 3)).toNatClampNeg) (xs (nI (i + 4)).toNatClampNeg) M H.size e2) (cwV 4 hts gL_law_X11_tie rfl rfl rfl (by decide +kernel) ⟨(Nat.le_of_ble_eq_true rfl), (Nat.le_of_ble_eq_true rfl)⟩) ⟨QMs_blind, va_recv hKM hPM (ci := 11) (q0 := 0) rfl rfl, fun U hU hW => ⟨rfl, congrArg Array.size hU, QM_at hPM hKM hDM hU hW⟩⟩ rfl rfl hl.1 rfl (lv_room (Nat.le_of_ble_eq_true rfl)) dL_law_228 ⟨(Nat.le_of_ble_eq_true rfl), (Nat.le_of_ble_eq_true rfl)⟩) hS (fun q _ h => hFr q h) hFr (fun r10 u t H1 locs ht hvm hw hB hz1 hk1 hS => ?_)
  obtain ⟨er9, eu9⟩ := Prod.mk.inj hw
  subst er9
  have eu9 := eu9.symm
  subst eu9
  have hP1 : va_P (dC, dI) vwCl (wM cI cZ bd M1) H1 := by rw [← ht]; exact hB
  have hP := joinM hP hD hk1 hP1
  have hD := XM_D hD S1 L1 M1
  generalize H1 = H at hP hS ⊢
  refine lv_icmp_eq (tgt := 1245) hx hb dL_law_231 (by decide) (fun _ => ?_) (fun c9 => absurd rfl c9)
  exact kk S1 L1 M1 _ _ _ hP hS R1 hl
set_option maxHeartbeats 4000000 in
set_option maxRecDepth 100000 in
theorem lcase_2 {p : Program} {l : Launch} {e : Env} {s : State} {m : MethodId} {below : List Frame} {meth : Method} {c : Code} {b Ln : Nat} {xs : Nat → Int32} (C : LC p s m c b Ln xs) (hL : Ln ≤ 3072) {dC : Nat → ClassId} {dI : Nat → Nat → Nat} {cI cJ cZ : ClassId} {ad bd : Nat → Nat} (hK : va_K (dC, dI) vwCl [(cI, .int), (cJ, .long), (cZ, .boolean)] s) {Q : State → Prop} {i : Nat} (hi : i + 6 ≤ Ln) {S M : Nat → Nat → Int32} {L : Nat → Nat → Int64} {H : Heap} {locs : List Loc} (hP : va_P (dC, dI) vwCl (wX cI cJ ad S L ++ wM cI cZ bd M) H) (hD : va_D (fun q : Nat => s.heap.size ≤ q) (wX cI cJ ad S L ++ wM cI cZ bd M)) (hS : va_S (fun q : Nat => s.heap.size ≤ q) s.heap H locs) (R : Rel S L M) {ls : Array Slot} (hl : lv_has ls 4 [(0, .ref b), (1, .ref (ad 0)), (2, .ref (bd 0)), (3, .int (nI i))]) (kk : ∀ (S9 : Nat → Nat → Int32) (L9 : Nat → Nat → Int64) (M9 : Nat → Nat → Int32) (H9 : Heap) (locs9 : List Loc) (ls9 : Array Slot), va_P (dC, dI) vwCl (wX cI cJ ad S9 L9 ++ wM cI cZ bd M9) H9 → va_S (fun q : Nat => s.heap.size ≤ q) s.heap H9 locs9 → Rel S9 L9 M9 → lv_has ls9 4 [(0, .ref b), (1, .ref (ad 0)), (2, .ref (bd 0)), (3, .int (nI i))] → W p l e room_1 s m #[Value.ref b] below meth c H9 locs9 50 2278 Q (F0 m 1245 ls9 [])) : W p l e room_1 s m #[Value.ref b] below meth c H locs 50 2278 Q (F0 m 236 ls []) := by
  obtain ⟨hx, hb, hml, hown, hts, hX, hbl⟩ := C
  have hA : ∀ q : Nat, s.heap.size ≤ q → (fun q : Nat => s.heap.size ≤ q) q := fun _ h => h
  have hbA : ¬ (fun q : Nat => s.heap.size ≤ q) b := Nat.not_le.mpr hbl
  have hKX := hK.sub (tys' := [(cI, .int), (cJ, .long)]) [0, 1] rfl
  have hKM := hK.sub (tys' := [(cI, .int), (cZ, .boolean)]) [0, 2] rfl
  obtain ⟨r, M1, e1, e2, R1⟩ := op_which R (xs (nI (i + 1)).toNatClampNeg) (xs (nI (i + 2)).toNatClampNeg)
  refine lv_aload_n hx hb dL_law_236 rfl (lv_at hl 1 rfl) ?_
  refine lv_aload_n hx hb dL_law_237 rfl (lv_at hl 0 rfl) ?_
  refine lv_iload_n hx hb dL_law_238 rfl (lv_at hl 3 rfl) ?_
  refine lv_iconst (v := 1) hx hb dL_law_239 (by decide) ?_
  refine lv_iadd hx hb dL_law_240 ?_
  refine nm_i (x := nI (i + 1)) (by show nI (i + 1) = nI i + nI 1; rw [nI_add]) ?_
  refine va_sld hx hb hX hbl hbA hS (vp_in_nI (n := i + 1) (by omega) (by omega)) dL_law_241 ?_
  refine lv_aload_n hx hb dL_law_242 rfl (lv_at hl 0 rfl) ?_
  refine lv_iload_n hx hb dL_law_243 rfl (lv_at hl 3 rfl) ?_
  refine lv_iconst (v := 2) hx hb dL_law_244 (by decide) ?_
  refine lv_iadd hx hb dL_law_245 ?_
  refine nm_i (x := nI (i + 2)) (by show nI (i + 2) = nI i + nI 2; rw [nI_add]) ?_
  refine va_sld hx hb hX hbl hbA hS (vp_in_nI (n := i + 2) (by omega) (by omega)) dL_law_246 ?_
  have hPX := P_l hP
  have hDX := D_l hD
  refine vp_callSi (W.runV (As := [.int (xs (nI (i + 1)).toNatClampNeg), .int (xs (nI (i + 2)).toNatClampNeg)]) (rest := []) ⟨hx, hb, hml, hown, hts⟩ (mX10_which l dC dI cI cJ ad (xs (nI (i + 1)).toNatClampNeg) (xs (nI (i + 2)).toNatClampNeg) S L e1) (cwV 2 hts gL_law_X10_which rfl rfl rfl (by decide +kernel) ⟨(Nat.le_of_ble_eq_true rfl), (Nat.le_of_ble_eq_true rfl)⟩) ⟨QX_blind, va_recv hKX hPX (ci := 10) (q0 := 0) rfl rfl, fun U hU hW => ⟨rfl, QX_at hPX hKX hDX hU hW⟩⟩ rfl rfl hl.1 rfl (lv_room (Nat.le_of_ble_eq_true rfl)) dL_law_247 ⟨(Nat.le_of_ble_eq_true rfl), (Nat.le_of_ble_eq_true rfl)⟩) (fun r9 er9 => ?_)
  subst er9
  refine lv_aload_n hx hb dL_law_250 rfl (lv_at hl 2 rfl) ?_
  refine lv_aload_n hx hb dL_law_251 rfl (lv_at hl 0 rfl) ?_
  refine lv_iload_n hx hb dL_law_252 rfl (lv_at hl 3 rfl) ?_
  refine lv_iconst (v := 1) hx hb dL_law_253 (by decide) ?_
  refine lv_iadd hx hb dL_law_254 ?_
  refine nm_i (x := nI (i + 1)) (by show nI (i + 1) = nI i + nI 1; rw [nI_add]) ?_
  refine va_sld hx hb hX hbl hbA hS (vp_in_nI (n := i + 1) (by omega) (by omega)) dL_law_255 ?_
  refine lv_aload_n hx hb dL_law_256 rfl (lv_at hl 0 rfl) ?_
  refine lv_iload_n hx hb dL_law_257 rfl (lv_at hl 3 rfl) ?_
  refine lv_iconst (v := 2) hx hb dL_law_258 (by decide) ?_
  refine lv_iadd hx hb dL_law_259 ?_
  refine nm_i (x := nI (i + 2)) (by show nI (i + 2) = nI i + nI 2; rw [nI_add]) ?_
  refine va_sld hx hb hX hbl hbA hS (vp_in_nI (n := i + 2) (by omega) (by omega)) dL_law_260 ?_
  have hPM := P_r hP
  have hDM := D_r hD
  have hFr := freeM hD hS hA
  refine va_calli (va_runV (As := [.int (xs (nI (i + 1)).toNatClampNeg), .int (xs (nI (i + 2)).toNatClampNeg)]) (rest := [.int r9]) ⟨hx, hb, hml, hown, hts⟩ (mX11_which l dC dI cI cZ bd (xs (nI (i + 1)).toNatClampNeg) (xs (nI (i + 2)).toNatClampNeg) M H.size e2) (cwV 2 hts gL_law_X11_which rfl rfl rfl (by decide +kernel) ⟨(Nat.le_of_ble_eq_true rfl), (Nat.le_of_ble_eq_true rfl)⟩) ⟨QMs_blind, va_recv hKM hPM (ci := 11) (q0 := 0) rfl rfl, fun U hU hW => ⟨rfl, congrArg Array.size hU, QM_at hPM hKM hDM hU hW⟩⟩ rfl rfl hl.1 rfl (lv_room (Nat.le_of_ble_eq_true rfl)) dL_law_261 ⟨(Nat.le_of_ble_eq_true rfl), (Nat.le_of_ble_eq_true rfl)⟩) hS (fun q _ h => hFr q h) hFr (fun r10 u t H1 locs ht hvm hw hB hz1 hk1 hS => ?_)
  obtain ⟨er9, eu9⟩ := Prod.mk.inj hw
  subst er9
  have eu9 := eu9.symm
  subst eu9
  have hP1 : va_P (dC, dI) vwCl (wM cI cZ bd M1) H1 := by rw [← ht]; exact hB
  have hP := joinM hP hD hk1 hP1
  have hD := XM_D hD S L M1
  generalize H1 = H at hP hS ⊢
  refine lv_icmp_eq (tgt := 1245) hx hb dL_law_264 (by decide) (fun _ => ?_) (fun c9 => absurd rfl c9)
  exact kk S L M1 _ _ _ hP hS R1 hl
set_option maxHeartbeats 4000000 in
set_option maxRecDepth 100000 in
theorem lcase_3 {p : Program} {l : Launch} {e : Env} {s : State} {m : MethodId} {below : List Frame} {meth : Method} {c : Code} {b Ln : Nat} {xs : Nat → Int32} (C : LC p s m c b Ln xs) (hL : Ln ≤ 3072) {dC : Nat → ClassId} {dI : Nat → Nat → Nat} {cI cJ cZ : ClassId} {ad bd : Nat → Nat} (hK : va_K (dC, dI) vwCl [(cI, .int), (cJ, .long), (cZ, .boolean)] s) {Q : State → Prop} {i : Nat} (hi : i + 6 ≤ Ln) {S M : Nat → Nat → Int32} {L : Nat → Nat → Int64} {H : Heap} {locs : List Loc} (hP : va_P (dC, dI) vwCl (wX cI cJ ad S L ++ wM cI cZ bd M) H) (hD : va_D (fun q : Nat => s.heap.size ≤ q) (wX cI cJ ad S L ++ wM cI cZ bd M)) (hS : va_S (fun q : Nat => s.heap.size ≤ q) s.heap H locs) (R : Rel S L M) {ls : Array Slot} (hl : lv_has ls 4 [(0, .ref b), (1, .ref (ad 0)), (2, .ref (bd 0)), (3, .int (nI i))]) (kk : ∀ (S9 : Nat → Nat → Int32) (L9 : Nat → Nat → Int64) (M9 : Nat → Nat → Int32) (H9 : Heap) (locs9 : List Loc) (ls9 : Array Slot), va_P (dC, dI) vwCl (wX cI cJ ad S9 L9 ++ wM cI cZ bd M9) H9 → va_S (fun q : Nat => s.heap.size ≤ q) s.heap H9 locs9 → Rel S9 L9 M9 → lv_has ls9 4 [(0, .ref b), (1, .ref (ad 0)), (2, .ref (bd 0)), (3, .int (nI i))] → W p l e room_1 s m #[Value.ref b] below meth c H9 locs9 50 2278 Q (F0 m 1245 ls9 [])) : W p l e room_1 s m #[Value.ref b] below meth c H locs 50 2278 Q (F0 m 269 ls []) := by
  obtain ⟨hx, hb, hml, hown, hts, hX, hbl⟩ := C
  have hA : ∀ q : Nat, s.heap.size ≤ q → (fun q : Nat => s.heap.size ≤ q) q := fun _ h => h
  have hbA : ¬ (fun q : Nat => s.heap.size ≤ q) b := Nat.not_le.mpr hbl
  have hKX := hK.sub (tys' := [(cI, .int), (cJ, .long)]) [0, 1] rfl
  have hKM := hK.sub (tys' := [(cI, .int), (cZ, .boolean)]) [0, 2] rfl
  obtain ⟨r, S1, L1, M1, e1, e2, R1⟩ := op_rule R (xs (nI (i + 1)).toNatClampNeg) (xs (nI (i + 2)).toNatClampNeg) (xs (nI (i + 3)).toNatClampNeg) (xs (nI (i + 4)).toNatClampNeg) (xs (nI (i + 5)).toNatClampNeg)
  refine lv_aload_n hx hb dL_law_269 rfl (lv_at hl 1 rfl) ?_
  refine lv_aload_n hx hb dL_law_270 rfl (lv_at hl 0 rfl) ?_
  refine lv_iload_n hx hb dL_law_271 rfl (lv_at hl 3 rfl) ?_
  refine lv_iconst (v := 1) hx hb dL_law_272 (by decide) ?_
  refine lv_iadd hx hb dL_law_273 ?_
  refine nm_i (x := nI (i + 1)) (by show nI (i + 1) = nI i + nI 1; rw [nI_add]) ?_
  refine va_sld hx hb hX hbl hbA hS (vp_in_nI (n := i + 1) (by omega) (by omega)) dL_law_274 ?_
  refine lv_aload_n hx hb dL_law_275 rfl (lv_at hl 0 rfl) ?_
  refine lv_iload_n hx hb dL_law_276 rfl (lv_at hl 3 rfl) ?_
  refine lv_iconst (v := 2) hx hb dL_law_277 (by decide) ?_
  refine lv_iadd hx hb dL_law_278 ?_
  refine nm_i (x := nI (i + 2)) (by show nI (i + 2) = nI i + nI 2; rw [nI_add]) ?_
  refine va_sld hx hb hX hbl hbA hS (vp_in_nI (n := i + 2) (by omega) (by omega)) dL_law_279 ?_
  refine lv_aload_n hx hb dL_law_280 rfl (lv_at hl 0 rfl) ?_
  refine lv_iload_n hx hb dL_law_281 rfl (lv_at hl 3 rfl) ?_
  refine lv_iconst (v := 3) hx hb dL_law_282 (by decide) ?_
  refine lv_iadd hx hb dL_law_283 ?_
  refine nm_i (x := nI (i + 3)) (by show nI (i + 3) = nI i + nI 3; rw [nI_add]) ?_
  refine va_sld hx hb hX hbl hbA hS (vp_in_nI (n := i + 3) (by omega) (by omega)) dL_law_284 ?_
  refine lv_aload_n hx hb dL_law_285 rfl (lv_at hl 0 rfl) ?_
  refine lv_iload_n hx hb dL_law_286 rfl (lv_at hl 3 rfl) ?_
  refine lv_iconst (v := 4) hx hb dL_law_287 (by decide) ?_
  refine lv_iadd hx hb dL_law_288 ?_
  refine nm_i (x := nI (i + 4)) (by show nI (i + 4) = nI i + nI 4; rw [nI_add]) ?_
  refine va_sld hx hb hX hbl hbA hS (vp_in_nI (n := i + 4) (by omega) (by omega)) dL_law_289 ?_
  refine lv_aload_n hx hb dL_law_290 rfl (lv_at hl 0 rfl) ?_
  refine lv_iload_n hx hb dL_law_291 rfl (lv_at hl 3 rfl) ?_
  refine lv_iconst (v := 5) hx hb dL_law_292 (by decide) ?_
  refine lv_iadd hx hb dL_law_293 ?_
  refine nm_i (x := nI (i + 5)) (by show nI (i + 5) = nI i + nI 5; rw [nI_add]) ?_
  refine va_sld hx hb hX hbl hbA hS (vp_in_nI (n := i + 5) (by omega) (by omega)) dL_law_294 ?_
  have hPX := P_l hP
  have hDX := D_l hD
  have hFr := freeX hD hS hA
  refine va_calli (va_runV (As := [.int (xs (nI (i + 1)).toNatClampNeg), .int (xs (nI (i + 2)).toNatClampNeg), .int (xs (nI (i + 3)).toNatClampNeg), .int (xs (nI (i + 4)).toNatClampNeg), .int (xs (nI (i + 5)).toNatClampNeg)]) (rest := []) ⟨hx, hb, hml, hown, hts⟩ (mX10_rule l dC dI cI cJ ad (xs (nI (i + 1)).toNatClampNeg) (xs (nI (i + 2)).toNatClampNeg) (xs (nI (i + 3)).toNatClampNeg) (xs (nI (i + 4)).toNatClampNeg) (xs (nI (i + 5)).toNatClampNeg) S L H.size e1) (cwV 5 hts gL_law_X10_rule rfl rfl rfl (by decide +kernel) ⟨(Nat.le_of_ble_eq_true rfl), (Nat.le_of_ble_eq_true rfl)⟩) ⟨QXs_blind, va_recv hKX hPX (ci := 10) (q0 := 0) rfl rfl, fun U hU hW => ⟨rfl, congrArg Array.size hU, QX_at hPX hKX hDX hU hW⟩⟩ rfl rfl hl.1 rfl (lv_room (Nat.le_of_ble_eq_true rfl)) dL_law_295 ⟨(Nat.le_of_ble_eq_true rfl), (Nat.le_of_ble_eq_true rfl)⟩) hS (fun q _ h => hFr q h) hFr (fun r9 u t H1 locs ht hvm hw hB hz1 hk1 hS => ?_)
  obtain ⟨er9, eu9⟩ := Prod.mk.inj hw
  subst er9
  have eu9 := eu9.symm
  subst eu9
  have hP1 : va_P (dC, dI) vwCl (wX cI cJ ad S1 L1) H1 := by rw [← ht]; exact hB
  have hP := joinX hP hD hk1 hP1
  have hD := XM_D hD S1 L1 M
  generalize H1 = H at hP hS ⊢
  refine lv_aload_n hx hb dL_law_298 rfl (lv_at hl 2 rfl) ?_
  refine lv_aload_n hx hb dL_law_299 rfl (lv_at hl 0 rfl) ?_
  refine lv_iload_n hx hb dL_law_300 rfl (lv_at hl 3 rfl) ?_
  refine lv_iconst (v := 1) hx hb dL_law_301 (by decide) ?_
  refine lv_iadd hx hb dL_law_302 ?_
  refine nm_i (x := nI (i + 1)) (by show nI (i + 1) = nI i + nI 1; rw [nI_add]) ?_
  refine va_sld hx hb hX hbl hbA hS (vp_in_nI (n := i + 1) (by omega) (by omega)) dL_law_303 ?_
  refine lv_aload_n hx hb dL_law_304 rfl (lv_at hl 0 rfl) ?_
  refine lv_iload_n hx hb dL_law_305 rfl (lv_at hl 3 rfl) ?_
  refine lv_iconst (v := 2) hx hb dL_law_306 (by decide) ?_
  refine lv_iadd hx hb dL_law_307 ?_
  refine nm_i (x := nI (i + 2)) (by show nI (i + 2) = nI i + nI 2; rw [nI_add]) ?_
  refine va_sld hx hb hX hbl hbA hS (vp_in_nI (n := i + 2) (by omega) (by omega)) dL_law_308 ?_
  refine lv_aload_n hx hb dL_law_309 rfl (lv_at hl 0 rfl) ?_
  refine lv_iload_n hx hb dL_law_310 rfl (lv_at hl 3 rfl) ?_
  refine lv_iconst (v := 3) hx hb dL_law_311 (by decide) ?_
  refine lv_iadd hx hb dL_law_312 ?_
  refine nm_i (x := nI (i + 3)) (by show nI (i + 3) = nI i + nI 3; rw [nI_add]) ?_
  refine va_sld hx hb hX hbl hbA hS (vp_in_nI (n := i + 3) (by omega) (by omega)) dL_law_313 ?_
  refine lv_aload_n hx hb dL_law_314 rfl (lv_at hl 0 rfl) ?_
  refine lv_iload_n hx hb dL_law_315 rfl (lv_at hl 3 rfl) ?_
  refine lv_iconst (v := 4) hx hb dL_law_316 (by decide) ?_
  refine lv_iadd hx hb dL_law_317 ?_
  refine nm_i (x := nI (i + 4)) (by show nI (i + 4) = nI i + nI 4; rw [nI_add]) ?_
  refine va_sld hx hb hX hbl hbA hS (vp_in_nI (n := i + 4) (by omega) (by omega)) dL_law_318 ?_
  refine lv_aload_n hx hb dL_law_319 rfl (lv_at hl 0 rfl) ?_
  refine lv_iload_n hx hb dL_law_320 rfl (lv_at hl 3 rfl) ?_
  refine lv_iconst (v := 5) hx hb dL_law_321 (by decide) ?_
  refine lv_iadd hx hb dL_law_322 ?_
  refine nm_i (x := nI (i + 5)) (by show nI (i + 5) = nI i + nI 5; rw [nI_add]) ?_
  refine va_sld hx hb hX hbl hbA hS (vp_in_nI (n := i + 5) (by omega) (by omega)) dL_law_323 ?_
  have hPM := P_r hP
  have hDM := D_r hD
  have hFr := freeM hD hS hA
  refine va_calli (va_runV (As := [.int (xs (nI (i + 1)).toNatClampNeg), .int (xs (nI (i + 2)).toNatClampNeg), .int (xs (nI (i + 3)).toNatClampNeg), .int (xs (nI (i + 4)).toNatClampNeg), .int (xs (nI (i + 5)).toNatClampNeg)]) (rest := [.int r9]) ⟨hx, hb, hml, hown, hts⟩ (mX11_rule l dC dI cI cZ bd (xs (nI (i + 1)).toNatClampNeg) (xs (nI (i + 2)).toNatClampNeg) (xs (nI (i + 3)).toNatClampNeg) (xs (nI (i + 4)).toNatClampNeg) (xs (nI (i + 5)).toNatClampNeg) M H.size e2) (cwV 5 hts gL_law_X11_rule rfl rfl rfl (by decide +kernel) ⟨(Nat.le_of_ble_eq_true rfl), (Nat.le_of_ble_eq_true rfl)⟩) ⟨QMs_blind, va_recv hKM hPM (ci := 11) (q0 := 0) rfl rfl, fun U hU hW => ⟨rfl, congrArg Array.size hU, QM_at hPM hKM hDM hU hW⟩⟩ rfl rfl hl.1 rfl (lv_room (Nat.le_of_ble_eq_true rfl)) dL_law_324 ⟨(Nat.le_of_ble_eq_true rfl), (Nat.le_of_ble_eq_true rfl)⟩) hS (fun q _ h => hFr q h) hFr (fun r10 u t H1 locs ht hvm hw hB hz1 hk1 hS => ?_)
  obtain ⟨er9, eu9⟩ := Prod.mk.inj hw
  subst er9
  have eu9 := eu9.symm
  subst eu9
  have hP1 : va_P (dC, dI) vwCl (wM cI cZ bd M1) H1 := by rw [← ht]; exact hB
  have hP := joinM hP hD hk1 hP1
  have hD := XM_D hD S1 L1 M1
  generalize H1 = H at hP hS ⊢
  refine lv_icmp_eq (tgt := 1245) hx hb dL_law_327 (by decide) (fun _ => ?_) (fun c9 => absurd rfl c9)
  exact kk S1 L1 M1 _ _ _ hP hS R1 hl
set_option maxHeartbeats 4000000 in
set_option maxRecDepth 100000 in
theorem lcase_4 {p : Program} {l : Launch} {e : Env} {s : State} {m : MethodId} {below : List Frame} {meth : Method} {c : Code} {b Ln : Nat} {xs : Nat → Int32} (C : LC p s m c b Ln xs) (hL : Ln ≤ 3072) {dC : Nat → ClassId} {dI : Nat → Nat → Nat} {cI cJ cZ : ClassId} {ad bd : Nat → Nat} (hK : va_K (dC, dI) vwCl [(cI, .int), (cJ, .long), (cZ, .boolean)] s) {Q : State → Prop} {i : Nat} (hi : i + 6 ≤ Ln) {S M : Nat → Nat → Int32} {L : Nat → Nat → Int64} {H : Heap} {locs : List Loc} (hP : va_P (dC, dI) vwCl (wX cI cJ ad S L ++ wM cI cZ bd M) H) (hD : va_D (fun q : Nat => s.heap.size ≤ q) (wX cI cJ ad S L ++ wM cI cZ bd M)) (hS : va_S (fun q : Nat => s.heap.size ≤ q) s.heap H locs) (R : Rel S L M) {ls : Array Slot} (hl : lv_has ls 4 [(0, .ref b), (1, .ref (ad 0)), (2, .ref (bd 0)), (3, .int (nI i))]) (kk : ∀ (S9 : Nat → Nat → Int32) (L9 : Nat → Nat → Int64) (M9 : Nat → Nat → Int32) (H9 : Heap) (locs9 : List Loc) (ls9 : Array Slot), va_P (dC, dI) vwCl (wX cI cJ ad S9 L9 ++ wM cI cZ bd M9) H9 → va_S (fun q : Nat => s.heap.size ≤ q) s.heap H9 locs9 → Rel S9 L9 M9 → lv_has ls9 4 [(0, .ref b), (1, .ref (ad 0)), (2, .ref (bd 0)), (3, .int (nI i))] → W p l e room_1 s m #[Value.ref b] below meth c H9 locs9 50 2278 Q (F0 m 1245 ls9 [])) : W p l e room_1 s m #[Value.ref b] below meth c H locs 50 2278 Q (F0 m 332 ls []) := by
  obtain ⟨hx, hb, hml, hown, hts, hX, hbl⟩ := C
  have hA : ∀ q : Nat, s.heap.size ≤ q → (fun q : Nat => s.heap.size ≤ q) q := fun _ h => h
  have hbA : ¬ (fun q : Nat => s.heap.size ≤ q) b := Nat.not_le.mpr hbl
  have hKX := hK.sub (tys' := [(cI, .int), (cJ, .long)]) [0, 1] rfl
  have hKM := hK.sub (tys' := [(cI, .int), (cZ, .boolean)]) [0, 2] rfl
  obtain ⟨r, S1, L1, M1, e1, e2, R1⟩ := op_test R (xs (nI (i + 1)).toNatClampNeg) (xs (nI (i + 2)).toNatClampNeg) (xs (nI (i + 3)).toNatClampNeg)
  refine lv_aload_n hx hb dL_law_332 rfl (lv_at hl 1 rfl) ?_
  refine lv_aload_n hx hb dL_law_333 rfl (lv_at hl 0 rfl) ?_
  refine lv_iload_n hx hb dL_law_334 rfl (lv_at hl 3 rfl) ?_
  refine lv_iconst (v := 1) hx hb dL_law_335 (by decide) ?_
  refine lv_iadd hx hb dL_law_336 ?_
  refine nm_i (x := nI (i + 1)) (by show nI (i + 1) = nI i + nI 1; rw [nI_add]) ?_
  refine va_sld hx hb hX hbl hbA hS (vp_in_nI (n := i + 1) (by omega) (by omega)) dL_law_337 ?_
  refine lv_aload_n hx hb dL_law_338 rfl (lv_at hl 0 rfl) ?_
  refine lv_iload_n hx hb dL_law_339 rfl (lv_at hl 3 rfl) ?_
  refine lv_iconst (v := 2) hx hb dL_law_340 (by decide) ?_
  refine lv_iadd hx hb dL_law_341 ?_
  refine nm_i (x := nI (i + 2)) (by show nI (i + 2) = nI i + nI 2; rw [nI_add]) ?_
  refine va_sld hx hb hX hbl hbA hS (vp_in_nI (n := i + 2) (by omega) (by omega)) dL_law_342 ?_
  refine lv_aload_n hx hb dL_law_343 rfl (lv_at hl 0 rfl) ?_
  refine lv_iload_n hx hb dL_law_344 rfl (lv_at hl 3 rfl) ?_
  refine lv_iconst (v := 3) hx hb dL_law_345 (by decide) ?_
  refine lv_iadd hx hb dL_law_346 ?_
  refine nm_i (x := nI (i + 3)) (by show nI (i + 3) = nI i + nI 3; rw [nI_add]) ?_
  refine va_sld hx hb hX hbl hbA hS (vp_in_nI (n := i + 3) (by omega) (by omega)) dL_law_347 ?_
  have hPX := P_l hP
  have hDX := D_l hD
  have hFr := freeX hD hS hA
  refine va_calli (va_runV (As := [.int (xs (nI (i + 1)).toNatClampNeg), .int (xs (nI (i + 2)).toNatClampNeg), .int (xs (nI (i + 3)).toNatClampNeg)]) (rest := []) ⟨hx, hb, hml, hown, hts⟩ (mX10_test l dC dI cI cJ ad (xs (nI (i + 1)).toNatClampNeg) (xs (nI (i + 2)).toNatClampNeg) (xs (nI (i + 3)).toNatClampNeg) S L H.size e1) (cwV 3 hts gL_law_X10_test rfl rfl rfl (by decide +kernel) ⟨(Nat.le_of_ble_eq_true rfl), (Nat.le_of_ble_eq_true rfl)⟩) ⟨QXs_blind, va_recv hKX hPX (ci := 10) (q0 := 0) rfl rfl, fun U hU hW => ⟨rfl, congrArg Array.size hU, QX_at hPX hKX hDX hU hW⟩⟩ rfl rfl hl.1 rfl (lv_room (Nat.le_of_ble_eq_true rfl)) dL_law_348 ⟨(Nat.le_of_ble_eq_true rfl), (Nat.le_of_ble_eq_true rfl)⟩) hS (fun q _ h => hFr q h) hFr (fun r9 u t H1 locs ht hvm hw hB hz1 hk1 hS => ?_)
  obtain ⟨er9, eu9⟩ := Prod.mk.inj hw
  subst er9
  have eu9 := eu9.symm
  subst eu9
  have hP1 : va_P (dC, dI) vwCl (wX cI cJ ad S1 L1) H1 := by rw [← ht]; exact hB
  have hP := joinX hP hD hk1 hP1
  have hD := XM_D hD S1 L1 M
  generalize H1 = H at hP hS ⊢
  refine lv_aload_n hx hb dL_law_351 rfl (lv_at hl 2 rfl) ?_
  refine lv_aload_n hx hb dL_law_352 rfl (lv_at hl 0 rfl) ?_
  refine lv_iload_n hx hb dL_law_353 rfl (lv_at hl 3 rfl) ?_
  refine lv_iconst (v := 1) hx hb dL_law_354 (by decide) ?_
  refine lv_iadd hx hb dL_law_355 ?_
  refine nm_i (x := nI (i + 1)) (by show nI (i + 1) = nI i + nI 1; rw [nI_add]) ?_
  refine va_sld hx hb hX hbl hbA hS (vp_in_nI (n := i + 1) (by omega) (by omega)) dL_law_356 ?_
  refine lv_aload_n hx hb dL_law_357 rfl (lv_at hl 0 rfl) ?_
  refine lv_iload_n hx hb dL_law_358 rfl (lv_at hl 3 rfl) ?_
  refine lv_iconst (v := 2) hx hb dL_law_359 (by decide) ?_
  refine lv_iadd hx hb dL_law_360 ?_
  refine nm_i (x := nI (i + 2)) (by show nI (i + 2) = nI i + nI 2; rw [nI_add]) ?_
  refine va_sld hx hb hX hbl hbA hS (vp_in_nI (n := i + 2) (by omega) (by omega)) dL_law_361 ?_
  refine lv_aload_n hx hb dL_law_362 rfl (lv_at hl 0 rfl) ?_
  refine lv_iload_n hx hb dL_law_363 rfl (lv_at hl 3 rfl) ?_
  refine lv_iconst (v := 3) hx hb dL_law_364 (by decide) ?_
  refine lv_iadd hx hb dL_law_365 ?_
  refine nm_i (x := nI (i + 3)) (by show nI (i + 3) = nI i + nI 3; rw [nI_add]) ?_
  refine va_sld hx hb hX hbl hbA hS (vp_in_nI (n := i + 3) (by omega) (by omega)) dL_law_366 ?_
  have hPM := P_r hP
  have hDM := D_r hD
  have hFr := freeM hD hS hA
  refine va_calli (va_runV (As := [.int (xs (nI (i + 1)).toNatClampNeg), .int (xs (nI (i + 2)).toNatClampNeg), .int (xs (nI (i + 3)).toNatClampNeg)]) (rest := [.int r9]) ⟨hx, hb, hml, hown, hts⟩ (mX11_test l dC dI cI cZ bd (xs (nI (i + 1)).toNatClampNeg) (xs (nI (i + 2)).toNatClampNeg) (xs (nI (i + 3)).toNatClampNeg) M H.size e2) (cwV 3 hts gL_law_X11_test rfl rfl rfl (by decide +kernel) ⟨(Nat.le_of_ble_eq_true rfl), (Nat.le_of_ble_eq_true rfl)⟩) ⟨QMs_blind, va_recv hKM hPM (ci := 11) (q0 := 0) rfl rfl, fun U hU hW => ⟨rfl, congrArg Array.size hU, QM_at hPM hKM hDM hU hW⟩⟩ rfl rfl hl.1 rfl (lv_room (Nat.le_of_ble_eq_true rfl)) dL_law_367 ⟨(Nat.le_of_ble_eq_true rfl), (Nat.le_of_ble_eq_true rfl)⟩) hS (fun q _ h => hFr q h) hFr (fun r10 u t H1 locs ht hvm hw hB hz1 hk1 hS => ?_)
  obtain ⟨er9, eu9⟩ := Prod.mk.inj hw
  subst er9
  have eu9 := eu9.symm
  subst eu9
  have hP1 : va_P (dC, dI) vwCl (wM cI cZ bd M1) H1 := by rw [← ht]; exact hB
  have hP := joinM hP hD hk1 hP1
  have hD := XM_D hD S1 L1 M1
  generalize H1 = H at hP hS ⊢
  refine lv_icmp_eq (tgt := 1245) hx hb dL_law_370 (by decide) (fun _ => ?_) (fun c9 => absurd rfl c9)
  exact kk S1 L1 M1 _ _ _ hP hS R1 hl
set_option maxHeartbeats 4000000 in
set_option maxRecDepth 100000 in
theorem lcase_5 {p : Program} {l : Launch} {e : Env} {s : State} {m : MethodId} {below : List Frame} {meth : Method} {c : Code} {b Ln : Nat} {xs : Nat → Int32} (C : LC p s m c b Ln xs) (hL : Ln ≤ 3072) {dC : Nat → ClassId} {dI : Nat → Nat → Nat} {cI cJ cZ : ClassId} {ad bd : Nat → Nat} (hK : va_K (dC, dI) vwCl [(cI, .int), (cJ, .long), (cZ, .boolean)] s) {Q : State → Prop} {i : Nat} (hi : i + 6 ≤ Ln) {S M : Nat → Nat → Int32} {L : Nat → Nat → Int64} {H : Heap} {locs : List Loc} (hP : va_P (dC, dI) vwCl (wX cI cJ ad S L ++ wM cI cZ bd M) H) (hD : va_D (fun q : Nat => s.heap.size ≤ q) (wX cI cJ ad S L ++ wM cI cZ bd M)) (hS : va_S (fun q : Nat => s.heap.size ≤ q) s.heap H locs) (R : Rel S L M) {ls : Array Slot} (hl : lv_has ls 4 [(0, .ref b), (1, .ref (ad 0)), (2, .ref (bd 0)), (3, .int (nI i))]) (kk : ∀ (S9 : Nat → Nat → Int32) (L9 : Nat → Nat → Int64) (M9 : Nat → Nat → Int32) (H9 : Heap) (locs9 : List Loc) (ls9 : Array Slot), va_P (dC, dI) vwCl (wX cI cJ ad S9 L9 ++ wM cI cZ bd M9) H9 → va_S (fun q : Nat => s.heap.size ≤ q) s.heap H9 locs9 → Rel S9 L9 M9 → lv_has ls9 4 [(0, .ref b), (1, .ref (ad 0)), (2, .ref (bd 0)), (3, .int (nI i))] → W p l e room_1 s m #[Value.ref b] below meth c H9 locs9 50 2278 Q (F0 m 1245 ls9 [])) : W p l e room_1 s m #[Value.ref b] below meth c H locs 50 2278 Q (F0 m 375 ls []) := by
  obtain ⟨hx, hb, hml, hown, hts, hX, hbl⟩ := C
  have hA : ∀ q : Nat, s.heap.size ≤ q → (fun q : Nat => s.heap.size ≤ q) q := fun _ h => h
  have hbA : ¬ (fun q : Nat => s.heap.size ≤ q) b := Nat.not_le.mpr hbl
  have hKX := hK.sub (tys' := [(cI, .int), (cJ, .long)]) [0, 1] rfl
  have hKM := hK.sub (tys' := [(cI, .int), (cZ, .boolean)]) [0, 2] rfl
  obtain ⟨r, S1, L1, M1, e1, e2, R1⟩ := op_strike R (xs (nI (i + 1)).toNatClampNeg) (xs (nI (i + 2)).toNatClampNeg)
  refine lv_aload_n hx hb dL_law_375 rfl (lv_at hl 1 rfl) ?_
  refine lv_aload_n hx hb dL_law_376 rfl (lv_at hl 0 rfl) ?_
  refine lv_iload_n hx hb dL_law_377 rfl (lv_at hl 3 rfl) ?_
  refine lv_iconst (v := 1) hx hb dL_law_378 (by decide) ?_
  refine lv_iadd hx hb dL_law_379 ?_
  refine nm_i (x := nI (i + 1)) (by show nI (i + 1) = nI i + nI 1; rw [nI_add]) ?_
  refine va_sld hx hb hX hbl hbA hS (vp_in_nI (n := i + 1) (by omega) (by omega)) dL_law_380 ?_
  refine lv_aload_n hx hb dL_law_381 rfl (lv_at hl 0 rfl) ?_
  refine lv_iload_n hx hb dL_law_382 rfl (lv_at hl 3 rfl) ?_
  refine lv_iconst (v := 2) hx hb dL_law_383 (by decide) ?_
  refine lv_iadd hx hb dL_law_384 ?_
  refine nm_i (x := nI (i + 2)) (by show nI (i + 2) = nI i + nI 2; rw [nI_add]) ?_
  refine va_sld hx hb hX hbl hbA hS (vp_in_nI (n := i + 2) (by omega) (by omega)) dL_law_385 ?_
  have hPX := P_l hP
  have hDX := D_l hD
  have hFr := freeX hD hS hA
  refine va_calli (va_runV (As := [.int (xs (nI (i + 1)).toNatClampNeg), .int (xs (nI (i + 2)).toNatClampNeg)]) (rest := []) ⟨hx, hb, hml, hown, hts⟩ (mX10_strike l dC dI cI cJ ad (xs (nI (i + 1)).toNatClampNeg) (xs (nI (i + 2)).toNatClampNeg) S L H.size e1) (cwV 2 hts gL_law_X10_strike rfl rfl rfl (by decide +kernel) ⟨(Nat.le_of_ble_eq_true rfl), (Nat.le_of_ble_eq_true rfl)⟩) ⟨QXs_blind, va_recv hKX hPX (ci := 10) (q0 := 0) rfl rfl, fun U hU hW => ⟨rfl, congrArg Array.size hU, QX_at hPX hKX hDX hU hW⟩⟩ rfl rfl hl.1 rfl (lv_room (Nat.le_of_ble_eq_true rfl)) dL_law_386 ⟨(Nat.le_of_ble_eq_true rfl), (Nat.le_of_ble_eq_true rfl)⟩) hS (fun q _ h => hFr q h) hFr (fun r9 u t H1 locs ht hvm hw hB hz1 hk1 hS => ?_)
  obtain ⟨er9, eu9⟩ := Prod.mk.inj hw
  subst er9
  have eu9 := eu9.symm
  subst eu9
  have hP1 : va_P (dC, dI) vwCl (wX cI cJ ad S1 L1) H1 := by rw [← ht]; exact hB
  have hP := joinX hP hD hk1 hP1
  have hD := XM_D hD S1 L1 M
  generalize H1 = H at hP hS ⊢
  refine lv_aload_n hx hb dL_law_389 rfl (lv_at hl 2 rfl) ?_
  refine lv_aload_n hx hb dL_law_390 rfl (lv_at hl 0 rfl) ?_
  refine lv_iload_n hx hb dL_law_391 rfl (lv_at hl 3 rfl) ?_
  refine lv_iconst (v := 1) hx hb dL_law_392 (by decide) ?_
  refine lv_iadd hx hb dL_law_393 ?_
  refine nm_i (x := nI (i + 1)) (by show nI (i + 1) = nI i + nI 1; rw [nI_add]) ?_
  refine va_sld hx hb hX hbl hbA hS (vp_in_nI (n := i + 1) (by omega) (by omega)) dL_law_394 ?_
  refine lv_aload_n hx hb dL_law_395 rfl (lv_at hl 0 rfl) ?_
  refine lv_iload_n hx hb dL_law_396 rfl (lv_at hl 3 rfl) ?_
  refine lv_iconst (v := 2) hx hb dL_law_397 (by decide) ?_
  refine lv_iadd hx hb dL_law_398 ?_
  refine nm_i (x := nI (i + 2)) (by show nI (i + 2) = nI i + nI 2; rw [nI_add]) ?_
  refine va_sld hx hb hX hbl hbA hS (vp_in_nI (n := i + 2) (by omega) (by omega)) dL_law_399 ?_
  have hPM := P_r hP
  have hDM := D_r hD
  have hFr := freeM hD hS hA
  refine va_calli (va_runV (As := [.int (xs (nI (i + 1)).toNatClampNeg), .int (xs (nI (i + 2)).toNatClampNeg)]) (rest := [.int r9]) ⟨hx, hb, hml, hown, hts⟩ (mX11_strike l dC dI cI cZ bd (xs (nI (i + 1)).toNatClampNeg) (xs (nI (i + 2)).toNatClampNeg) M H.size e2) (cwV 2 hts gL_law_X11_strike rfl rfl rfl (by decide +kernel) ⟨(Nat.le_of_ble_eq_true rfl), (Nat.le_of_ble_eq_true rfl)⟩) ⟨QMs_blind, va_recv hKM hPM (ci := 11) (q0 := 0) rfl rfl, fun U hU hW => ⟨rfl, congrArg Array.size hU, QM_at hPM hKM hDM hU hW⟩⟩ rfl rfl hl.1 rfl (lv_room (Nat.le_of_ble_eq_true rfl)) dL_law_400 ⟨(Nat.le_of_ble_eq_true rfl), (Nat.le_of_ble_eq_true rfl)⟩) hS (fun q _ h => hFr q h) hFr (fun r10 u t H1 locs ht hvm hw hB hz1 hk1 hS => ?_)
  obtain ⟨er9, eu9⟩ := Prod.mk.inj hw
  subst er9
  have eu9 := eu9.symm
  subst eu9
  have hP1 : va_P (dC, dI) vwCl (wM cI cZ bd M1) H1 := by rw [← ht]; exact hB
  have hP := joinM hP hD hk1 hP1
  have hD := XM_D hD S1 L1 M1
  generalize H1 = H at hP hS ⊢
  refine lv_icmp_eq (tgt := 1245) hx hb dL_law_403 (by decide) (fun _ => ?_) (fun c9 => absurd rfl c9)
  exact kk S1 L1 M1 _ _ _ hP hS R1 hl
set_option maxHeartbeats 4000000 in
set_option maxRecDepth 100000 in
theorem lcase_6 {p : Program} {l : Launch} {e : Env} {s : State} {m : MethodId} {below : List Frame} {meth : Method} {c : Code} {b Ln : Nat} {xs : Nat → Int32} (C : LC p s m c b Ln xs) (hL : Ln ≤ 3072) {dC : Nat → ClassId} {dI : Nat → Nat → Nat} {cI cJ cZ : ClassId} {ad bd : Nat → Nat} (hK : va_K (dC, dI) vwCl [(cI, .int), (cJ, .long), (cZ, .boolean)] s) {Q : State → Prop} {i : Nat} (hi : i + 6 ≤ Ln) {S M : Nat → Nat → Int32} {L : Nat → Nat → Int64} {H : Heap} {locs : List Loc} (hP : va_P (dC, dI) vwCl (wX cI cJ ad S L ++ wM cI cZ bd M) H) (hD : va_D (fun q : Nat => s.heap.size ≤ q) (wX cI cJ ad S L ++ wM cI cZ bd M)) (hS : va_S (fun q : Nat => s.heap.size ≤ q) s.heap H locs) (R : Rel S L M) {ls : Array Slot} (hl : lv_has ls 4 [(0, .ref b), (1, .ref (ad 0)), (2, .ref (bd 0)), (3, .int (nI i))]) (kk : ∀ (S9 : Nat → Nat → Int32) (L9 : Nat → Nat → Int64) (M9 : Nat → Nat → Int32) (H9 : Heap) (locs9 : List Loc) (ls9 : Array Slot), va_P (dC, dI) vwCl (wX cI cJ ad S9 L9 ++ wM cI cZ bd M9) H9 → va_S (fun q : Nat => s.heap.size ≤ q) s.heap H9 locs9 → Rel S9 L9 M9 → lv_has ls9 4 [(0, .ref b), (1, .ref (ad 0)), (2, .ref (bd 0)), (3, .int (nI i))] → W p l e room_1 s m #[Value.ref b] below meth c H9 locs9 50 2278 Q (F0 m 1245 ls9 [])) : W p l e room_1 s m #[Value.ref b] below meth c H locs 50 2278 Q (F0 m 408 ls []) := by
  obtain ⟨hx, hb, hml, hown, hts, hX, hbl⟩ := C
  have hA : ∀ q : Nat, s.heap.size ≤ q → (fun q : Nat => s.heap.size ≤ q) q := fun _ h => h
  have hbA : ¬ (fun q : Nat => s.heap.size ≤ q) b := Nat.not_le.mpr hbl
  have hKX := hK.sub (tys' := [(cI, .int), (cJ, .long)]) [0, 1] rfl
  have hKM := hK.sub (tys' := [(cI, .int), (cZ, .boolean)]) [0, 2] rfl
  obtain ⟨r, S1, L1, M1, e1, e2, R1⟩ := op_sort R (xs (nI (i + 1)).toNatClampNeg) (xs (nI (i + 2)).toNatClampNeg) (xs (nI (i + 3)).toNatClampNeg)
  refine lv_aload_n hx hb dL_law_408 rfl (lv_at hl 1 rfl) ?_
  refine lv_aload_n hx hb dL_law_409 rfl (lv_at hl 0 rfl) ?_
  refine lv_iload_n hx hb dL_law_410 rfl (lv_at hl 3 rfl) ?_
  refine lv_iconst (v := 1) hx hb dL_law_411 (by decide) ?_
  refine lv_iadd hx hb dL_law_412 ?_
  refine nm_i (x := nI (i + 1)) (by show nI (i + 1) = nI i + nI 1; rw [nI_add]) ?_
  refine va_sld hx hb hX hbl hbA hS (vp_in_nI (n := i + 1) (by omega) (by omega)) dL_law_413 ?_
  refine lv_aload_n hx hb dL_law_414 rfl (lv_at hl 0 rfl) ?_
  refine lv_iload_n hx hb dL_law_415 rfl (lv_at hl 3 rfl) ?_
  refine lv_iconst (v := 2) hx hb dL_law_416 (by decide) ?_
  refine lv_iadd hx hb dL_law_417 ?_
  refine nm_i (x := nI (i + 2)) (by show nI (i + 2) = nI i + nI 2; rw [nI_add]) ?_
  refine va_sld hx hb hX hbl hbA hS (vp_in_nI (n := i + 2) (by omega) (by omega)) dL_law_418 ?_
  refine lv_aload_n hx hb dL_law_419 rfl (lv_at hl 0 rfl) ?_
  refine lv_iload_n hx hb dL_law_420 rfl (lv_at hl 3 rfl) ?_
  refine lv_iconst (v := 3) hx hb dL_law_421 (by decide) ?_
  refine lv_iadd hx hb dL_law_422 ?_
  refine nm_i (x := nI (i + 3)) (by show nI (i + 3) = nI i + nI 3; rw [nI_add]) ?_
  refine va_sld hx hb hX hbl hbA hS (vp_in_nI (n := i + 3) (by omega) (by omega)) dL_law_423 ?_
  have hPX := P_l hP
  have hDX := D_l hD
  have hFr := freeX hD hS hA
  refine va_calli (va_runV (As := [.int (xs (nI (i + 1)).toNatClampNeg), .int (xs (nI (i + 2)).toNatClampNeg), .int (xs (nI (i + 3)).toNatClampNeg)]) (rest := []) ⟨hx, hb, hml, hown, hts⟩ (mX10_sort l dC dI cI cJ ad (xs (nI (i + 1)).toNatClampNeg) (xs (nI (i + 2)).toNatClampNeg) (xs (nI (i + 3)).toNatClampNeg) S L H.size e1) (cwV 3 hts gL_law_X10_sort rfl rfl rfl (by decide +kernel) ⟨(Nat.le_of_ble_eq_true rfl), (Nat.le_of_ble_eq_true rfl)⟩) ⟨QXs_blind, va_recv hKX hPX (ci := 10) (q0 := 0) rfl rfl, fun U hU hW => ⟨rfl, congrArg Array.size hU, QX_at hPX hKX hDX hU hW⟩⟩ rfl rfl hl.1 rfl (lv_room (Nat.le_of_ble_eq_true rfl)) dL_law_424 ⟨(Nat.le_of_ble_eq_true rfl), (Nat.le_of_ble_eq_true rfl)⟩) hS (fun q _ h => hFr q h) hFr (fun r9 u t H1 locs ht hvm hw hB hz1 hk1 hS => ?_)
  obtain ⟨er9, eu9⟩ := Prod.mk.inj hw
  subst er9
  have eu9 := eu9.symm
  subst eu9
  have hP1 : va_P (dC, dI) vwCl (wX cI cJ ad S1 L1) H1 := by rw [← ht]; exact hB
  have hP := joinX hP hD hk1 hP1
  have hD := XM_D hD S1 L1 M
  generalize H1 = H at hP hS ⊢
  refine lv_aload_n hx hb dL_law_427 rfl (lv_at hl 2 rfl) ?_
  refine lv_aload_n hx hb dL_law_428 rfl (lv_at hl 0 rfl) ?_
  refine lv_iload_n hx hb dL_law_429 rfl (lv_at hl 3 rfl) ?_
  refine lv_iconst (v := 1) hx hb dL_law_430 (by decide) ?_
  refine lv_iadd hx hb dL_law_431 ?_
  refine nm_i (x := nI (i + 1)) (by show nI (i + 1) = nI i + nI 1; rw [nI_add]) ?_
  refine va_sld hx hb hX hbl hbA hS (vp_in_nI (n := i + 1) (by omega) (by omega)) dL_law_432 ?_
  refine lv_aload_n hx hb dL_law_433 rfl (lv_at hl 0 rfl) ?_
  refine lv_iload_n hx hb dL_law_434 rfl (lv_at hl 3 rfl) ?_
  refine lv_iconst (v := 2) hx hb dL_law_435 (by decide) ?_
  refine lv_iadd hx hb dL_law_436 ?_
  refine nm_i (x := nI (i + 2)) (by show nI (i + 2) = nI i + nI 2; rw [nI_add]) ?_
  refine va_sld hx hb hX hbl hbA hS (vp_in_nI (n := i + 2) (by omega) (by omega)) dL_law_437 ?_
  refine lv_aload_n hx hb dL_law_438 rfl (lv_at hl 0 rfl) ?_
  refine lv_iload_n hx hb dL_law_439 rfl (lv_at hl 3 rfl) ?_
  refine lv_iconst (v := 3) hx hb dL_law_440 (by decide) ?_
  refine lv_iadd hx hb dL_law_441 ?_
  refine nm_i (x := nI (i + 3)) (by show nI (i + 3) = nI i + nI 3; rw [nI_add]) ?_
  refine va_sld hx hb hX hbl hbA hS (vp_in_nI (n := i + 3) (by omega) (by omega)) dL_law_442 ?_
  have hPM := P_r hP
  have hDM := D_r hD
  have hFr := freeM hD hS hA
  refine va_calli (va_runV (As := [.int (xs (nI (i + 1)).toNatClampNeg), .int (xs (nI (i + 2)).toNatClampNeg), .int (xs (nI (i + 3)).toNatClampNeg)]) (rest := [.int r9]) ⟨hx, hb, hml, hown, hts⟩ (mX11_sort l dC dI cI cZ bd (xs (nI (i + 1)).toNatClampNeg) (xs (nI (i + 2)).toNatClampNeg) (xs (nI (i + 3)).toNatClampNeg) M H.size e2) (cwV 3 hts gL_law_X11_sort rfl rfl rfl (by decide +kernel) ⟨(Nat.le_of_ble_eq_true rfl), (Nat.le_of_ble_eq_true rfl)⟩) ⟨QMs_blind, va_recv hKM hPM (ci := 11) (q0 := 0) rfl rfl, fun U hU hW => ⟨rfl, congrArg Array.size hU, QM_at hPM hKM hDM hU hW⟩⟩ rfl rfl hl.1 rfl (lv_room (Nat.le_of_ble_eq_true rfl)) dL_law_443 ⟨(Nat.le_of_ble_eq_true rfl), (Nat.le_of_ble_eq_true rfl)⟩) hS (fun q _ h => hFr q h) hFr (fun r10 u t H1 locs ht hvm hw hB hz1 hk1 hS => ?_)
  obtain ⟨er9, eu9⟩ := Prod.mk.inj hw
  subst er9
  have eu9 := eu9.symm
  subst eu9
  have hP1 : va_P (dC, dI) vwCl (wM cI cZ bd M1) H1 := by rw [← ht]; exact hB
  have hP := joinM hP hD hk1 hP1
  have hD := XM_D hD S1 L1 M1
  generalize H1 = H at hP hS ⊢
  refine lv_icmp_eq (tgt := 1245) hx hb dL_law_446 (by decide) (fun _ => ?_) (fun c9 => absurd rfl c9)
  exact kk S1 L1 M1 _ _ _ hP hS R1 hl
