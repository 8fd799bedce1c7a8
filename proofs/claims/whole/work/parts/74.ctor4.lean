set_option maxHeartbeats 4000000 in
set_option maxRecDepth 100000 in
theorem mX11_init (l : Launch) (dC : Nat → ClassId) (dI : Nat → Nat → Nat) (cI cZ : ClassId) (h0 : Nat) (sz : Nat) : Met l yX11_init wsX11_init ({ frames := 1, cells := 6, slots := 1136, locals := 12 }) (va_Pc [.ref h0] (QC sz dC dI [(cI, .int), (cZ, .boolean)] [] [(h0, .inr (11, [.null, .null, .int 0, .null, .null, .int 0, .null, .null]))])) (va_Qv (fun (u : (Nat → Nat) × (Nat → Nat → Int32)) => u.1 0 = h0 ∧ okM u.2) (fun (u : (Nat → Nat) × (Nat → Nat → Int32)) t => va_P (dC, dI) vwCl (wM cI cZ u.1 u.2) t.heap ∧ va_D (va_A [(h0, .inr (11, [.null, .null, .int 0, .null, .null, .int 0, .null, .null]))] sz) (wM cI cZ u.1 u.2)) (va_A [(h0, .inr (11, [.null, .null, .int 0, .null, .null, .int 0, .null, .null]))] sz)) 6 1136 (va_A [(h0, .inr (11, [.null, .null, .int 0, .null, .null, .int 0, .null, .null]))] sz) := by
  refine Met.ofW (cc := cX11_init) (maxL := 2) (ret := none) (by decide) rfl ?_
  intro p e s m args below meth c s₁ B hml hv
  obtain ⟨rfl, hsz, hP, hK, hD0, hN⟩ := hv
  have hx := B.exec
  have hb := B.bytes
  have hr := B.returns
  have hts := atoms_spec (ws := wsX11_init) B.pre
  have hown : s.vm.findClass RX11 = some m.cls := findClass_of_methodNamed B.named
  have hin : meth.name = "<init>" := (name_of_methodNamed B.named B.method).1
  subst hsz
  have hi0 : ∀ w ∈ u_ws RX11 TX11 8, w ∈ wsX11_init := by decide +kernel
  have hD := hD0.self (sz := s.heap.size)
  generalize hAe : va_A [(h0, .inr (11, [.null, .null, .int 0, .null, .null, .int 0, .null, .null]))] s.heap.size = A at hD ⊢
  have hA : ∀ q : Nat, s.heap.size ≤ q → A q := fun q h => by rw [← hAe]; exact Or.inr h
  have hS : va_S A s.heap s.heap [] := va_S.rf
  have hP : va_P (dC, dI) vwCl [(h0, .inr (11, [.null, .null, .int 0, .null, .null, .int 0, .null, .null]))] s.heap := hP
  have hl := lv_entry ([.ref h0]) (n := 2) (Nat.le_of_ble_eq_true rfl)
  rw [lg_entry_eq]
  generalize (lg_sl ([.ref h0]) ++ List.replicate (2 - (lg_sl ([.ref h0])).length) Slot.unset).toArray = ls at hl ⊢
  have hl : lv_has ls 2 [(0, .ref h0)] := hl
  refine lv_aload_n hx hb dX11_init_0 rfl (lv_at hl 0 rfl) ?_
  refine W.objInit hx hb hown (hts (.methodLink RX11 1 objectInit) (by decide +kernel)) (hts (.instanceMethod objectInit) (by decide +kernel)) (hts _ (List.mem_of_getElem? (i := 3) rfl)) rfl (by rw [hml]; exact hl.1) rfl dX11_init_1 (Nat.le_of_ble_eq_true rfl) (Nat.le_of_ble_eq_true rfl) ?_
  refine W.eq (g2 := F0 m 4 ls []) rfl ?_
  refine lv_aload_n hx hb dX11_init_4 rfl (lv_at hl 0 rfl) ?_
  refine lv_sipush (v := 994) hx hb dX11_init_5 (by decide) ?_
  refine nw_i hx hb (hts (.arrayClass .int) (by decide +kernel)) hK hP hD hS hA 0 rfl (N' := 994) (by decide) (by decide) (by decide) (Nat.le_of_ble_eq_true rfl) (Nat.le_of_ble_eq_true rfl) dX11_init_8 (fun q8 H hP hD hS => ?_)
  have hP : va_P (dC, dI) vwCl [(h0, .inr (11, [.null, .null, .int 0, .null, .null, .int 0, .null, .null])), (q8, .inl (cI, 994, .inl (fun _ => 0)))] H := hP
  have hD : va_D A [(h0, .inr (11, [.null, .null, .int 0, .null, .null, .int 0, .null, .null])), (q8, .inl (cI, 994, .inl (fun _ => 0)))] := hD
  refine W.widen (k := 1) (n := 994) (Nat.le_of_ble_eq_true rfl) (Nat.le_of_ble_eq_true rfl) ?_
  refine va_putF (D := (dC, dI)) (ci := 11) (v := .ref q8) (ty := .array .int) (C := RX11) (T := TX11) (N := 8) hx hb hts hi0 tyX11 tyX11_ok nmX11 hown hK hP hD hS 0 rfl rfl 0 (by decide) (hts (.fieldLink RX11 7 "LawRingsModel" "st" "[I") (by decide +kernel)) (fun _ h9 => h9) rfl hin rfl (by decide +kernel) rfl rfl (Nat.le_of_ble_eq_true rfl) dX11_init_10 (fun H locs hP hD hS => ?_)
  have hP : va_P (dC, dI) vwCl [(h0, .inr (11, [.ref q8, .null, .int 0, .null, .null, .int 0, .null, .null])), (q8, .inl (cI, 994, .inl (fun _ => 0)))] H := hP
  have hD : va_D A [(h0, .inr (11, [.ref q8, .null, .int 0, .null, .null, .int 0, .null, .null])), (q8, .inl (cI, 994, .inl (fun _ => 0)))] := hD
  refine lv_aload_n hx hb dX11_init_13 rfl (lv_at hl 0 rfl) ?_
  refine lv_bipush (v := 6) hx hb dX11_init_14 (by decide) ?_
  refine nw_i hx hb (hts (.arrayClass .int) (by decide +kernel)) hK hP hD hS hA 0 rfl (N' := 6) (by decide) (by decide) (by decide) (Nat.le_of_ble_eq_true rfl) (Nat.le_of_ble_eq_true rfl) dX11_init_16 (fun q16 H hP hD hS => ?_)
  have hP : va_P (dC, dI) vwCl [(h0, .inr (11, [.ref q8, .null, .int 0, .null, .null, .int 0, .null, .null])), (q8, .inl (cI, 994, .inl (fun _ => 0))), (q16, .inl (cI, 6, .inl (fun _ => 0)))] H := hP
  have hD : va_D A [(h0, .inr (11, [.ref q8, .null, .int 0, .null, .null, .int 0, .null, .null])), (q8, .inl (cI, 994, .inl (fun _ => 0))), (q16, .inl (cI, 6, .inl (fun _ => 0)))] := hD
  refine W.widen (k := 2) (n := 1000) (Nat.le_of_ble_eq_true rfl) (Nat.le_of_ble_eq_true rfl) ?_
  refine va_putF (D := (dC, dI)) (ci := 11) (v := .ref q16) (ty := .array .int) (C := RX11) (T := TX11) (N := 8) hx hb hts hi0 tyX11 tyX11_ok nmX11 hown hK hP hD hS 0 rfl rfl 1 (by decide) (hts (.fieldLink RX11 13 "LawRingsModel" "ties" "[I") (by decide +kernel)) (fun _ h9 => h9) rfl hin rfl (by decide +kernel) rfl rfl (Nat.le_of_ble_eq_true rfl) dX11_init_18 (fun H locs hP hD hS => ?_)
  have hP : va_P (dC, dI) vwCl [(h0, .inr (11, [.ref q8, .ref q16, .int 0, .null, .null, .int 0, .null, .null])), (q8, .inl (cI, 994, .inl (fun _ => 0))), (q16, .inl (cI, 6, .inl (fun _ => 0)))] H := hP
  have hD : va_D A [(h0, .inr (11, [.ref q8, .ref q16, .int 0, .null, .null, .int 0, .null, .null])), (q8, .inl (cI, 994, .inl (fun _ => 0))), (q16, .inl (cI, 6, .inl (fun _ => 0)))] := hD
  refine lv_aload_n hx hb dX11_init_21 rfl (lv_at hl 0 rfl) ?_
  refine lv_bipush (v := 60) hx hb dX11_init_22 (by decide) ?_
  refine nw_z hx hb (hts (.arrayClass .boolean) (by decide +kernel)) hK hP hD hS hA 1 rfl (N' := 60) (by decide) (by decide) (by decide) (Nat.le_of_ble_eq_true rfl) (Nat.le_of_ble_eq_true rfl) dX11_init_24 (fun q24 H hP hD hS => ?_)
  have hP : va_P (dC, dI) vwCl [(h0, .inr (11, [.ref q8, .ref q16, .int 0, .null, .null, .int 0, .null, .null])), (q8, .inl (cI, 994, .inl (fun _ => 0))), (q16, .inl (cI, 6, .inl (fun _ => 0))), (q24, .inl (cZ, 60, .inl (fun _ => 0)))] H := hP
  have hD : va_D A [(h0, .inr (11, [.ref q8, .ref q16, .int 0, .null, .null, .int 0, .null, .null])), (q8, .inl (cI, 994, .inl (fun _ => 0))), (q16, .inl (cI, 6, .inl (fun _ => 0))), (q24, .inl (cZ, 60, .inl (fun _ => 0)))] := hD
  refine W.widen (k := 3) (n := 1060) (Nat.le_of_ble_eq_true rfl) (Nat.le_of_ble_eq_true rfl) ?_
  refine va_putF (D := (dC, dI)) (ci := 11) (v := .ref q24) (ty := .array .boolean) (C := RX11) (T := TX11) (N := 8) hx hb hts hi0 tyX11 tyX11_ok nmX11 hown hK hP hD hS 0 rfl rfl 3 (by decide) (hts (.fieldLink RX11 16 "LawRingsModel" "isOut" "[Z") (by decide +kernel)) (fun _ h9 => h9) rfl hin rfl (by decide +kernel) rfl rfl (Nat.le_of_ble_eq_true rfl) dX11_init_26 (fun H locs hP hD hS => ?_)
  have hP : va_P (dC, dI) vwCl [(h0, .inr (11, [.ref q8, .ref q16, .int 0, .ref q24, .null, .int 0, .null, .null])), (q8, .inl (cI, 994, .inl (fun _ => 0))), (q16, .inl (cI, 6, .inl (fun _ => 0))), (q24, .inl (cZ, 60, .inl (fun _ => 0)))] H := hP
  have hD : va_D A [(h0, .inr (11, [.ref q8, .ref q16, .int 0, .ref q24, .null, .int 0, .null, .null])), (q8, .inl (cI, 994, .inl (fun _ => 0))), (q16, .inl (cI, 6, .inl (fun _ => 0))), (q24, .inl (cZ, 60, .inl (fun _ => 0)))] := hD
  refine lv_aload_n hx hb dX11_init_29 rfl (lv_at hl 0 rfl) ?_
  refine lv_bipush (v := 10) hx hb dX11_init_30 (by decide) ?_
  refine nw_i hx hb (hts (.arrayClass .int) (by decide +kernel)) hK hP hD hS hA 0 rfl (N' := 10) (by decide) (by decide) (by decide) (Nat.le_of_ble_eq_true rfl) (Nat.le_of_ble_eq_true rfl) dX11_init_32 (fun q32 H hP hD hS => ?_)
  have hP : va_P (dC, dI) vwCl [(h0, .inr (11, [.ref q8, .ref q16, .int 0, .ref q24, .null, .int 0, .null, .null])), (q8, .inl (cI, 994, .inl (fun _ => 0))), (q16, .inl (cI, 6, .inl (fun _ => 0))), (q24, .inl (cZ, 60, .inl (fun _ => 0))), (q32, .inl (cI, 10, .inl (fun _ => 0)))] H := hP
  have hD : va_D A [(h0, .inr (11, [.ref q8, .ref q16, .int 0, .ref q24, .null, .int 0, .null, .null])), (q8, .inl (cI, 994, .inl (fun _ => 0))), (q16, .inl (cI, 6, .inl (fun _ => 0))), (q24, .inl (cZ, 60, .inl (fun _ => 0))), (q32, .inl (cI, 10, .inl (fun _ => 0)))] := hD
  refine W.widen (k := 4) (n := 1070) (Nat.le_of_ble_eq_true rfl) (Nat.le_of_ble_eq_true rfl) ?_
  refine va_putF (D := (dC, dI)) (ci := 11) (v := .ref q32) (ty := .array .int) (C := RX11) (T := TX11) (N := 8) hx hb hts hi0 tyX11 tyX11_ok nmX11 hown hK hP hD hS 0 rfl rfl 4 (by decide) (hts (.fieldLink RX11 20 "LawRingsModel" "chain" "[I") (by decide +kernel)) (fun _ h9 => h9) rfl hin rfl (by decide +kernel) rfl rfl (Nat.le_of_ble_eq_true rfl) dX11_init_34 (fun H locs hP hD hS => ?_)
  have hP : va_P (dC, dI) vwCl [(h0, .inr (11, [.ref q8, .ref q16, .int 0, .ref q24, .ref q32, .int 0, .null, .null])), (q8, .inl (cI, 994, .inl (fun _ => 0))), (q16, .inl (cI, 6, .inl (fun _ => 0))), (q24, .inl (cZ, 60, .inl (fun _ => 0))), (q32, .inl (cI, 10, .inl (fun _ => 0)))] H := hP
  have hD : va_D A [(h0, .inr (11, [.ref q8, .ref q16, .int 0, .ref q24, .ref q32, .int 0, .null, .null])), (q8, .inl (cI, 994, .inl (fun _ => 0))), (q16, .inl (cI, 6, .inl (fun _ => 0))), (q24, .inl (cZ, 60, .inl (fun _ => 0))), (q32, .inl (cI, 10, .inl (fun _ => 0)))] := hD
  refine lv_aload_n hx hb dX11_init_37 rfl (lv_at hl 0 rfl) ?_
  refine lv_bipush (v := 60) hx hb dX11_init_38 (by decide) ?_
  refine nw_z hx hb (hts (.arrayClass .boolean) (by decide +kernel)) hK hP hD hS hA 1 rfl (N' := 60) (by decide) (by decide) (by decide) (Nat.le_of_ble_eq_true rfl) (Nat.le_of_ble_eq_true rfl) dX11_init_40 (fun q40 H hP hD hS => ?_)
  have hP : va_P (dC, dI) vwCl [(h0, .inr (11, [.ref q8, .ref q16, .int 0, .ref q24, .ref q32, .int 0, .null, .null])), (q8, .inl (cI, 994, .inl (fun _ => 0))), (q16, .inl (cI, 6, .inl (fun _ => 0))), (q24, .inl (cZ, 60, .inl (fun _ => 0))), (q32, .inl (cI, 10, .inl (fun _ => 0))), (q40, .inl (cZ, 60, .inl (fun _ => 0)))] H := hP
  have hD : va_D A [(h0, .inr (11, [.ref q8, .ref q16, .int 0, .ref q24, .ref q32, .int 0, .null, .null])), (q8, .inl (cI, 994, .inl (fun _ => 0))), (q16, .inl (cI, 6, .inl (fun _ => 0))), (q24, .inl (cZ, 60, .inl (fun _ => 0))), (q32, .inl (cI, 10, .inl (fun _ => 0))), (q40, .inl (cZ, 60, .inl (fun _ => 0)))] := hD
  refine W.widen (k := 5) (n := 1130) (Nat.le_of_ble_eq_true rfl) (Nat.le_of_ble_eq_true rfl) ?_
  refine va_putF (D := (dC, dI)) (ci := 11) (v := .ref q40) (ty := .array .boolean) (C := RX11) (T := TX11) (N := 8) hx hb hts hi0 tyX11 tyX11_ok nmX11 hown hK hP hD hS 0 rfl rfl 6 (by decide) (hts (.fieldLink RX11 23 "LawRingsModel" "isFirst" "[Z") (by decide +kernel)) (fun _ h9 => h9) rfl hin rfl (by decide +kernel) rfl rfl (Nat.le_of_ble_eq_true rfl) dX11_init_42 (fun H locs hP hD hS => ?_)
  have hP : va_P (dC, dI) vwCl [(h0, .inr (11, [.ref q8, .ref q16, .int 0, .ref q24, .ref q32, .int 0, .ref q40, .null])), (q8, .inl (cI, 994, .inl (fun _ => 0))), (q16, .inl (cI, 6, .inl (fun _ => 0))), (q24, .inl (cZ, 60, .inl (fun _ => 0))), (q32, .inl (cI, 10, .inl (fun _ => 0))), (q40, .inl (cZ, 60, .inl (fun _ => 0)))] H := hP
  have hD : va_D A [(h0, .inr (11, [.ref q8, .ref q16, .int 0, .ref q24, .ref q32, .int 0, .ref q40, .null])), (q8, .inl (cI, 994, .inl (fun _ => 0))), (q16, .inl (cI, 6, .inl (fun _ => 0))), (q24, .inl (cZ, 60, .inl (fun _ => 0))), (q32, .inl (cI, 10, .inl (fun _ => 0))), (q40, .inl (cZ, 60, .inl (fun _ => 0)))] := hD
  refine lv_aload_n hx hb dX11_init_45 rfl (lv_at hl 0 rfl) ?_
  refine lv_bipush (v := 6) hx hb dX11_init_46 (by decide) ?_
  refine nw_i hx hb (hts (.arrayClass .int) (by decide +kernel)) hK hP hD hS hA 0 rfl (N' := 6) (by decide) (by decide) (by decide) (Nat.le_of_ble_eq_true rfl) (Nat.le_of_ble_eq_true rfl) dX11_init_48 (fun q48 H hP hD hS => ?_)
  have hP : va_P (dC, dI) vwCl [(h0, .inr (11, [.ref q8, .ref q16, .int 0, .ref q24, .ref q32, .int 0, .ref q40, .null])), (q8, .inl (cI, 994, .inl (fun _ => 0))), (q16, .inl (cI, 6, .inl (fun _ => 0))), (q24, .inl (cZ, 60, .inl (fun _ => 0))), (q32, .inl (cI, 10, .inl (fun _ => 0))), (q40, .inl (cZ, 60, .inl (fun _ => 0))), (q48, .inl (cI, 6, .inl (fun _ => 0)))] H := hP
  have hD : va_D A [(h0, .inr (11, [.ref q8, .ref q16, .int 0, .ref q24, .ref q32, .int 0, .ref q40, .null])), (q8, .inl (cI, 994, .inl (fun _ => 0))), (q16, .inl (cI, 6, .inl (fun _ => 0))), (q24, .inl (cZ, 60, .inl (fun _ => 0))), (q32, .inl (cI, 10, .inl (fun _ => 0))), (q40, .inl (cZ, 60, .inl (fun _ => 0))), (q48, .inl (cI, 6, .inl (fun _ => 0)))] := hD
  refine W.widen (k := 6) (n := 1136) (Nat.le_of_ble_eq_true rfl) (Nat.le_of_ble_eq_true rfl) ?_
  refine va_putF (D := (dC, dI)) (ci := 11) (v := .ref q48) (ty := .array .int) (C := RX11) (T := TX11) (N := 8) hx hb hts hi0 tyX11 tyX11_ok nmX11 hown hK hP hD hS 0 rfl rfl 7 (by decide) (hts (.fieldLink RX11 26 "LawRingsModel" "had" "[I") (by decide +kernel)) (fun _ h9 => h9) rfl hin rfl (by decide +kernel) rfl rfl (Nat.le_of_ble_eq_true rfl) dX11_init_50 (fun H locs hP hD hS => ?_)
  have hP : va_P (dC, dI) vwCl [(h0, .inr (11, [.ref q8, .ref q16, .int 0, .ref q24, .ref q32, .int 0, .ref q40, .ref q48])), (q8, .inl (cI, 994, .inl (fun _ => 0))), (q16, .inl (cI, 6, .inl (fun _ => 0))), (q24, .inl (cZ, 60, .inl (fun _ => 0))), (q32, .inl (cI, 10, .inl (fun _ => 0))), (q40, .inl (cZ, 60, .inl (fun _ => 0))), (q48, .inl (cI, 6, .inl (fun _ => 0)))] H := hP
  have hD : va_D A [(h0, .inr (11, [.ref q8, .ref q16, .int 0, .ref q24, .ref q32, .int 0, .ref q40, .ref q48])), (q8, .inl (cI, 994, .inl (fun _ => 0))), (q16, .inl (cI, 6, .inl (fun _ => 0))), (q24, .inl (cZ, 60, .inl (fun _ => 0))), (q32, .inl (cI, 10, .inl (fun _ => 0))), (q40, .inl (cZ, 60, .inl (fun _ => 0))), (q48, .inl (cI, 6, .inl (fun _ => 0)))] := hD
  refine lv_iconst (v := 0) hx hb dX11_init_53 (by decide) ?_
  refine lv_istore_n (lv' := [(1, .int 0), (0, .ref h0)]) hx hb dX11_init_54 rfl hl (by decide) rfl (fun ls hl => ?_)
  refine W.widen (k := 6) (n := 1136) (Nat.le_of_ble_eq_true rfl) (Nat.le_of_ble_eq_true rfl) ?_
  refine ww_w (fun WW hWW => ?_)
  have Lh : ∀ (d i : Nat), i + d = 12 → ∀ (g : Nat → Int32), ((∀ x, x < i → g (942 + x) = nI (x % 3)) ∧ ∀ x, x < 942 ∨ 942 + i ≤ x → g x = 0) → ∀ (H : Heap) (locs : List Loc), va_P (dC, dI) vwCl [(h0, .inr (11, [.ref q8, .ref q16, .int 0, .ref q24, .ref q32, .int 0, .ref q40, .ref q48])), (q8, .inl (cI, 994, .inl g)), (q16, .inl (cI, 6, .inl (fun _ => 0))), (q24, .inl (cZ, 60, .inl (fun _ => 0))), (q32, .inl (cI, 10, .inl (fun _ => 0))), (q40, .inl (cZ, 60, .inl (fun _ => 0))), (q48, .inl (cI, 6, .inl (fun _ => 0)))] H → va_S A s.heap H locs → ∀ ls : Array Slot, lv_has ls 2 [(0, .ref h0), (1, .int (nI i))] → WW H locs 55 ls := by
    intro d
    induction d with
    | zero =>
      intro i hi g hg H locs hP hS ls hl
      have hD : va_D A [(h0, .inr (11, [.ref q8, .ref q16, .int 0, .ref q24, .ref q32, .int 0, .ref q40, .ref q48])), (q8, .inl (cI, 994, .inl g)), (q16, .inl (cI, 6, .inl (fun _ => 0))), (q24, .inl (cZ, 60, .inl (fun _ => 0))), (q32, .inl (cI, 10, .inl (fun _ => 0))), (q40, .inl (cZ, 60, .inl (fun _ => 0))), (q48, .inl (cI, 6, .inl (fun _ => 0)))] := va_D_congr (by rfl) hD
      refine wi_w hWW ?_
      refine lv_iload_n hx hb dX11_init_55 rfl (lv_at hl 1 rfl) ?_
      refine lv_bipush (v := 12) hx hb dX11_init_56 (by decide) ?_
      refine lv_icmp_ge (tgt := 80) hx hb dX11_init_58 (by decide) (fun c4 => ?_) (fun c4 => absurd (show (12 : Int32) ≤ nI i from nI_le (a := 12) (by omega) (by omega)) c4)
      exact W.vret hx hb hr (fun t ht hW => ⟨⟨(adL [h0, q8, q16, q24, q32, q40, q48], sM g), rfl, ⟨rfl, sM_ok (by rw [show i = 12 by omega] at hg; exact hg)⟩, by rw [ht]; exact hP, hD⟩, hS.F ht⟩) hS.2.2 dX11_init_80
    | succ d ih =>
      intro i hi g hg H locs hP hS ls hl
      have hD : va_D A [(h0, .inr (11, [.ref q8, .ref q16, .int 0, .ref q24, .ref q32, .int 0, .ref q40, .ref q48])), (q8, .inl (cI, 994, .inl g)), (q16, .inl (cI, 6, .inl (fun _ => 0))), (q24, .inl (cZ, 60, .inl (fun _ => 0))), (q32, .inl (cI, 10, .inl (fun _ => 0))), (q40, .inl (cZ, 60, .inl (fun _ => 0))), (q48, .inl (cI, 6, .inl (fun _ => 0)))] := va_D_congr (by rfl) hD
      refine wi_w hWW ?_
      refine lv_iload_n hx hb dX11_init_55 rfl (lv_at hl 1 rfl) ?_
      refine lv_bipush (v := 12) hx hb dX11_init_56 (by decide) ?_
      refine lv_icmp_ge (tgt := 80) hx hb dX11_init_58 (by decide) (fun c4 => absurd (show (12 : Int32) ≤ nI i from c4) (nI_ge (b := 12) (by omega) (by decide))) (fun c4 => ?_)
      refine lv_aload_n hx hb dX11_init_61 rfl (lv_at hl 0 rfl) ?_
      refine va_get (D := (dC, dI)) (ci := 11) (v := .ref q8) (C := RX11) (T := TX11) (N := 8) hx hb hts hi0 hown hK hP 0 rfl rfl 0 (by decide) (hts (.fieldLink RX11 7 "LawRingsModel" "st" "[I") (by decide +kernel)) (fun _ h9 => h9) rfl dX11_init_62 ?_
      refine lv_sipush (v := 942) hx hb dX11_init_65 (by decide) ?_
      refine lv_iload_n hx hb dX11_init_68 rfl (lv_at hl 1 rfl) ?_
      refine lv_iadd hx hb dX11_init_69 ?_
      refine nm_i (x := nI (942 + i)) (by show nI (942 + i) = nI 942 + nI i; rw [nI_add]) ?_
      refine lv_iload_n hx hb dX11_init_70 rfl (lv_at hl 1 rfl) ?_
      refine lv_iconst (v := 3) hx hb dX11_init_71 (by decide) ?_
      refine lv_irem hx hb dX11_init_72 (by decide) ?_
      refine nm_i (x := nI (i % 3)) (by exact (pk_rem (d := 3) (by omega) (by decide) (by decide)).symm) ?_
      refine va_iast hx hb hK hP hD hS 1 0 rfl rfl (vp_in_nI (n := (942 + i)) (by omega) (by decide)) dX11_init_73 (fun H locs hP9 _ hS => ?_)
      rw [nI_clamp (show (942 + i) < 2 ^ 31 by omega)] at hP9
      have hP : va_P (dC, dI) vwCl [(h0, .inr (11, [.ref q8, .ref q16, .int 0, .ref q24, .ref q32, .int 0, .ref q40, .ref q48])), (q8, .inl (cI, 994, .inl (upd g (942 + i) (nI (i % 3))))), (q16, .inl (cI, 6, .inl (fun _ => 0))), (q24, .inl (cZ, 60, .inl (fun _ => 0))), (q32, .inl (cI, 10, .inl (fun _ => 0))), (q40, .inl (cZ, 60, .inl (fun _ => 0))), (q48, .inl (cI, 6, .inl (fun _ => 0)))] H := hP9
      refine lv_iinc (v := nI (i + 1)) (lv' := [(1, .int (nI (i + 1))), (0, .ref h0)]) hx hb dX11_init_74 hl (k := 1) rfl (by rw [← nI_1]; rfl) (by decide) rfl (fun ls hl => ?_)
      refine lv_goto (tgt := 55) hx hb dX11_init_77 (by decide) ?_
      refine wu_w hWW ?_
      exact ih (i + 1) (by omega) (upd g (942 + i) (nI (i % 3))) ⟨fun x hx9 => by
        by_cases e9 : x = i
        · subst e9; rw [pk_us]
        · rw [pk_un (by omega)]; exact hg.1 x (by omega), fun x hx9 => by
        rw [pk_un (by omega)]; exact hg.2 x (by omega)⟩ H locs hP hS ls (lv_sub hl [1, 0] rfl)
  refine wu_w hWW ?_
  exact Lh 12 0 (by omega) (fun _ => 0) ⟨fun x hx9 => absurd hx9 (Nat.not_lt_zero x), fun _ _ => rfl⟩ _ _ hP hS ls (lv_sub hl [1, 0] rfl)
