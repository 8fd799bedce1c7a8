set_option maxHeartbeats 4000000 in
set_option maxRecDepth 100000 in
theorem mX11_trial (l : Launch) (dC : Nat → ClassId) (dI : Nat → Nat → Nat) (cI cZ : ClassId) (ad : Nat → Nat) (p1 : Int32) (S : Nat → Nat → Int32) (sz : Nat) {z : Int32 × (Nat → Nat → Int32)} (h : sX11_trial p1 S = some z) : Met l yX11_trial wsX11_trial ({ frames := 2, cells := 0, slots := 0, locals := 44 }) (va_Pc [.ref (ad 0), .int p1] (QMs sz dC dI cI cZ ad S)) (va_Qi (fun (r : Int32) (u : (Nat → Nat → Int32)) => (r, u) = z) (fun (u : (Nat → Nat → Int32)) t => va_P (dC, dI) vwCl (wM cI cZ ad u) t.heap) (AX 7 ad sz)) 0 0 (AX 7 ad sz) := by
  refine Met.ofW (cc := cX11_trial) (maxL := 3) (ret := (some .int)) (by decide) rfl ?_
  intro p e s m args below meth c s₁ B hml hv
  obtain ⟨rfl, hsz, hP, hK, hD0⟩ := hv
  have hx := B.exec
  have hb := B.bytes
  have hr := B.returns
  have hts := atoms_spec (ws := wsX11_trial) B.pre
  have hown : s.vm.findClass RX11 = some m.cls := findClass_of_methodNamed B.named
  have hlocks := B.notSynchronized
  subst hsz
  have hD := wM_DA hD0 s.heap.size
  have hS : va_S (AX 7 ad s.heap.size) s.heap s.heap [] := va_S.rf
  have hl := lv_entry ([.ref (ad 0), .int p1]) (n := 3) (Nat.le_of_ble_eq_true rfl)
  rw [lg_entry_eq]
  generalize (lg_sl ([.ref (ad 0), .int p1]) ++ List.replicate (3 - (lg_sl ([.ref (ad 0), .int p1])).length) Slot.unset).toArray = ls at hl ⊢
  have hl : lv_has ls 3 [(0, .ref (ad 0)), (1, .int p1)] := hl
  have hf7 := hts (.fieldLink RX11 7 "LawRingsModel" "st" "[I") (by decide +kernel)
  have hiX11 : ∀ w ∈ u_ws RX11 TX11 8, w ∈ wsX11_trial := by decide +kernel
  rw [sX11_trial] at h
  refine lv_aload_n hx hb dX11_trial_0 rfl (lv_at hl 0 rfl) ?_
  refine lv_iconst (v := 2) hx hb dX11_trial_1 (by decide) ?_
  refine lv_iload_n hx hb dX11_trial_2 rfl (lv_at hl 1 rfl) ?_
  obtain ⟨r2, k1, h⟩ := ob_elim h
  refine vp_callSi (W.runV (As := [.int 2, .int p1]) (rest := []) ⟨hx, hb, hml, hown, hts⟩ (mX11_is l dC dI cI cZ ad 2 p1 S k1) (cwV 2 hts gX11_trial_X11_is rfl rfl rfl (by decide +kernel) ⟨Nat.le_of_ble_eq_true rfl, Nat.le_of_ble_eq_true rfl⟩) ⟨QM_blind, va_recv hK hP (ci := 11) (q0 := 0) rfl rfl, fun U hU hW => ⟨rfl, QM_at hP hK hD hU hW⟩⟩ rfl rfl hl.1 rfl (lv_room (Nat.le_of_ble_eq_true rfl)) dX11_trial_3 ⟨Nat.zero_le _, Nat.zero_le _⟩) (fun r9 er9 => ?_)
  replace er9 := er9.symm
  subst er9
  refine lv_if_ne (tgt := 12) hx hb dX11_trial_6 (by decide) (fun c3 => ?_) (fun c3 => ?_)
  · replace h := it_f c3 h
    refine lv_iconst (v := 0) hx hb dX11_trial_12 (by decide) ?_
    refine lv_istore_n (lv' := [(2, .int 0), (0, .ref (ad 0)), (1, .int p1)]) hx hb dX11_trial_13 rfl hl (by decide) rfl (fun ls hl => ?_)
    refine ww_r (fun WW14 hWW14 => ?_)
    have Lh14 : ∀ (n : Nat) (v4 : Int32) (z : (Unit ⊕ Unit)), lX11_trial_14 p1 S n v4 = some z → ∀ ls : Array Slot, lv_has ls 3 [(0, .ref (ad 0)), (1, .int p1), (2, .int v4)] → (z = .inl () → ∀ ls : Array Slot, lv_has ls 3 [] → WW14  38 ls) → (z = .inr () → ∀ ls : Array Slot, lv_has ls 3 [(0, .ref (ad 0)), (1, .int p1)] → WW14  47 ls) → WW14  14 ls := by
      intro n
      induction n with
      | zero => intro v4 z h ls hl K0 K1; rw [lX11_trial_14] at h; cases h
      | succ n ih =>
        intro v4 z h ls hl K0 K1
        rw [lX11_trial_14] at h
        refine wi_r hWW14 ?_
        refine lv_iload_n hx hb dX11_trial_14 rfl (lv_at hl 2 rfl) ?_
        refine lv_aload_n hx hb dX11_trial_15 rfl (lv_at hl 0 rfl) ?_
        refine va_get (D := (dC, dI)) (ci := 11) (v := .ref (ad 1)) (C := RX11) (T := TX11) (N := 8) hx hb hts hiX11 hown hK hP 0 rfl rfl 0 (by decide) hf7 (fun _ h9 => h9) rfl dX11_trial_16 ?_
        refine lv_iconst (v := 4) hx hb dX11_trial_19 (by decide) ?_
        obtain ⟨b5, h⟩ := ck_elim h
        refine va_iald hx hb hK hP 1 0 rfl rfl b5 dX11_trial_20 ?_
        refine lv_icmp_ge (tgt := 47) hx hb dX11_trial_21 (by decide) (fun c6 => ?_) (fun c6 => ?_)
        · replace h := it_t c6 h
          refine wu_r hWW14 ?_
          exact K1 (Option.some.inj h).symm ls (lv_sub hl [0, 1] rfl)
        · replace h := it_f c6 h
          refine lv_aload_n hx hb dX11_trial_24 rfl (lv_at hl 0 rfl) ?_
          refine va_get (D := (dC, dI)) (ci := 11) (v := .ref (ad 1)) (C := RX11) (T := TX11) (N := 8) hx hb hts hiX11 hown hK hP 0 rfl rfl 0 (by decide) hf7 (fun _ h9 => h9) rfl dX11_trial_25 ?_
          refine lv_sipush (v := 982) hx hb dX11_trial_28 (by decide) ?_
          refine lv_iload_n hx hb dX11_trial_31 rfl (lv_at hl 2 rfl) ?_
          refine lv_iadd hx hb dX11_trial_32 ?_
          obtain ⟨b7, h⟩ := ck_elim h
          refine va_iald hx hb hK hP 1 0 rfl rfl b7 dX11_trial_33 ?_
          refine lv_iload_n hx hb dX11_trial_34 rfl (lv_at hl 1 rfl) ?_
          refine lv_icmp_ne (tgt := 41) hx hb dX11_trial_35 (by decide) (fun c8 => ?_) (fun c8 => ?_)
          · replace h := it_f c8 h
            obtain ⟨x9, ex9, h⟩ := bnd_elim h
            refine lv_iinc (v := x9) (lv' := [(2, .int x9), (0, .ref (ad 0)), (1, .int p1)]) hx hb dX11_trial_41 hl (k := 2) rfl (by rw [ex9]; rfl) (by decide) rfl (fun ls hl => ?_)
            refine lv_goto (tgt := 14) hx hb dX11_trial_44 (by decide) ?_
            refine wu_r hWW14 ?_
            exact ih x9 z h ls (lv_sub hl [1, 2, 0] rfl) K0 K1
          · replace h := it_t c8 h
            refine wu_r hWW14 ?_
            exact K0 (Option.some.inj h).symm ls (lv_sub hl [] rfl)
    obtain ⟨q9, k10, h⟩ | ⟨q9, k10, h⟩ := os2_elim h
    · refine wu_r hWW14 ?_
      refine Lh14 FU 0 _ k10 ls (lv_sub hl [1, 2, 0] rfl) ?_ (fun hy => by cases hy)
      intro hy ls hl
      cases hy
      refine wi_r hWW14 ?_
      refine lv_bipush (v := (-2)) hx hb dX11_trial_38 (by decide) ?_
      cases h
      exact W.iret hx hb hr (fun t ht hW => ⟨⟨_, _, rfl, rfl, by show va_P _ _ _ t.heap; rw [ht]; exact hP⟩, hS.F ht⟩) hS.2.2 dX11_trial_40
    · refine wu_r hWW14 ?_
      refine Lh14 FU 0 _ k10 ls (lv_sub hl [1, 2, 0] rfl) (fun hy => by cases hy) ?_
      intro hy ls hl
      cases hy
      refine wi_r hWW14 ?_
      refine lv_aload_n hx hb dX11_trial_47 rfl (lv_at hl 0 rfl) ?_
      refine va_get (D := (dC, dI)) (ci := 11) (v := .ref (ad 1)) (C := RX11) (T := TX11) (N := 8) hx hb hts hiX11 hown hK hP 0 rfl rfl 0 (by decide) hf7 (fun _ h9 => h9) rfl dX11_trial_48 ?_
      refine lv_iconst (v := 4) hx hb dX11_trial_51 (by decide) ?_
      obtain ⟨b11, h⟩ := ck_elim h
      refine va_iald hx hb hK hP 1 0 rfl rfl b11 dX11_trial_52 ?_
      refine lv_bipush (v := 12) hx hb dX11_trial_53 (by decide) ?_
      refine lv_icmp_ne (tgt := 61) hx hb dX11_trial_55 (by decide) (fun c12 => ?_) (fun c12 => ?_)
      · replace h := it_f c12 h
        refine lv_aload_n hx hb dX11_trial_61 rfl (lv_at hl 0 rfl) ?_
        refine va_get (D := (dC, dI)) (ci := 11) (v := .ref (ad 1)) (C := RX11) (T := TX11) (N := 8) hx hb hts hiX11 hown hK hP 0 rfl rfl 0 (by decide) hf7 (fun _ h9 => h9) rfl dX11_trial_62 ?_
        refine lv_sipush (v := 982) hx hb dX11_trial_65 (by decide) ?_
        refine lv_aload_n hx hb dX11_trial_68 rfl (lv_at hl 0 rfl) ?_
        refine va_get (D := (dC, dI)) (ci := 11) (v := .ref (ad 1)) (C := RX11) (T := TX11) (N := 8) hx hb hts hiX11 hown hK hP 0 rfl rfl 0 (by decide) hf7 (fun _ h9 => h9) rfl dX11_trial_69 ?_
        refine lv_iconst (v := 4) hx hb dX11_trial_72 (by decide) ?_
        obtain ⟨b13, h⟩ := ck_elim h
        refine va_iald hx hb hK hP 1 0 rfl rfl b13 dX11_trial_73 ?_
        refine lv_iadd hx hb dX11_trial_74 ?_
        refine lv_iload_n hx hb dX11_trial_75 rfl (lv_at hl 1 rfl) ?_
        obtain ⟨b14, h⟩ := ck_elim h
        obtain ⟨S15, eS15, h⟩ := bnd_elim h
        refine va_iast hx hb hK hP hD hS 1 0 rfl rfl b14 dX11_trial_76 (fun H locs hP9 _ hS => ?_)
        have hP := swM_1 hP9
        rw [← eS15] at hP
        have hD := wM_D hD S15
        refine lv_aload_n hx hb dX11_trial_77 rfl (lv_at hl 0 rfl) ?_
        refine lv_iconst (v := 4) hx hb dX11_trial_78 (by decide) ?_
        obtain ⟨r18, S17, k16, h⟩ := ob2_elim h
        refine va_calli (va_runV (As := [.int 4]) (rest := []) ⟨hx, hb, hml, hown, hts⟩ (mX11_one l dC dI cI cZ ad 4 S15 H.size k16) (cwV 1 hts gX11_trial_X11_one rfl rfl rfl (by decide +kernel) ⟨Nat.le_of_ble_eq_true rfl, Nat.le_of_ble_eq_true rfl⟩) ⟨QMs_blind, va_recv hK hP (ci := 11) (q0 := 0) rfl rfl, fun U hU hW => ⟨rfl, congrArg Array.size hU, QM_at hP hK hD hU hW⟩⟩ rfl rfl hl.1 rfl (lv_room (Nat.le_of_ble_eq_true rfl)) dX11_trial_79 ⟨Nat.zero_le _, Nat.zero_le _⟩) hS (fun q _ hq => AX_mono hS.1 hq) (fun q hq => AX_mono hS.1 hq) (fun r u t H1 locs ht hvm hw hB hz1 hk1 hS => ?_)
        cases hw
        rw [ht] at hB
        have hP := hB
        clear hB hk1 hz1
        generalize H1 = H at hP hS ⊢
        have hD := wM_D hD S17
        refine lv_iconst (v := 1) hx hb dX11_trial_82 (by decide) ?_
        refine lv_iadd hx hb dX11_trial_83 ?_
        cases h
        exact W.iret hx hb hr (fun t ht hW => ⟨⟨_, _, rfl, rfl, by show va_P _ _ _ t.heap; rw [ht]; exact hP⟩, hS.F ht⟩) hS.2.2 dX11_trial_84
      · replace h := it_t c12 h
        refine lv_bipush (v := (-4)) hx hb dX11_trial_58 (by decide) ?_
        cases h
        exact W.iret hx hb hr (fun t ht hW => ⟨⟨_, _, rfl, rfl, by show va_P _ _ _ t.heap; rw [ht]; exact hP⟩, hS.F ht⟩) hS.2.2 dX11_trial_60
  · replace h := it_t c3 h
    refine lv_bipush (v := (-2)) hx hb dX11_trial_9 (by decide) ?_
    cases h
    exact W.iret hx hb hr (fun t ht hW => ⟨⟨_, _, rfl, rfl, by show va_P _ _ _ t.heap; rw [ht]; exact hP⟩, hS.F ht⟩) hS.2.2 dX11_trial_11
set_option maxHeartbeats 4000000 in
set_option maxRecDepth 100000 in
theorem mX10_untry (l : Launch) (dC : Nat → ClassId) (dI : Nat → Nat → Nat) (cI cJ : ClassId) (ad : Nat → Nat)  (S : Nat → Nat → Int32) (L : Nat → Nat → Int64) (sz : Nat) {z : Int32 × (Nat → Nat → Int32) × (Nat → Nat → Int64)} (h : sX10_untry S L = some z) : Met l yX10_untry wsX10_untry ({ frames := 0, cells := 0, slots := 0, locals := 0 }) (va_Pc [.ref (ad 0)] (QXs sz dC dI cI cJ ad S L)) (va_Qi (fun (r : Int32) (u : (Nat → Nat → Int32) × (Nat → Nat → Int64)) => (r, u) = z) (fun (u : (Nat → Nat → Int32) × (Nat → Nat → Int64)) t => va_P (dC, dI) vwCl (wX cI cJ ad u.1 u.2) t.heap) (AX 43 ad sz)) 0 0 (AX 43 ad sz) := by
  refine Met.ofW (cc := cX10_untry) (maxL := 2) (ret := (some .int)) (by decide) rfl ?_
  intro p e s m args below meth c s₁ B hml hv
  obtain ⟨rfl, hsz, hP, hK, hD0⟩ := hv
  have hx := B.exec
  have hb := B.bytes
  have hr := B.returns
  have hts := atoms_spec (ws := wsX10_untry) B.pre
  have hown : s.vm.findClass RX10 = some m.cls := findClass_of_methodNamed B.named
  have hlocks := B.notSynchronized
  subst hsz
  have hD := wX_DA hD0 s.heap.size
  have hS : va_S (AX 43 ad s.heap.size) s.heap s.heap [] := va_S.rf
  have hl := lv_entry ([.ref (ad 0)]) (n := 2) (Nat.le_of_ble_eq_true rfl)
  rw [lg_entry_eq]
  generalize (lg_sl ([.ref (ad 0)]) ++ List.replicate (2 - (lg_sl ([.ref (ad 0)])).length) Slot.unset).toArray = ls at hl ⊢
  have hl : lv_has ls 2 [(0, .ref (ad 0))] := hl
  have hf40 := hts (.fieldLink RX10 40 "LawRings" "trials" "LLawRings$Trials;") (by decide +kernel)
  have hiX10 : ∀ w ∈ u_ws RX10 TX10 11, w ∈ wsX10_untry := by decide +kernel
  have hf242 := hts (.fieldLink RX10 242 "LawRings$Trials" "size" "I") (by decide +kernel)
  have hiX9 : ∀ w ∈ u_ws RX9 TX9 2, w ∈ wsX10_untry := by decide +kernel
  rw [sX10_untry] at h
  refine lv_aload_n hx hb dX10_untry_0 rfl (lv_at hl 0 rfl) ?_
  refine va_get (D := (dC, dI)) (ci := 10) (v := .ref (ad 5)) (C := RX10) (T := TX10) (N := 11) hx hb hts hiX10 hown hK hP 0 rfl rfl 4 (by decide) hf40 (fun _ h9 => h9) rfl dX10_untry_1 ?_
  refine va_get (D := (dC, dI)) (ci := 9) (v := .int (S 5 0)) (C := RX9) (T := TX9) (N := 2) hx hb hts hiX9 hown hK hP 5 rfl rfl 0 (by decide) hf242 (fun _ h9 => h9) rfl dX10_untry_4 ?_
  obtain ⟨x1, ex1, h⟩ := bnd_elim h
  refine nm_i ex1 ?_
  refine lv_istore_n (lv' := [(1, .int x1), (0, .ref (ad 0))]) hx hb dX10_untry_7 rfl hl (by decide) rfl (fun ls hl => ?_)
  refine lv_aload_n hx hb dX10_untry_8 rfl (lv_at hl 1 rfl) ?_
  refine va_get (D := (dC, dI)) (ci := 10) (v := .ref (ad 5)) (C := RX10) (T := TX10) (N := 11) hx hb hts hiX10 hown hK hP 0 rfl rfl 4 (by decide) hf40 (fun _ h9 => h9) rfl dX10_untry_9 ?_
  refine lv_iconst (v := 0) hx hb dX10_untry_12 (by decide) ?_
  obtain ⟨S2, eS2, h⟩ := bnd_elim h
  refine va_put (D := (dC, dI)) (ci := 9) (v := .int 0) (ty := .int) (C := RX9) (T := TX9) (N := 2) hx hb hts hiX9 tyX9 tyX9_ok nmX9 hown hK hP hD hS 5 rfl rfl 0 (by decide) hf242 (fun _ h9 => h9) rfl (by decide +kernel) rfl rfl (Nat.le_of_ble_eq_true rfl) dX10_untry_13 (fun H locs hP9 _ hS => ?_)
  have hP := swX_5_0 hP9
  rw [← eS2] at hP
  have hD := wX_D hD S2 L
  refine lv_iload_n hx hb dX10_untry_16 rfl (lv_at hl 0 rfl) ?_
  cases h
  exact W.iret hx hb hr (fun t ht hW => ⟨⟨_, _, rfl, rfl, by show va_P _ _ _ t.heap; rw [ht]; exact hP⟩, hS.F ht⟩) hS.2.2 dX10_untry_17
set_option maxHeartbeats 4000000 in
set_option maxRecDepth 100000 in
theorem mX11_untry (l : Launch) (dC : Nat → ClassId) (dI : Nat → Nat → Nat) (cI cZ : ClassId) (ad : Nat → Nat)  (S : Nat → Nat → Int32) (sz : Nat) {z : Int32 × (Nat → Nat → Int32)} (h : sX11_untry S = some z) : Met l yX11_untry wsX11_untry ({ frames := 1, cells := 0, slots := 0, locals := 23 }) (va_Pc [.ref (ad 0)] (QMs sz dC dI cI cZ ad S)) (va_Qi (fun (r : Int32) (u : (Nat → Nat → Int32)) => (r, u) = z) (fun (u : (Nat → Nat → Int32)) t => va_P (dC, dI) vwCl (wM cI cZ ad u) t.heap) (AX 7 ad sz)) 0 0 (AX 7 ad sz) := by
  refine Met.ofW (cc := cX11_untry) (maxL := 1) (ret := (some .int)) (by decide) rfl ?_
  intro p e s m args below meth c s₁ B hml hv
  obtain ⟨rfl, hsz, hP, hK, hD0⟩ := hv
  have hx := B.exec
  have hb := B.bytes
  have hr := B.returns
  have hts := atoms_spec (ws := wsX11_untry) B.pre
  have hown : s.vm.findClass RX11 = some m.cls := findClass_of_methodNamed B.named
  have hlocks := B.notSynchronized
  subst hsz
  have hD := wM_DA hD0 s.heap.size
  have hS : va_S (AX 7 ad s.heap.size) s.heap s.heap [] := va_S.rf
  have hl := lv_entry ([.ref (ad 0)]) (n := 1) (Nat.le_of_ble_eq_true rfl)
  rw [lg_entry_eq]
  generalize (lg_sl ([.ref (ad 0)]) ++ List.replicate (1 - (lg_sl ([.ref (ad 0)])).length) Slot.unset).toArray = ls at hl ⊢
  have hl : lv_has ls 1 [(0, .ref (ad 0))] := hl
  rw [sX11_untry] at h
  refine lv_aload_n hx hb dX11_untry_0 rfl (lv_at hl 0 rfl) ?_
  refine lv_iconst (v := 4) hx hb dX11_untry_1 (by decide) ?_
  refine lv_iconst (v := 0) hx hb dX11_untry_2 (by decide) ?_
  obtain ⟨r3, S2, k1, h⟩ := ob2_elim h
  refine va_calli (va_runV (As := [.int 4, .int 0]) (rest := []) ⟨hx, hb, hml, hown, hts⟩ (mX11_puts l dC dI cI cZ ad 4 0 S s.heap.size k1) (cwV 2 hts gX11_untry_X11_puts rfl rfl rfl (by decide +kernel) ⟨Nat.le_of_ble_eq_true rfl, Nat.le_of_ble_eq_true rfl⟩) ⟨QMs_blind, va_recv hK hP (ci := 11) (q0 := 0) rfl rfl, fun U hU hW => ⟨rfl, congrArg Array.size hU, QM_at hP hK hD hU hW⟩⟩ rfl rfl hl.1 rfl (lv_room (Nat.le_of_ble_eq_true rfl)) dX11_untry_3 ⟨Nat.zero_le _, Nat.zero_le _⟩) hS (fun q _ hq => AX_mono hS.1 hq) (fun q hq => AX_mono hS.1 hq) (fun r u t H1 locs ht hvm hw hB hz1 hk1 hS => ?_)
  cases hw
  rw [ht] at hB
  have hP := hB
  clear hB hk1 hz1
  generalize H1 = H at hP hS ⊢
  have hD := wM_D hD S2
  cases h
  exact W.iret hx hb hr (fun t ht hW => ⟨⟨_, _, rfl, rfl, by show va_P _ _ _ t.heap; rw [ht]; exact hP⟩, hS.F ht⟩) hS.2.2 dX11_untry_6
set_option maxHeartbeats 4000000 in
set_option maxRecDepth 100000 in
theorem mX10_kindOf (l : Launch) (dC : Nat → ClassId) (dI : Nat → Nat → Nat) (cI cJ : ClassId) (ad : Nat → Nat) (p1 : Int32) (p2 : Int32) (S : Nat → Nat → Int32) (L : Nat → Nat → Int64) (sz : Nat) {z : Int32 × (Nat → Nat → Int32) × (Nat → Nat → Int64)} (h : sX10_kindOf p1 p2 S L = some z) : Met l yX10_kindOf wsX10_kindOf ({ frames := 2, cells := 0, slots := 0, locals := 42 }) (va_Pc [.ref (ad 0), .int p1, .int p2] (QXs sz dC dI cI cJ ad S L)) (va_Qi (fun (r : Int32) (u : (Nat → Nat → Int32) × (Nat → Nat → Int64)) => (r, u) = z) (fun (u : (Nat → Nat → Int32) × (Nat → Nat → Int64)) t => va_P (dC, dI) vwCl (wX cI cJ ad u.1 u.2) t.heap) (AX 43 ad sz)) 0 0 (AX 43 ad sz) := by
  refine Met.ofW (cc := cX10_kindOf) (maxL := 4) (ret := (some .int)) (by decide) rfl ?_
  intro p e s m args below meth c s₁ B hml hv
  obtain ⟨rfl, hsz, hP, hK, hD0⟩ := hv
  have hx := B.exec
  have hb := B.bytes
  have hr := B.returns
  have hts := atoms_spec (ws := wsX10_kindOf) B.pre
  have hown : s.vm.findClass RX10 = some m.cls := findClass_of_methodNamed B.named
  have hlocks := B.notSynchronized
  subst hsz
  have hD := wX_DA hD0 s.heap.size
  have hS : va_S (AX 43 ad s.heap.size) s.heap s.heap [] := va_S.rf
  have hl := lv_entry ([.ref (ad 0), .int p1, .int p2]) (n := 4) (Nat.le_of_ble_eq_true rfl)
  rw [lg_entry_eq]
  generalize (lg_sl ([.ref (ad 0), .int p1, .int p2]) ++ List.replicate (4 - (lg_sl ([.ref (ad 0), .int p1, .int p2])).length) Slot.unset).toArray = ls at hl ⊢
  have hl : lv_has ls 4 [(0, .ref (ad 0)), (1, .int p1), (2, .int p2)] := hl
  have hf12 := hts (.fieldLink RX10 12 "LawRings" "cases" "LLawRings$Cases;") (by decide +kernel)
  have hiX10 : ∀ w ∈ u_ws RX10 TX10 11, w ∈ wsX10_kindOf := by decide +kernel
  have hf244 := hts (.fieldLink RX10 244 "LawRings$Cases" "kind" "[I") (by decide +kernel)
  have hiX2 : ∀ w ∈ u_ws RX2 TX2 6, w ∈ wsX10_kindOf := by decide +kernel
  rw [sX10_kindOf] at h
  refine lv_aload_n hx hb dX10_kindOf_0 rfl (lv_at hl 0 rfl) ?_
  refine lv_iload_n hx hb dX10_kindOf_1 rfl (lv_at hl 1 rfl) ?_
  obtain ⟨r2, k1, h⟩ := ob_elim h
  refine vp_callSi (W.runV (As := [.int p1]) (rest := []) ⟨hx, hb, hml, hown, hts⟩ (mX10_isCase l dC dI cI cJ ad p1 S L k1) (cwV 1 hts gX10_kindOf_X10_isCase rfl rfl rfl (by decide +kernel) ⟨Nat.le_of_ble_eq_true rfl, Nat.le_of_ble_eq_true rfl⟩) ⟨QX_blind, va_recv hK hP (ci := 10) (q0 := 0) rfl rfl, fun U hU hW => ⟨rfl, QX_at hP hK hD hU hW⟩⟩ rfl rfl hl.1 rfl (lv_room (Nat.le_of_ble_eq_true rfl)) dX10_kindOf_2 ⟨Nat.zero_le _, Nat.zero_le _⟩) (fun r9 er9 => ?_)
  replace er9 := er9.symm
  subst er9
  refine lv_if_eq (tgt := 15) hx hb dX10_kindOf_5 (by decide) (fun c3 => ?_) (fun c3 => ?_)
  · replace h := it_t c3 h
    refine lv_bipush (v := (-2)) hx hb dX10_kindOf_15 (by decide) ?_
    cases h
    exact W.iret hx hb hr (fun t ht hW => ⟨⟨_, _, rfl, rfl, by show va_P _ _ _ t.heap; rw [ht]; exact hP⟩, hS.F ht⟩) hS.2.2 dX10_kindOf_17
  · replace h := it_f c3 h
    refine lv_iload_n hx hb dX10_kindOf_8 rfl (lv_at hl 2 rfl) ?_
    obtain ⟨r5, k4, h⟩ := ob_elim h
    refine vp_callSi (W.runS (As := [.int p2]) (rest := []) ⟨hx, hb, hml, hown, hts⟩ (mX10_isKind l p2 k4) (va_cwS 1 hts gX10_kindOf_X10_isKind rfl rfl rfl (by decide +kernel) ⟨Nat.le_of_ble_eq_true rfl, Nat.le_of_ble_eq_true rfl⟩) ⟨fun _ _ _ _ q => q, fun U hU hW => ⟨rfl, trivial⟩⟩ rfl rfl hl.1 rfl (lv_room (Nat.le_of_ble_eq_true rfl)) dX10_kindOf_9 ⟨Nat.zero_le _, Nat.zero_le _⟩) (fun r9 er9 => ?_)
    replace er9 := er9.symm
    subst er9
    refine lv_if_ne (tgt := 18) hx hb dX10_kindOf_12 (by decide) (fun c6 => ?_) (fun c6 => ?_)
    · replace h := it_f c6 h
      refine lv_aload_n hx hb dX10_kindOf_18 rfl (lv_at hl 0 rfl) ?_
      refine va_get (D := (dC, dI)) (ci := 10) (v := .ref (ad 1)) (C := RX10) (T := TX10) (N := 11) hx hb hts hiX10 hown hK hP 0 rfl rfl 0 (by decide) hf12 (fun _ h9 => h9) rfl dX10_kindOf_19 ?_
      refine va_get (D := (dC, dI)) (ci := 2) (v := .ref (ad 14)) (C := RX2) (T := TX2) (N := 6) hx hb hts hiX2 hown hK hP 1 rfl rfl 3 (by decide) hf244 (fun _ h9 => h9) rfl dX10_kindOf_22 ?_
      refine lv_iload_n hx hb dX10_kindOf_25 rfl (lv_at hl 1 rfl) ?_
      obtain ⟨b7, h⟩ := ck_elim h
      refine va_iald hx hb hK hP 14 0 rfl rfl b7 dX10_kindOf_26 ?_
      obtain ⟨x8, ex8, h⟩ := bnd_elim h
      refine nm_i ex8 ?_
      refine lv_istore_n (lv' := [(3, .int x8), (0, .ref (ad 0)), (1, .int p1), (2, .int p2)]) hx hb dX10_kindOf_27 rfl hl (by decide) rfl (fun ls hl => ?_)
      refine lv_aload_n hx hb dX10_kindOf_28 rfl (lv_at hl 1 rfl) ?_
      refine va_get (D := (dC, dI)) (ci := 10) (v := .ref (ad 1)) (C := RX10) (T := TX10) (N := 11) hx hb hts hiX10 hown hK hP 0 rfl rfl 0 (by decide) hf12 (fun _ h9 => h9) rfl dX10_kindOf_29 ?_
      refine va_get (D := (dC, dI)) (ci := 2) (v := .ref (ad 14)) (C := RX2) (T := TX2) (N := 6) hx hb hts hiX2 hown hK hP 1 rfl rfl 3 (by decide) hf244 (fun _ h9 => h9) rfl dX10_kindOf_32 ?_
      refine lv_iload_n hx hb dX10_kindOf_35 rfl (lv_at hl 2 rfl) ?_
      refine lv_iload_n hx hb dX10_kindOf_36 rfl (lv_at hl 3 rfl) ?_
      obtain ⟨b9, h⟩ := ck_elim h
      obtain ⟨S10, eS10, h⟩ := bnd_elim h
      refine va_iast hx hb hK hP hD hS 14 0 rfl rfl b9 dX10_kindOf_37 (fun H locs hP9 _ hS => ?_)
      have hP := swX_14 hP9
      rw [← eS10] at hP
      have hD := wX_D hD S10 L
      refine lv_iload_n hx hb dX10_kindOf_38 rfl (lv_at hl 0 rfl) ?_
      cases h
      exact W.iret hx hb hr (fun t ht hW => ⟨⟨_, _, rfl, rfl, by show va_P _ _ _ t.heap; rw [ht]; exact hP⟩, hS.F ht⟩) hS.2.2 dX10_kindOf_39
    · replace h := it_t c6 h
      refine lv_bipush (v := (-2)) hx hb dX10_kindOf_15 (by decide) ?_
      cases h
      exact W.iret hx hb hr (fun t ht hW => ⟨⟨_, _, rfl, rfl, by show va_P _ _ _ t.heap; rw [ht]; exact hP⟩, hS.F ht⟩) hS.2.2 dX10_kindOf_17
set_option maxHeartbeats 4000000 in
set_option maxRecDepth 100000 in
theorem mX11_kindOf (l : Launch) (dC : Nat → ClassId) (dI : Nat → Nat → Nat) (cI cZ : ClassId) (ad : Nat → Nat) (p1 : Int32) (p2 : Int32) (S : Nat → Nat → Int32) (sz : Nat) {z : Int32 × (Nat → Nat → Int32)} (h : sX11_kindOf p1 p2 S = some z) : Met l yX11_kindOf wsX11_kindOf ({ frames := 2, cells := 0, slots := 0, locals := 44 }) (va_Pc [.ref (ad 0), .int p1, .int p2] (QMs sz dC dI cI cZ ad S)) (va_Qi (fun (r : Int32) (u : (Nat → Nat → Int32)) => (r, u) = z) (fun (u : (Nat → Nat → Int32)) t => va_P (dC, dI) vwCl (wM cI cZ ad u) t.heap) (AX 7 ad sz)) 0 0 (AX 7 ad sz) := by
  refine Met.ofW (cc := cX11_kindOf) (maxL := 3) (ret := (some .int)) (by decide) rfl ?_
  intro p e s m args below meth c s₁ B hml hv
  obtain ⟨rfl, hsz, hP, hK, hD0⟩ := hv
  have hx := B.exec
  have hb := B.bytes
  have hr := B.returns
  have hts := atoms_spec (ws := wsX11_kindOf) B.pre
  have hown : s.vm.findClass RX11 = some m.cls := findClass_of_methodNamed B.named
  have hlocks := B.notSynchronized
  subst hsz
  have hD := wM_DA hD0 s.heap.size
  have hS : va_S (AX 7 ad s.heap.size) s.heap s.heap [] := va_S.rf
  have hl := lv_entry ([.ref (ad 0), .int p1, .int p2]) (n := 3) (Nat.le_of_ble_eq_true rfl)
  rw [lg_entry_eq]
  generalize (lg_sl ([.ref (ad 0), .int p1, .int p2]) ++ List.replicate (3 - (lg_sl ([.ref (ad 0), .int p1, .int p2])).length) Slot.unset).toArray = ls at hl ⊢
  have hl : lv_has ls 3 [(0, .ref (ad 0)), (1, .int p1), (2, .int p2)] := hl
  rw [sX11_kindOf] at h
  refine lv_aload_n hx hb dX11_kindOf_0 rfl (lv_at hl 0 rfl) ?_
  refine lv_iconst (v := 0) hx hb dX11_kindOf_1 (by decide) ?_
  refine lv_iload_n hx hb dX11_kindOf_2 rfl (lv_at hl 1 rfl) ?_
  obtain ⟨r2, k1, h⟩ := ob_elim h
  refine vp_callSi (W.runV (As := [.int 0, .int p1]) (rest := []) ⟨hx, hb, hml, hown, hts⟩ (mX11_is l dC dI cI cZ ad 0 p1 S k1) (cwV 2 hts gX11_kindOf_X11_is rfl rfl rfl (by decide +kernel) ⟨Nat.le_of_ble_eq_true rfl, Nat.le_of_ble_eq_true rfl⟩) ⟨QM_blind, va_recv hK hP (ci := 11) (q0 := 0) rfl rfl, fun U hU hW => ⟨rfl, QM_at hP hK hD hU hW⟩⟩ rfl rfl hl.1 rfl (lv_room (Nat.le_of_ble_eq_true rfl)) dX11_kindOf_3 ⟨Nat.zero_le _, Nat.zero_le _⟩) (fun r9 er9 => ?_)
  replace er9 := er9.symm
  subst er9
  refine lv_if_eq (tgt := 32) hx hb dX11_kindOf_6 (by decide) (fun c3 => ?_) (fun c3 => ?_)
  · replace h := it_t c3 h
    refine lv_bipush (v := (-2)) hx hb dX11_kindOf_32 (by decide) ?_
    cases h
    exact W.iret hx hb hr (fun t ht hW => ⟨⟨_, _, rfl, rfl, by show va_P _ _ _ t.heap; rw [ht]; exact hP⟩, hS.F ht⟩) hS.2.2 dX11_kindOf_34
  · replace h := it_f c3 h
    refine lv_iload_n hx hb dX11_kindOf_9 rfl (lv_at hl 2 rfl) ?_
    obtain ⟨r5, k4, h⟩ := ob_elim h
    refine vp_callSi (W.runS (As := [.int p2]) (rest := []) ⟨hx, hb, hml, hown, hts⟩ (mX11_isKind l p2 k4) (va_cwS 1 hts gX11_kindOf_X11_isKind rfl rfl rfl (by decide +kernel) ⟨Nat.le_of_ble_eq_true rfl, Nat.le_of_ble_eq_true rfl⟩) ⟨fun _ _ _ _ q => q, fun U hU hW => ⟨rfl, trivial⟩⟩ rfl rfl hl.1 rfl (lv_room (Nat.le_of_ble_eq_true rfl)) dX11_kindOf_10 ⟨Nat.zero_le _, Nat.zero_le _⟩) (fun r9 er9 => ?_)
    replace er9 := er9.symm
    subst er9
    refine lv_if_eq (tgt := 32) hx hb dX11_kindOf_13 (by decide) (fun c6 => ?_) (fun c6 => ?_)
    · replace h := it_t c6 h
      refine lv_bipush (v := (-2)) hx hb dX11_kindOf_32 (by decide) ?_
      cases h
      exact W.iret hx hb hr (fun t ht hW => ⟨⟨_, _, rfl, rfl, by show va_P _ _ _ t.heap; rw [ht]; exact hP⟩, hS.F ht⟩) hS.2.2 dX11_kindOf_34
    · replace h := it_f c6 h
      refine lv_aload_n hx hb dX11_kindOf_16 rfl (lv_at hl 0 rfl) ?_
      refine lv_bipush (v := 10) hx hb dX11_kindOf_17 (by decide) ?_
      refine lv_iconst (v := 2) hx hb dX11_kindOf_19 (by decide) ?_
      refine lv_iload_n hx hb dX11_kindOf_20 rfl (lv_at hl 1 rfl) ?_
      refine lv_imul hx hb dX11_kindOf_21 ?_
      refine lv_iadd hx hb dX11_kindOf_22 ?_
      refine lv_iconst (v := 1) hx hb dX11_kindOf_23 (by decide) ?_
      refine lv_iadd hx hb dX11_kindOf_24 ?_
      refine lv_iload_n hx hb dX11_kindOf_25 rfl (lv_at hl 2 rfl) ?_
      obtain ⟨r9, S8, k7, h⟩ := ob2_elim h
      refine va_calli (va_runV (As := [.int ((10 + (2 * p1)) + 1), .int p2]) (rest := []) ⟨hx, hb, hml, hown, hts⟩ (mX11_puts l dC dI cI cZ ad ((10 + (2 * p1)) + 1) p2 S s.heap.size k7) (cwV 2 hts gX11_kindOf_X11_puts rfl rfl rfl (by decide +kernel) ⟨Nat.le_of_ble_eq_true rfl, Nat.le_of_ble_eq_true rfl⟩) ⟨QMs_blind, va_recv hK hP (ci := 11) (q0 := 0) rfl rfl, fun U hU hW => ⟨rfl, congrArg Array.size hU, QM_at hP hK hD hU hW⟩⟩ rfl rfl hl.1 rfl (lv_room (Nat.le_of_ble_eq_true rfl)) dX11_kindOf_26 ⟨Nat.zero_le _, Nat.zero_le _⟩) hS (fun q _ hq => AX_mono hS.1 hq) (fun q hq => AX_mono hS.1 hq) (fun r u t H1 locs ht hvm hw hB hz1 hk1 hS => ?_)
      cases hw
      rw [ht] at hB
      have hP := hB
      clear hB hk1 hz1
      generalize H1 = H at hP hS ⊢
      have hD := wM_D hD S8
      refine lv_goto (tgt := 34) hx hb dX11_kindOf_29 (by decide) ?_
      cases h
      exact W.iret hx hb hr (fun t ht hW => ⟨⟨_, _, rfl, rfl, by show va_P _ _ _ t.heap; rw [ht]; exact hP⟩, hS.F ht⟩) hS.2.2 dX11_kindOf_34
set_option maxHeartbeats 4000000 in
set_option maxRecDepth 100000 in
theorem mJ6_bitCount_0f7a4 (l : Launch) (p0 : Int32) {z : Int32} (h : sJ6_bitCount_0f7a4 p0 = some z) : Met l yJ6_bitCount_0f7a4 wsJ6_bitCount_0f7a4 ({ frames := 0, cells := 0, slots := 0, locals := 0 }) (va_Pc [.int p0] (fun _ => True)) (vp_Si (fun r => r = z)) 0 0 (fun _ => False) := by
  refine Met.ofW (cc := cJ6_bitCount_0f7a4) (maxL := 1) (ret := (some .int)) (by decide) rfl ?_
  intro p e s m args below meth c s₁ B hml hv
  obtain ⟨rfl, -⟩ := hv
  have hx := B.exec
  have hb := B.bytes
  have hr := B.returns
  have hts := atoms_spec (ws := wsJ6_bitCount_0f7a4) B.pre
  have hown : s.vm.findClass RJ6 = some m.cls := findClass_of_methodNamed B.named
  have hlocks := B.notSynchronized
  have hl := lv_entry ([.int p0]) (n := 1) (Nat.le_of_ble_eq_true rfl)
  rw [lg_entry_eq]
  generalize (lg_sl ([.int p0]) ++ List.replicate (1 - (lg_sl ([.int p0])).length) Slot.unset).toArray = ls at hl ⊢
  have hl : lv_has ls 1 [(0, .int p0)] := hl
  have hk265 := hts (.constant RJ6 265 (1431655765)) (by decide +kernel)
  have hk266 := hts (.constant RJ6 266 (858993459)) (by decide +kernel)
  have hk267 := hts (.constant RJ6 267 (252645135)) (by decide +kernel)
  rw [sJ6_bitCount_0f7a4] at h
  refine lv_iload_n hx hb dJ6_bitCount_0f7a4_0 rfl (lv_at hl 0 rfl) ?_
  refine lv_iload_n hx hb dJ6_bitCount_0f7a4_1 rfl (lv_at hl 0 rfl) ?_
  refine lv_iconst (v := 1) hx hb dJ6_bitCount_0f7a4_2 (by decide) ?_
  refine lv_iushr (v := iush p0 1) hx hb dJ6_bitCount_0f7a4_3 rfl ?_
  refine lv_ldcw (v := 1431655765) hx hb hown hk265 dJ6_bitCount_0f7a4_4 ?_
  refine lv_iand hx hb dJ6_bitCount_0f7a4_7 ?_
  refine lv_isub hx hb dJ6_bitCount_0f7a4_8 ?_
  obtain ⟨x1, ex1, h⟩ := bnd_elim h
  refine nm_i ex1 ?_
  refine lv_istore_n (lv' := [(0, .int x1)]) hx hb dJ6_bitCount_0f7a4_9 rfl hl (by decide) rfl (fun ls hl => ?_)
  refine lv_iload_n hx hb dJ6_bitCount_0f7a4_10 rfl (lv_at hl 0 rfl) ?_
  refine lv_ldcw (v := 858993459) hx hb hown hk266 dJ6_bitCount_0f7a4_11 ?_
  refine lv_iand hx hb dJ6_bitCount_0f7a4_14 ?_
  refine lv_iload_n hx hb dJ6_bitCount_0f7a4_15 rfl (lv_at hl 0 rfl) ?_
  refine lv_iconst (v := 2) hx hb dJ6_bitCount_0f7a4_16 (by decide) ?_
  refine lv_iushr (v := iush x1 2) hx hb dJ6_bitCount_0f7a4_17 rfl ?_
  refine lv_ldcw (v := 858993459) hx hb hown hk266 dJ6_bitCount_0f7a4_18 ?_
  refine lv_iand hx hb dJ6_bitCount_0f7a4_21 ?_
  refine lv_iadd hx hb dJ6_bitCount_0f7a4_22 ?_
  obtain ⟨x2, ex2, h⟩ := bnd_elim h
  refine nm_i ex2 ?_
  refine lv_istore_n (lv' := [(0, .int x2)]) hx hb dJ6_bitCount_0f7a4_23 rfl hl (by decide) rfl (fun ls hl => ?_)
  refine lv_iload_n hx hb dJ6_bitCount_0f7a4_24 rfl (lv_at hl 0 rfl) ?_
  refine lv_iload_n hx hb dJ6_bitCount_0f7a4_25 rfl (lv_at hl 0 rfl) ?_
  refine lv_iconst (v := 4) hx hb dJ6_bitCount_0f7a4_26 (by decide) ?_
  refine lv_iushr (v := iush x2 4) hx hb dJ6_bitCount_0f7a4_27 rfl ?_
  refine lv_iadd hx hb dJ6_bitCount_0f7a4_28 ?_
  refine lv_ldcw (v := 252645135) hx hb hown hk267 dJ6_bitCount_0f7a4_29 ?_
  refine lv_iand hx hb dJ6_bitCount_0f7a4_32 ?_
  obtain ⟨x3, ex3, h⟩ := bnd_elim h
  refine nm_i ex3 ?_
  refine lv_istore_n (lv' := [(0, .int x3)]) hx hb dJ6_bitCount_0f7a4_33 rfl hl (by decide) rfl (fun ls hl => ?_)
  refine lv_iload_n hx hb dJ6_bitCount_0f7a4_34 rfl (lv_at hl 0 rfl) ?_
  refine lv_iload_n hx hb dJ6_bitCount_0f7a4_35 rfl (lv_at hl 0 rfl) ?_
  refine lv_bipush (v := 8) hx hb dJ6_bitCount_0f7a4_36 (by decide) ?_
  refine lv_iushr (v := iush x3 8) hx hb dJ6_bitCount_0f7a4_38 rfl ?_
  refine lv_iadd hx hb dJ6_bitCount_0f7a4_39 ?_
  obtain ⟨x4, ex4, h⟩ := bnd_elim h
  refine nm_i ex4 ?_
  refine lv_istore_n (lv' := [(0, .int x4)]) hx hb dJ6_bitCount_0f7a4_40 rfl hl (by decide) rfl (fun ls hl => ?_)
  refine lv_iload_n hx hb dJ6_bitCount_0f7a4_41 rfl (lv_at hl 0 rfl) ?_
  refine lv_iload_n hx hb dJ6_bitCount_0f7a4_42 rfl (lv_at hl 0 rfl) ?_
  refine lv_bipush (v := 16) hx hb dJ6_bitCount_0f7a4_43 (by decide) ?_
  refine lv_iushr (v := iush x4 16) hx hb dJ6_bitCount_0f7a4_45 rfl ?_
  refine lv_iadd hx hb dJ6_bitCount_0f7a4_46 ?_
  obtain ⟨x5, ex5, h⟩ := bnd_elim h
  refine nm_i ex5 ?_
  refine lv_istore_n (lv' := [(0, .int x5)]) hx hb dJ6_bitCount_0f7a4_47 rfl hl (by decide) rfl (fun ls hl => ?_)
  refine lv_iload_n hx hb dJ6_bitCount_0f7a4_48 rfl (lv_at hl 0 rfl) ?_
  refine lv_bipush (v := 63) hx hb dJ6_bitCount_0f7a4_49 (by decide) ?_
  refine lv_iand hx hb dJ6_bitCount_0f7a4_51 ?_
  cases h
  exact W.iret hx hb hr (fun t ht hW => ⟨_, rfl, rfl, ht⟩) (fun q hq => absurd hq List.not_mem_nil) dJ6_bitCount_0f7a4_52
set_option maxHeartbeats 4000000 in
set_option maxRecDepth 100000 in
theorem mX9_rulesAt (l : Launch) (dC : Nat → ClassId) (dI : Nat → Nat → Nat) (cI cJ : ClassId) (ad : Nat → Nat) (p1 : Int32) (S : Nat → Nat → Int32) (L : Nat → Nat → Int64) {z : Int64} (h : sX9_rulesAt p1 S L = some z) : Met l yX9_rulesAt wsX9_rulesAt ({ frames := 0, cells := 0, slots := 0, locals := 0 }) (va_Pc [.ref (ad 5), .int p1] (QX dC dI cI cJ ad S L)) (vp_Sl (fun r => r = z)) 0 0 (fun _ => False) := by
  refine Met.ofW (cc := cX9_rulesAt) (maxL := 5) (ret := (some .long)) (by decide) rfl ?_
  intro p e s m args below meth c s₁ B hml hv
  obtain ⟨rfl, hP, hK, hD⟩ := hv
  have hx := B.exec
  have hb := B.bytes
  have hr := B.returns
  have hts := atoms_spec (ws := wsX9_rulesAt) B.pre
  have hown : s.vm.findClass RX9 = some m.cls := findClass_of_methodNamed B.named
  have hlocks := B.notSynchronized
  have hl := lv_entry ([.ref (ad 5), .int p1]) (n := 5) (Nat.le_of_ble_eq_true rfl)
  rw [lg_entry_eq]
  generalize (lg_sl ([.ref (ad 5), .int p1]) ++ List.replicate (5 - (lg_sl ([.ref (ad 5), .int p1])).length) Slot.unset).toArray = ls at hl ⊢
  have hl : lv_has ls 5 [(0, .ref (ad 5)), (1, .int p1)] := hl
  have hf15 := hts (.fieldLink RX9 15 "LawRings$Trials" "size" "I") (by decide +kernel)
  have hiX9 : ∀ w ∈ u_ws RX9 TX9 2, w ∈ wsX9_rulesAt := by decide +kernel
  have hf9 := hts (.fieldLink RX9 9 "LawRings$Trials" "rule" "[I") (by decide +kernel)
  rw [sX9_rulesAt] at h
  refine lv_lconst (v := 0) hx hb dX9_rulesAt_0 (by decide) ?_
  refine lv_lstore_n (lv' := [(2, .long 0), (0, .ref (ad 5)), (1, .int p1)]) hx hb dX9_rulesAt_1 rfl hl (by decide) rfl (fun ls hl => ?_)
  refine lv_iconst (v := 0) hx hb dX9_rulesAt_2 (by decide) ?_
  refine lv_istore (lv' := [(4, .int 0), (2, .long 0), (0, .ref (ad 5)), (1, .int p1)]) hx hb dX9_rulesAt_3 hl (by decide) rfl (fun ls hl => ?_)
  refine ww_r (fun WW5 hWW5 => ?_)
  have Lh5 : ∀ (n : Nat) (v1 : Int64) (v2 : Int32) (z : (Int64)), lX9_rulesAt_5 p1 S L n v1 v2 = some z → ∀ ls : Array Slot, lv_has ls 5 [(0, .ref (ad 5)), (1, .int p1), (2, .long v1), (4, .int v2)] → (∀ (y0 : Int64), z = y0 → ∀ ls : Array Slot, lv_has ls 5 [(2, .long y0)] → WW5  41 ls) → WW5  5 ls := by
    intro n
    induction n with
    | zero => intro v1 v2 z h ls hl K0; rw [lX9_rulesAt_5] at h; cases h
    | succ n ih =>
      intro v1 v2 z h ls hl K0
      rw [lX9_rulesAt_5] at h
      refine wi_r hWW5 ?_
      refine lv_iload hx hb dX9_rulesAt_5 (lv_at hl 3 rfl) ?_
      refine lv_aload_n hx hb dX9_rulesAt_7 rfl (lv_at hl 0 rfl) ?_
      refine va_get (D := (dC, dI)) (ci := 9) (v := .int (S 5 0)) (C := RX9) (T := TX9) (N := 2) hx hb hts hiX9 hown hK hP 5 rfl rfl 0 (by decide) hf15 (fun _ h9 => h9) rfl dX9_rulesAt_8 ?_
      refine lv_icmp_ge (tgt := 41) hx hb dX9_rulesAt_11 (by decide) (fun c3 => ?_) (fun c3 => ?_)
      · replace h := it_t c3 h
        refine wu_r hWW5 ?_
        exact K0 v1 (Option.some.inj h).symm ls (lv_sub hl [2] rfl)
      · replace h := it_f c3 h
        refine lv_iload_n hx hb dX9_rulesAt_14 rfl (lv_at hl 1 rfl) ?_
        refine lv_iload hx hb dX9_rulesAt_15 (lv_at hl 3 rfl) ?_
        refine lv_iushr (v := iush p1 v2) hx hb dX9_rulesAt_17 rfl ?_
        refine lv_iconst (v := 1) hx hb dX9_rulesAt_18 (by decide) ?_
        refine lv_iand hx hb dX9_rulesAt_19 ?_
        refine lv_if_eq (tgt := 35) hx hb dX9_rulesAt_20 (by decide) (fun c4 => ?_) (fun c4 => ?_)
        · replace h := it_t c4 h
          obtain ⟨x5, ex5, h⟩ := bnd_elim h
          refine lv_iinc (v := x5) (lv' := [(4, .int x5), (0, .ref (ad 5)), (1, .int p1), (2, .long v1)]) hx hb dX9_rulesAt_35 hl (k := 3) rfl (by rw [ex5]; rfl) (by decide) rfl (fun ls hl => ?_)
          refine lv_goto (tgt := 5) hx hb dX9_rulesAt_38 (by decide) ?_
          refine wu_r hWW5 ?_
          exact ih v1 x5 z h ls (lv_sub hl [1, 2, 3, 0] rfl) K0
        · replace h := it_f c4 h
          refine lv_lload_n hx hb dX9_rulesAt_23 rfl (lv_at hl 2 rfl) ?_
          refine lv_lconst (v := 1) hx hb dX9_rulesAt_24 (by decide) ?_
          refine lv_aload_n hx hb dX9_rulesAt_25 rfl (lv_at hl 0 rfl) ?_
          refine va_get (D := (dC, dI)) (ci := 9) (v := .ref (ad 34)) (C := RX9) (T := TX9) (N := 2) hx hb hts hiX9 hown hK hP 5 rfl rfl 1 (by decide) hf9 (fun _ h9 => h9) rfl dX9_rulesAt_26 ?_
          refine lv_iload hx hb dX9_rulesAt_29 (lv_at hl 3 rfl) ?_
          obtain ⟨b6, h⟩ := ck_elim h
          refine va_iald hx hb hK hP 34 0 rfl rfl b6 dX9_rulesAt_31 ?_
          refine lv_lshl (v := lsh 1 (S 34 v2.toNatClampNeg)) hx hb dX9_rulesAt_32 rfl ?_
          refine lv_lor hx hb dX9_rulesAt_33 ?_
          obtain ⟨x7, ex7, h⟩ := bnd_elim h
          refine nm_l ex7 ?_
          refine lv_lstore_n (lv' := [(2, .long x7), (0, .ref (ad 5)), (1, .int p1), (4, .int v2)]) hx hb dX9_rulesAt_34 rfl hl (by decide) rfl (fun ls hl => ?_)
          obtain ⟨x8, ex8, h⟩ := bnd_elim h
          refine lv_iinc (v := x8) (lv' := [(4, .int x8), (2, .long x7), (0, .ref (ad 5)), (1, .int p1)]) hx hb dX9_rulesAt_35 hl (k := 3) rfl (by rw [ex8]; rfl) (by decide) rfl (fun ls hl => ?_)
          refine lv_goto (tgt := 5) hx hb dX9_rulesAt_38 (by decide) ?_
          refine wu_r hWW5 ?_
          exact ih x7 x8 z h ls (lv_sub hl [2, 3, 1, 0] rfl) K0
  obtain ⟨w10, k9, h⟩ := ob_elim h
  refine wu_r hWW5 ?_
  refine Lh5 FU 0 0 _ k9 ls (lv_sub hl [2, 3, 1, 0] rfl) ?_
  intro y0 hy ls hl
  cases hy
  refine wi_r hWW5 ?_
  refine lv_lload_n hx hb dX9_rulesAt_41 rfl (lv_at hl 0 rfl) ?_
  cases h
  exact W.lret hx hb hr (fun t ht hW => ⟨_, rfl, rfl, ht⟩) (fun q hq => absurd hq List.not_mem_nil) dX9_rulesAt_42
set_option maxHeartbeats 4000000 in
set_option maxRecDepth 100000 in
theorem mX7_allAlikeWithout (l : Launch) (dC : Nat → ClassId) (dI : Nat → Nat → Nat) (cI cJ : ClassId) (ad : Nat → Nat) (p1 : Int64) (S : Nat → Nat → Int32) (L : Nat → Nat → Int64) (sz : Nat) {z : Int32 × (Nat → Nat → Int32) × (Nat → Nat → Int64)} (h : sX7_allAlikeWithout p1 S L = some z) : Met l yX7_allAlikeWithout wsX7_allAlikeWithout ({ frames := 4, cells := 0, slots := 0, locals := 93 }) (va_Pc [.ref (ad 9), .long p1] (QXs sz dC dI cI cJ ad S L)) (va_Qi (fun (r : Int32) (u : (Nat → Nat → Int32) × (Nat → Nat → Int64)) => (r, u) = z) (fun (u : (Nat → Nat → Int32) × (Nat → Nat → Int64)) t => va_P (dC, dI) vwCl (wX cI cJ ad u.1 u.2) t.heap) (AX 43 ad sz)) 0 0 (AX 43 ad sz) := by
  refine Met.ofW (cc := cX7_allAlikeWithout) (maxL := 4) (ret := (some .boolean)) (by decide) rfl ?_
  intro p e s m args below meth c s₁ B hml hv
  obtain ⟨rfl, hsz, hP, hK, hD0⟩ := hv
  have hx := B.exec
  have hb := B.bytes
  have hr := B.returns
  have hts := atoms_spec (ws := wsX7_allAlikeWithout) B.pre
  have hown : s.vm.findClass RX7 = some m.cls := findClass_of_methodNamed B.named
  have hlocks := B.notSynchronized
  subst hsz
  have hD := wX_DA hD0 s.heap.size
  have hS : va_S (AX 43 ad s.heap.size) s.heap s.heap [] := va_S.rf
  have hl := lv_entry ([.ref (ad 9), .long p1]) (n := 4) (Nat.le_of_ble_eq_true rfl)
  rw [lg_entry_eq]
  generalize (lg_sl ([.ref (ad 9), .long p1]) ++ List.replicate (4 - (lg_sl ([.ref (ad 9), .long p1])).length) Slot.unset).toArray = ls at hl ⊢
  have hl : lv_has ls 4 [(0, .ref (ad 9)), (1, .long p1)] := hl
  have hf15 := hts (.fieldLink RX7 15 "LawRings$Striking" "cases" "LLawRings$Cases;") (by decide +kernel)
  have hiX7 : ∀ w ∈ u_ws RX7 TX7 4, w ∈ wsX7_allAlikeWithout := by decide +kernel
  have hf27 := hts (.fieldLink RX7 27 "LawRings$Cases" "size" "I") (by decide +kernel)
  have hiX2 : ∀ w ∈ u_ws RX2 TX2 6, w ∈ wsX7_allAlikeWithout := by decide +kernel
  have hf23 := hts (.fieldLink RX7 23 "LawRings$Striking" "hearing" "LLawRings$Hearing;") (by decide +kernel)
  have hf9 := hts (.fieldLink RX7 9 "LawRings$Striking" "held" "[J") (by decide +kernel)
  have hk62 := hts (.constantLong RX7 62 (-1)) (by decide +kernel)
  have hf39 := hts (.fieldLink RX7 39 "LawRings$Hearing" "held" "J") (by decide +kernel)
  have hiX4 : ∀ w ∈ u_ws RX4 TX4 9, w ∈ wsX7_allAlikeWithout := by decide +kernel
  have hf64 := hts (.fieldLink RX7 64 "LawRings$Cases" "kind" "[I") (by decide +kernel)
  rw [sX7_allAlikeWithout] at h
  refine lv_iconst (v := 0) hx hb dX7_allAlikeWithout_0 (by decide) ?_
  refine lv_istore_n (lv' := [(3, .int 0), (0, .ref (ad 9)), (1, .long p1)]) hx hb dX7_allAlikeWithout_1 rfl hl (by decide) rfl (fun ls hl => ?_)
  refine ww_w (fun WW2 hWW2 => ?_)
  have Lh2 : ∀ (n : Nat) (v1 : Int32) (S2 : (Nat → Nat → Int32)) (L3 : (Nat → Nat → Int64)) (z : (((Nat → Nat → Int32) × (Nat → Nat → Int64)) ⊕ ((Nat → Nat → Int32) × (Nat → Nat → Int64)))), lX7_allAlikeWithout_2 p1 n v1 S2 L3 = some z → ∀ (H : Heap) (locs : List Loc), va_P (dC, dI) vwCl (wX cI cJ ad S2 L3) H → va_S (AX 43 ad s.heap.size) s.heap H locs → ∀ ls : Array Slot, lv_has ls 4 [(0, .ref (ad 9)), (1, .long p1), (3, .int v1)] → (∀ (YS : (Nat → Nat → Int32)) (YL : (Nat → Nat → Int64)), z = .inl (YS, YL) → ∀ (H : Heap) (locs : List Loc), va_P (dC, dI) vwCl (wX cI cJ ad YS YL) H → va_S (AX 43 ad s.heap.size) s.heap H locs → ∀ ls : Array Slot, lv_has ls 4 [] → WW2 H locs 70 ls) → (∀ (YS : (Nat → Nat → Int32)) (YL : (Nat → Nat → Int64)), z = .inr (YS, YL) → ∀ (H : Heap) (locs : List Loc), va_P (dC, dI) vwCl (wX cI cJ ad YS YL) H → va_S (AX 43 ad s.heap.size) s.heap H locs → ∀ ls : Array Slot, lv_has ls 4 [] → WW2 H locs 78 ls) → WW2 H locs 2 ls := by
    intro n
    induction n with
    | zero => intro v1 S2 L3 z h H locs hP hS ls hl K0 K1; rw [lX7_allAlikeWithout_2] at h; cases h
    | succ n ih =>
      intro v1 S2 L3 z h H locs hP hS ls hl K0 K1
      have hD := wX_D hD S2 L3
      rw [lX7_allAlikeWithout_2] at h
      refine wi_w hWW2 ?_
      refine lv_iload_n hx hb dX7_allAlikeWithout_2 rfl (lv_at hl 2 rfl) ?_
      refine lv_aload_n hx hb dX7_allAlikeWithout_3 rfl (lv_at hl 0 rfl) ?_
      refine va_get (D := (dC, dI)) (ci := 7) (v := .ref (ad 1)) (C := RX7) (T := TX7) (N := 4) hx hb hts hiX7 hown hK hP 9 rfl rfl 0 (by decide) hf15 (fun _ h9 => h9) rfl dX7_allAlikeWithout_4 ?_
      refine va_get (D := (dC, dI)) (ci := 2) (v := .int (S2 1 0)) (C := RX2) (T := TX2) (N := 6) hx hb hts hiX2 hown hK hP 1 rfl rfl 0 (by decide) hf27 (fun _ h9 => h9) rfl dX7_allAlikeWithout_7 ?_
      refine lv_icmp_ge (tgt := 78) hx hb dX7_allAlikeWithout_10 (by decide) (fun c4 => ?_) (fun c4 => ?_)
      · replace h := it_t c4 h
        refine wu_w hWW2 ?_
        exact K1 S2 L3 (Option.some.inj h).symm H locs hP hS ls (lv_sub hl [] rfl)
      · replace h := it_f c4 h
        refine lv_aload_n hx hb dX7_allAlikeWithout_13 rfl (lv_at hl 0 rfl) ?_
        refine va_get (D := (dC, dI)) (ci := 7) (v := .ref (ad 6)) (C := RX7) (T := TX7) (N := 4) hx hb hts hiX7 hown hK hP 9 rfl rfl 2 (by decide) hf23 (fun _ h9 => h9) rfl dX7_allAlikeWithout_14 ?_
        refine lv_aload_n hx hb dX7_allAlikeWithout_17 rfl (lv_at hl 0 rfl) ?_
        refine va_get (D := (dC, dI)) (ci := 7) (v := .ref (ad 1)) (C := RX7) (T := TX7) (N := 4) hx hb hts hiX7 hown hK hP 9 rfl rfl 0 (by decide) hf15 (fun _ h9 => h9) rfl dX7_allAlikeWithout_18 ?_
        refine lv_iload_n hx hb dX7_allAlikeWithout_21 rfl (lv_at hl 2 rfl) ?_
        obtain ⟨S6, L7, k5, h⟩ := ob2_elim h
        refine va_callv (va_runV (As := [.ref (ad 1), .int v1]) (rest := []) ⟨hx, hb, hml, hown, hts⟩ (mX4_takeTies l dC dI cI cJ ad v1 S2 L3 H.size k5) (cwV 2 hts gX7_allAlikeWithout_X4_takeTies rfl rfl rfl (by decide +kernel) ⟨Nat.le_of_ble_eq_true rfl, Nat.le_of_ble_eq_true rfl⟩) ⟨QXs_blind, va_recv hK hP (ci := 4) (q0 := 6) rfl rfl, fun U hU hW => ⟨rfl, congrArg Array.size hU, QX_at hP hK hD hU hW⟩⟩ rfl rfl hl.1 rfl (lv_room (Nat.le_of_ble_eq_true rfl)) dX7_allAlikeWithout_22 ⟨Nat.zero_le _, Nat.zero_le _⟩) hS (fun q _ hq => AX_mono hS.1 hq) (fun q hq => AX_mono hS.1 hq) (fun u t H1 locs ht hvm hw hB hz1 hk1 hS => ?_)
        cases hw
        rw [ht] at hB
        have hP := hB
        clear hB hk1 hz1
        generalize H1 = H at hP hS ⊢
        have hD := wX_D hD S6 L7
        refine lv_aload_n hx hb dX7_allAlikeWithout_25 rfl (lv_at hl 0 rfl) ?_
        refine va_get (D := (dC, dI)) (ci := 7) (v := .ref (ad 6)) (C := RX7) (T := TX7) (N := 4) hx hb hts hiX7 hown hK hP 9 rfl rfl 2 (by decide) hf23 (fun _ h9 => h9) rfl dX7_allAlikeWithout_26 ?_
        refine lv_aload_n hx hb dX7_allAlikeWithout_29 rfl (lv_at hl 0 rfl) ?_
        refine va_get (D := (dC, dI)) (ci := 7) (v := .ref (ad 40)) (C := RX7) (T := TX7) (N := 4) hx hb hts hiX7 hown hK hP 9 rfl rfl 3 (by decide) hf9 (fun _ h9 => h9) rfl dX7_allAlikeWithout_30 ?_
        refine lv_iload_n hx hb dX7_allAlikeWithout_33 rfl (lv_at hl 2 rfl) ?_
        obtain ⟨b8, h⟩ := ck_elim h
        refine va_lald hx hb hK hP 40 1 rfl rfl b8 dX7_allAlikeWithout_34 ?_
        refine lv_lload_n hx hb dX7_allAlikeWithout_35 rfl (lv_at hl 1 rfl) ?_
        refine lv_ldc2 (v := (-1)) hx hb hown hk62 dX7_allAlikeWithout_36 ?_
        refine lv_lxor hx hb dX7_allAlikeWithout_39 ?_
        refine lv_land hx hb dX7_allAlikeWithout_40 ?_
        obtain ⟨L9, eL9, h⟩ := bnd_elim h
        refine va_put (D := (dC, dI)) (ci := 4) (v := .long ((L7 40 v1.toNatClampNeg) &&& (p1 ^^^ (-1)))) (ty := .long) (C := RX4) (T := TX4) (N := 9) hx hb hts hiX4 tyX4 tyX4_ok nmX4 hown hK hP hD hS 6 rfl rfl 4 (by decide) hf39 (fun _ h9 => h9) rfl (by decide +kernel) rfl rfl (Nat.le_of_ble_eq_true rfl) dX7_allAlikeWithout_41 (fun H locs hP9 _ hS => ?_)
        have hP := swX_6_4 hP9
        rw [← eL9] at hP
        have hD := wX_D hD S6 L9
        refine lv_aload_n hx hb dX7_allAlikeWithout_44 rfl (lv_at hl 0 rfl) ?_
        refine va_get (D := (dC, dI)) (ci := 7) (v := .ref (ad 6)) (C := RX7) (T := TX7) (N := 4) hx hb hts hiX7 hown hK hP 9 rfl rfl 2 (by decide) hf23 (fun _ h9 => h9) rfl dX7_allAlikeWithout_45 ?_
        refine lv_aload_n hx hb dX7_allAlikeWithout_48 rfl (lv_at hl 0 rfl) ?_
        refine va_get (D := (dC, dI)) (ci := 7) (v := .ref (ad 1)) (C := RX7) (T := TX7) (N := 4) hx hb hts hiX7 hown hK hP 9 rfl rfl 0 (by decide) hf15 (fun _ h9 => h9) rfl dX7_allAlikeWithout_49 ?_
        refine va_get (D := (dC, dI)) (ci := 2) (v := .ref (ad 14)) (C := RX2) (T := TX2) (N := 6) hx hb hts hiX2 hown hK hP 1 rfl rfl 3 (by decide) hf64 (fun _ h9 => h9) rfl dX7_allAlikeWithout_52 ?_
        refine lv_iload_n hx hb dX7_allAlikeWithout_55 rfl (lv_at hl 2 rfl) ?_
        obtain ⟨b10, h⟩ := ck_elim h
        refine va_iald hx hb hK hP 14 0 rfl rfl b10 dX7_allAlikeWithout_56 ?_
        obtain ⟨S12, L13, k11, h⟩ := ob2_elim h
        refine va_callv (va_runV (As := [.int (S6 14 v1.toNatClampNeg)]) (rest := []) ⟨hx, hb, hml, hown, hts⟩ (mX4_readBooks l dC dI cI cJ ad (S6 14 v1.toNatClampNeg) S6 L9 H.size k11) (cwV 1 hts gX7_allAlikeWithout_X4_readBooks rfl rfl rfl (by decide +kernel) ⟨Nat.le_of_ble_eq_true rfl, Nat.le_of_ble_eq_true rfl⟩) ⟨QXs_blind, va_recv hK hP (ci := 4) (q0 := 6) rfl rfl, fun U hU hW => ⟨rfl, congrArg Array.size hU, QX_at hP hK hD hU hW⟩⟩ rfl rfl hl.1 rfl (lv_room (Nat.le_of_ble_eq_true rfl)) dX7_allAlikeWithout_57 ⟨Nat.zero_le _, Nat.zero_le _⟩) hS (fun q _ hq => AX_mono hS.1 hq) (fun q hq => AX_mono hS.1 hq) (fun u t H1 locs ht hvm hw hB hz1 hk1 hS => ?_)
        cases hw
        rw [ht] at hB
        have hP := hB
        clear hB hk1 hz1
        generalize H1 = H at hP hS ⊢
        have hD := wX_D hD S12 L13
        refine lv_aload_n hx hb dX7_allAlikeWithout_60 rfl (lv_at hl 0 rfl) ?_
        refine va_get (D := (dC, dI)) (ci := 7) (v := .ref (ad 6)) (C := RX7) (T := TX7) (N := 4) hx hb hts hiX7 hown hK hP 9 rfl rfl 2 (by decide) hf23 (fun _ h9 => h9) rfl dX7_allAlikeWithout_61 ?_
        obtain ⟨r17, S15, L16, k14, h⟩ := ob3_elim h
        refine va_calli (va_runV (As := []) (rest := []) ⟨hx, hb, hml, hown, hts⟩ (mX4_allAlike l dC dI cI cJ ad S12 L13 H.size k14) (cwV 0 hts gX7_allAlikeWithout_X4_allAlike rfl rfl rfl (by decide +kernel) ⟨Nat.le_of_ble_eq_true rfl, Nat.le_of_ble_eq_true rfl⟩) ⟨QXs_blind, va_recv hK hP (ci := 4) (q0 := 6) rfl rfl, fun U hU hW => ⟨rfl, congrArg Array.size hU, QX_at hP hK hD hU hW⟩⟩ rfl rfl hl.1 rfl (lv_room (Nat.le_of_ble_eq_true rfl)) dX7_allAlikeWithout_64 ⟨Nat.zero_le _, Nat.zero_le _⟩) hS (fun q _ hq => AX_mono hS.1 hq) (fun q hq => AX_mono hS.1 hq) (fun r u t H1 locs ht hvm hw hB hz1 hk1 hS => ?_)
        cases hw
        rw [ht] at hB
        have hP := hB
        clear hB hk1 hz1
        generalize H1 = H at hP hS ⊢
        have hD := wX_D hD S15 L16
        refine lv_if_ne (tgt := 72) hx hb dX7_allAlikeWithout_67 (by decide) (fun c18 => ?_) (fun c18 => ?_)
        · replace h := it_f c18 h
          obtain ⟨x19, ex19, h⟩ := bnd_elim h
          refine lv_iinc (v := x19) (lv' := [(3, .int x19), (0, .ref (ad 9)), (1, .long p1)]) hx hb dX7_allAlikeWithout_72 hl (k := 2) rfl (by rw [ex19]; rfl) (by decide) rfl (fun ls hl => ?_)
          refine lv_goto (tgt := 2) hx hb dX7_allAlikeWithout_75 (by decide) ?_
          refine wu_w hWW2 ?_
          exact ih x19 S15 L16 z h H locs hP hS ls (lv_sub hl [1, 2, 0] rfl) K0 K1
        · replace h := it_t c18 h
          refine wu_w hWW2 ?_
          exact K0 S15 L16 (Option.some.inj h).symm H locs hP hS ls (lv_sub hl [] rfl)
  obtain ⟨q9, k20, h⟩ | ⟨q9, k20, h⟩ := os2_elim h
  · obtain ⟨S21, L22⟩ := q9
    replace h := un2_e h
    refine wu_w hWW2 ?_
    refine Lh2 FU 0 S L _ k20 s.heap [] hP hS ls (lv_sub hl [1, 2, 0] rfl) ?_ (fun _ _ hy => by cases hy)
    intro y0 y1 hy H locs hP hS ls hl
    cases hy
    have hD := wX_D hD S21 L22
    refine wi_w hWW2 ?_
    refine lv_iconst (v := 0) hx hb dX7_allAlikeWithout_70 (by decide) ?_
    cases h
    exact W.zret hx hb hr rfl (fun t ht hW => ⟨⟨_, _, rfl, rfl, by show va_P _ _ _ t.heap; rw [ht]; exact hP⟩, hS.F ht⟩) hS.2.2 dX7_allAlikeWithout_71
  · obtain ⟨S23, L24⟩ := q9
    replace h := un2_e h
    refine wu_w hWW2 ?_
    refine Lh2 FU 0 S L _ k20 s.heap [] hP hS ls (lv_sub hl [1, 2, 0] rfl) (fun _ _ hy => by cases hy) ?_
    intro y0 y1 hy H locs hP hS ls hl
    cases hy
    have hD := wX_D hD S23 L24
    refine wi_w hWW2 ?_
    refine lv_iconst (v := 1) hx hb dX7_allAlikeWithout_78 (by decide) ?_
    cases h
    exact W.zret hx hb hr rfl (fun t ht hW => ⟨⟨_, _, rfl, rfl, by show va_P _ _ _ t.heap; rw [ht]; exact hP⟩, hS.F ht⟩) hS.2.2 dX7_allAlikeWithout_79
set_option maxHeartbeats 4000000 in
set_option maxRecDepth 100000 in
theorem mX7_fewestOf (l : Launch) (dC : Nat → ClassId) (dI : Nat → Nat → Nat) (cI cJ : ClassId) (ad : Nat → Nat)  (S : Nat → Nat → Int32) (L : Nat → Nat → Int64) (sz : Nat) {z : Int32 × (Nat → Nat → Int32) × (Nat → Nat → Int64)} (h : sX7_fewestOf S L = some z) : Met l yX7_fewestOf wsX7_fewestOf ({ frames := 5, cells := 0, slots := 0, locals := 116 }) (va_Pc [.ref (ad 9)] (QXs sz dC dI cI cJ ad S L)) (va_Qi (fun (r : Int32) (u : (Nat → Nat → Int32) × (Nat → Nat → Int64)) => (r, u) = z) (fun (u : (Nat → Nat → Int32) × (Nat → Nat → Int64)) t => va_P (dC, dI) vwCl (wX cI cJ ad u.1 u.2) t.heap) (AX 43 ad sz)) 0 0 (AX 43 ad sz) := by
  refine Met.ofW (cc := cX7_fewestOf) (maxL := 3) (ret := (some .int)) (by decide) rfl ?_
  intro p e s m args below meth c s₁ B hml hv
  obtain ⟨rfl, hsz, hP, hK, hD0⟩ := hv
  have hx := B.exec
  have hb := B.bytes
  have hr := B.returns
  have hts := atoms_spec (ws := wsX7_fewestOf) B.pre
  have hown : s.vm.findClass RX7 = some m.cls := findClass_of_methodNamed B.named
  have hlocks := B.notSynchronized
  subst hsz
  have hD := wX_DA hD0 s.heap.size
  have hS : va_S (AX 43 ad s.heap.size) s.heap s.heap [] := va_S.rf
  have hl := lv_entry ([.ref (ad 9)]) (n := 3) (Nat.le_of_ble_eq_true rfl)
  rw [lg_entry_eq]
  generalize (lg_sl ([.ref (ad 9)]) ++ List.replicate (3 - (lg_sl ([.ref (ad 9)])).length) Slot.unset).toArray = ls at hl ⊢
  have hl : lv_has ls 3 [(0, .ref (ad 9))] := hl
  have hf15 := hts (.fieldLink RX7 15 "LawRings$Striking" "cases" "LLawRings$Cases;") (by decide +kernel)
  have hiX7 : ∀ w ∈ u_ws RX7 TX7 4, w ∈ wsX7_fewestOf := by decide +kernel
  have hf27 := hts (.fieldLink RX7 27 "LawRings$Cases" "size" "I") (by decide +kernel)
  have hiX2 : ∀ w ∈ u_ws RX2 TX2 6, w ∈ wsX7_fewestOf := by decide +kernel
  have hf23 := hts (.fieldLink RX7 23 "LawRings$Striking" "hearing" "LLawRings$Hearing;") (by decide +kernel)
  have hf9 := hts (.fieldLink RX7 9 "LawRings$Striking" "held" "[J") (by decide +kernel)
  have hf39 := hts (.fieldLink RX7 39 "LawRings$Hearing" "held" "J") (by decide +kernel)
  have hiX4 : ∀ w ∈ u_ws RX4 TX4 9, w ∈ wsX7_fewestOf := by decide +kernel
  have hf19 := hts (.fieldLink RX7 19 "LawRings$Striking" "trials" "LLawRings$Trials;") (by decide +kernel)
  have hf42 := hts (.fieldLink RX7 42 "LawRings$Trials" "size" "I") (by decide +kernel)
  have hiX9 : ∀ w ∈ u_ws RX9 TX9 2, w ∈ wsX7_fewestOf := by decide +kernel
  rw [sX7_fewestOf] at h
  refine lv_iconst (v := 0) hx hb dX7_fewestOf_0 (by decide) ?_
  refine lv_istore_n (lv' := [(1, .int 0), (0, .ref (ad 9))]) hx hb dX7_fewestOf_1 rfl hl (by decide) rfl (fun ls hl => ?_)
  refine ww_w (fun WW2 hWW2 => ?_)
  have Lh2 : ∀ (n : Nat) (v1 : Int32) (S2 : (Nat → Nat → Int32)) (L3 : (Nat → Nat → Int64)) (z : ((Nat → Nat → Int32) × (Nat → Nat → Int64))), lX7_fewestOf_2 n v1 S2 L3 = some z → ∀ (H : Heap) (locs : List Loc), va_P (dC, dI) vwCl (wX cI cJ ad S2 L3) H → va_S (AX 43 ad s.heap.size) s.heap H locs → ∀ ls : Array Slot, lv_has ls 3 [(0, .ref (ad 9)), (1, .int v1)] → (∀ (YS : (Nat → Nat → Int32)) (YL : (Nat → Nat → Int64)), z = (YS, YL) → ∀ (H : Heap) (locs : List Loc), va_P (dC, dI) vwCl (wX cI cJ ad YS YL) H → va_S (AX 43 ad s.heap.size) s.heap H locs → ∀ ls : Array Slot, lv_has ls 3 [(0, .ref (ad 9))] → WW2 H locs 44 ls) → WW2 H locs 2 ls := by
    intro n
    induction n with
    | zero => intro v1 S2 L3 z h H locs hP hS ls hl K0; rw [lX7_fewestOf_2] at h; cases h
    | succ n ih =>
      intro v1 S2 L3 z h H locs hP hS ls hl K0
      have hD := wX_D hD S2 L3
      rw [lX7_fewestOf_2] at h
      refine wi_w hWW2 ?_
      refine lv_iload_n hx hb dX7_fewestOf_2 rfl (lv_at hl 1 rfl) ?_
      refine lv_aload_n hx hb dX7_fewestOf_3 rfl (lv_at hl 0 rfl) ?_
      refine va_get (D := (dC, dI)) (ci := 7) (v := .ref (ad 1)) (C := RX7) (T := TX7) (N := 4) hx hb hts hiX7 hown hK hP 9 rfl rfl 0 (by decide) hf15 (fun _ h9 => h9) rfl dX7_fewestOf_4 ?_
      refine va_get (D := (dC, dI)) (ci := 2) (v := .int (S2 1 0)) (C := RX2) (T := TX2) (N := 6) hx hb hts hiX2 hown hK hP 1 rfl rfl 0 (by decide) hf27 (fun _ h9 => h9) rfl dX7_fewestOf_7 ?_
      refine lv_icmp_ge (tgt := 44) hx hb dX7_fewestOf_10 (by decide) (fun c4 => ?_) (fun c4 => ?_)
      · replace h := it_t c4 h
        refine wu_w hWW2 ?_
        exact K0 S2 L3 (Option.some.inj h).symm H locs hP hS ls (lv_sub hl [0] rfl)
      · replace h := it_f c4 h
        refine lv_aload_n hx hb dX7_fewestOf_13 rfl (lv_at hl 0 rfl) ?_
        refine va_get (D := (dC, dI)) (ci := 7) (v := .ref (ad 6)) (C := RX7) (T := TX7) (N := 4) hx hb hts hiX7 hown hK hP 9 rfl rfl 2 (by decide) hf23 (fun _ h9 => h9) rfl dX7_fewestOf_14 ?_
        refine lv_aload_n hx hb dX7_fewestOf_17 rfl (lv_at hl 0 rfl) ?_
        refine va_get (D := (dC, dI)) (ci := 7) (v := .ref (ad 1)) (C := RX7) (T := TX7) (N := 4) hx hb hts hiX7 hown hK hP 9 rfl rfl 0 (by decide) hf15 (fun _ h9 => h9) rfl dX7_fewestOf_18 ?_
        refine lv_iload_n hx hb dX7_fewestOf_21 rfl (lv_at hl 1 rfl) ?_
        obtain ⟨S6, L7, k5, h⟩ := ob2_elim h
        refine va_callv (va_runV (As := [.ref (ad 1), .int v1]) (rest := []) ⟨hx, hb, hml, hown, hts⟩ (mX4_open l dC dI cI cJ ad v1 S2 L3 H.size k5) (cwV 2 hts gX7_fewestOf_X4_open rfl rfl rfl (by decide +kernel) ⟨Nat.le_of_ble_eq_true rfl, Nat.le_of_ble_eq_true rfl⟩) ⟨QXs_blind, va_recv hK hP (ci := 4) (q0 := 6) rfl rfl, fun U hU hW => ⟨rfl, congrArg Array.size hU, QX_at hP hK hD hU hW⟩⟩ rfl rfl hl.1 rfl (lv_room (Nat.le_of_ble_eq_true rfl)) dX7_fewestOf_22 ⟨Nat.zero_le _, Nat.zero_le _⟩) hS (fun q _ hq => AX_mono hS.1 hq) (fun q hq => AX_mono hS.1 hq) (fun u t H1 locs ht hvm hw hB hz1 hk1 hS => ?_)
        cases hw
        rw [ht] at hB
        have hP := hB
        clear hB hk1 hz1
        generalize H1 = H at hP hS ⊢
        have hD := wX_D hD S6 L7
        refine lv_aload_n hx hb dX7_fewestOf_25 rfl (lv_at hl 0 rfl) ?_
        refine va_get (D := (dC, dI)) (ci := 7) (v := .ref (ad 40)) (C := RX7) (T := TX7) (N := 4) hx hb hts hiX7 hown hK hP 9 rfl rfl 3 (by decide) hf9 (fun _ h9 => h9) rfl dX7_fewestOf_26 ?_
        refine lv_iload_n hx hb dX7_fewestOf_29 rfl (lv_at hl 1 rfl) ?_
        refine lv_aload_n hx hb dX7_fewestOf_30 rfl (lv_at hl 0 rfl) ?_
        refine va_get (D := (dC, dI)) (ci := 7) (v := .ref (ad 6)) (C := RX7) (T := TX7) (N := 4) hx hb hts hiX7 hown hK hP 9 rfl rfl 2 (by decide) hf23 (fun _ h9 => h9) rfl dX7_fewestOf_31 ?_
        refine va_get (D := (dC, dI)) (ci := 4) (v := .long (L7 6 4)) (C := RX4) (T := TX4) (N := 9) hx hb hts hiX4 hown hK hP 6 rfl rfl 4 (by decide) hf39 (fun _ h9 => h9) rfl dX7_fewestOf_34 ?_
        obtain ⟨b8, h⟩ := ck_elim h
        obtain ⟨L9, eL9, h⟩ := bnd_elim h
        refine va_last hx hb hK hP hD hS 40 1 rfl rfl b8 dX7_fewestOf_37 (fun H locs hP9 _ hS => ?_)
        have hP := swX_40 hP9
        rw [← eL9] at hP
        have hD := wX_D hD S6 L9
        obtain ⟨x10, ex10, h⟩ := bnd_elim h
        refine lv_iinc (v := x10) (lv' := [(1, .int x10), (0, .ref (ad 9))]) hx hb dX7_fewestOf_38 hl (k := 1) rfl (by rw [ex10]; rfl) (by decide) rfl (fun ls hl => ?_)
        refine lv_goto (tgt := 2) hx hb dX7_fewestOf_41 (by decide) ?_
        refine wu_w hWW2 ?_
        exact ih x10 S6 L9 z h H locs hP hS ls (lv_sub hl [1, 0] rfl) K0
  obtain ⟨S12, L13, k11, h⟩ := ob2_elim h
  refine wu_w hWW2 ?_
  refine Lh2 FU 0 S L _ k11 s.heap [] hP hS ls (lv_sub hl [1, 0] rfl) ?_
  intro y0 y1 hy H locs hP hS ls hl
  cases hy
  have hD := wX_D hD S12 L13
  refine wi_w hWW2 ?_
  refine lv_iconst (v := 0) hx hb dX7_fewestOf_44 (by decide) ?_
  refine lv_istore_n (lv' := [(1, .int 0), (0, .ref (ad 9))]) hx hb dX7_fewestOf_45 rfl hl (by decide) rfl (fun ls hl => ?_)
  refine ww_w (fun WW46 hWW46 => ?_)
  have Lh46 : ∀ (n : Nat) (v14 : Int32) (S15 : (Nat → Nat → Int32)) (L16 : (Nat → Nat → Int64)) (z : ((Int32 × (Nat → Nat → Int32) × (Nat → Nat → Int64)) ⊕ ((Nat → Nat → Int32) × (Nat → Nat → Int64)))), lX7_fewestOf_46 n v14 S15 L16 = some z → ∀ (H : Heap) (locs : List Loc), va_P (dC, dI) vwCl (wX cI cJ ad S15 L16) H → va_S (AX 43 ad s.heap.size) s.heap H locs → ∀ ls : Array Slot, lv_has ls 3 [(0, .ref (ad 9)), (1, .int v14)] → (∀ (y0 : Int32) (YS : (Nat → Nat → Int32)) (YL : (Nat → Nat → Int64)), z = .inl (y0, YS, YL) → ∀ (H : Heap) (locs : List Loc), va_P (dC, dI) vwCl (wX cI cJ ad YS YL) H → va_S (AX 43 ad s.heap.size) s.heap H locs → ∀ ls : Array Slot, lv_has ls 3 [(2, .int y0)] → WW46 H locs 95 ls) → (∀ (YS : (Nat → Nat → Int32)) (YL : (Nat → Nat → Int64)), z = .inr (YS, YL) → ∀ (H : Heap) (locs : List Loc), va_P (dC, dI) vwCl (wX cI cJ ad YS YL) H → va_S (AX 43 ad s.heap.size) s.heap H locs → ∀ ls : Array Slot, lv_has ls 3 [] → WW46 H locs 109 ls) → WW46 H locs 46 ls := by
    intro n
    induction n with
    | zero => intro v14 S15 L16 z h H locs hP hS ls hl K0 K1; rw [lX7_fewestOf_46] at h; cases h
    | succ n ih =>
      intro v14 S15 L16 z h H locs hP hS ls hl K0 K1
      have hD := wX_D hD S15 L16
      rw [lX7_fewestOf_46] at h
      refine wi_w hWW46 ?_
      refine lv_iload_n hx hb dX7_fewestOf_46 rfl (lv_at hl 1 rfl) ?_
      refine lv_aload_n hx hb dX7_fewestOf_47 rfl (lv_at hl 0 rfl) ?_
      refine va_get (D := (dC, dI)) (ci := 7) (v := .ref (ad 5)) (C := RX7) (T := TX7) (N := 4) hx hb hts hiX7 hown hK hP 9 rfl rfl 1 (by decide) hf19 (fun _ h9 => h9) rfl dX7_fewestOf_48 ?_
      refine va_get (D := (dC, dI)) (ci := 9) (v := .int (S15 5 0)) (C := RX9) (T := TX9) (N := 2) hx hb hts hiX9 hown hK hP 5 rfl rfl 0 (by decide) hf42 (fun _ h9 => h9) rfl dX7_fewestOf_51 ?_
      refine lv_icmp_gt (tgt := 109) hx hb dX7_fewestOf_54 (by decide) (fun c17 => ?_) (fun c17 => ?_)
      · replace h := it_t c17 h
        refine wu_w hWW46 ?_
        exact K1 S15 L16 (Option.some.inj h).symm H locs hP hS ls (lv_sub hl [] rfl)
      · replace h := it_f c17 h
        refine lv_iconst (v := 0) hx hb dX7_fewestOf_57 (by decide) ?_
        refine lv_istore_n (lv' := [(2, .int 0), (0, .ref (ad 9)), (1, .int v14)]) hx hb dX7_fewestOf_58 rfl hl (by decide) rfl (fun ls hl => ?_)
        refine ww_w (fun WW59 hWW59 => ?_)
        have Lh59 : ∀ (n : Nat) (v18 : Int32) (S19 : (Nat → Nat → Int32)) (L20 : (Nat → Nat → Int64)) (z : ((Int32 × (Nat → Nat → Int32) × (Nat → Nat → Int64)) ⊕ ((Nat → Nat → Int32) × (Nat → Nat → Int64)))), lX7_fewestOf_59 v14 n v18 S19 L20 = some z → ∀ (H : Heap) (locs : List Loc), va_P (dC, dI) vwCl (wX cI cJ ad S19 L20) H → va_S (AX 43 ad s.heap.size) s.heap H locs → ∀ ls : Array Slot, lv_has ls 3 [(0, .ref (ad 9)), (1, .int v14), (2, .int v18)] → (∀ (y0 : Int32) (YS : (Nat → Nat → Int32)) (YL : (Nat → Nat → Int64)), z = .inl (y0, YS, YL) → ∀ (H : Heap) (locs : List Loc), va_P (dC, dI) vwCl (wX cI cJ ad YS YL) H → va_S (AX 43 ad s.heap.size) s.heap H locs → ∀ ls : Array Slot, lv_has ls 3 [(2, .int y0)] → WW59 H locs 95 ls) → (∀ (YS : (Nat → Nat → Int32)) (YL : (Nat → Nat → Int64)), z = .inr (YS, YL) → ∀ (H : Heap) (locs : List Loc), va_P (dC, dI) vwCl (wX cI cJ ad YS YL) H → va_S (AX 43 ad s.heap.size) s.heap H locs → ∀ ls : Array Slot, lv_has ls 3 [(0, .ref (ad 9)), (1, .int v14)] → WW59 H locs 103 ls) → WW59 H locs 59 ls := by
          intro n
          induction n with
          | zero => intro v18 S19 L20 z h H locs hP hS ls hl K0 K1; rw [lX7_fewestOf_59] at h; cases h
          | succ n ih =>
            intro v18 S19 L20 z h H locs hP hS ls hl K0 K1
            have hD := wX_D hD S19 L20
            rw [lX7_fewestOf_59] at h
            refine wi_w hWW59 ?_
            refine lv_iload_n hx hb dX7_fewestOf_59 rfl (lv_at hl 2 rfl) ?_
            refine lv_iconst (v := 1) hx hb dX7_fewestOf_60 (by decide) ?_
            refine lv_aload_n hx hb dX7_fewestOf_61 rfl (lv_at hl 0 rfl) ?_
            refine va_get (D := (dC, dI)) (ci := 7) (v := .ref (ad 5)) (C := RX7) (T := TX7) (N := 4) hx hb hts hiX7 hown hK hP 9 rfl rfl 1 (by decide) hf19 (fun _ h9 => h9) rfl dX7_fewestOf_62 ?_
            refine va_get (D := (dC, dI)) (ci := 9) (v := .int (S19 5 0)) (C := RX9) (T := TX9) (N := 2) hx hb hts hiX9 hown hK hP 5 rfl rfl 0 (by decide) hf42 (fun _ h9 => h9) rfl dX7_fewestOf_65 ?_
            refine lv_ishl hx hb dX7_fewestOf_68 ?_
            refine lv_icmp_ge (tgt := 103) hx hb dX7_fewestOf_69 (by decide) (fun c21 => ?_) (fun c21 => ?_)
            · replace h := it_t c21 h
              refine wu_w hWW59 ?_
              exact K1 S19 L20 (Option.some.inj h).symm H locs hP hS ls (lv_sub hl [0, 1] rfl)
            · replace h := it_f c21 h
              refine lv_iload_n hx hb dX7_fewestOf_72 rfl (lv_at hl 2 rfl) ?_
              obtain ⟨r23, k22, h⟩ := ob_elim h
              refine vp_callSi (W.runS (As := [.int v18]) (rest := []) ⟨hx, hb, hml, hown, hts⟩ (mJ6_bitCount_0f7a4 l v18 k22) (va_cwS 1 hts gX7_fewestOf_J6_bitCount_0f7a4 rfl rfl rfl (by decide +kernel) ⟨Nat.le_of_ble_eq_true rfl, Nat.le_of_ble_eq_true rfl⟩) ⟨fun _ _ _ _ q => q, fun U hU hW => ⟨rfl, trivial⟩⟩ rfl rfl hl.1 rfl (lv_room (Nat.le_of_ble_eq_true rfl)) dX7_fewestOf_73 ⟨Nat.zero_le _, Nat.zero_le _⟩) (fun r9 er9 => ?_)
              replace er9 := er9.symm
              subst er9
              refine lv_iload_n hx hb dX7_fewestOf_76 rfl (lv_at hl 1 rfl) ?_
              refine lv_icmp_ne (tgt := 97) hx hb dX7_fewestOf_77 (by decide) (fun c24 => ?_) (fun c24 => ?_)
              · replace h := it_f c24 h
                obtain ⟨x25, ex25, h⟩ := bnd_elim h
                refine lv_iinc (v := x25) (lv' := [(2, .int x25), (0, .ref (ad 9)), (1, .int v14)]) hx hb dX7_fewestOf_97 hl (k := 2) rfl (by rw [ex25]; rfl) (by decide) rfl (fun ls hl => ?_)
                refine lv_goto (tgt := 59) hx hb dX7_fewestOf_100 (by decide) ?_
                refine wu_w hWW59 ?_
                exact ih x25 S19 L20 z h H locs hP hS ls (lv_sub hl [1, 2, 0] rfl) K0 K1
              · replace h := it_t c24 h
                refine lv_aload_n hx hb dX7_fewestOf_80 rfl (lv_at hl 0 rfl) ?_
                refine lv_aload_n hx hb dX7_fewestOf_81 rfl (lv_at hl 0 rfl) ?_
                refine va_get (D := (dC, dI)) (ci := 7) (v := .ref (ad 5)) (C := RX7) (T := TX7) (N := 4) hx hb hts hiX7 hown hK hP 9 rfl rfl 1 (by decide) hf19 (fun _ h9 => h9) rfl dX7_fewestOf_82 ?_
                refine lv_iload_n hx hb dX7_fewestOf_85 rfl (lv_at hl 2 rfl) ?_
                obtain ⟨r27, k26, h⟩ := ob_elim h
                refine vp_callSl (W.runV (As := [.int v18]) (rest := [.ref (ad 9)]) ⟨hx, hb, hml, hown, hts⟩ (mX9_rulesAt l dC dI cI cJ ad v18 S19 L20 k26) (cwV 1 hts gX7_fewestOf_X9_rulesAt rfl rfl rfl (by decide +kernel) ⟨Nat.le_of_ble_eq_true rfl, Nat.le_of_ble_eq_true rfl⟩) ⟨QX_blind, va_recv hK hP (ci := 9) (q0 := 5) rfl rfl, fun U hU hW => ⟨rfl, QX_at hP hK hD hU hW⟩⟩ rfl rfl hl.1 rfl (lv_room (Nat.le_of_ble_eq_true rfl)) dX7_fewestOf_86 ⟨Nat.zero_le _, Nat.zero_le _⟩) (fun r9 er9 => ?_)
                replace er9 := er9.symm
                subst er9
                obtain ⟨r31, S29, L30, k28, h⟩ := ob3_elim h
                refine va_calli (va_runV (As := [.long r27]) (rest := []) ⟨hx, hb, hml, hown, hts⟩ (mX7_allAlikeWithout l dC dI cI cJ ad r27 S19 L20 H.size k28) (cwV 1 hts gX7_fewestOf_X7_allAlikeWithout rfl rfl rfl (by decide +kernel) ⟨Nat.le_of_ble_eq_true rfl, Nat.le_of_ble_eq_true rfl⟩) ⟨QXs_blind, va_recv hK hP (ci := 7) (q0 := 9) rfl rfl, fun U hU hW => ⟨rfl, congrArg Array.size hU, QX_at hP hK hD hU hW⟩⟩ rfl rfl hl.1 rfl (lv_room (Nat.le_of_ble_eq_true rfl)) dX7_fewestOf_89 ⟨Nat.zero_le _, Nat.zero_le _⟩) hS (fun q _ hq => AX_mono hS.1 hq) (fun q hq => AX_mono hS.1 hq) (fun r u t H1 locs ht hvm hw hB hz1 hk1 hS => ?_)
                cases hw
                rw [ht] at hB
                have hP := hB
                clear hB hk1 hz1
                generalize H1 = H at hP hS ⊢
                have hD := wX_D hD S29 L30
                refine lv_if_eq (tgt := 97) hx hb dX7_fewestOf_92 (by decide) (fun c32 => ?_) (fun c32 => ?_)
                · replace h := it_t c32 h
                  obtain ⟨x33, ex33, h⟩ := bnd_elim h
                  refine lv_iinc (v := x33) (lv' := [(2, .int x33), (0, .ref (ad 9)), (1, .int v14)]) hx hb dX7_fewestOf_97 hl (k := 2) rfl (by rw [ex33]; rfl) (by decide) rfl (fun ls hl => ?_)
                  refine lv_goto (tgt := 59) hx hb dX7_fewestOf_100 (by decide) ?_
                  refine wu_w hWW59 ?_
                  exact ih x33 S29 L30 z h H locs hP hS ls (lv_sub hl [1, 2, 0] rfl) K0 K1
                · replace h := it_f c32 h
                  refine wu_w hWW59 ?_
                  exact K0 v18 S29 L30 (Option.some.inj h).symm H locs hP hS ls (lv_sub hl [2] rfl)
        obtain ⟨q9, k34, h⟩ | ⟨q9, k34, h⟩ := os2_elim h
        · obtain ⟨w35, S36, L37⟩ := q9
          replace h := un3_e h
          refine wu_w hWW59 ?_
          refine Lh59 FU 0 S15 L16 _ k34 H locs hP hS ls (lv_sub hl [1, 2, 0] rfl) ?_ (fun _ _ hy => by cases hy)
          intro y0 y1 y2 hy H locs hP hS ls hl
          cases hy
          have hD := wX_D hD S36 L37
          refine wi_w hWW59 ?_
          refine wu_w hWW46 ?_
          exact K0 w35 S36 L37 (Option.some.inj h).symm H locs hP hS ls (lv_sub hl [0] rfl)
        · obtain ⟨S38, L39⟩ := q9
          replace h := un2_e h
          refine wu_w hWW59 ?_
          refine Lh59 FU 0 S15 L16 _ k34 H locs hP hS ls (lv_sub hl [1, 2, 0] rfl) (fun _ _ _ hy => by cases hy) ?_
          intro y0 y1 hy H locs hP hS ls hl
          cases hy
          have hD := wX_D hD S38 L39
          refine wi_w hWW59 ?_
          obtain ⟨x40, ex40, h⟩ := bnd_elim h
          refine lv_iinc (v := x40) (lv' := [(1, .int x40), (0, .ref (ad 9))]) hx hb dX7_fewestOf_103 hl (k := 1) rfl (by rw [ex40]; rfl) (by decide) rfl (fun ls hl => ?_)
          refine lv_goto (tgt := 46) hx hb dX7_fewestOf_106 (by decide) ?_
          refine wu_w hWW46 ?_
          exact ih x40 S38 L39 z h H locs hP hS ls (lv_sub hl [1, 0] rfl) K0 K1
  obtain ⟨q9, k41, h⟩ | ⟨q9, k41, h⟩ := os2_elim h
  · obtain ⟨w42, S43, L44⟩ := q9
    replace h := un3_e h
    refine wu_w hWW46 ?_
    refine Lh46 FU 0 S12 L13 _ k41 H locs hP hS ls (lv_sub hl [1, 0] rfl) ?_ (fun _ _ hy => by cases hy)
    intro y0 y1 y2 hy H locs hP hS ls hl
    cases hy
    have hD := wX_D hD S43 L44
    refine wi_w hWW46 ?_
    refine lv_iload_n hx hb dX7_fewestOf_95 rfl (lv_at hl 0 rfl) ?_
    cases h
    exact W.iret hx hb hr (fun t ht hW => ⟨⟨_, _, rfl, rfl, by show va_P _ _ _ t.heap; rw [ht]; exact hP⟩, hS.F ht⟩) hS.2.2 dX7_fewestOf_96
  · obtain ⟨S45, L46⟩ := q9
    replace h := un2_e h
    refine wu_w hWW46 ?_
    refine Lh46 FU 0 S12 L13 _ k41 H locs hP hS ls (lv_sub hl [1, 0] rfl) (fun _ _ _ hy => by cases hy) ?_
    intro y0 y1 hy H locs hP hS ls hl
    cases hy
    have hD := wX_D hD S45 L46
    refine wi_w hWW46 ?_
    refine lv_iconst (v := (-1)) hx hb dX7_fewestOf_109 (by decide) ?_
    cases h
    exact W.iret hx hb hr (fun t ht hW => ⟨⟨_, _, rfl, rfl, by show va_P _ _ _ t.heap; rw [ht]; exact hP⟩, hS.F ht⟩) hS.2.2 dX7_fewestOf_110
set_option maxHeartbeats 4000000 in
set_option maxRecDepth 100000 in
theorem mX10_fewest (l : Launch) (dC : Nat → ClassId) (dI : Nat → Nat → Nat) (cI cJ : ClassId) (ad : Nat → Nat)  (S : Nat → Nat → Int32) (L : Nat → Nat → Int64) (sz : Nat) {z : Int32 × (Nat → Nat → Int32) × (Nat → Nat → Int64)} (h : sX10_fewest S L = some z) : Met l yX10_fewest wsX10_fewest ({ frames := 6, cells := 0, slots := 0, locals := 138 }) (va_Pc [.ref (ad 0)] (QXs sz dC dI cI cJ ad S L)) (va_Qi (fun (r : Int32) (u : (Nat → Nat → Int32) × (Nat → Nat → Int64)) => (r, u) = z) (fun (u : (Nat → Nat → Int32) × (Nat → Nat → Int64)) t => va_P (dC, dI) vwCl (wX cI cJ ad u.1 u.2) t.heap) (AX 43 ad sz)) 0 0 (AX 43 ad sz) := by
  refine Met.ofW (cc := cX10_fewest) (maxL := 1) (ret := (some .int)) (by decide) rfl ?_
  intro p e s m args below meth c s₁ B hml hv
  obtain ⟨rfl, hsz, hP, hK, hD0⟩ := hv
  have hx := B.exec
  have hb := B.bytes
  have hr := B.returns
  have hts := atoms_spec (ws := wsX10_fewest) B.pre
  have hown : s.vm.findClass RX10 = some m.cls := findClass_of_methodNamed B.named
  have hlocks := B.notSynchronized
  subst hsz
  have hD := wX_DA hD0 s.heap.size
  have hS : va_S (AX 43 ad s.heap.size) s.heap s.heap [] := va_S.rf
  have hl := lv_entry ([.ref (ad 0)]) (n := 1) (Nat.le_of_ble_eq_true rfl)
  rw [lg_entry_eq]
  generalize (lg_sl ([.ref (ad 0)]) ++ List.replicate (1 - (lg_sl ([.ref (ad 0)])).length) Slot.unset).toArray = ls at hl ⊢
  have hl : lv_has ls 1 [(0, .ref (ad 0))] := hl
  have hf12 := hts (.fieldLink RX10 12 "LawRings" "cases" "LLawRings$Cases;") (by decide +kernel)
  have hiX10 : ∀ w ∈ u_ws RX10 TX10 11, w ∈ wsX10_fewest := by decide +kernel
  have hf94 := hts (.fieldLink RX10 94 "LawRings$Cases" "size" "I") (by decide +kernel)
  have hiX2 : ∀ w ∈ u_ws RX2 TX2 6, w ∈ wsX10_fewest := by decide +kernel
  have hf67 := hts (.fieldLink RX10 67 "LawRings" "striking" "LLawRings$Striking;") (by decide +kernel)
  rw [sX10_fewest] at h
  refine lv_aload_n hx hb dX10_fewest_0 rfl (lv_at hl 0 rfl) ?_
  refine va_get (D := (dC, dI)) (ci := 10) (v := .ref (ad 1)) (C := RX10) (T := TX10) (N := 11) hx hb hts hiX10 hown hK hP 0 rfl rfl 0 (by decide) hf12 (fun _ h9 => h9) rfl dX10_fewest_1 ?_
  refine va_get (D := (dC, dI)) (ci := 2) (v := .int (S 1 0)) (C := RX2) (T := TX2) (N := 6) hx hb hts hiX2 hown hK hP 1 rfl rfl 0 (by decide) hf94 (fun _ h9 => h9) rfl dX10_fewest_4 ?_
  refine lv_if_ne (tgt := 13) hx hb dX10_fewest_7 (by decide) (fun c1 => ?_) (fun c1 => ?_)
  · replace h := it_f c1 h
    refine lv_aload_n hx hb dX10_fewest_13 rfl (lv_at hl 0 rfl) ?_
    refine va_get (D := (dC, dI)) (ci := 10) (v := .ref (ad 9)) (C := RX10) (T := TX10) (N := 11) hx hb hts hiX10 hown hK hP 0 rfl rfl 7 (by decide) hf67 (fun _ h9 => h9) rfl dX10_fewest_14 ?_
    obtain ⟨r5, S3, L4, k2, h⟩ := ob3_elim h
    refine va_calli (va_runV (As := []) (rest := []) ⟨hx, hb, hml, hown, hts⟩ (mX7_fewestOf l dC dI cI cJ ad S L s.heap.size k2) (cwV 0 hts gX10_fewest_X7_fewestOf rfl rfl rfl (by decide +kernel) ⟨Nat.le_of_ble_eq_true rfl, Nat.le_of_ble_eq_true rfl⟩) ⟨QXs_blind, va_recv hK hP (ci := 7) (q0 := 9) rfl rfl, fun U hU hW => ⟨rfl, congrArg Array.size hU, QX_at hP hK hD hU hW⟩⟩ rfl rfl hl.1 rfl (lv_room (Nat.le_of_ble_eq_true rfl)) dX10_fewest_17 ⟨Nat.zero_le _, Nat.zero_le _⟩) hS (fun q _ hq => AX_mono hS.1 hq) (fun q hq => AX_mono hS.1 hq) (fun r u t H1 locs ht hvm hw hB hz1 hk1 hS => ?_)
    cases hw
    rw [ht] at hB
    have hP := hB
    clear hB hk1 hz1
    generalize H1 = H at hP hS ⊢
    have hD := wX_D hD S3 L4
    cases h
    exact W.iret hx hb hr (fun t ht hW => ⟨⟨_, _, rfl, rfl, by show va_P _ _ _ t.heap; rw [ht]; exact hP⟩, hS.F ht⟩) hS.2.2 dX10_fewest_20
  · replace h := it_t c1 h
    refine lv_bipush (v := (-3)) hx hb dX10_fewest_10 (by decide) ?_
    cases h
    exact W.iret hx hb hr (fun t ht hW => ⟨⟨_, _, rfl, rfl, by show va_P _ _ _ t.heap; rw [ht]; exact hP⟩, hS.F ht⟩) hS.2.2 dX10_fewest_12
set_option maxHeartbeats 4000000 in
set_option maxRecDepth 100000 in
theorem mX11_allAlike (l : Launch) (dC : Nat → ClassId) (dI : Nat → Nat → Nat) (cI cZ : ClassId) (ad : Nat → Nat) (p1 : Int32) (S : Nat → Nat → Int32) (sz : Nat) {z : Int32 × (Nat → Nat → Int32)} (h : sX11_allAlike p1 S = some z) : Met l yX11_allAlike wsX11_allAlike ({ frames := 9, cells := 0, slots := 0, locals := 212 }) (va_Pc [.ref (ad 0), .int p1] (QMs sz dC dI cI cZ ad S)) (va_Qi (fun (r : Int32) (u : (Nat → Nat → Int32)) => (r, u) = z) (fun (u : (Nat → Nat → Int32)) t => va_P (dC, dI) vwCl (wM cI cZ ad u) t.heap) (AX 7 ad sz)) 0 0 (AX 7 ad sz) := by
  refine Met.ofW (cc := cX11_allAlike) (maxL := 4) (ret := (some .boolean)) (by decide) rfl ?_
  intro p e s m args below meth c s₁ B hml hv
  obtain ⟨rfl, hsz, hP, hK, hD0⟩ := hv
  have hx := B.exec
  have hb := B.bytes
  have hr := B.returns
  have hts := atoms_spec (ws := wsX11_allAlike) B.pre
  have hown : s.vm.findClass RX11 = some m.cls := findClass_of_methodNamed B.named
  have hlocks := B.notSynchronized
  subst hsz
  have hD := wM_DA hD0 s.heap.size
  have hS : va_S (AX 7 ad s.heap.size) s.heap s.heap [] := va_S.rf
  have hl := lv_entry ([.ref (ad 0), .int p1]) (n := 4) (Nat.le_of_ble_eq_true rfl)
  rw [lg_entry_eq]
  generalize (lg_sl ([.ref (ad 0), .int p1]) ++ List.replicate (4 - (lg_sl ([.ref (ad 0), .int p1])).length) Slot.unset).toArray = ls at hl ⊢
  have hl : lv_has ls 4 [(0, .ref (ad 0)), (1, .int p1)] := hl
  have hf7 := hts (.fieldLink RX11 7 "LawRingsModel" "st" "[I") (by decide +kernel)
  have hiX11 : ∀ w ∈ u_ws RX11 TX11 8, w ∈ wsX11_allAlike := by decide +kernel
  have hf16 := hts (.fieldLink RX11 16 "LawRingsModel" "isOut" "[Z") (by decide +kernel)
  rw [sX11_allAlike] at h
  refine lv_iconst (v := 0) hx hb dX11_allAlike_0 (by decide) ?_
  refine lv_istore_n (lv' := [(2, .int 0), (0, .ref (ad 0)), (1, .int p1)]) hx hb dX11_allAlike_1 rfl hl (by decide) rfl (fun ls hl => ?_)
  refine ww_w (fun WW2 hWW2 => ?_)
  have Lh2 : ∀ (n : Nat) (v1 : Int32) (S2 : (Nat → Nat → Int32)) (z : ((Nat → Nat → Int32))), lX11_allAlike_2 p1 n v1 S2 = some z → ∀ (H : Heap) (locs : List Loc), va_P (dC, dI) vwCl (wM cI cZ ad S2) H → va_S (AX 7 ad s.heap.size) s.heap H locs → ∀ ls : Array Slot, lv_has ls 4 [(0, .ref (ad 0)), (1, .int p1), (2, .int v1)] → (∀ (YS : (Nat → Nat → Int32)), z = YS → ∀ (H : Heap) (locs : List Loc), va_P (dC, dI) vwCl (wM cI cZ ad YS) H → va_S (AX 7 ad s.heap.size) s.heap H locs → ∀ ls : Array Slot, lv_has ls 4 [(0, .ref (ad 0))] → WW2 H locs 47 ls) → WW2 H locs 2 ls := by
    intro n
    induction n with
    | zero => intro v1 S2 z h H locs hP hS ls hl K0; rw [lX11_allAlike_2] at h; cases h
    | succ n ih =>
      intro v1 S2 z h H locs hP hS ls hl K0
      have hD := wM_D hD S2
      rw [lX11_allAlike_2] at h
      refine wi_w hWW2 ?_
      refine lv_iload_n hx hb dX11_allAlike_2 rfl (lv_at hl 2 rfl) ?_
      refine lv_aload_n hx hb dX11_allAlike_3 rfl (lv_at hl 0 rfl) ?_
      refine va_get (D := (dC, dI)) (ci := 11) (v := .ref (ad 1)) (C := RX11) (T := TX11) (N := 8) hx hb hts hiX11 hown hK hP 0 rfl rfl 0 (by decide) hf7 (fun _ h9 => h9) rfl dX11_allAlike_4 ?_
      refine lv_iconst (v := 4) hx hb dX11_allAlike_7 (by decide) ?_
      obtain ⟨b3, h⟩ := ck_elim h
      refine va_iald hx hb hK hP 1 0 rfl rfl b3 dX11_allAlike_8 ?_
      refine lv_icmp_ge (tgt := 47) hx hb dX11_allAlike_9 (by decide) (fun c4 => ?_) (fun c4 => ?_)
      · replace h := it_t c4 h
        refine wu_w hWW2 ?_
        exact K0 S2 (Option.some.inj h).symm H locs hP hS ls (lv_sub hl [0] rfl)
      · replace h := it_f c4 h
        refine lv_aload_n hx hb dX11_allAlike_12 rfl (lv_at hl 0 rfl) ?_
        refine va_get (D := (dC, dI)) (ci := 11) (v := .ref (ad 3)) (C := RX11) (T := TX11) (N := 8) hx hb hts hiX11 hown hK hP 0 rfl rfl 3 (by decide) hf16 (fun _ h9 => h9) rfl dX11_allAlike_13 ?_
        refine lv_aload_n hx hb dX11_allAlike_16 rfl (lv_at hl 0 rfl) ?_
        refine va_get (D := (dC, dI)) (ci := 11) (v := .ref (ad 1)) (C := RX11) (T := TX11) (N := 8) hx hb hts hiX11 hown hK hP 0 rfl rfl 0 (by decide) hf7 (fun _ h9 => h9) rfl dX11_allAlike_17 ?_
        refine lv_sipush (v := 982) hx hb dX11_allAlike_20 (by decide) ?_
        refine lv_iload_n hx hb dX11_allAlike_23 rfl (lv_at hl 2 rfl) ?_
        refine lv_iadd hx hb dX11_allAlike_24 ?_
        obtain ⟨b5, h⟩ := ck_elim h
        refine va_iald hx hb hK hP 1 0 rfl rfl b5 dX11_allAlike_25 ?_
        refine lv_iload_n hx hb dX11_allAlike_26 rfl (lv_at hl 1 rfl) ?_
        refine lv_iload_n hx hb dX11_allAlike_27 rfl (lv_at hl 2 rfl) ?_
        refine lv_ishr hx hb dX11_allAlike_28 ?_
        refine lv_iconst (v := 1) hx hb dX11_allAlike_29 (by decide) ?_
        refine lv_iand hx hb dX11_allAlike_30 ?_
        refine lv_iconst (v := 1) hx hb dX11_allAlike_31 (by decide) ?_
        refine lv_icmp_ne (tgt := 39) hx hb dX11_allAlike_32 (by decide) (fun c6 => ?_) (fun c6 => ?_)
        · replace h := it_f c6 h
          refine lv_iconst (v := 0) hx hb dX11_allAlike_39 (by decide) ?_
          obtain ⟨b7, h⟩ := ck_elim h
          obtain ⟨S8, eS8, h⟩ := bnd_elim h
          refine va_zast hx hb hK hP hD hS 3 1 rfl rfl b7 dX11_allAlike_40 (fun H locs hP9 _ hS => ?_)
          have hP := swM_3 hP9
          rw [← eS8] at hP
          have hD := wM_D hD S8
          obtain ⟨x9, ex9, h⟩ := bnd_elim h
          refine lv_iinc (v := x9) (lv' := [(2, .int x9), (0, .ref (ad 0)), (1, .int p1)]) hx hb dX11_allAlike_41 hl (k := 2) rfl (by rw [ex9]; rfl) (by decide) rfl (fun ls hl => ?_)
          refine lv_goto (tgt := 2) hx hb dX11_allAlike_44 (by decide) ?_
          refine wu_w hWW2 ?_
          exact ih x9 S8 z h H locs hP hS ls (lv_sub hl [1, 2, 0] rfl) K0
        · replace h := it_t c6 h
          refine lv_iconst (v := 1) hx hb dX11_allAlike_35 (by decide) ?_
          refine lv_goto (tgt := 40) hx hb dX11_allAlike_36 (by decide) ?_
          obtain ⟨b10, h⟩ := ck_elim h
          obtain ⟨S11, eS11, h⟩ := bnd_elim h
          refine va_zast hx hb hK hP hD hS 3 1 rfl rfl b10 dX11_allAlike_40 (fun H locs hP9 _ hS => ?_)
          have hP := swM_3 hP9
          rw [← eS11] at hP
          have hD := wM_D hD S11
          obtain ⟨x12, ex12, h⟩ := bnd_elim h
          refine lv_iinc (v := x12) (lv' := [(2, .int x12), (0, .ref (ad 0)), (1, .int p1)]) hx hb dX11_allAlike_41 hl (k := 2) rfl (by rw [ex12]; rfl) (by decide) rfl (fun ls hl => ?_)
          refine lv_goto (tgt := 2) hx hb dX11_allAlike_44 (by decide) ?_
          refine wu_w hWW2 ?_
          exact ih x12 S11 z h H locs hP hS ls (lv_sub hl [1, 2, 0] rfl) K0
  obtain ⟨S14, k13, h⟩ := ob_elim h
  refine wu_w hWW2 ?_
  refine Lh2 FU 0 S _ k13 s.heap [] hP hS ls (lv_sub hl [1, 2, 0] rfl) ?_
  intro y0 hy H locs hP hS ls hl
  cases hy
  have hD := wM_D hD S14
  refine wi_w hWW2 ?_
  refine lv_iconst (v := 1) hx hb dX11_allAlike_47 (by decide) ?_
  refine lv_istore_n (lv' := [(2, .int 1), (0, .ref (ad 0))]) hx hb dX11_allAlike_48 rfl hl (by decide) rfl (fun ls hl => ?_)
  refine lv_iconst (v := 0) hx hb dX11_allAlike_49 (by decide) ?_
  refine lv_istore_n (lv' := [(3, .int 0), (2, .int 1), (0, .ref (ad 0))]) hx hb dX11_allAlike_50 rfl hl (by decide) rfl (fun ls hl => ?_)
  refine ww_w (fun WW51 hWW51 => ?_)
  have Lh51 : ∀ (n : Nat) (v15 : Int32) (v16 : Int32) (S17 : (Nat → Nat → Int32)) (z : (Int32 × (Nat → Nat → Int32))), lX11_allAlike_51 n v15 v16 S17 = some z → ∀ (H : Heap) (locs : List Loc), va_P (dC, dI) vwCl (wM cI cZ ad S17) H → va_S (AX 7 ad s.heap.size) s.heap H locs → ∀ ls : Array Slot, lv_has ls 4 [(0, .ref (ad 0)), (2, .int v15), (3, .int v16)] → (∀ (y0 : Int32) (YS : (Nat → Nat → Int32)), z = (y0, YS) → ∀ (H : Heap) (locs : List Loc), va_P (dC, dI) vwCl (wM cI cZ ad YS) H → va_S (AX 7 ad s.heap.size) s.heap H locs → ∀ ls : Array Slot, lv_has ls 4 [(0, .ref (ad 0)), (2, .int y0)] → WW51 H locs 94 ls) → WW51 H locs 51 ls := by
    intro n
    induction n with
    | zero => intro v15 v16 S17 z h H locs hP hS ls hl K0; rw [lX11_allAlike_51] at h; cases h
    | succ n ih =>
      intro v15 v16 S17 z h H locs hP hS ls hl K0
      have hD := wM_D hD S17
      rw [lX11_allAlike_51] at h
      refine wi_w hWW51 ?_
      refine lv_iload_n hx hb dX11_allAlike_51 rfl (lv_at hl 2 rfl) ?_
      refine lv_aload_n hx hb dX11_allAlike_52 rfl (lv_at hl 0 rfl) ?_
      refine va_get (D := (dC, dI)) (ci := 11) (v := .ref (ad 1)) (C := RX11) (T := TX11) (N := 8) hx hb hts hiX11 hown hK hP 0 rfl rfl 0 (by decide) hf7 (fun _ h9 => h9) rfl dX11_allAlike_53 ?_
      refine lv_iconst (v := 0) hx hb dX11_allAlike_56 (by decide) ?_
      obtain ⟨b18, h⟩ := ck_elim h
      refine va_iald hx hb hK hP 1 0 rfl rfl b18 dX11_allAlike_57 ?_
      refine lv_icmp_ge (tgt := 94) hx hb dX11_allAlike_58 (by decide) (fun c19 => ?_) (fun c19 => ?_)
      · replace h := it_t c19 h
        refine wu_w hWW51 ?_
        exact K0 v15 S17 (Option.some.inj h).symm H locs hP hS ls (lv_sub hl [0, 1] rfl)
      · replace h := it_f c19 h
        refine lv_iload_n hx hb dX11_allAlike_61 rfl (lv_at hl 1 rfl) ?_
        refine lv_if_eq (tgt := 94) hx hb dX11_allAlike_62 (by decide) (fun c20 => ?_) (fun c20 => ?_)
        · replace h := it_t c20 h
          refine wu_w hWW51 ?_
          exact K0 v15 S17 (Option.some.inj h).symm H locs hP hS ls (lv_sub hl [0, 1] rfl)
        · replace h := it_f c20 h
          refine lv_aload_n hx hb dX11_allAlike_65 rfl (lv_at hl 0 rfl) ?_
          refine lv_iload_n hx hb dX11_allAlike_66 rfl (lv_at hl 2 rfl) ?_
          obtain ⟨S22, k21, h⟩ := ob_elim h
          refine va_callv (va_runV (As := [.int v16]) (rest := []) ⟨hx, hb, hml, hown, hts⟩ (mX11_looksAt l dC dI cI cZ ad v16 S17 H.size k21) (cwV 1 hts gX11_allAlike_X11_looksAt rfl rfl rfl (by decide +kernel) ⟨Nat.le_of_ble_eq_true rfl, Nat.le_of_ble_eq_true rfl⟩) ⟨QMs_blind, va_recv hK hP (ci := 11) (q0 := 0) rfl rfl, fun U hU hW => ⟨rfl, congrArg Array.size hU, QM_at hP hK hD hU hW⟩⟩ rfl rfl hl.1 rfl (lv_room (Nat.le_of_ble_eq_true rfl)) dX11_allAlike_67 ⟨Nat.zero_le _, Nat.zero_le _⟩) hS (fun q _ hq => AX_mono hS.1 hq) (fun q hq => AX_mono hS.1 hq) (fun u t H1 locs ht hvm hw hB hz1 hk1 hS => ?_)
          cases hw
          rw [ht] at hB
          have hP := hB
          clear hB hk1 hz1
          generalize H1 = H at hP hS ⊢
          have hD := wM_D hD S22
          refine lv_aload_n hx hb dX11_allAlike_70 rfl (lv_at hl 0 rfl) ?_
          refine lv_aload_n hx hb dX11_allAlike_71 rfl (lv_at hl 0 rfl) ?_
          refine va_get (D := (dC, dI)) (ci := 11) (v := .ref (ad 1)) (C := RX11) (T := TX11) (N := 8) hx hb hts hiX11 hown hK hP 0 rfl rfl 0 (by decide) hf7 (fun _ h9 => h9) rfl dX11_allAlike_72 ?_
          refine lv_bipush (v := 10) hx hb dX11_allAlike_75 (by decide) ?_
          refine lv_iconst (v := 2) hx hb dX11_allAlike_77 (by decide) ?_
          refine lv_iload_n hx hb dX11_allAlike_78 rfl (lv_at hl 2 rfl) ?_
          refine lv_imul hx hb dX11_allAlike_79 ?_
          refine lv_iadd hx hb dX11_allAlike_80 ?_
          refine lv_iconst (v := 1) hx hb dX11_allAlike_81 (by decide) ?_
          refine lv_iadd hx hb dX11_allAlike_82 ?_
          obtain ⟨b23, h⟩ := ck_elim h
          refine va_iald hx hb hK hP 1 0 rfl rfl b23 dX11_allAlike_83 ?_
          obtain ⟨r25, k24, h⟩ := ob_elim h
          refine vp_callSi (W.runV (As := [.int (S22 1 ((10 + (2 * v16)) + 1).toNatClampNeg)]) (rest := []) ⟨hx, hb, hml, hown, hts⟩ (mX11_areAlike l dC dI cI cZ ad (S22 1 ((10 + (2 * v16)) + 1).toNatClampNeg) S22 k24) (cwV 1 hts gX11_allAlike_X11_areAlike rfl rfl rfl (by decide +kernel) ⟨Nat.le_of_ble_eq_true rfl, Nat.le_of_ble_eq_true rfl⟩) ⟨QM_blind, va_recv hK hP (ci := 11) (q0 := 0) rfl rfl, fun U hU hW => ⟨rfl, QM_at hP hK hD hU hW⟩⟩ rfl rfl hl.1 rfl (lv_room (Nat.le_of_ble_eq_true rfl)) dX11_allAlike_84 ⟨Nat.zero_le _, Nat.zero_le _⟩) (fun r9 er9 => ?_)
          replace er9 := er9.symm
          subst er9
          refine lv_istore_n (lv' := [(2, .int r25), (0, .ref (ad 0)), (3, .int v16)]) hx hb dX11_allAlike_87 rfl hl (by decide) rfl (fun ls hl => ?_)
          obtain ⟨x26, ex26, h⟩ := bnd_elim h
          refine lv_iinc (v := x26) (lv' := [(3, .int x26), (2, .int r25), (0, .ref (ad 0))]) hx hb dX11_allAlike_88 hl (k := 2) rfl (by rw [ex26]; rfl) (by decide) rfl (fun ls hl => ?_)
          refine lv_goto (tgt := 51) hx hb dX11_allAlike_91 (by decide) ?_
          refine wu_w hWW51 ?_
          exact ih r25 x26 S22 z h H locs hP hS ls (lv_sub hl [2, 1, 0] rfl) K0
  obtain ⟨w28, S29, k27, h⟩ := ob2_elim h
  refine wu_w hWW51 ?_
  refine Lh51 FU 1 0 S14 _ k27 H locs hP hS ls (lv_sub hl [2, 1, 0] rfl) ?_
  intro y0 y1 hy H locs hP hS ls hl
  cases hy
  have hD := wM_D hD S29
  refine wi_w hWW51 ?_
  refine lv_iconst (v := 0) hx hb dX11_allAlike_94 (by decide) ?_
  refine lv_istore_n (lv' := [(3, .int 0), (0, .ref (ad 0)), (2, .int w28)]) hx hb dX11_allAlike_95 rfl hl (by decide) rfl (fun ls hl => ?_)
  refine ww_w (fun WW96 hWW96 => ?_)
  have Lh96 : ∀ (n : Nat) (v30 : Int32) (S31 : (Nat → Nat → Int32)) (z : ((Nat → Nat → Int32))), lX11_allAlike_96 w28 n v30 S31 = some z → ∀ (H : Heap) (locs : List Loc), va_P (dC, dI) vwCl (wM cI cZ ad S31) H → va_S (AX 7 ad s.heap.size) s.heap H locs → ∀ ls : Array Slot, lv_has ls 4 [(0, .ref (ad 0)), (2, .int w28), (3, .int v30)] → (∀ (YS : (Nat → Nat → Int32)), z = YS → ∀ (H : Heap) (locs : List Loc), va_P (dC, dI) vwCl (wM cI cZ ad YS) H → va_S (AX 7 ad s.heap.size) s.heap H locs → ∀ ls : Array Slot, lv_has ls 4 [(2, .int w28)] → WW96 H locs 128 ls) → WW96 H locs 96 ls := by
    intro n
    induction n with
    | zero => intro v30 S31 z h H locs hP hS ls hl K0; rw [lX11_allAlike_96] at h; cases h
    | succ n ih =>
      intro v30 S31 z h H locs hP hS ls hl K0
      have hD := wM_D hD S31
      rw [lX11_allAlike_96] at h
      refine wi_w hWW96 ?_
      refine lv_iload_n hx hb dX11_allAlike_96 rfl (lv_at hl 2 rfl) ?_
      refine lv_aload_n hx hb dX11_allAlike_97 rfl (lv_at hl 0 rfl) ?_
      refine va_get (D := (dC, dI)) (ci := 11) (v := .ref (ad 1)) (C := RX11) (T := TX11) (N := 8) hx hb hts hiX11 hown hK hP 0 rfl rfl 0 (by decide) hf7 (fun _ h9 => h9) rfl dX11_allAlike_98 ?_
      refine lv_iconst (v := 4) hx hb dX11_allAlike_101 (by decide) ?_
      obtain ⟨b32, h⟩ := ck_elim h
      refine va_iald hx hb hK hP 1 0 rfl rfl b32 dX11_allAlike_102 ?_
      refine lv_icmp_ge (tgt := 128) hx hb dX11_allAlike_103 (by decide) (fun c33 => ?_) (fun c33 => ?_)
      · replace h := it_t c33 h
        refine wu_w hWW96 ?_
        exact K0 S31 (Option.some.inj h).symm H locs hP hS ls (lv_sub hl [1] rfl)
      · replace h := it_f c33 h
        refine lv_aload_n hx hb dX11_allAlike_106 rfl (lv_at hl 0 rfl) ?_
        refine va_get (D := (dC, dI)) (ci := 11) (v := .ref (ad 3)) (C := RX11) (T := TX11) (N := 8) hx hb hts hiX11 hown hK hP 0 rfl rfl 3 (by decide) hf16 (fun _ h9 => h9) rfl dX11_allAlike_107 ?_
        refine lv_aload_n hx hb dX11_allAlike_110 rfl (lv_at hl 0 rfl) ?_
        refine va_get (D := (dC, dI)) (ci := 11) (v := .ref (ad 1)) (C := RX11) (T := TX11) (N := 8) hx hb hts hiX11 hown hK hP 0 rfl rfl 0 (by decide) hf7 (fun _ h9 => h9) rfl dX11_allAlike_111 ?_
        refine lv_sipush (v := 982) hx hb dX11_allAlike_114 (by decide) ?_
        refine lv_iload_n hx hb dX11_allAlike_117 rfl (lv_at hl 2 rfl) ?_
        refine lv_iadd hx hb dX11_allAlike_118 ?_
        obtain ⟨b34, h⟩ := ck_elim h
        refine va_iald hx hb hK hP 1 0 rfl rfl b34 dX11_allAlike_119 ?_
        refine lv_iconst (v := 0) hx hb dX11_allAlike_120 (by decide) ?_
        obtain ⟨b35, h⟩ := ck_elim h
        obtain ⟨S36, eS36, h⟩ := bnd_elim h
        refine va_zast hx hb hK hP hD hS 3 1 rfl rfl b35 dX11_allAlike_121 (fun H locs hP9 _ hS => ?_)
        have hP := swM_3 hP9
        rw [← eS36] at hP
        have hD := wM_D hD S36
        obtain ⟨x37, ex37, h⟩ := bnd_elim h
        refine lv_iinc (v := x37) (lv' := [(3, .int x37), (0, .ref (ad 0)), (2, .int w28)]) hx hb dX11_allAlike_122 hl (k := 2) rfl (by rw [ex37]; rfl) (by decide) rfl (fun ls hl => ?_)
        refine lv_goto (tgt := 96) hx hb dX11_allAlike_125 (by decide) ?_
        refine wu_w hWW96 ?_
        exact ih x37 S36 z h H locs hP hS ls (lv_sub hl [1, 2, 0] rfl) K0
  obtain ⟨S39, k38, h⟩ := ob_elim h
  refine wu_w hWW96 ?_
  refine Lh96 FU 0 S29 _ k38 H locs hP hS ls (lv_sub hl [1, 2, 0] rfl) ?_
  intro y0 hy H locs hP hS ls hl
  cases hy
  have hD := wM_D hD S39
  refine wi_w hWW96 ?_
  refine lv_iload_n hx hb dX11_allAlike_128 rfl (lv_at hl 0 rfl) ?_
  obtain ⟨b40, h⟩ := zk_elim h
  cases h
  exact W.zret hx hb hr b40 (fun t ht hW => ⟨⟨_, _, rfl, rfl, by show va_P _ _ _ t.heap; rw [ht]; exact hP⟩, hS.F ht⟩) hS.2.2 dX11_allAlike_129
