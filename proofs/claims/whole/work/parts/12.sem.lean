def sX10_isBelow (p0 : Int32) (p1 : Int32) : Option (Int32) :=
  if p0 < 0 then some 0 else if p1 ≤ p0 then some 0 else some 1

def sX10_isDay (p0 : Int32) : Option (Int32) :=
  ob (sX10_isBelow p0 1000) (fun r2 => zk r2 (some r2))

def sX2_add (p1 : Int32) (S : Nat → Nat → Int32) (L : Nat → Nat → Int64) : Option (Int32 × (Nat → Nat → Int32) × (Nat → Nat → Int64)) :=
  ck (S 1 0) 16 (bnd (qu2 S 13 (S 1 0).toNatClampNeg p1) (fun S2 => bnd (qu2 S2 1 0 ((S2 1 0) + 1)) (fun S3 => some ((S3 1 0) - 1, S3, L))))

def sX10_newCase (p1 : Int32) (S : Nat → Nat → Int32) (L : Nat → Nat → Int64) : Option (Int32 × (Nat → Nat → Int32) × (Nat → Nat → Int64)) :=
  ob (sX10_isDay p1) (fun r2 => if r2 = 0 then some ((-2), S, L) else if (S 1 0) < 16 then ob3 (sX2_add p1 S L) (fun r8 S6 L7 => some (r8, S6, L7)) else some ((-4), S, L))

def sX11_in (p0 : Int32) (p1 : Int32) (p2 : Int32) : Option (Int32) :=
  if p0 < p1 then some 0 else if p2 < p0 then some 0 else some 1

def sX11_isDay (p0 : Int32) : Option (Int32) :=
  ob (sX11_in p0 0 999) (fun r2 => zk r2 (some r2))

def sX11_one (p1 : Int32) (S : Nat → Nat → Int32) : Option (Int32 × (Nat → Nat → Int32)) :=
  ck p1 994 (ck p1 994 (bnd (qu2 S 1 p1.toNatClampNeg ((S 1 p1.toNatClampNeg) + 1)) (fun S3 => ck p1 994 (some ((S3 1 p1.toNatClampNeg) - 1, S3)))))

def sX11_newCase (p1 : Int32) (S : Nat → Nat → Int32) : Option (Int32 × (Nat → Nat → Int32)) :=
  ob (sX11_isDay p1) (fun r2 => if r2 = 0 then some ((-2), S) else ck 0 994 (if (S 1 (0 : Int32).toNatClampNeg) = 16 then some ((-4), S) else ck 0 994 (ck (10 + (2 * (S 1 (0 : Int32).toNatClampNeg))) 994 (bnd (qu2 S 1 (10 + (2 * (S 1 (0 : Int32).toNatClampNeg))).toNatClampNeg p1) (fun S8 => ck 0 994 (ck ((10 + (2 * (S8 1 (0 : Int32).toNatClampNeg))) + 1) 994 (bnd (qu2 S8 1 ((10 + (2 * (S8 1 (0 : Int32).toNatClampNeg))) + 1).toNatClampNeg 0) (fun S11 => ob2 (sX11_one 0 S11) (fun r14 S13 => some (r14, S13))))))))))

def sX10_isCase (p1 : Int32) (S : Nat → Nat → Int32) (L : Nat → Nat → Int64) : Option (Int32) :=
  ob (sX10_isBelow p1 (S 1 0)) (fun r2 => zk r2 (some r2))

def sX10_isTie (p0 : Int32) : Option (Int32) :=
  ob (sX10_isBelow p0 6) (fun r2 => zk r2 (some r2))

def sX2_tell (p1 : Int32) (p2 : Int32) (p3 : Int32) (p4 : Int32) (S : Nat → Nat → Int32) (L : Nat → Nat → Int64) : Option (Int32 × (Nat → Nat → Int32) × (Nat → Nat → Int64)) :=
  bnd ((p1 * 6) + p2) (fun x1 => ck p1 16 (if (S 13 p1.toNatClampNeg) < p4 then bnd (qu2 S 1 1 ((S 1 1) + 1)) (fun S4 => some (S4 1 1, S4, L)) else ck x1 96 (if p4 < (S 16 x1.toNatClampNeg) then bnd (qu2 S 1 1 ((S 1 1) + 1)) (fun S7 => some (S7 1 1, S7, L)) else ck x1 96 (bnd (qu2 S 15 x1.toNatClampNeg p3) (fun S9 => ck x1 96 (bnd (qu2 S9 16 x1.toNatClampNeg p4) (fun S11 => bnd (qu2 S11 1 1 ((S11 1 1) + 1)) (fun S12 => some (S12 1 1, S12, L)))))))))

def sX10_isLand (p0 : Int32) : Option (Int32) :=
  ob (sX10_isBelow p0 4) (fun r2 => zk r2 (some r2))

def sX10_tie (p1 : Int32) (p2 : Int32) (p3 : Int32) (p4 : Int32) (S : Nat → Nat → Int32) (L : Nat → Nat → Int64) : Option (Int32 × (Nat → Nat → Int32) × (Nat → Nat → Int64)) :=
  ob (sX10_isCase p1 S L) (fun r2 => if r2 = 0 then some ((-2), S, L) else ob (sX10_isTie p2) (fun r5 => if r5 = 0 then some ((-2), S, L) else ob (sX10_isDay p4) (fun r8 => if r8 = 0 then some ((-2), S, L) else if p3 = (-1) then if (S 1 1) < 60 then ob3 (sX2_tell p1 p2 p3 p4 S L) (fun r15 S13 L14 => some (r15, S13, L14)) else some ((-4), S, L) else ob (sX10_isLand p3) (fun r17 => if r17 = 0 then some ((-2), S, L) else if (S 1 1) < 60 then ob3 (sX2_tell p1 p2 p3 p4 S L) (fun r23 S21 L22 => some (r23, S21, L22)) else some ((-4), S, L)))))

def sX11_is (p1 : Int32) (p2 : Int32) (S : Nat → Nat → Int32) : Option (Int32) :=
  ck p1 994 (ob (sX11_in p2 0 ((S 1 p1.toNatClampNeg) - 1)) (fun r3 => zk r3 (some r3)))

def sX11_isTie (p0 : Int32) : Option (Int32) :=
  ob (sX11_in p0 0 5) (fun r2 => zk r2 (some r2))

def sX11_tie (p1 : Int32) (p2 : Int32) (p3 : Int32) (p4 : Int32) (S : Nat → Nat → Int32) : Option (Int32 × (Nat → Nat → Int32)) :=
  ob (sX11_is 0 p1 S) (fun r2 => if r2 = 0 then some ((-2), S) else ob (sX11_isTie p2) (fun r5 => if r5 = 0 then some ((-2), S) else ob (sX11_in p3 (-1) 3) (fun r8 => if r8 = 0 then some ((-2), S) else ob (sX11_isDay p4) (fun r11 => if r11 = 0 then some ((-2), S) else ck 1 994 (if (S 1 (1 : Int32).toNatClampNeg) = 60 then some ((-4), S) else ck 1 994 (bnd (42 + (4 * (S 1 (1 : Int32).toNatClampNeg))) (fun x16 => ck x16 994 (bnd (qu2 S 1 x16.toNatClampNeg p1) (fun S18 => ck (x16 + 1) 994 (bnd (qu2 S18 1 (x16 + 1).toNatClampNeg p2) (fun S20 => ck (x16 + 2) 994 (bnd (qu2 S20 1 (x16 + 2).toNatClampNeg p3) (fun S22 => ck (x16 + 3) 994 (bnd (qu2 S22 1 (x16 + 3).toNatClampNeg p4) (fun S24 => ob2 (sX11_one 1 S24) (fun r27 S26 => some (r27 + 1, S26)))))))))))))))))

def sX2_landOf (p1 : Int32) (p2 : Int32) (S : Nat → Nat → Int32) (L : Nat → Nat → Int64) : Option (Int32) :=
  ck ((p1 * 6) + p2) 96 (some (S 15 ((p1 * 6) + p2).toNatClampNeg))

def sX10_which (p1 : Int32) (p2 : Int32) (S : Nat → Nat → Int32) (L : Nat → Nat → Int64) : Option (Int32) :=
  ob (sX10_isCase p1 S L) (fun r2 => if r2 = 0 then some (-10) else ob (sX10_isTie p2) (fun r5 => if r5 = 0 then some (-10) else ob (sX2_landOf p1 p2 S L) (fun r8 => some r8)))

def lX11_looksAt_35 (p1 : Int32) (v3 : Int32) : Nat → Int32 → Int32 → (Nat → Nat → Int32) → Option ((Nat → Nat → Int32))
  | 0, _, _, _ => none
  | n + 1, v8, v9, S10 =>
    ck 1 994 (if (S10 1 (1 : Int32).toNatClampNeg) ≤ v9 then some S10 else bnd (42 + (4 * v9)) (fun x13 => ck x13 994 (if (S10 1 x13.toNatClampNeg) = p1 then ck (x13 + 1) 994 (if (S10 1 (x13 + 1).toNatClampNeg) = v3 then ck (x13 + 3) 994 (if (S10 0 2) < (S10 1 (x13 + 3).toNatClampNeg) then bnd (v9 + 1) (fun x22 => lX11_looksAt_35 p1 v3 n v8 x22 S10) else ck (x13 + 3) 994 (if (S10 1 (x13 + 3).toNatClampNeg) < v8 then bnd (v9 + 1) (fun x25 => lX11_looksAt_35 p1 v3 n v8 x25 S10) else ck (x13 + 2) 994 (ck v3 6 (bnd (qu2 S10 2 v3.toNatClampNeg (S10 1 (x13 + 2).toNatClampNeg)) (fun S28 => ck (x13 + 3) 994 (bnd (S28 1 (x13 + 3).toNatClampNeg) (fun x30 => bnd (v9 + 1) (fun x31 => lX11_looksAt_35 p1 v3 n x30 x31 S28)))))))) else bnd (v9 + 1) (fun x19 => lX11_looksAt_35 p1 v3 n v8 x19 S10)) else bnd (v9 + 1) (fun x16 => lX11_looksAt_35 p1 v3 n v8 x16 S10))))
def lX11_looksAt_17 (p1 : Int32) : Nat → Int32 → (Nat → Nat → Int32) → Option ((Nat → Nat → Int32))
  | 0, _, _ => none
  | n + 1, v3, S4 =>
    if 6 ≤ v3 then some S4 else ck v3 6 (bnd (qu2 S4 2 v3.toNatClampNeg (-1)) (fun S7 => ob (lX11_looksAt_35 p1 v3 FU (-1) 0 S7) (fun S33 => bnd (v3 + 1) (fun x34 => lX11_looksAt_17 p1 n x34 S33))))
def sX11_looksAt (p1 : Int32) (S : Nat → Nat → Int32) : Option ((Nat → Nat → Int32)) :=
  ck (10 + (2 * p1)) 994 (bnd (qu2 S 0 2 (S 1 (10 + (2 * p1)).toNatClampNeg)) (fun S2 => ob (lX11_looksAt_17 p1 FU 0 S2) (fun S36 => some S36)))

def sX11_which (p1 : Int32) (p2 : Int32) (S : Nat → Nat → Int32) : Option (Int32 × (Nat → Nat → Int32)) :=
  ob (sX11_is 0 p1 S) (fun r2 => if r2 = 0 then some ((-10), S) else ob (sX11_isTie p2) (fun r5 => if r5 = 0 then some ((-10), S) else ob (sX11_looksAt p1 S) (fun S8 => ck p2 6 (some (S8 2 p2.toNatClampNeg, S8)))))

def sX10_isKind (p0 : Int32) : Option (Int32) :=
  ob (sX10_isBelow p0 3) (fun r2 => zk r2 (some r2))

def sX6_add (p1 : Int32) (p2 : Int32) (p3 : Int32) (p4 : Int32) (p5 : Int32) (S : Nat → Nat → Int32) (L : Nat → Nat → Int64) : Option (Int32 × (Nat → Nat → Int32) × (Nat → Nat → Int64)) :=
  bnd (S 2 0) (fun x1 => ck x1 60 (bnd (qu2 S 17 x1.toNatClampNeg p1) (fun S3 => ck x1 60 (bnd (qu2 S3 18 x1.toNatClampNeg p2) (fun S5 => ck x1 60 (bnd (qu2 S5 19 x1.toNatClampNeg p3) (fun S7 => ck x1 60 (bnd (qu2 S7 20 x1.toNatClampNeg p4) (fun S9 => ck x1 60 (bnd (qu2 S9 21 x1.toNatClampNeg p5) (fun S11 => ck x1 60 (bnd (qu2 S11 22 x1.toNatClampNeg (-1)) (fun S13 => bnd ((p1 * 3) + p2) (fun x14 => ck x14 12 (ck x14 12 (bnd (qu2L L 26 x14.toNatClampNeg ((L 26 x14.toNatClampNeg) ||| (lsh 1 x1))) (fun L17 => if p4 < 5 then bnd (qu2 S13 2 0 ((S13 2 0) + 1)) (fun S19 => some (x1, S19, L17)) else bnd ((p4 - 5) * 5) (fun x20 => ck x20 30 (ck x20 30 (bnd (qu2L L17 27 x20.toNatClampNeg ((L17 27 x20.toNatClampNeg) ||| (lsh 1 x1))) (fun L23 => bnd (qu2 S13 2 0 ((S13 2 0) + 1)) (fun S24 => some (x1, S24, L23)))))))))))))))))))))))

def sX10_rule (p1 : Int32) (p2 : Int32) (p3 : Int32) (p4 : Int32) (p5 : Int32) (S : Nat → Nat → Int32) (L : Nat → Nat → Int64) : Option (Int32 × (Nat → Nat → Int32) × (Nat → Nat → Int64)) :=
  ob (sX10_isLand p1) (fun r2 => if r2 = 0 then some ((-2), S, L) else ob (sX10_isKind p2) (fun r5 => if r5 = 0 then some ((-2), S, L) else ob (sX10_isDay p5) (fun r8 => if r8 = 0 then some ((-2), S, L) else ob (sX10_isBelow p3 2) (fun r11 => if r11 = 0 then some ((-2), S, L) else ob (sX10_isBelow p4 11) (fun r14 => if r14 = 0 then some ((-2), S, L) else if (S 2 0) < 60 then ob3 (sX6_add p1 p2 p3 p4 p5 S L) (fun r20 S18 L19 => some (r20, S18, L19)) else some ((-4), S, L))))))

def sX11_isLand (p0 : Int32) : Option (Int32) :=
  ob (sX11_in p0 0 3) (fun r2 => zk r2 (some r2))

def sX11_isKind (p0 : Int32) : Option (Int32) :=
  ob (sX11_in p0 0 2) (fun r2 => zk r2 (some r2))

def lX11_rule_77 (p1 : Int32) (p2 : Int32) (p3 : Int32) (p4 : Int32) (p5 : Int32) (x19 : Int32) : Nat → Int32 → (Nat → Nat → Int32) → Option ((Nat → Nat → Int32))
  | 0, _, _ => none
  | n + 1, v20, S21 =>
    if 11 ≤ v20 then some S21 else ck (x19 + v20) 994 (bnd (qu2 S21 1 (x19 + v20).toNatClampNeg 0) (fun S24 => bnd (v20 + 1) (fun x25 => lX11_rule_77 p1 p2 p3 p4 p5 x19 n x25 S24)))
def sX11_rule (p1 : Int32) (p2 : Int32) (p3 : Int32) (p4 : Int32) (p5 : Int32) (S : Nat → Nat → Int32) : Option (Int32 × (Nat → Nat → Int32)) :=
  ob (sX11_isLand p1) (fun r2 => if r2 = 0 then some ((-2), S) else ob (sX11_isKind p2) (fun r5 => if r5 = 0 then some ((-2), S) else ob (sX11_in p3 0 1) (fun r8 => if r8 = 0 then some ((-2), S) else ob (sX11_in p4 0 10) (fun r11 => if r11 = 0 then some ((-2), S) else ob (sX11_isDay p5) (fun r14 => if r14 = 0 then some ((-2), S) else ck 2 994 (if (S 1 (2 : Int32).toNatClampNeg) = 60 then some ((-4), S) else ck 2 994 (bnd (282 + (11 * (S 1 (2 : Int32).toNatClampNeg))) (fun x19 => ob (lX11_rule_77 p1 p2 p3 p4 p5 x19 FU 0 S) (fun S27 => ck (x19 + 0) 994 (bnd (qu2 S27 1 (x19 + 0).toNatClampNeg p1) (fun S29 => ck (x19 + 1) 994 (bnd (qu2 S29 1 (x19 + 1).toNatClampNeg p2) (fun S31 => ck (x19 + 2) 994 (bnd (qu2 S31 1 (x19 + 2).toNatClampNeg p3) (fun S33 => ck (x19 + 3) 994 (bnd (qu2 S33 1 (x19 + 3).toNatClampNeg p4) (fun S35 => ck (x19 + 4) 994 (bnd (qu2 S35 1 (x19 + 4).toNatClampNeg p5) (fun S37 => ck (x19 + 5) 994 (bnd (qu2 S37 1 (x19 + 5).toNatClampNeg (-1)) (fun S39 => ob2 (sX11_one 2 S39) (fun r42 S41 => some (r42, S41)))))))))))))))))))))))

def sX10_isRule (p1 : Int32) (S : Nat → Nat → Int32) (L : Nat → Nat → Int64) : Option (Int32) :=
  ob (sX10_isBelow p1 (S 2 0)) (fun r2 => zk r2 (some r2))

def sX6_fits (p0 : Int32) (p1 : Int32) (p2 : Int32) : Option (Int32) :=
  if p0 = 1 then if p1 = (-1) then some 1 else some 0 else if p0 = 0 then if p1 = (-1) then some 0 else some 1 else if p0 < 8 then if p0 = 2 then if p1 = p2 then some 1 else some 0 else if p0 = 3 then if p1 = (-1) then some 0 else if p1 = p2 then some 0 else some 1 else if p1 = (p0 - 4) then some 1 else some 0 else if p1 = (-1) then some 0 else some 1

def sX6_pair (p1 : Int32) (p2 : Int32) (p3 : Int32) (S : Nat → Nat → Int32) (L : Nat → Nat → Int64) : Option ((Nat → Nat → Int32) × (Nat → Nat → Int64)) :=
  bnd ((if p3 < p2 then p3 else p2)) (fun x1 => bnd ((if p2 < p3 then p3 else p2)) (fun x2 => bnd ((x1 * 6) + x2) (fun x3 => ck x3 36 (ck x3 36 (bnd (qu2L L 28 x3.toNatClampNeg ((L 28 x3.toNatClampNeg) ||| (lsh 1 p1))) (fun L6 => some (S, L6)))))))

def lX6_addTest_31 (p1 : Int32) (p2 : Int32) (p3 : Int32) : Nat → Int32 → (Nat → Nat → Int32) → (Nat → Nat → Int64) → Option ((Nat → Nat → Int32) × (Nat → Nat → Int64))
  | 0, _, _, _ => none
  | n + 1, v7, S8, L9 =>
    if 4 ≤ v7 then some (S8, L9) else ck p1 60 (ob (sX6_fits p3 v7 (S8 17 p1.toNatClampNeg)) (fun r13 => if r13 = 0 then bnd (((p2 * 5) + v7) + 1) (fun x16 => ck x16 30 (ck x16 30 (bnd (qu2L L9 27 x16.toNatClampNeg ((L9 27 x16.toNatClampNeg) ||| (lsh 1 p1))) (fun L19 => bnd (v7 + 1) (fun x20 => lX6_addTest_31 p1 p2 p3 n x20 S8 L19))))) else bnd (v7 + 1) (fun x15 => lX6_addTest_31 p1 p2 p3 n x15 S8 L9)))
def sX6_addTest (p1 : Int32) (p2 : Int32) (p3 : Int32) (S : Nat → Nat → Int32) (L : Nat → Nat → Int64) : Option (Int32 × (Nat → Nat → Int32) × (Nat → Nat → Int64)) :=
  ck p1 60 (bnd ((p1 * 2) + (S 23 p1.toNatClampNeg)) (fun x2 => ck x2 120 (bnd (qu2 S 24 x2.toNatClampNeg p2) (fun S4 => ck x2 120 (bnd (qu2 S4 25 x2.toNatClampNeg p3) (fun S6 => ob2 (lX6_addTest_31 p1 p2 p3 FU (-1) S6 L) (fun S22 L23 => if p3 < 8 then ck p1 60 (ck p1 60 (bnd (qu2 S22 23 p1.toNatClampNeg ((S22 23 p1.toNatClampNeg) + 1)) (fun S27 => ck p1 60 (some (S27 23 p1.toNatClampNeg, S27, L23))))) else ob2 (sX6_pair p1 p2 (p3 - 8) S22 L23) (fun S30 L31 => ck p1 60 (ck p1 60 (bnd (qu2 S30 23 p1.toNatClampNeg ((S30 23 p1.toNatClampNeg) + 1)) (fun S34 => ck p1 60 (some (S34 23 p1.toNatClampNeg, S34, L31)))))))))))))

def sX10_test (p1 : Int32) (p2 : Int32) (p3 : Int32) (S : Nat → Nat → Int32) (L : Nat → Nat → Int64) : Option (Int32 × (Nat → Nat → Int32) × (Nat → Nat → Int64)) :=
  ob (sX10_isRule p1 S L) (fun r2 => if r2 = 0 then some ((-2), S, L) else ob (sX10_isTie p2) (fun r5 => if r5 = 0 then some ((-2), S, L) else ob (sX10_isBelow p3 14) (fun r8 => if r8 = 0 then some ((-2), S, L) else ck p1 60 (if (S 23 p1.toNatClampNeg) < 2 then ob3 (sX6_addTest p1 p2 p3 S L) (fun r15 S13 L14 => some (r15, S13, L14)) else some ((-4), S, L)))))

def sX11_ruleOf (p1 : Int32) (p2 : Int32) (S : Nat → Nat → Int32) : Option (Int32) :=
  ck ((282 + (11 * p1)) + p2) 994 (some (S 1 ((282 + (11 * p1)) + p2).toNatClampNeg))

def sX11_test (p1 : Int32) (p2 : Int32) (p3 : Int32) (S : Nat → Nat → Int32) : Option (Int32 × (Nat → Nat → Int32)) :=
  ob (sX11_is 2 p1 S) (fun r2 => if r2 = 0 then some ((-2), S) else ob (sX11_isTie p2) (fun r5 => if r5 = 0 then some ((-2), S) else ob (sX11_in p3 0 13) (fun r8 => if r8 = 0 then some ((-2), S) else ob (sX11_ruleOf p1 6 S) (fun r11 => if r11 = 2 then some ((-4), S) else bnd (282 + (11 * p1)) (fun x13 => ck (((x13 + 6) + 1) + (2 * r11)) 994 (bnd (qu2 S 1 (((x13 + 6) + 1) + (2 * r11)).toNatClampNeg p2) (fun S15 => ck (((x13 + 6) + 2) + (2 * r11)) 994 (bnd (qu2 S15 1 (((x13 + 6) + 2) + (2 * r11)).toNatClampNeg p3) (fun S17 => bnd (x13 + 6) (fun x18 => ck x18 994 (ck x18 994 (bnd (qu2 S17 1 x18.toNatClampNeg ((S17 1 x18.toNatClampNeg) + 1)) (fun S21 => some (r11 + 1, S21))))))))))))))

def sX10_strike (p1 : Int32) (p2 : Int32) (S : Nat → Nat → Int32) (L : Nat → Nat → Int64) : Option (Int32 × (Nat → Nat → Int32) × (Nat → Nat → Int64)) :=
  ob (sX10_isRule p1 S L) (fun r2 => if r2 = 0 then some ((-2), S, L) else ob (sX10_isDay p2) (fun r5 => if r5 = 0 then some ((-2), S, L) else ck p1 60 (if (S 22 p1.toNatClampNeg) = (-1) then ck p1 60 (bnd (qu2 S 22 p1.toNatClampNeg p2) (fun S10 => some (1, S10, L))) else some ((-3), S, L))))

def sX11_strike (p1 : Int32) (p2 : Int32) (S : Nat → Nat → Int32) : Option (Int32 × (Nat → Nat → Int32)) :=
  ob (sX11_is 2 p1 S) (fun r2 => if r2 = 0 then some ((-2), S) else ob (sX11_isDay p2) (fun r5 => if r5 = 0 then some ((-2), S) else ob (sX11_ruleOf p1 5 S) (fun r8 => if r8 = (-1) then ck ((282 + (11 * p1)) + 5) 994 (bnd (qu2 S 1 ((282 + (11 * p1)) + 5).toNatClampNeg p2) (fun S11 => some (1, S11))) else some ((-3), S))))

def sX5_ownKind (p1 : Int32) (p2 : Int32) (S : Nat → Nat → Int32) (L : Nat → Nat → Int64) : Option (Int32) :=
  ck ((p1 * 3) + p2) 12 (some (S 29 ((p1 * 3) + p2).toNatClampNeg))

def sX10_sort (p1 : Int32) (p2 : Int32) (p3 : Int32) (S : Nat → Nat → Int32) (L : Nat → Nat → Int64) : Option (Int32 × (Nat → Nat → Int32) × (Nat → Nat → Int64)) :=
  ob (sX10_isLand p1) (fun r2 => if r2 = 0 then some ((-2), S, L) else ob (sX10_isKind p2) (fun r5 => if r5 = 0 then some ((-2), S, L) else ob (sX10_isKind p3) (fun r8 => if r8 = 0 then some ((-2), S, L) else ob (sX5_ownKind p1 p2 S L) (fun r11 => ck ((p1 * 3) + p2) 12 (bnd (qu2 S 29 ((p1 * 3) + p2).toNatClampNeg p3) (fun S13 => some (r11, S13, L)))))))

def sX11_puts (p1 : Int32) (p2 : Int32) (S : Nat → Nat → Int32) : Option (Int32 × (Nat → Nat → Int32)) :=
  ck p1 994 (bnd (S 1 p1.toNatClampNeg) (fun x2 => ck p1 994 (bnd (qu2 S 1 p1.toNatClampNeg p2) (fun S4 => some (x2, S4)))))

def sX11_sort (p1 : Int32) (p2 : Int32) (p3 : Int32) (S : Nat → Nat → Int32) : Option (Int32 × (Nat → Nat → Int32)) :=
  ob (sX11_isLand p1) (fun r2 => if r2 = 0 then some ((-2), S) else ob (sX11_isKind p2) (fun r5 => if r5 = 0 then some ((-2), S) else ob (sX11_isKind p3) (fun r8 => if r8 = 0 then some ((-2), S) else ob2 (sX11_puts ((942 + (3 * p1)) + p2) p3 S) (fun r12 S11 => some (r12, S11)))))

def sX10_way (p1 : Int32) (p2 : Int32) (S : Nat → Nat → Int32) (L : Nat → Nat → Int64) : Option (Int32 × (Nat → Nat → Int32) × (Nat → Nat → Int64)) :=
  ob (sX10_isLand p1) (fun r2 => if r2 = 0 then some ((-2), S, L) else ob (sX10_isBelow p2 4) (fun r5 => if r5 = 0 then some ((-2), S, L) else ck p1 4 (bnd (S 30 p1.toNatClampNeg) (fun x8 => ck p1 4 (bnd (qu2 S 30 p1.toNatClampNeg p2) (fun S10 => some (x8, S10, L)))))))

def sX11_way (p1 : Int32) (p2 : Int32) (S : Nat → Nat → Int32) : Option (Int32 × (Nat → Nat → Int32)) :=
  ob (sX11_isLand p1) (fun r2 => if r2 = 0 then some ((-2), S) else ob (sX11_in p2 0 3) (fun r5 => if r5 = 0 then some ((-2), S) else ob2 (sX11_puts (954 + p1) p2 S) (fun r9 S8 => some (r9, S8))))

def sX8_add (p1 : Int32) (p2 : Int32) (p3 : Int32) (S : Nat → Nat → Int32) (L : Nat → Nat → Int64) : Option (Int32 × (Nat → Nat → Int32) × (Nat → Nat → Int64)) :=
  ck (S 4 0) 8 (bnd (qu2 S 31 (S 4 0).toNatClampNeg p1) (fun S2 => ck (S2 4 0) 8 (bnd (qu2 S2 32 (S2 4 0).toNatClampNeg p2) (fun S4 => ck (S4 4 0) 8 (bnd (qu2 S4 33 (S4 4 0).toNatClampNeg p3) (fun S6 => bnd (qu2 S6 4 0 ((S6 4 0) + 1)) (fun S7 => some ((S7 4 0) - 1, S7, L))))))))

def sX10_treaty (p1 : Int32) (p2 : Int32) (p3 : Int32) (S : Nat → Nat → Int32) (L : Nat → Nat → Int64) : Option (Int32 × (Nat → Nat → Int32) × (Nat → Nat → Int64)) :=
  ob (sX10_isKind p1) (fun r2 => if r2 = 0 then some ((-2), S, L) else ob (sX10_isBelow p2 16) (fun r5 => if r5 = 0 then some ((-2), S, L) else ob (sX10_isTie p3) (fun r8 => if r8 = 0 then some ((-2), S, L) else if (S 4 0) < 8 then ob3 (sX8_add p1 p2 p3 S L) (fun r14 S12 L13 => some (r14, S12, L13)) else some ((-4), S, L))))

def sX11_treaty (p1 : Int32) (p2 : Int32) (p3 : Int32) (S : Nat → Nat → Int32) : Option (Int32 × (Nat → Nat → Int32)) :=
  ob (sX11_isKind p1) (fun r2 => if r2 = 0 then some ((-2), S) else ob (sX11_in p2 0 15) (fun r5 => if r5 = 0 then some ((-2), S) else ob (sX11_isTie p3) (fun r8 => if r8 = 0 then some ((-2), S) else ck 3 994 (if (S 1 (3 : Int32).toNatClampNeg) = 8 then some ((-4), S) else ck 3 994 (bnd (958 + (3 * (S 1 (3 : Int32).toNatClampNeg))) (fun x13 => ck x13 994 (bnd (qu2 S 1 x13.toNatClampNeg p1) (fun S15 => ck (x13 + 1) 994 (bnd (qu2 S15 1 (x13 + 1).toNatClampNeg p2) (fun S17 => ck (x13 + 2) 994 (bnd (qu2 S17 1 (x13 + 2).toNatClampNeg p3) (fun S19 => ob2 (sX11_one 3 S19) (fun r22 S21 => some (r22, S21))))))))))))))

def lX4_takeTies_2 (p2 : Int32) : Nat → Int32 → (Nat → Nat → Int32) → (Nat → Nat → Int64) → Option ((Nat → Nat → Int32) × (Nat → Nat → Int64))
  | 0, _, _, _ => none
  | n + 1, v1, S2, L3 =>
    if 6 ≤ v1 then some (S2, L3) else ob (sX2_landOf p2 v1 S2 L3) (fun r6 => ck v1 6 (bnd (qu2 S2 35 v1.toNatClampNeg r6) (fun S8 => bnd (v1 + 1) (fun x9 => lX4_takeTies_2 p2 n x9 S8 L3))))
def sX4_takeTies (p2 : Int32) (S : Nat → Nat → Int32) (L : Nat → Nat → Int64) : Option ((Nat → Nat → Int32) × (Nat → Nat → Int64)) :=
  ob2 (lX4_takeTies_2 p2 FU 0 S L) (fun S11 L12 => some (S11, L12))

def sX6_stands (p1 : Int32) (p2 : Int32) (S : Nat → Nat → Int32) (L : Nat → Nat → Int64) : Option (Int32) :=
  ck p1 60 (if p2 < (S 21 p1.toNatClampNeg) then some 0 else ck p1 60 (if (S 22 p1.toNatClampNeg) = (-1) then some 1 else ck p1 60 (if (S 22 p1.toNatClampNeg) ≤ p2 then some 0 else some 1)))

def lX6_standing_5 (p1 : Int32) (S : Nat → Nat → Int32) (L : Nat → Nat → Int64) : Nat → Int64 → Int32 → Option (Int64)
  | 0, _, _ => none
  | n + 1, v1, v2 =>
    if (S 2 0) ≤ v2 then some v1 else ob (sX6_stands v2 p1 S L) (fun r5 => if r5 = 0 then bnd (v2 + 1) (fun x7 => lX6_standing_5 p1 S L n v1 x7) else bnd (v1 ||| (lsh 1 v2)) (fun x8 => bnd (v2 + 1) (fun x9 => lX6_standing_5 p1 S L n x8 x9)))
def sX6_standing (p1 : Int32) (S : Nat → Nat → Int32) (L : Nat → Nat → Int64) : Option (Int64) :=
  ob (lX6_standing_5 p1 S L FU 0 0) (fun w11 => some w11)

def lX6_letBy_24 (p2 : Int32) (S : Nat → Nat → Int32) (L : Nat → Nat → Int64) : Nat → Int64 → Int32 → Option (Int64)
  | 0, _, _ => none
  | n + 1, v5, v6 =>
    if 6 ≤ v6 then some v5 else ck v6 6 (ck p2 6 (if (S 35 v6.toNatClampNeg) = (S 35 p2.toNatClampNeg) then bnd (v6 + 1) (fun x11 => lX6_letBy_24 p2 S L n v5 x11) else ck ((p2 * 6) + v6) 36 (bnd (v5 &&& ((L 28 ((p2 * 6) + v6).toNatClampNeg) ^^^ (-1))) (fun x13 => bnd (v6 + 1) (fun x14 => lX6_letBy_24 p2 S L n x13 x14)))))
def sX6_letBy (p2 : Int32) (S : Nat → Nat → Int32) (L : Nat → Nat → Int64) : Option (Int64) :=
  ck p2 6 (ck (((p2 * 5) + (S 35 p2.toNatClampNeg)) + 1) 30 (bnd ((L 27 (((p2 * 5) + (S 35 p2.toNatClampNeg)) + 1).toNatClampNeg) ^^^ (-1)) (fun x3 => bnd (p2 + 1) (fun x4 => ob (lX6_letBy_24 p2 S L FU x3 x4) (fun w16 => some w16)))))

def lX4_open_25  : Nat → Int32 → (Nat → Nat → Int32) → (Nat → Nat → Int64) → Option ((Nat → Nat → Int32) × (Nat → Nat → Int64))
  | 0, _, _, _ => none
  | n + 1, v8, S9, L10 =>
    if 6 ≤ v8 then some (S9, L10) else ob (sX6_letBy v8 S9 L10) (fun r13 => bnd (qu2L L10 6 4 ((L10 6 4) &&& r13)) (fun L14 => bnd (v8 + 1) (fun x15 => lX4_open_25 n x15 S9 L14)))
def sX4_open (p2 : Int32) (S : Nat → Nat → Int32) (L : Nat → Nat → Int64) : Option ((Nat → Nat → Int32) × (Nat → Nat → Int64)) :=
  ob2 (sX4_takeTies p2 S L) (fun S2 L3 => ck p2 16 (ob (sX6_standing (S2 13 p2.toNatClampNeg) S2 L3) (fun r6 => bnd (qu2L L3 6 4 r6) (fun L7 => ob2 (lX4_open_25 FU 0 S2 L7) (fun S17 L18 => some (S17, L18))))))

def sX10_holds (p1 : Int32) (p2 : Int32) (S : Nat → Nat → Int32) (L : Nat → Nat → Int64) : Option (Int32 × (Nat → Nat → Int32) × (Nat → Nat → Int64)) :=
  ob (sX10_isRule p1 S L) (fun r2 => if r2 = 0 then some ((-2), S, L) else ob (sX10_isCase p2 S L) (fun r5 => if r5 = 0 then some ((-2), S, L) else ob2 (sX4_open p2 S L) (fun S8 L9 => if (lg_cmp ((lush (L9 6 4) p1) &&& 1) 0) = 0 then some (0, S8, L9) else some (1, S8, L9))))

def sX11_stands (p1 : Int32) (S : Nat → Nat → Int32) : Option (Int32) :=
  ob (sX11_ruleOf p1 4 S) (fun r2 => if (S 0 2) < r2 then some 0 else ob (sX11_ruleOf p1 5 S) (fun r5 => if r5 = (-1) then some 1 else ob (sX11_ruleOf p1 5 S) (fun r8 => if r8 ≤ (S 0 2) then some 0 else some 1)))

def sX11_isSo (p1 : Int32) (p2 : Int32) (p3 : Int32) (S : Nat → Nat → Int32) : Option (Int32) :=
  ck p2 6 (bnd (S 2 p2.toNatClampNeg) (fun x2 => if 4 ≤ p3 then if 8 ≤ p3 then if x2 = (-1) then some 0 else ck (p3 - 8) 6 (if x2 = (S 2 (p3 - 8).toNatClampNeg) then some 1 else some 0) else if x2 = (p3 - 4) then some 1 else some 0 else if p3 = 0 then if x2 = (-1) then some 0 else some 1 else if p3 = 1 then if x2 = (-1) then some 1 else some 0 else if p3 = 2 then if x2 = p1 then some 1 else some 0 else if x2 = (-1) then some 0 else if x2 = p1 then some 0 else some 1))

def sX11_endOf (p1 : Int32) (S : Nat → Nat → Int32) : Option (Int32) :=
  ob (sX11_ruleOf p1 3 S) (fun r2 => if r2 = 0 then ob (sX11_ruleOf p1 0 S) (fun r7 => some r7) else if 5 ≤ r2 then ck (r2 - 5) 6 (some (S 2 (r2 - 5).toNatClampNeg)) else some (r2 - 1))

def lX11_holdsNow_25 (p1 : Int32) (S : Nat → Nat → Int32) : Nat → Int32 → Int32 → Option (Int32)
  | 0, _, _ => none
  | n + 1, v4, v5 =>
    ob (sX11_ruleOf p1 6 S) (fun r7 => if r7 ≤ v5 then some v4 else if v4 = 0 then bnd (v5 + 1) (fun x10 => lX11_holdsNow_25 p1 S n 0 x10) else ob (sX11_ruleOf p1 0 S) (fun r12 => ob (sX11_ruleOf p1 (7 + (2 * v5)) S) (fun r14 => ob (sX11_ruleOf p1 (8 + (2 * v5)) S) (fun r16 => ob (sX11_isSo r12 r14 r16 S) (fun r18 => if r18 = 0 then bnd (v5 + 1) (fun x20 => lX11_holdsNow_25 p1 S n 0 x20) else bnd (v5 + 1) (fun x21 => lX11_holdsNow_25 p1 S n 1 x21))))))
def sX11_holdsNow (p1 : Int32) (S : Nat → Nat → Int32) : Option (Int32) :=
  ob (sX11_stands p1 S) (fun r2 => if r2 = 0 then ob (lX11_holdsNow_25 p1 S FU 0 0) (fun w23 => zk w23 (some w23)) else ob (sX11_endOf p1 S) (fun r26 => if r26 = (-1) then ob (lX11_holdsNow_25 p1 S FU 0 0) (fun w47 => zk w47 (some w47)) else ob (lX11_holdsNow_25 p1 S FU 1 0) (fun w68 => zk w68 (some w68))))

def sX11_holds (p1 : Int32) (p2 : Int32) (S : Nat → Nat → Int32) : Option (Int32 × (Nat → Nat → Int32)) :=
  ob (sX11_is 2 p1 S) (fun r2 => if r2 = 0 then some ((-2), S) else ob (sX11_is 0 p2 S) (fun r5 => if r5 = 0 then some ((-2), S) else ob (sX11_looksAt p2 S) (fun S8 => ob (sX11_holdsNow p1 S8) (fun r10 => if r10 = 0 then some (0, S8) else some (1, S8)))))

def sX10_isQuestion (p1 : Int32) (p2 : Int32) (p3 : Int32) (S : Nat → Nat → Int32) (L : Nat → Nat → Int64) : Option (Int32) :=
  ob (sX10_isLand p1) (fun r2 => if r2 = 0 then some 0 else ob (sX10_isCase p2 S L) (fun r5 => if r5 = 0 then some 0 else ob (sX10_isKind p3) (fun r8 => if r8 = 0 then some 0 else some 1)))

def sJ13_bitCount_95d88 (p0 : Int64) : Option (Int32) :=
  bnd (p0 - ((lush p0 1) &&& 6148914691236517205)) (fun x1 => bnd ((x1 &&& 3689348814741910323) + ((lush x1 2) &&& 3689348814741910323)) (fun x2 => bnd ((x2 + (lush x2 4)) &&& 1085102592571150095) (fun x3 => bnd (x3 + (lush x3 8)) (fun x4 => bnd (x4 + (lush x4 16)) (fun x5 => bnd (x5 + (lush x5 32)) (fun x6 => some ((x6.toInt32) &&& 127)))))))

def sX6_first (p1 : Int64) (p2 : Int32) (p3 : Int32) (S : Nat → Nat → Int32) (L : Nat → Nat → Int64) : Option (Int32) :=
  ck ((p2 * 3) + p3) 12 (bnd (p1 &&& (L 26 ((p2 * 3) + p3).toNatClampNeg)) (fun x2 => if (lg_cmp x2 0) = 0 then some (-1) else ob (sJ13_bitCount_95d88 ((x2 &&& (-x2)) - 1)) (fun r5 => some r5)))

def sX10_says (p1 : Int32) (p2 : Int32) (p3 : Int32) (S : Nat → Nat → Int32) (L : Nat → Nat → Int64) : Option (Int32 × (Nat → Nat → Int32) × (Nat → Nat → Int64)) :=
  ob (sX10_isQuestion p1 p2 p3 S L) (fun r2 => if r2 = 0 then some ((-10), S, L) else ob2 (sX4_open p2 S L) (fun S5 L6 => ob (sX5_ownKind p1 p3 S5 L6) (fun r8 => ob (sX6_first (L6 6 4) p1 r8 S5 L6) (fun r10 => some (r10, S5, L6)))))

def sX11_isAsked (p1 : Int32) (p2 : Int32) (p3 : Int32) (S : Nat → Nat → Int32) : Option (Int32) :=
  ob (sX11_isLand p1) (fun r2 => if r2 = 0 then some 0 else ob (sX11_is 0 p2 S) (fun r5 => if r5 = 0 then some 0 else ob (sX11_isKind p3) (fun r8 => if r8 = 0 then some 0 else some 1)))

def lX11_firstOf_2 (p1 : Int32) (p2 : Int32) (S : Nat → Nat → Int32) : Nat → Int32 → Option ((Int32) ⊕ Unit)
  | 0, _ => none
  | n + 1, v1 =>
    ck 2 994 (if (S 1 (2 : Int32).toNatClampNeg) ≤ v1 then some (.inr ()) else ob (sX11_ruleOf v1 0 S) (fun r5 => if r5 = p1 then ob (sX11_ruleOf v1 1 S) (fun r9 => if r9 = p2 then ck v1 60 (if (S 3 v1.toNatClampNeg) = 0 then ob (sX11_holdsNow v1 S) (fun r16 => if r16 = 0 then bnd (v1 + 1) (fun x18 => lX11_firstOf_2 p1 p2 S n x18) else some (.inl v1)) else bnd (v1 + 1) (fun x14 => lX11_firstOf_2 p1 p2 S n x14)) else bnd (v1 + 1) (fun x11 => lX11_firstOf_2 p1 p2 S n x11)) else bnd (v1 + 1) (fun x7 => lX11_firstOf_2 p1 p2 S n x7)))
def sX11_firstOf (p1 : Int32) (p2 : Int32) (S : Nat → Nat → Int32) : Option (Int32) :=
  os2 (lX11_firstOf_2 p1 p2 S FU 0) (fun w20 => some w20) (fun _ => some (-1))

def sX11_ruleBy (p1 : Int32) (p2 : Int32) (S : Nat → Nat → Int32) : Option (Int32) :=
  ck ((942 + (3 * p1)) + p2) 994 (ob (sX11_firstOf p1 (S 1 ((942 + (3 * p1)) + p2).toNatClampNeg) S) (fun r3 => some r3))

def sX11_says (p1 : Int32) (p2 : Int32) (p3 : Int32) (S : Nat → Nat → Int32) : Option (Int32 × (Nat → Nat → Int32)) :=
  ob (sX11_isAsked p1 p2 p3 S) (fun r2 => if r2 = 0 then some ((-10), S) else ob (sX11_looksAt p2 S) (fun S5 => ob (sX11_ruleBy p1 p3 S5) (fun r7 => some (r7, S5))))

def sX6_landMeant (p1 : Int32) (S : Nat → Nat → Int32) (L : Nat → Nat → Int64) : Option (Int32) :=
  ck p1 60 (bnd (S 20 p1.toNatClampNeg) (fun x2 => if x2 = 0 then ck p1 60 (some (S 17 p1.toNatClampNeg)) else if 5 ≤ x2 then ck (x2 - 5) 6 (some (S 35 (x2 - 5).toNatClampNeg)) else some (x2 - 1)))

def lX4_readBooks_7 (p1 : Int32) : Nat → Int32 → (Nat → Nat → Int32) → (Nat → Nat → Int64) → Option ((Nat → Nat → Int32) × (Nat → Nat → Int64))
  | 0, _, _, _ => none
  | n + 1, v2, S3, L4 =>
    if 4 ≤ v2 then some (S3, L4) else ob (sX5_ownKind v2 p1 S3 L4) (fun r7 => ob (sX6_first (L4 6 4) v2 r7 S3 L4) (fun r9 => if r9 = (-1) then ck v2 4 (bnd (qu2 S3 36 v2.toNatClampNeg 0) (fun S24 => if r9 = (-1) then ck v2 4 (bnd (qu2 S24 37 v2.toNatClampNeg v2) (fun S32 => bnd (v2 + 1) (fun x33 => lX4_readBooks_7 p1 n x33 S32 L4))) else ob (sX6_landMeant r9 S24 L4) (fun r27 => ck v2 4 (bnd (qu2 S24 37 v2.toNatClampNeg r27) (fun S29 => bnd (v2 + 1) (fun x30 => lX4_readBooks_7 p1 n x30 S29 L4)))))) else ck r9 60 (ck v2 4 (bnd (qu2 S3 36 v2.toNatClampNeg (S3 19 r9.toNatClampNeg)) (fun S13 => if r9 = (-1) then ck v2 4 (bnd (qu2 S13 37 v2.toNatClampNeg v2) (fun S21 => bnd (v2 + 1) (fun x22 => lX4_readBooks_7 p1 n x22 S21 L4))) else ob (sX6_landMeant r9 S13 L4) (fun r16 => ck v2 4 (bnd (qu2 S13 37 v2.toNatClampNeg r16) (fun S18 => bnd (v2 + 1) (fun x19 => lX4_readBooks_7 p1 n x19 S18 L4)))))))))
def sX4_readBooks (p1 : Int32) (S : Nat → Nat → Int32) (L : Nat → Nat → Int64) : Option ((Nat → Nat → Int32) × (Nat → Nat → Int64)) :=
  bnd (qu2 S 6 5 p1) (fun S1 => ob2 (lX4_readBooks_7 p1 FU 0 S1 L) (fun S35 L36 => some (S35, L36)))

def sX10_hear (p1 : Int32) (p2 : Int32) (S : Nat → Nat → Int32) (L : Nat → Nat → Int64) : Option ((Nat → Nat → Int32) × (Nat → Nat → Int64)) :=
  ob2 (sX4_open p1 S L) (fun S2 L3 => ob2 (sX4_readBooks p2 S2 L3) (fun S5 L6 => some (S5, L6)))

def sX10_said (p1 : Int32) (p2 : Int32) (p3 : Int32) (S : Nat → Nat → Int32) (L : Nat → Nat → Int64) : Option (Int32 × (Nat → Nat → Int32) × (Nat → Nat → Int64)) :=
  ob (sX10_isQuestion p1 p2 p3 S L) (fun r2 => if r2 = 0 then some ((-2), S, L) else ob2 (sX10_hear p2 p3 S L) (fun S5 L6 => ck p1 4 (ck p1 4 (some ((10 * (S5 36 p1.toNatClampNeg)) + (S5 37 p1.toNatClampNeg), S5, L6)))))

def sX11_saying (p1 : Int32) (p2 : Int32) (S : Nat → Nat → Int32) : Option (Int32) :=
  ob (sX11_ruleBy p1 p2 S) (fun r2 => if r2 = (-1) then some p1 else ob (sX11_ruleOf r2 2 S) (fun r5 => ob (sX11_endOf r2 S) (fun r7 => some ((10 * r5) + r7))))

def sX11_said (p1 : Int32) (p2 : Int32) (p3 : Int32) (S : Nat → Nat → Int32) : Option (Int32 × (Nat → Nat → Int32)) :=
  ob (sX11_isAsked p1 p2 p3 S) (fun r2 => if r2 = 0 then some ((-2), S) else ob (sX11_looksAt p2 S) (fun S5 => ob (sX11_saying p1 p3 S5) (fun r7 => some (r7, S5))))

def lX8_tells_3 (p1 : Int32) (p2 : Int32) (S : Nat → Nat → Int32) (L : Nat → Nat → Int64) : Nat → Int32 → Option ((Int32) ⊕ Unit)
  | 0, _ => none
  | n + 1, v1 =>
    if (S 4 0) ≤ v1 then some (.inr ()) else ck v1 8 (ck (S 33 v1.toNatClampNeg) 6 (bnd (S 35 (S 33 v1.toNatClampNeg).toNatClampNeg) (fun x5 => ck v1 8 (if (S 31 v1.toNatClampNeg) = p2 then if x5 = (-1) then bnd (v1 + 1) (fun x16 => lX8_tells_3 p1 p2 S L n x16) else ck v1 8 (if ((iush (S 32 v1.toNatClampNeg) p1) &&& 1) = 0 then bnd (v1 + 1) (fun x12 => lX8_tells_3 p1 p2 S L n x12) else ck v1 8 (if ((iush (S 32 v1.toNatClampNeg) x5) &&& 1) = 0 then bnd (v1 + 1) (fun x15 => lX8_tells_3 p1 p2 S L n x15) else some (.inl x5))) else bnd (v1 + 1) (fun x8 => lX8_tells_3 p1 p2 S L n x8)))))
def sX8_tells (p1 : Int32) (p2 : Int32) (S : Nat → Nat → Int32) (L : Nat → Nat → Int64) : Option (Int32) :=
  os2 (lX8_tells_3 p1 p2 S L FU 0) (fun w18 => some w18) (fun _ => some (-1))

def sX4_wayTaken (p1 : Int32) (S : Nat → Nat → Int32) (L : Nat → Nat → Int64) : Option (Int32) :=
  ck p1 4 (if (S 36 p1.toNatClampNeg) = 1 then ck p1 4 (if (S 37 p1.toNatClampNeg) = p1 then some 0 else ck p1 4 (some (S 30 p1.toNatClampNeg))) else some 0)

def lX3_follow_7_6_19  : Nat → Int32 → Int32 → (Nat → Nat → Int32) → (Nat → Nat → Int64) → Option (((Nat → Nat → Int32) × (Nat → Nat → Int64)) ⊕ ((Nat → Nat → Int32) × (Nat → Nat → Int64)))
  | 0, _, _, _, _ => none
  | n + 1, v5, v6, S7, L8 =>
    if 4 ≤ v6 then some (.inr (S7, L8)) else ck ((S7 7 1) - 1) 4 (bnd (S7 38 ((S7 7 1) - 1).toNatClampNeg) (fun x11 => ck x11 4 (bnd (qu2 S7 7 2 (S7 36 x11.toNatClampNeg)) (fun S13 => ck x11 4 (bnd (qu2 S13 7 3 (S13 37 x11.toNatClampNeg)) (fun S15 => if (S15 7 2) = 0 then some (.inl (S15, L8)) else if ((iush v5 (S15 7 3)) &&& 1) = 0 then if (S15 7 1) < 4 then bnd (v5 ||| ((1 : Int32) <<< ((S15 7 3) &&& 31))) (fun x19 => ck (S15 7 1) 4 (bnd (qu2 S15 38 (S15 7 1).toNatClampNeg (S15 7 3)) (fun S21 => bnd (qu2 S21 7 1 ((S21 7 1) + 1)) (fun S22 => bnd (v6 + 1) (fun x23 => lX3_follow_7_6_19 n x19 x23 S22 L8))))) else some (.inl (S15, L8)) else some (.inl (S15, L8))))))))
def sX3_follow_7_6 (p2 : Int32) (S : Nat → Nat → Int32) (L : Nat → Nat → Int64) : Option ((Nat → Nat → Int32) × (Nat → Nat → Int64)) :=
  bnd ((1 : Int32) <<< (p2 &&& 31)) (fun x1 => ck 0 4 (bnd (qu2 S 38 (0 : Int32).toNatClampNeg p2) (fun S3 => bnd (qu2 S3 7 1 1) (fun S4 => os2 (lX3_follow_7_6_19 FU x1 0 S4 L) (un2 fun S25 L26 => some (S25, L26)) (un2 fun S27 L28 => some (S27, L28))))))

def sX4_byBooks (p1 : Int32) (S : Nat → Nat → Int32) (L : Nat → Nat → Int64) : Option (Int32 × (Nat → Nat → Int32) × (Nat → Nat → Int64)) :=
  ob (sX4_wayTaken p1 S L) (fun r2 => if r2 = 1 then ck p1 4 (ck (S 37 p1.toNatClampNeg) 4 (some (S 37 (S 37 p1.toNatClampNeg).toNatClampNeg, S, L))) else if r2 = 2 then ob2 (sX3_follow_7_6 p1 S L) (fun S7 L8 => some (S7 7 3, S7, L8)) else ck p1 4 (some (S 37 p1.toNatClampNeg, S, L)))

def lX4_outcome_4  (S : Nat → Nat → Int32) (L : Nat → Nat → Int64) : Nat → Int32 → Int32 → Option ((Int32) ⊕ ((Int32) ⊕ Unit))
  | 0, _, _ => none
  | n + 1, v1, v2 =>
    if 4 ≤ v2 then some (.inr (.inr ())) else ob (sX8_tells v1 (S 6 5) S L) (fun r5 => if r5 = (-1) then ob (sX4_wayTaken v1 S L) (fun r8 => if r8 = 3 then ck v1 4 (bnd (S 37 v1.toNatClampNeg) (fun x11 => bnd (v2 + 1) (fun x12 => lX4_outcome_4 S L n x11 x12))) else some (.inr (.inl v1))) else some (.inl r5))
def sX4_outcome (p1 : Int32) (S : Nat → Nat → Int32) (L : Nat → Nat → Int64) : Option (Int32 × (Nat → Nat → Int32) × (Nat → Nat → Int64)) :=
  os3 (lX4_outcome_4 S L FU p1 0) (fun w14 => some (w14, S, L)) (fun w15 => ob3 (sX4_byBooks w15 S L) (fun r19 S17 L18 => some (r19, S17, L18))) (fun _ => some ((-5), S, L))

def sX10_ends (p1 : Int32) (p2 : Int32) (p3 : Int32) (S : Nat → Nat → Int32) (L : Nat → Nat → Int64) : Option (Int32 × (Nat → Nat → Int32) × (Nat → Nat → Int64)) :=
  ob (sX10_isQuestion p1 p2 p3 S L) (fun r2 => if r2 = 0 then some ((-2), S, L) else ob2 (sX10_hear p2 p3 S L) (fun S5 L6 => ob3 (sX4_outcome p1 S5 L6) (fun r10 S8 L9 => some (r10, S8, L9))))

def lX11_treats_2 (p1 : Int32) (p2 : Int32) (S : Nat → Nat → Int32) : Nat → Int32 → Option ((Int32) ⊕ Unit)
  | 0, _ => none
  | n + 1, v1 =>
    ck 3 994 (if (S 1 (3 : Int32).toNatClampNeg) ≤ v1 then some (.inr ()) else bnd (958 + (3 * v1)) (fun x4 => ck (x4 + 2) 994 (ck (S 1 (x4 + 2).toNatClampNeg) 6 (bnd (S 2 (S 1 (x4 + 2).toNatClampNeg).toNatClampNeg) (fun x7 => ck x4 994 (if (S 1 x4.toNatClampNeg) = p2 then ck (x4 + 1) 994 (if (((S 1 (x4 + 1).toNatClampNeg) >>> (p1 &&& 31)) &&& 1) = 1 then if x7 = (-1) then bnd (v1 + 1) (fun x15 => lX11_treats_2 p1 p2 S n x15) else ck (x4 + 1) 994 (if (((S 1 (x4 + 1).toNatClampNeg) >>> (x7 &&& 31)) &&& 1) = 1 then some (.inl x7) else bnd (v1 + 1) (fun x18 => lX11_treats_2 p1 p2 S n x18)) else bnd (v1 + 1) (fun x13 => lX11_treats_2 p1 p2 S n x13)) else bnd (v1 + 1) (fun x10 => lX11_treats_2 p1 p2 S n x10)))))))
def sX11_treats (p1 : Int32) (p2 : Int32) (S : Nat → Nat → Int32) : Option (Int32) :=
  os2 (lX11_treats_2 p1 p2 S FU 0) (fun w20 => some w20) (fun _ => some (-1))

def lX11_toTheEnd_12 (p3 : Int32) (S : Nat → Nat → Int32) : Nat → Int32 → Int32 → Option (Int32)
  | 0, _, _ => none
  | n + 1, v2, v3 =>
    ob (sX11_saying v3 p3 S) (fun r5 => bnd (irm r5 10) (fun x6 => if r5 < 10 then some x6 else if ((v2 >>> (x6 &&& 31)) &&& 1) = 1 then some x6 else bnd (v2 ||| ((1 : Int32) <<< (x6 &&& 31))) (fun x9 => lX11_toTheEnd_12 p3 S n x9 x6)))
def sX11_toTheEnd (p1 : Int32) (p2 : Int32) (p3 : Int32) (S : Nat → Nat → Int32) : Option (Int32) :=
  bnd (((1 : Int32) <<< (p1 &&& 31)) ||| ((1 : Int32) <<< (p2 &&& 31))) (fun x1 => ob (lX11_toTheEnd_12 p3 S FU x1 p2) (fun w11 => some w11))

def lX11_endsOf_5 (p2 : Int32) (S : Nat → Nat → Int32) : Nat → Int32 → Int32 → Option ((Int32) ⊕ ((Int32) ⊕ ((Int32 × Int32 × Int32) ⊕ Unit)))
  | 0, _, _ => none
  | n + 1, v1, v2 =>
    ob (sX11_treats v2 p2 S) (fun r4 => ob (sX11_saying v2 p2 S) (fun r6 => bnd (irm r6 10) (fun x7 => ck (954 + v2) 994 (bnd (S 1 (954 + v2).toNatClampNeg) (fun x9 => if r4 = (-1) then if r6 < 10 then some (.inr (.inl x7)) else if x7 = v2 then some (.inr (.inl x7)) else if x9 = 0 then some (.inr (.inl x7)) else if 3 ≤ x9 then bnd (v1 ||| ((1 : Int32) <<< (v2 &&& 31))) (fun x15 => if ((x15 >>> (x7 &&& 31)) &&& 1) = 1 then some (.inr (.inr (.inr ()))) else lX11_endsOf_5 p2 S n x15 x7) else some (.inr (.inr (.inl (v2, x7, x9)))) else some (.inl r4))))))
def sX11_endsOf (p1 : Int32) (p2 : Int32) (S : Nat → Nat → Int32) : Option (Int32) :=
  os4 (lX11_endsOf_5 p2 S FU 0 p1) (fun w18 => some w18) (fun w19 => some w19) (un3 fun w20 w21 w22 => if w22 = 1 then ob (sX11_saying w21 p2 S) (fun r27 => some (irm r27 10)) else ob (sX11_toTheEnd w20 w21 p2 S) (fun r25 => some r25)) (fun _ => some (-5))

def sX11_ends (p1 : Int32) (p2 : Int32) (p3 : Int32) (S : Nat → Nat → Int32) : Option (Int32 × (Nat → Nat → Int32)) :=
  ob (sX11_isAsked p1 p2 p3 S) (fun r2 => if r2 = 0 then some ((-2), S) else ob (sX11_looksAt p2 S) (fun S5 => ob (sX11_endsOf p1 p3 S5) (fun r7 => some (r7, S5))))

def lX3_follow_11_6_19  : Nat → Int32 → Int32 → (Nat → Nat → Int32) → (Nat → Nat → Int64) → Option (((Nat → Nat → Int32) × (Nat → Nat → Int64)) ⊕ ((Nat → Nat → Int32) × (Nat → Nat → Int64)))
  | 0, _, _, _, _ => none
  | n + 1, v5, v6, S7, L8 =>
    if 4 ≤ v6 then some (.inr (S7, L8)) else ck ((S7 11 1) - 1) 4 (bnd (S7 41 ((S7 11 1) - 1).toNatClampNeg) (fun x11 => ck x11 4 (bnd (qu2 S7 11 2 (S7 36 x11.toNatClampNeg)) (fun S13 => ck x11 4 (bnd (qu2 S13 11 3 (S13 37 x11.toNatClampNeg)) (fun S15 => if (S15 11 2) = 0 then some (.inl (S15, L8)) else if ((iush v5 (S15 11 3)) &&& 1) = 0 then if (S15 11 1) < 4 then bnd (v5 ||| ((1 : Int32) <<< ((S15 11 3) &&& 31))) (fun x19 => ck (S15 11 1) 4 (bnd (qu2 S15 41 (S15 11 1).toNatClampNeg (S15 11 3)) (fun S21 => bnd (qu2 S21 11 1 ((S21 11 1) + 1)) (fun S22 => bnd (v6 + 1) (fun x23 => lX3_follow_11_6_19 n x19 x23 S22 L8))))) else some (.inl (S15, L8)) else some (.inl (S15, L8))))))))
def sX3_follow_11_6 (p2 : Int32) (S : Nat → Nat → Int32) (L : Nat → Nat → Int64) : Option ((Nat → Nat → Int32) × (Nat → Nat → Int64)) :=
  bnd ((1 : Int32) <<< (p2 &&& 31)) (fun x1 => ck 0 4 (bnd (qu2 S 41 (0 : Int32).toNatClampNeg p2) (fun S3 => bnd (qu2 S3 11 1 1) (fun S4 => os2 (lX3_follow_11_6_19 FU x1 0 S4 L) (un2 fun S25 L26 => some (S25, L26)) (un2 fun S27 L28 => some (S27, L28))))))

def sX10_chain (p1 : Int32) (p2 : Int32) (p3 : Int32) (p4 : Int32) (S : Nat → Nat → Int32) (L : Nat → Nat → Int64) : Option (Int32 × (Nat → Nat → Int32) × (Nat → Nat → Int64)) :=
  ob (sX10_isQuestion p1 p2 p3 S L) (fun r2 => if r2 = 0 then some ((-10), S, L) else if 0 ≤ p4 then ob2 (sX10_hear p2 p3 S L) (fun S6 L7 => ob2 (sX3_follow_11_6 p1 S6 L7) (fun S9 L10 => if p4 = (-1) then some (S9 11 1, S9, L10) else if p4 = (-3) then some ((10 * (S9 11 2)) + (S9 11 3), S9, L10) else if (S9 11 1) ≤ p4 then some ((-5), S9, L10) else ck p4 4 (some (S9 41 p4.toNatClampNeg, S9, L10)))) else if p4 = (-1) then ob2 (sX10_hear p2 p3 S L) (fun S17 L18 => ob2 (sX3_follow_11_6 p1 S17 L18) (fun S20 L21 => if p4 = (-1) then some (S20 11 1, S20, L21) else if p4 = (-3) then some ((10 * (S20 11 2)) + (S20 11 3), S20, L21) else if (S20 11 1) ≤ p4 then some ((-5), S20, L21) else ck p4 4 (some (S20 41 p4.toNatClampNeg, S20, L21)))) else if p4 = (-3) then ob2 (sX10_hear p2 p3 S L) (fun S28 L29 => ob2 (sX3_follow_11_6 p1 S28 L29) (fun S31 L32 => if p4 = (-1) then some (S31 11 1, S31, L32) else if p4 = (-3) then some ((10 * (S31 11 2)) + (S31 11 3), S31, L32) else if (S31 11 1) ≤ p4 then some ((-5), S31, L32) else ck p4 4 (some (S31 41 p4.toNatClampNeg, S31, L32)))) else some ((-10), S, L))

def lX11_findChain_23 (p2 : Int32) (p3 : Int32) : Nat → Int32 → Int32 → Int32 → (Nat → Nat → Int32) → Option ((Nat → Nat → Int32))
  | 0, _, _, _, _ => none
  | n + 1, v5, v6, v7, S8 =>
    if v7 = 0 then some S8 else ob (sX11_saying v6 p2 S8) (fun r11 => bnd (irm r11 10) (fun x12 => if r11 < 10 then ck (p3 + (S8 0 5)) 10 (bnd (qu2 S8 4 (p3 + (S8 0 5)).toNatClampNeg (100 + r11)) (fun S16 => lX11_findChain_23 p2 p3 n v5 v6 0 S16)) else if ((v5 >>> (x12 &&& 31)) &&& 1) = 0 then ck (p3 + (S8 0 5)) 10 (bnd (qu2 S8 4 (p3 + (S8 0 5)).toNatClampNeg x12) (fun S23 => bnd (qu2 S23 0 5 ((S23 0 5) + 1)) (fun S24 => bnd (v5 ||| ((1 : Int32) <<< (x12 &&& 31))) (fun x25 => lX11_findChain_23 p2 p3 n x25 x12 1 S24)))) else ck (p3 + (S8 0 5)) 10 (bnd (qu2 S8 4 (p3 + (S8 0 5)).toNatClampNeg (100 + r11)) (fun S20 => lX11_findChain_23 p2 p3 n v5 v6 0 S20))))
def sX11_findChain (p1 : Int32) (p2 : Int32) (p3 : Int32) (S : Nat → Nat → Int32) : Option ((Nat → Nat → Int32)) :=
  bnd ((1 : Int32) <<< (p1 &&& 31)) (fun x1 => bnd (qu2 S 0 5 1) (fun S2 => ck p3 10 (bnd (qu2 S2 4 p3.toNatClampNeg p1) (fun S4 => ob (lX11_findChain_23 p2 p3 FU x1 p1 1 S4) (fun S27 => some S27)))))

def sX11_chain (p1 : Int32) (p2 : Int32) (p3 : Int32) (p4 : Int32) (S : Nat → Nat → Int32) : Option (Int32 × (Nat → Nat → Int32)) :=
  ob (sX11_isAsked p1 p2 p3 S) (fun r2 => if r2 = 0 then some ((-10), S) else if (-1) ≤ p4 then ob (sX11_looksAt p2 S) (fun S6 => ob (sX11_findChain p1 p3 0 S6) (fun S8 => if 0 ≤ p4 then if (S8 0 5) ≤ p4 then some ((-5), S8) else ck p4 10 (some (S8 4 p4.toNatClampNeg, S8)) else if p4 = (-1) then some (S8 0 5, S8) else ck (S8 0 5) 10 (some ((S8 4 (S8 0 5).toNatClampNeg) - 100, S8)))) else if p4 = (-3) then ob (sX11_looksAt p2 S) (fun S16 => ob (sX11_findChain p1 p3 0 S16) (fun S18 => if 0 ≤ p4 then if (S18 0 5) ≤ p4 then some ((-5), S18) else ck p4 10 (some (S18 4 p4.toNatClampNeg, S18)) else if p4 = (-1) then some (S18 0 5, S18) else ck (S18 0 5) 10 (some ((S18 4 (S18 0 5).toNatClampNeg) - 100, S18)))) else some ((-10), S))

def sX10_isOther (p0 : Int32) (p1 : Int32) : Option (Int32) :=
  ob (sX10_isLand p1) (fun r2 => if r2 = 0 then some 0 else if p0 = p1 then some 0 else some 1)

def lX3_follow_12_6_19  : Nat → Int32 → Int32 → (Nat → Nat → Int32) → (Nat → Nat → Int64) → Option (((Nat → Nat → Int32) × (Nat → Nat → Int64)) ⊕ ((Nat → Nat → Int32) × (Nat → Nat → Int64)))
  | 0, _, _, _, _ => none
  | n + 1, v5, v6, S7, L8 =>
    if 4 ≤ v6 then some (.inr (S7, L8)) else ck ((S7 12 1) - 1) 4 (bnd (S7 42 ((S7 12 1) - 1).toNatClampNeg) (fun x11 => ck x11 4 (bnd (qu2 S7 12 2 (S7 36 x11.toNatClampNeg)) (fun S13 => ck x11 4 (bnd (qu2 S13 12 3 (S13 37 x11.toNatClampNeg)) (fun S15 => if (S15 12 2) = 0 then some (.inl (S15, L8)) else if ((iush v5 (S15 12 3)) &&& 1) = 0 then if (S15 12 1) < 4 then bnd (v5 ||| ((1 : Int32) <<< ((S15 12 3) &&& 31))) (fun x19 => ck (S15 12 1) 4 (bnd (qu2 S15 42 (S15 12 1).toNatClampNeg (S15 12 3)) (fun S21 => bnd (qu2 S21 12 1 ((S21 12 1) + 1)) (fun S22 => bnd (v6 + 1) (fun x23 => lX3_follow_12_6_19 n x19 x23 S22 L8))))) else some (.inl (S15, L8)) else some (.inl (S15, L8))))))))
def sX3_follow_12_6 (p2 : Int32) (S : Nat → Nat → Int32) (L : Nat → Nat → Int64) : Option ((Nat → Nat → Int32) × (Nat → Nat → Int64)) :=
  bnd ((1 : Int32) <<< (p2 &&& 31)) (fun x1 => ck 0 4 (bnd (qu2 S 42 (0 : Int32).toNatClampNeg p2) (fun S3 => bnd (qu2 S3 12 1 1) (fun S4 => os2 (lX3_follow_12_6_19 FU x1 0 S4 L) (un2 fun S25 L26 => some (S25, L26)) (un2 fun S27 L28 => some (S27, L28))))))

def sX3_step_11 (p1 : Int32) (S : Nat → Nat → Int32) (L : Nat → Nat → Int64) : Option (Int32) :=
  if (S 11 1) ≤ p1 then if p1 = (S 11 1) then some ((100 + (10 * (S 11 2))) + (S 11 3)) else some (-1) else ck p1 4 (some (S 41 p1.toNatClampNeg))

def sX3_step_12 (p1 : Int32) (S : Nat → Nat → Int32) (L : Nat → Nat → Int64) : Option (Int32) :=
  if (S 12 1) ≤ p1 then if p1 = (S 12 1) then some ((100 + (10 * (S 12 2))) + (S 12 3)) else some (-1) else ck p1 4 (some (S 42 p1.toNatClampNeg))

def lX10_parts_56  (S14 : Nat → Nat → Int32) (L15 : Nat → Nat → Int64) : Nat → Int32 → Option ((Int32) ⊕ Unit)
  | 0, _ => none
  | n + 1, v16 =>
    if 4 < v16 then some (.inr ()) else ob (sX3_step_11 v16 S14 L15) (fun r19 => ob (sX3_step_12 v16 S14 L15) (fun r21 => if r19 = r21 then bnd (v16 + 1) (fun x23 => lX10_parts_56 S14 L15 n x23) else some (.inl v16)))
def sX10_parts (p1 : Int32) (p2 : Int32) (p3 : Int32) (p4 : Int32) (S : Nat → Nat → Int32) (L : Nat → Nat → Int64) : Option (Int32 × (Nat → Nat → Int32) × (Nat → Nat → Int64)) :=
  ob (sX10_isQuestion p1 p3 p4 S L) (fun r2 => if r2 = 0 then some ((-2), S, L) else ob (sX10_isOther p1 p2) (fun r5 => if r5 = 0 then some ((-2), S, L) else ob2 (sX10_hear p3 p4 S L) (fun S8 L9 => ob2 (sX3_follow_11_6 p1 S8 L9) (fun S11 L12 => ob2 (sX3_follow_12_6 p2 S11 L12) (fun S14 L15 => os2 (lX10_parts_56 S14 L15 FU 1) (fun w25 => some (w25, S14, L15)) (fun _ => some (0, S14, L15)))))))

def lX11_parts_50  (S13 : Nat → Nat → Int32) : Nat → Int32 → Option ((Int32) ⊕ (Unit ⊕ Unit))
  | 0, _ => none
  | n + 1, v14 =>
    if 5 ≤ v14 then some (.inr (.inr ())) else ck v14 10 (ck (5 + v14) 10 (if (S13 4 v14.toNatClampNeg) = (S13 4 (5 + v14).toNatClampNeg) then ck v14 10 (if (S13 4 v14.toNatClampNeg) < 100 then bnd (v14 + 1) (fun x21 => lX11_parts_50 S13 n x21) else some (.inr (.inl ()))) else some (.inl v14)))
def sX11_parts (p1 : Int32) (p2 : Int32) (p3 : Int32) (p4 : Int32) (S : Nat → Nat → Int32) : Option (Int32 × (Nat → Nat → Int32)) :=
  ob (sX11_isAsked p1 p3 p4 S) (fun r2 => if r2 = 0 then some ((-2), S) else ob (sX11_isLand p2) (fun r5 => if r5 = 0 then some ((-2), S) else if p1 = p2 then some ((-2), S) else ob (sX11_looksAt p3 S) (fun S9 => ob (sX11_findChain p1 p4 0 S9) (fun S11 => ob (sX11_findChain p2 p4 5 S11) (fun S13 => os3 (lX11_parts_50 S13 FU 1) (fun w23 => some (w23, S13)) (fun _ => some (0, S13)) (fun _ => some (0, S13)))))))

def sX10_isTable (p0 : Int32) (p1 : Int32) (p2 : Int32) : Option (Int32) :=
  ob (sX10_isLand p0) (fun r2 => if r2 = 0 then some 0 else ob (sX10_isKind p1) (fun r5 => if r5 = 0 then some 0 else ob (sX10_isDay p2) (fun r8 => if r8 = 0 then some 0 else some 1)))

def lJ7_fill_53178_35_5 (p1 : Int32) : Nat → Int32 → (Nat → Nat → Int32) → (Nat → Nat → Int64) → Option ((Nat → Nat → Int32) × (Nat → Nat → Int64))
  | 0, _, _, _ => none
  | n + 1, v1, S2, L3 =>
    if 6 ≤ v1 then some (S2, L3) else ck v1 6 (bnd (qu2 S2 35 v1.toNatClampNeg p1) (fun S6 => bnd (v1 + 1) (fun x7 => lJ7_fill_53178_35_5 p1 n x7 S6 L3)))
def sJ7_fill_53178_35 (p1 : Int32) (S : Nat → Nat → Int32) (L : Nat → Nat → Int64) : Option ((Nat → Nat → Int32) × (Nat → Nat → Int64)) :=
  ob2 (lJ7_fill_53178_35_5 p1 FU 0 S L) (fun S9 L10 => some (S9, L10))

def lX0_letBelow_2  : Nat → Int32 → (Nat → Nat → Int32) → (Nat → Nat → Int64) → Option ((Nat → Nat → Int32) × (Nat → Nat → Int64))
  | 0, _, _, _ => none
  | n + 1, v1, S2, L3 =>
    if v1 < 0 then some (S2, L3) else ck (v1 + 1) 7 (ob (sX6_letBy v1 S2 L3) (fun r7 => ck v1 7 (bnd (qu2L L3 39 v1.toNatClampNeg ((L3 39 (v1 + 1).toNatClampNeg) &&& r7)) (fun L9 => bnd (v1 + (-1)) (fun x10 => lX0_letBelow_2 n x10 S2 L9)))))
def sX0_letBelow (p1 : Int32) (S : Nat → Nat → Int32) (L : Nat → Nat → Int64) : Option ((Nat → Nat → Int32) × (Nat → Nat → Int64)) :=
  ob2 (lX0_letBelow_2 FU p1 S L) (fun S12 L13 => ck 0 7 (bnd (qu2L L13 6 4 (L13 39 (0 : Int32).toNatClampNeg)) (fun L15 => some (S12, L15))))

def sX0_start (p1 : Int32) (S : Nat → Nat → Int32) (L : Nat → Nat → Int64) : Option ((Nat → Nat → Int32) × (Nat → Nat → Int64)) :=
  ob2 (sJ7_fill_53178_35 (-1) S L) (fun S2 L3 => ob (sX6_standing p1 S2 L3) (fun r5 => ck 6 7 (bnd (qu2L L3 39 (6 : Int32).toNatClampNeg r5) (fun L7 => ob2 (sX0_letBelow 5 S2 L7) (fun S9 L10 => some (S9, L10))))))

def lX0_setTies_7  : Nat → Int32 → Int32 → Int32 → (Nat → Nat → Int32) → (Nat → Nat → Int64) → Option (Int32 × (Nat → Nat → Int32) × (Nat → Nat → Int64))
  | 0, _, _, _, _, _ => none
  | n + 1, v1, v2, v3, S4, L5 =>
    if 6 ≤ v3 then some (v2, S4, L5) else bnd ((irm v1 5) - 1) (fun x7 => bnd (v1 / 5) (fun x8 => ck v3 6 (if (S4 35 v3.toNatClampNeg) = x7 then bnd (v3 + 1) (fun x11 => lX0_setTies_7 n x8 v2 x11 S4 L5) else ck v3 6 (bnd (qu2 S4 35 v3.toNatClampNeg x7) (fun S13 => bnd (v3 + 1) (fun x14 => lX0_setTies_7 n x8 v3 x14 S13 L5))))))
def sX0_setTies (p1 : Int32) (S : Nat → Nat → Int32) (L : Nat → Nat → Int64) : Option ((Nat → Nat → Int32) × (Nat → Nat → Int64)) :=
  ob3 (lX0_setTies_7 FU p1 (-1) 0 S L) (fun w16 S17 L18 => ob2 (sX0_letBelow w16 S17 L18) (fun S20 L21 => some (S20, L21)))

def sX0_turnTo (p1 : Int32) (p2 : Int32) (S : Nat → Nat → Int32) (L : Nat → Nat → Int64) : Option ((Nat → Nat → Int32) × (Nat → Nat → Int64)) :=
  ob2 (sX0_setTies p1 S L) (fun S2 L3 => ob2 (sX4_readBooks p2 S2 L3) (fun S5 L6 => some (S5, L6)))

def sX10_endsIn (p1 : Int32) (p2 : Int32) (p3 : Int32) (p4 : Int32) (S : Nat → Nat → Int32) (L : Nat → Nat → Int64) : Option (Int32 × (Nat → Nat → Int32) × (Nat → Nat → Int64)) :=
  ob (sX10_isTable p1 p2 p3) (fun r2 => if r2 = 0 then some ((-2), S, L) else ob (sX10_isBelow p4 15625) (fun r5 => if r5 = 0 then some ((-2), S, L) else ob2 (sX0_start p3 S L) (fun S8 L9 => ob2 (sX0_turnTo p4 p2 S8 L9) (fun S11 L12 => ob3 (sX4_outcome p1 S11 L12) (fun r16 S14 L15 => some (r16, S14, L15))))))

def lX11_looksAtNumber_10  : Nat → Int32 → Int32 → (Nat → Nat → Int32) → Option ((Nat → Nat → Int32))
  | 0, _, _, _ => none
  | n + 1, v2, v3, S4 =>
    if 6 ≤ v3 then some S4 else ck v3 6 (bnd (qu2 S4 2 v3.toNatClampNeg ((irm v2 5) - 1)) (fun S7 => bnd (v2 / 5) (fun x8 => bnd (v3 + 1) (fun x9 => lX11_looksAtNumber_10 n x8 x9 S7))))
def sX11_looksAtNumber (p1 : Int32) (p2 : Int32) (S : Nat → Nat → Int32) : Option ((Nat → Nat → Int32)) :=
  bnd (qu2 S 0 2 p2) (fun S1 => ob (lX11_looksAtNumber_10 FU p1 0 S1) (fun S11 => some S11))

def sX11_endsIn (p1 : Int32) (p2 : Int32) (p3 : Int32) (p4 : Int32) (S : Nat → Nat → Int32) : Option (Int32 × (Nat → Nat → Int32)) :=
  ob (sX11_isLand p1) (fun r2 => if r2 = 0 then some ((-2), S) else ob (sX11_isKind p2) (fun r5 => if r5 = 0 then some ((-2), S) else ob (sX11_isDay p3) (fun r8 => if r8 = 0 then some ((-2), S) else ob (sX11_in p4 0 15624) (fun r11 => if r11 = 0 then some ((-2), S) else ob (sX11_looksAtNumber p4 p3 S) (fun S14 => ob (sX11_endsOf p1 p2 S14) (fun r16 => some (r16, S14)))))))

def sX0_partIn (p1 : Int32) (p2 : Int32) (p3 : Int32) (p4 : Int32) (S : Nat → Nat → Int32) (L : Nat → Nat → Int64) : Option (Int32 × (Nat → Nat → Int32) × (Nat → Nat → Int64)) :=
  ob2 (sX0_turnTo p1 p4 S L) (fun S2 L3 => ob3 (sX4_outcome p2 S2 L3) (fun r7 S5 L6 => ob3 (sX4_outcome p3 S5 L6) (fun r11 S9 L10 => if r7 = r11 then some (0, S9, L10) else some (1, S9, L10))))

def lX0_countUnlike_12 (p1 : Int32) (p2 : Int32) (p3 : Int32) : Nat → Int32 → Int32 → (Nat → Nat → Int32) → (Nat → Nat → Int64) → Option (Int32 × (Nat → Nat → Int32) × (Nat → Nat → Int64))
  | 0, _, _, _, _ => none
  | n + 1, v4, v5, S6, L7 =>
    if 15625 ≤ v5 then some (v4, S6, L7) else ob3 (sX0_partIn v5 p1 p2 p3 S6 L7) (fun r12 S10 L11 => if r12 = 0 then bnd (v5 + 1) (fun x14 => lX0_countUnlike_12 p1 p2 p3 n v4 x14 S10 L11) else bnd (v4 + 1) (fun x15 => bnd (v5 + 1) (fun x16 => lX0_countUnlike_12 p1 p2 p3 n x15 x16 S10 L11)))
def sX0_countUnlike (p1 : Int32) (p2 : Int32) (p3 : Int32) (p4 : Int32) (S : Nat → Nat → Int32) (L : Nat → Nat → Int64) : Option (Int32 × (Nat → Nat → Int32) × (Nat → Nat → Int64)) :=
  ob2 (sX0_start p4 S L) (fun S2 L3 => ob3 (lX0_countUnlike_12 p1 p2 p3 FU 0 0 S2 L3) (fun w18 S19 L20 => some (w18, S19, L20)))

def sX10_unlike (p1 : Int32) (p2 : Int32) (p3 : Int32) (p4 : Int32) (S : Nat → Nat → Int32) (L : Nat → Nat → Int64) : Option (Int32 × (Nat → Nat → Int32) × (Nat → Nat → Int64)) :=
  ob (sX10_isTable p1 p3 p4) (fun r2 => if r2 = 0 then some ((-2), S, L) else ob (sX10_isOther p1 p2) (fun r5 => if r5 = 0 then some ((-2), S, L) else ob3 (sX0_countUnlike p1 p2 p3 p4 S L) (fun r10 S8 L9 => some (r10, S8, L9))))

def sX11_arePair (p0 : Int32) (p1 : Int32) : Option (Int32) :=
  ob (sX11_isLand p0) (fun r2 => if r2 = 0 then some 0 else ob (sX11_isLand p1) (fun r5 => if r5 = 0 then some 0 else if p0 = p1 then some 0 else some 1))

def lX11_unlike_32 (p1 : Int32) (p2 : Int32) (p3 : Int32) (p4 : Int32) : Nat → Int32 → Int32 → (Nat → Nat → Int32) → Option (Int32 × (Nat → Nat → Int32))
  | 0, _, _, _ => none
  | n + 1, v10, v11, S12 =>
    if 15625 ≤ v11 then some (v10, S12) else ob (sX11_looksAtNumber v11 p4 S12) (fun S15 => ob (sX11_endsOf p1 p3 S15) (fun r17 => ob (sX11_endsOf p2 p3 S15) (fun r19 => if r17 = r19 then bnd (v10 + 0) (fun x21 => bnd (v11 + 1) (fun x22 => lX11_unlike_32 p1 p2 p3 p4 n x21 x22 S15)) else bnd (v10 + 1) (fun x23 => bnd (v11 + 1) (fun x24 => lX11_unlike_32 p1 p2 p3 p4 n x23 x24 S15)))))
def sX11_unlike (p1 : Int32) (p2 : Int32) (p3 : Int32) (p4 : Int32) (S : Nat → Nat → Int32) : Option (Int32 × (Nat → Nat → Int32)) :=
  ob (sX11_arePair p1 p2) (fun r2 => if r2 = 0 then some ((-2), S) else ob (sX11_isKind p3) (fun r5 => if r5 = 0 then some ((-2), S) else ob (sX11_isDay p4) (fun r8 => if r8 = 0 then some ((-2), S) else ob2 (lX11_unlike_32 p1 p2 p3 p4 FU 0 0 S) (fun w26 S27 => some (w26, S27)))))

def lX0_tiesTold_4  (S : Nat → Nat → Int32) (L : Nat → Nat → Int64) : Nat → Int32 → Int32 → Option (Int32)
  | 0, _, _ => none
  | n + 1, v1, v2 =>
    if 6 ≤ v2 then some v1 else ck v2 6 (if (S 35 v2.toNatClampNeg) = (-1) then bnd (v2 + 1) (fun x6 => lX0_tiesTold_4 S L n v1 x6) else bnd (v1 + 1) (fun x7 => bnd (v2 + 1) (fun x8 => lX0_tiesTold_4 S L n x7 x8)))
def sX0_tiesTold  (S : Nat → Nat → Int32) (L : Nat → Nat → Int64) : Option (Int32) :=
  ob (lX0_tiesTold_4 S L FU 0 0) (fun w10 => some w10)

def lX0_leastUnlike_16 (p1 : Int32) (p2 : Int32) (p3 : Int32) : Nat → Int32 → Int32 → Int32 → (Nat → Nat → Int32) → (Nat → Nat → Int64) → Option (Int32 × (Nat → Nat → Int32) × (Nat → Nat → Int64))
  | 0, _, _, _, _, _ => none
  | n + 1, v4, v5, v6, S7, L8 =>
    if 15625 ≤ v6 then some (v4, S7, L8) else ob3 (sX0_partIn v6 p1 p2 p3 S7 L8) (fun r13 S11 L12 => if r13 = 0 then bnd (v6 + 1) (fun x20 => lX0_leastUnlike_16 p1 p2 p3 n v4 v5 x20 S11 L12) else ob (sX0_tiesTold S11 L12) (fun r16 => if v5 ≤ r16 then bnd (v6 + 1) (fun x18 => lX0_leastUnlike_16 p1 p2 p3 n v4 v5 x18 S11 L12) else bnd (v6 + 1) (fun x19 => lX0_leastUnlike_16 p1 p2 p3 n v6 r16 x19 S11 L12)))
def sX0_leastUnlike (p1 : Int32) (p2 : Int32) (p3 : Int32) (p4 : Int32) (S : Nat → Nat → Int32) (L : Nat → Nat → Int64) : Option (Int32 × (Nat → Nat → Int32) × (Nat → Nat → Int64)) :=
  ob2 (sX0_start p4 S L) (fun S2 L3 => ob3 (lX0_leastUnlike_16 p1 p2 p3 FU (-1) 7 0 S2 L3) (fun w22 S23 L24 => some (w22, S23, L24)))

def sX10_least (p1 : Int32) (p2 : Int32) (p3 : Int32) (p4 : Int32) (S : Nat → Nat → Int32) (L : Nat → Nat → Int64) : Option (Int32 × (Nat → Nat → Int32) × (Nat → Nat → Int64)) :=
  ob (sX10_isTable p1 p3 p4) (fun r2 => if r2 = 0 then some ((-2), S, L) else ob (sX10_isOther p1 p2) (fun r5 => if r5 = 0 then some ((-2), S, L) else ob3 (sX0_leastUnlike p1 p2 p3 p4 S L) (fun r10 S8 L9 => some (r10, S8, L9))))

def lX11_tiesTold_4  (S : Nat → Nat → Int32) : Nat → Int32 → Int32 → Option (Int32)
  | 0, _, _ => none
  | n + 1, v1, v2 =>
    if 6 ≤ v2 then some v1 else ck v2 6 (if (S 2 v2.toNatClampNeg) = (-1) then bnd (v1 + 0) (fun x6 => bnd (v2 + 1) (fun x7 => lX11_tiesTold_4 S n x6 x7)) else bnd (v1 + 1) (fun x8 => bnd (v2 + 1) (fun x9 => lX11_tiesTold_4 S n x8 x9)))
def sX11_tiesTold  (S : Nat → Nat → Int32) : Option (Int32) :=
  ob (lX11_tiesTold_4 S FU 0 0) (fun w11 => some w11)

def lX11_least_35 (p1 : Int32) (p2 : Int32) (p3 : Int32) (p4 : Int32) : Nat → Int32 → Int32 → Int32 → (Nat → Nat → Int32) → Option (Int32 × (Nat → Nat → Int32))
  | 0, _, _, _, _ => none
  | n + 1, v10, v11, v12, S13 =>
    if 15625 ≤ v12 then some (v10, S13) else ob (sX11_looksAtNumber v12 p4 S13) (fun S16 => if v10 = (-1) then ob (sX11_endsOf p1 p3 S16) (fun r19 => ob (sX11_endsOf p2 p3 S16) (fun r21 => if r19 = r21 then bnd (v12 + 1) (fun x23 => lX11_least_35 p1 p2 p3 p4 n v10 v11 x23 S16) else ob (sX11_tiesTold S16) (fun r25 => bnd (v12 + 1) (fun x26 => lX11_least_35 p1 p2 p3 p4 n v12 r25 x26 S16)))) else ob (sX11_tiesTold S16) (fun r28 => if v11 ≤ r28 then bnd (v12 + 1) (fun x30 => lX11_least_35 p1 p2 p3 p4 n v10 v11 x30 S16) else ob (sX11_endsOf p1 p3 S16) (fun r32 => ob (sX11_endsOf p2 p3 S16) (fun r34 => if r32 = r34 then bnd (v12 + 1) (fun x36 => lX11_least_35 p1 p2 p3 p4 n v10 v11 x36 S16) else ob (sX11_tiesTold S16) (fun r38 => bnd (v12 + 1) (fun x39 => lX11_least_35 p1 p2 p3 p4 n v12 r38 x39 S16))))))
def sX11_least (p1 : Int32) (p2 : Int32) (p3 : Int32) (p4 : Int32) (S : Nat → Nat → Int32) : Option (Int32 × (Nat → Nat → Int32)) :=
  ob (sX11_arePair p1 p2) (fun r2 => if r2 = 0 then some ((-2), S) else ob (sX11_isKind p3) (fun r5 => if r5 = 0 then some ((-2), S) else ob (sX11_isDay p4) (fun r8 => if r8 = 0 then some ((-2), S) else ob2 (lX11_least_35 p1 p2 p3 p4 FU (-1) 0 0 S) (fun w41 S42 => some (w41, S42)))))

def lX0_landsReached_11 (p1 : Int32) (p2 : Int32) : Nat → Int32 → Int32 → (Nat → Nat → Int32) → (Nat → Nat → Int64) → Option (Int32 × (Nat → Nat → Int32) × (Nat → Nat → Int64))
  | 0, _, _, _, _ => none
  | n + 1, v4, v5, S6, L7 =>
    if 15625 ≤ v5 then some (v4, S6, L7) else ob2 (sX0_turnTo v5 p2 S6 L7) (fun S10 L11 => ob3 (sX4_outcome p1 S10 L11) (fun r15 S13 L14 => if r15 = (-5) then bnd (v4 ||| ((1 : Int32) <<< ((4 : Int32) &&& 31))) (fun x19 => bnd (v5 + 1) (fun x20 => lX0_landsReached_11 p1 p2 n x19 x20 S13 L14)) else bnd (v4 ||| ((1 : Int32) <<< (r15 &&& 31))) (fun x17 => bnd (v5 + 1) (fun x18 => lX0_landsReached_11 p1 p2 n x17 x18 S13 L14))))
def sX0_landsReached (p1 : Int32) (p2 : Int32) (p3 : Int32) (S : Nat → Nat → Int32) (L : Nat → Nat → Int64) : Option (Int32 × (Nat → Nat → Int32) × (Nat → Nat → Int64)) :=
  ob2 (sX0_start p3 S L) (fun S2 L3 => ob3 (lX0_landsReached_11 p1 p2 FU 0 0 S2 L3) (fun w22 S23 L24 => some (w22, S23, L24)))

def sX10_reached (p1 : Int32) (p2 : Int32) (p3 : Int32) (S : Nat → Nat → Int32) (L : Nat → Nat → Int64) : Option (Int32 × (Nat → Nat → Int32) × (Nat → Nat → Int64)) :=
  ob (sX10_isTable p1 p2 p3) (fun r2 => if r2 = 0 then some ((-2), S, L) else ob3 (sX0_landsReached p1 p2 p3 S L) (fun r7 S5 L6 => some (r7, S5, L6)))

def lX11_reached_30 (p1 : Int32) (p2 : Int32) (p3 : Int32) : Nat → Int32 → Int32 → (Nat → Nat → Int32) → Option (Int32 × (Nat → Nat → Int32))
  | 0, _, _, _ => none
  | n + 1, v10, v11, S12 =>
    if 15625 ≤ v11 then some (v10, S12) else ob (sX11_looksAtNumber v11 p3 S12) (fun S15 => ob (sX11_endsOf p1 p2 S15) (fun r17 => if r17 = (-5) then bnd (v10 ||| 16) (fun x21 => bnd (v11 + 1) (fun x22 => lX11_reached_30 p1 p2 p3 n x21 x22 S15)) else bnd (v10 ||| ((1 : Int32) <<< (r17 &&& 31))) (fun x19 => bnd (v11 + 1) (fun x20 => lX11_reached_30 p1 p2 p3 n x19 x20 S15))))
def sX11_reached (p1 : Int32) (p2 : Int32) (p3 : Int32) (S : Nat → Nat → Int32) : Option (Int32 × (Nat → Nat → Int32)) :=
  ob (sX11_isLand p1) (fun r2 => if r2 = 0 then some ((-2), S) else ob (sX11_isKind p2) (fun r5 => if r5 = 0 then some ((-2), S) else ob (sX11_isDay p3) (fun r8 => if r8 = 0 then some ((-2), S) else ob2 (lX11_reached_30 p1 p2 p3 FU 0 0 S) (fun w24 S25 => some (w24, S25)))))

def lX4_allAlike_8 (r4 : Int32) : Nat → Int32 → (Nat → Nat → Int32) → (Nat → Nat → Int64) → Option (((Nat → Nat → Int32) × (Nat → Nat → Int64)) ⊕ ((Nat → Nat → Int32) × (Nat → Nat → Int64)))
  | 0, _, _, _ => none
  | n + 1, v5, S6, L7 =>
    if 4 ≤ v5 then some (.inr (S6, L7)) else ob3 (sX4_outcome v5 S6 L7) (fun r12 S10 L11 => if r12 = r4 then bnd (v5 + 1) (fun x14 => lX4_allAlike_8 r4 n x14 S10 L11) else some (.inl (S10, L11)))
def sX4_allAlike  (S : Nat → Nat → Int32) (L : Nat → Nat → Int64) : Option (Int32 × (Nat → Nat → Int32) × (Nat → Nat → Int64)) :=
  ob3 (sX4_outcome 0 S L) (fun r4 S2 L3 => os2 (lX4_allAlike_8 r4 FU 1 S2 L3) (un2 fun S16 L17 => some (0, S16, L17)) (un2 fun S18 L19 => some (1, S18, L19)))

def lX0_countAlike_10 (p1 : Int32) : Nat → Int32 → Int32 → (Nat → Nat → Int32) → (Nat → Nat → Int64) → Option (Int32 × (Nat → Nat → Int32) × (Nat → Nat → Int64))
  | 0, _, _, _, _ => none
  | n + 1, v4, v5, S6, L7 =>
    if 15625 ≤ v5 then some (v4, S6, L7) else ob2 (sX0_turnTo v5 p1 S6 L7) (fun S10 L11 => ob3 (sX4_allAlike S10 L11) (fun r15 S13 L14 => if r15 = 0 then bnd (v5 + 1) (fun x17 => lX0_countAlike_10 p1 n v4 x17 S13 L14) else bnd (v4 + 1) (fun x18 => bnd (v5 + 1) (fun x19 => lX0_countAlike_10 p1 n x18 x19 S13 L14))))
def sX0_countAlike (p1 : Int32) (p2 : Int32) (S : Nat → Nat → Int32) (L : Nat → Nat → Int64) : Option (Int32 × (Nat → Nat → Int32) × (Nat → Nat → Int64)) :=
  ob2 (sX0_start p2 S L) (fun S2 L3 => ob3 (lX0_countAlike_10 p1 FU 0 0 S2 L3) (fun w21 S22 L23 => some (w21, S22, L23)))

def sX10_same (p1 : Int32) (p2 : Int32) (S : Nat → Nat → Int32) (L : Nat → Nat → Int64) : Option (Int32 × (Nat → Nat → Int32) × (Nat → Nat → Int64)) :=
  ob (sX10_isKind p1) (fun r2 => if r2 = 0 then some ((-2), S, L) else ob (sX10_isDay p2) (fun r5 => if r5 = 0 then some ((-2), S, L) else ob3 (sX0_countAlike p1 p2 S L) (fun r10 S8 L9 => some (r10, S8, L9))))

def sX11_areAlike (p1 : Int32) (S : Nat → Nat → Int32) : Option (Int32) :=
  ob (sX11_endsOf 0 p1 S) (fun r2 => ob (sX11_endsOf 1 p1 S) (fun r4 => if r4 = r2 then ob (sX11_endsOf 2 p1 S) (fun r7 => if r7 = r2 then ob (sX11_endsOf 3 p1 S) (fun r10 => if r10 = r2 then some 1 else some 0) else some 0) else some 0))

def lX11_same_22 (p1 : Int32) (p2 : Int32) : Nat → Int32 → Int32 → (Nat → Nat → Int32) → Option (Int32 × (Nat → Nat → Int32))
  | 0, _, _, _ => none
  | n + 1, v7, v8, S9 =>
    if 15625 ≤ v8 then some (v7, S9) else ob (sX11_looksAtNumber v8 p2 S9) (fun S12 => ob (sX11_areAlike p1 S12) (fun r14 => if r14 = 0 then bnd (v7 + 0) (fun x16 => bnd (v8 + 1) (fun x17 => lX11_same_22 p1 p2 n x16 x17 S12)) else bnd (v7 + 1) (fun x18 => bnd (v8 + 1) (fun x19 => lX11_same_22 p1 p2 n x18 x19 S12))))
def sX11_same (p1 : Int32) (p2 : Int32) (S : Nat → Nat → Int32) : Option (Int32 × (Nat → Nat → Int32)) :=
  ob (sX11_isKind p1) (fun r2 => if r2 = 0 then some ((-2), S) else ob (sX11_isDay p2) (fun r5 => if r5 = 0 then some ((-2), S) else ob2 (lX11_same_22 p1 p2 FU 0 0 S) (fun w21 S22 => some (w21, S22))))

def lX5_kindsSorted_4 (p1 : Int32) (S : Nat → Nat → Int32) (L : Nat → Nat → Int64) : Nat → Int32 → Int32 → Option (Int32)
  | 0, _, _ => none
  | n + 1, v1, v2 =>
    if 3 ≤ v2 then some v1 else ob (sX5_ownKind p1 v2 S L) (fun r5 => bnd (v1 ||| ((1 : Int32) <<< (r5 &&& 31))) (fun x6 => bnd (v2 + 1) (fun x7 => lX5_kindsSorted_4 p1 S L n x6 x7)))
def sX5_kindsSorted (p1 : Int32) (S : Nat → Nat → Int32) (L : Nat → Nat → Int64) : Option (Int32) :=
  ob (lX5_kindsSorted_4 p1 S L FU 0 0) (fun w9 => some w9)

def lX0_everFirst_28 (p1 : Int32) (p3 : Int32) (v5 : Int32) (S10 : Nat → Nat → Int32) (L11 : Nat → Nat → Int64) : Nat → Int64 → Int32 → Option (Int64)
  | 0, _, _ => none
  | n + 1, v12, v13 =>
    if 3 ≤ v13 then some v12 else if ((iush p3 v13) &&& 1) = 0 then bnd (v13 + 1) (fun x23 => lX0_everFirst_28 p1 p3 v5 S10 L11 n v12 x23) else ob (sX6_first (L11 6 4) p1 v13 S10 L11) (fun r17 => if r17 = (-1) then bnd (v13 + 1) (fun x19 => lX0_everFirst_28 p1 p3 v5 S10 L11 n v12 x19) else bnd (v12 ||| (lsh 1 r17)) (fun x20 => bnd (v13 + 1) (fun x21 => lX0_everFirst_28 p1 p3 v5 S10 L11 n x20 x21)))
def lX0_everFirst_11 (p1 : Int32) (p3 : Int32) : Nat → Int64 → Int32 → (Nat → Nat → Int32) → (Nat → Nat → Int64) → Option (Int64 × (Nat → Nat → Int32) × (Nat → Nat → Int64))
  | 0, _, _, _, _ => none
  | n + 1, v4, v5, S6, L7 =>
    if 15625 ≤ v5 then some (v4, S6, L7) else ob2 (sX0_setTies v5 S6 L7) (fun S10 L11 => ob (lX0_everFirst_28 p1 p3 v5 S10 L11 FU v4 0) (fun w25 => bnd (v5 + 1) (fun x26 => lX0_everFirst_11 p1 p3 n w25 x26 S10 L11)))
def sX0_everFirst (p1 : Int32) (p2 : Int32) (p3 : Int32) (S : Nat → Nat → Int32) (L : Nat → Nat → Int64) : Option (Int64 × (Nat → Nat → Int32) × (Nat → Nat → Int64)) :=
  ob2 (sX0_start p2 S L) (fun S2 L3 => ob3 (lX0_everFirst_11 p1 p3 FU 0 0 S2 L3) (fun w28 S29 L30 => some (w28, S29, L30)))

def lX6_placesWithout_9 (p1 : Int64) (p2 : Int32) (p3 : Int32) (S : Nat → Nat → Int32) (L : Nat → Nat → Int64) : Nat → Int32 → Int32 → Int32 → Option (Int32)
  | 0, _, _, _ => none
  | n + 1, v1, v2, v3 =>
    if (S 2 0) ≤ v3 then some v1 else ck v3 60 (if (S 17 v3.toNatClampNeg) = p2 then ob (sX6_stands v3 p3 S L) (fun r9 => if r9 = 0 then bnd (v3 + 1) (fun x20 => lX6_placesWithout_9 p1 p2 p3 S L n v1 v2 x20) else if 30 ≤ v2 then bnd (v2 + 1) (fun x12 => bnd (v3 + 1) (fun x13 => lX6_placesWithout_9 p1 p2 p3 S L n v1 x12 x13)) else if (lg_cmp ((lush p1 v3) &&& 1) 0) = 0 then bnd (v1 ||| ((1 : Int32) <<< (v2 &&& 31))) (fun x17 => bnd (v2 + 1) (fun x18 => bnd (v3 + 1) (fun x19 => lX6_placesWithout_9 p1 p2 p3 S L n x17 x18 x19))) else bnd (v2 + 1) (fun x15 => bnd (v3 + 1) (fun x16 => lX6_placesWithout_9 p1 p2 p3 S L n v1 x15 x16))) else bnd (v3 + 1) (fun x7 => lX6_placesWithout_9 p1 p2 p3 S L n v1 v2 x7))
def sX6_placesWithout (p1 : Int64) (p2 : Int32) (p3 : Int32) (S : Nat → Nat → Int32) (L : Nat → Nat → Int64) : Option (Int32) :=
  ob (lX6_placesWithout_9 p1 p2 p3 S L FU 0 0 0) (fun w22 => some w22)

def sX10_dead (p1 : Int32) (p2 : Int32) (S : Nat → Nat → Int32) (L : Nat → Nat → Int64) : Option (Int32 × (Nat → Nat → Int32) × (Nat → Nat → Int64)) :=
  ob (sX10_isLand p1) (fun r2 => if r2 = 0 then some ((-2), S, L) else ob (sX10_isDay p2) (fun r5 => if r5 = 0 then some ((-2), S, L) else ob (sX5_kindsSorted p1 S L) (fun r8 => ob3 (sX0_everFirst p1 p2 r8 S L) (fun r12 S10 L11 => ob (sX6_placesWithout r12 p1 p2 S10 L11) (fun r14 => some (r14, S10, L11))))))

def lX11_dead_19 (p1 : Int32) (p2 : Int32) : Nat → Int32 → (Nat → Nat → Int32) → Option ((Nat → Nat → Int32))
  | 0, _, _ => none
  | n + 1, v7, S8 =>
    if 60 ≤ v7 then some S8 else ck v7 60 (bnd (qu2 S8 5 v7.toNatClampNeg (vp_nar .boolean 0)) (fun S11 => bnd (v7 + 1) (fun x12 => lX11_dead_19 p1 p2 n x12 S11)))
def lX11_dead_56 (p1 : Int32) (p2 : Int32) (v15 : Int32) : Nat → Int32 → (Nat → Nat → Int32) → Option ((Nat → Nat → Int32))
  | 0, _, _ => none
  | n + 1, v20, S21 =>
    if 3 ≤ v20 then some S21 else ob (sX11_ruleBy p1 v20 S21) (fun r24 => if r24 = (-1) then bnd (v20 + 1) (fun x26 => lX11_dead_56 p1 p2 v15 n x26 S21) else ck r24 60 (bnd (qu2 S21 5 r24.toNatClampNeg (vp_nar .boolean 1)) (fun S28 => bnd (v20 + 1) (fun x29 => lX11_dead_56 p1 p2 v15 n x29 S28))))
def lX11_dead_40 (p1 : Int32) (p2 : Int32) : Nat → Int32 → (Nat → Nat → Int32) → Option ((Nat → Nat → Int32))
  | 0, _, _ => none
  | n + 1, v15, S16 =>
    if 15625 ≤ v15 then some S16 else ob (sX11_looksAtNumber v15 p2 S16) (fun S19 => ob (lX11_dead_56 p1 p2 v15 FU 0 S19) (fun S31 => bnd (v15 + 1) (fun x32 => lX11_dead_40 p1 p2 n x32 S31)))
def lX11_dead_105 (p1 : Int32) (S34 : Nat → Nat → Int32) : Nat → Int32 → Int32 → Int32 → Option (Int32)
  | 0, _, _, _ => none
  | n + 1, v35, v36, v37 =>
    ck 2 994 (if (S34 1 (2 : Int32).toNatClampNeg) ≤ v37 then some v35 else if 30 ≤ v36 then some v35 else ob (sX11_ruleOf v37 0 S34) (fun r42 => if r42 = p1 then ob (sX11_stands v37 S34) (fun r46 => if r46 = 0 then bnd (v37 + 1) (fun x48 => lX11_dead_105 p1 S34 n v35 v36 x48) else ck v37 60 (if (S34 5 v37.toNatClampNeg) = 0 then bnd (v35 ||| ((1 : Int32) <<< (v36 &&& 31))) (fun x51 => bnd (v36 + 1) (fun x52 => bnd (v37 + 1) (fun x53 => lX11_dead_105 p1 S34 n x51 x52 x53))) else bnd (v35 ||| 0) (fun x54 => bnd (v36 + 1) (fun x55 => bnd (v37 + 1) (fun x56 => lX11_dead_105 p1 S34 n x54 x55 x56))))) else bnd (v37 + 1) (fun x44 => lX11_dead_105 p1 S34 n v35 v36 x44)))
def sX11_dead (p1 : Int32) (p2 : Int32) (S : Nat → Nat → Int32) : Option (Int32 × (Nat → Nat → Int32)) :=
  ob (sX11_isLand p1) (fun r2 => if r2 = 0 then some ((-2), S) else ob (sX11_isDay p2) (fun r5 => if r5 = 0 then some ((-2), S) else ob (lX11_dead_19 p1 p2 FU 0 S) (fun S14 => ob (lX11_dead_40 p1 p2 FU 0 S14) (fun S34 => ob (lX11_dead_105 p1 S34 FU 0 0 0) (fun w58 => some (w58, S34))))))

def lX9_has_2 (p1 : Int32) (S : Nat → Nat → Int32) (L : Nat → Nat → Int64) : Nat → Int32 → Option (Unit ⊕ Unit)
  | 0, _ => none
  | n + 1, v1 =>
    if (S 5 0) ≤ v1 then some (.inr ()) else ck v1 12 (if (S 34 v1.toNatClampNeg) = p1 then some (.inl ()) else bnd (v1 + 1) (fun x5 => lX9_has_2 p1 S L n x5))
def sX9_has (p1 : Int32) (S : Nat → Nat → Int32) (L : Nat → Nat → Int64) : Option (Int32) :=
  os2 (lX9_has_2 p1 S L FU 0) (fun _ => some 1) (fun _ => some 0)

def sX9_add (p1 : Int32) (S : Nat → Nat → Int32) (L : Nat → Nat → Int64) : Option (Int32 × (Nat → Nat → Int32) × (Nat → Nat → Int64)) :=
  ck (S 5 0) 12 (bnd (qu2 S 34 (S 5 0).toNatClampNeg p1) (fun S2 => bnd (qu2 S2 5 0 ((S2 5 0) + 1)) (fun S3 => some (S3 5 0, S3, L))))

def sX10_trial (p1 : Int32) (S : Nat → Nat → Int32) (L : Nat → Nat → Int64) : Option (Int32 × (Nat → Nat → Int32) × (Nat → Nat → Int64)) :=
  ob (sX10_isRule p1 S L) (fun r2 => if r2 = 0 then some ((-2), S, L) else ob (sX9_has p1 S L) (fun r5 => if r5 = 0 then if (S 5 0) < 12 then ob3 (sX9_add p1 S L) (fun r11 S9 L10 => some (r11, S9, L10)) else some ((-4), S, L) else some ((-2), S, L)))

def lX11_trial_14 (p1 : Int32) (S : Nat → Nat → Int32) : Nat → Int32 → Option (Unit ⊕ Unit)
  | 0, _ => none
  | n + 1, v4 =>
    ck 4 994 (if (S 1 (4 : Int32).toNatClampNeg) ≤ v4 then some (.inr ()) else ck (982 + v4) 994 (if (S 1 (982 + v4).toNatClampNeg) = p1 then some (.inl ()) else bnd (v4 + 1) (fun x9 => lX11_trial_14 p1 S n x9)))
def sX11_trial (p1 : Int32) (S : Nat → Nat → Int32) : Option (Int32 × (Nat → Nat → Int32)) :=
  ob (sX11_is 2 p1 S) (fun r2 => if r2 = 0 then some ((-2), S) else os2 (lX11_trial_14 p1 S FU 0) (fun _ => some ((-2), S)) (fun _ => ck 4 994 (if (S 1 (4 : Int32).toNatClampNeg) = 12 then some ((-4), S) else ck 4 994 (ck (982 + (S 1 (4 : Int32).toNatClampNeg)) 994 (bnd (qu2 S 1 (982 + (S 1 (4 : Int32).toNatClampNeg)).toNatClampNeg p1) (fun S15 => ob2 (sX11_one 4 S15) (fun r18 S17 => some (r18 + 1, S17))))))))

def sX10_untry  (S : Nat → Nat → Int32) (L : Nat → Nat → Int64) : Option (Int32 × (Nat → Nat → Int32) × (Nat → Nat → Int64)) :=
  bnd (S 5 0) (fun x1 => bnd (qu2 S 5 0 0) (fun S2 => some (x1, S2, L)))

def sX11_untry  (S : Nat → Nat → Int32) : Option (Int32 × (Nat → Nat → Int32)) :=
  ob2 (sX11_puts 4 0 S) (fun r3 S2 => some (r3, S2))

def sX10_kindOf (p1 : Int32) (p2 : Int32) (S : Nat → Nat → Int32) (L : Nat → Nat → Int64) : Option (Int32 × (Nat → Nat → Int32) × (Nat → Nat → Int64)) :=
  ob (sX10_isCase p1 S L) (fun r2 => if r2 = 0 then some ((-2), S, L) else ob (sX10_isKind p2) (fun r5 => if r5 = 0 then some ((-2), S, L) else ck p1 16 (bnd (S 14 p1.toNatClampNeg) (fun x8 => ck p1 16 (bnd (qu2 S 14 p1.toNatClampNeg p2) (fun S10 => some (x8, S10, L)))))))

def sX11_kindOf (p1 : Int32) (p2 : Int32) (S : Nat → Nat → Int32) : Option (Int32 × (Nat → Nat → Int32)) :=
  ob (sX11_is 0 p1 S) (fun r2 => if r2 = 0 then some ((-2), S) else ob (sX11_isKind p2) (fun r5 => if r5 = 0 then some ((-2), S) else ob2 (sX11_puts ((10 + (2 * p1)) + 1) p2 S) (fun r9 S8 => some (r9, S8))))

def sJ6_bitCount_0f7a4 (p0 : Int32) : Option (Int32) :=
  bnd (p0 - ((iush p0 1) &&& 1431655765)) (fun x1 => bnd ((x1 &&& 858993459) + ((iush x1 2) &&& 858993459)) (fun x2 => bnd ((x2 + (iush x2 4)) &&& 252645135) (fun x3 => bnd (x3 + (iush x3 8)) (fun x4 => bnd (x4 + (iush x4 16)) (fun x5 => some (x5 &&& 63))))))

def lX9_rulesAt_5 (p1 : Int32) (S : Nat → Nat → Int32) (L : Nat → Nat → Int64) : Nat → Int64 → Int32 → Option (Int64)
  | 0, _, _ => none
  | n + 1, v1, v2 =>
    if (S 5 0) ≤ v2 then some v1 else if ((iush p1 v2) &&& 1) = 0 then bnd (v2 + 1) (fun x5 => lX9_rulesAt_5 p1 S L n v1 x5) else ck v2 12 (bnd (v1 ||| (lsh 1 (S 34 v2.toNatClampNeg))) (fun x7 => bnd (v2 + 1) (fun x8 => lX9_rulesAt_5 p1 S L n x7 x8)))
def sX9_rulesAt (p1 : Int32) (S : Nat → Nat → Int32) (L : Nat → Nat → Int64) : Option (Int64) :=
  ob (lX9_rulesAt_5 p1 S L FU 0 0) (fun w10 => some w10)

def lX7_allAlikeWithout_2 (p1 : Int64) : Nat → Int32 → (Nat → Nat → Int32) → (Nat → Nat → Int64) → Option (((Nat → Nat → Int32) × (Nat → Nat → Int64)) ⊕ ((Nat → Nat → Int32) × (Nat → Nat → Int64)))
  | 0, _, _, _ => none
  | n + 1, v1, S2, L3 =>
    if (S2 1 0) ≤ v1 then some (.inr (S2, L3)) else ob2 (sX4_takeTies v1 S2 L3) (fun S6 L7 => ck v1 16 (bnd (qu2L L7 6 4 ((L7 40 v1.toNatClampNeg) &&& (p1 ^^^ (-1)))) (fun L9 => ck v1 16 (ob2 (sX4_readBooks (S6 14 v1.toNatClampNeg) S6 L9) (fun S12 L13 => ob3 (sX4_allAlike S12 L13) (fun r17 S15 L16 => if r17 = 0 then some (.inl (S15, L16)) else bnd (v1 + 1) (fun x19 => lX7_allAlikeWithout_2 p1 n x19 S15 L16)))))))
def sX7_allAlikeWithout (p1 : Int64) (S : Nat → Nat → Int32) (L : Nat → Nat → Int64) : Option (Int32 × (Nat → Nat → Int32) × (Nat → Nat → Int64)) :=
  os2 (lX7_allAlikeWithout_2 p1 FU 0 S L) (un2 fun S21 L22 => some (0, S21, L22)) (un2 fun S23 L24 => some (1, S23, L24))

def lX7_fewestOf_2  : Nat → Int32 → (Nat → Nat → Int32) → (Nat → Nat → Int64) → Option ((Nat → Nat → Int32) × (Nat → Nat → Int64))
  | 0, _, _, _ => none
  | n + 1, v1, S2, L3 =>
    if (S2 1 0) ≤ v1 then some (S2, L3) else ob2 (sX4_open v1 S2 L3) (fun S6 L7 => ck v1 16 (bnd (qu2L L7 40 v1.toNatClampNeg (L7 6 4)) (fun L9 => bnd (v1 + 1) (fun x10 => lX7_fewestOf_2 n x10 S6 L9))))
def lX7_fewestOf_59 (v14 : Int32) : Nat → Int32 → (Nat → Nat → Int32) → (Nat → Nat → Int64) → Option ((Int32 × (Nat → Nat → Int32) × (Nat → Nat → Int64)) ⊕ ((Nat → Nat → Int32) × (Nat → Nat → Int64)))
  | 0, _, _, _ => none
  | n + 1, v18, S19, L20 =>
    if ((1 : Int32) <<< ((S19 5 0) &&& 31)) ≤ v18 then some (.inr (S19, L20)) else ob (sJ6_bitCount_0f7a4 v18) (fun r23 => if r23 = v14 then ob (sX9_rulesAt v18 S19 L20) (fun r27 => ob3 (sX7_allAlikeWithout r27 S19 L20) (fun r31 S29 L30 => if r31 = 0 then bnd (v18 + 1) (fun x33 => lX7_fewestOf_59 v14 n x33 S29 L30) else some (.inl (v18, S29, L30)))) else bnd (v18 + 1) (fun x25 => lX7_fewestOf_59 v14 n x25 S19 L20))
def lX7_fewestOf_46  : Nat → Int32 → (Nat → Nat → Int32) → (Nat → Nat → Int64) → Option ((Int32 × (Nat → Nat → Int32) × (Nat → Nat → Int64)) ⊕ ((Nat → Nat → Int32) × (Nat → Nat → Int64)))
  | 0, _, _, _ => none
  | n + 1, v14, S15, L16 =>
    if (S15 5 0) < v14 then some (.inr (S15, L16)) else os2 (lX7_fewestOf_59 v14 FU 0 S15 L16) (un3 fun w35 S36 L37 => some (.inl (w35, S36, L37))) (un2 fun S38 L39 => bnd (v14 + 1) (fun x40 => lX7_fewestOf_46 n x40 S38 L39))
def sX7_fewestOf  (S : Nat → Nat → Int32) (L : Nat → Nat → Int64) : Option (Int32 × (Nat → Nat → Int32) × (Nat → Nat → Int64)) :=
  ob2 (lX7_fewestOf_2 FU 0 S L) (fun S12 L13 => os2 (lX7_fewestOf_46 FU 0 S12 L13) (un3 fun w42 S43 L44 => some (w42, S43, L44)) (un2 fun S45 L46 => some ((-1), S45, L46)))

def sX10_fewest  (S : Nat → Nat → Int32) (L : Nat → Nat → Int64) : Option (Int32 × (Nat → Nat → Int32) × (Nat → Nat → Int64)) :=
  if (S 1 0) = 0 then some ((-3), S, L) else ob3 (sX7_fewestOf S L) (fun r5 S3 L4 => some (r5, S3, L4))

def lX11_allAlike_2 (p1 : Int32) : Nat → Int32 → (Nat → Nat → Int32) → Option ((Nat → Nat → Int32))
  | 0, _, _ => none
  | n + 1, v1, S2 =>
    ck 4 994 (if (S2 1 (4 : Int32).toNatClampNeg) ≤ v1 then some S2 else ck (982 + v1) 994 (if ((p1 >>> (v1 &&& 31)) &&& 1) = 1 then ck (S2 1 (982 + v1).toNatClampNeg) 60 (bnd (qu2 S2 3 (S2 1 (982 + v1).toNatClampNeg).toNatClampNeg (vp_nar .boolean 1)) (fun S11 => bnd (v1 + 1) (fun x12 => lX11_allAlike_2 p1 n x12 S11))) else ck (S2 1 (982 + v1).toNatClampNeg) 60 (bnd (qu2 S2 3 (S2 1 (982 + v1).toNatClampNeg).toNatClampNeg (vp_nar .boolean 0)) (fun S8 => bnd (v1 + 1) (fun x9 => lX11_allAlike_2 p1 n x9 S8)))))
def lX11_allAlike_51  : Nat → Int32 → Int32 → (Nat → Nat → Int32) → Option (Int32 × (Nat → Nat → Int32))
  | 0, _, _, _ => none
  | n + 1, v15, v16, S17 =>
    ck 0 994 (if (S17 1 (0 : Int32).toNatClampNeg) ≤ v16 then some (v15, S17) else if v15 = 0 then some (v15, S17) else ob (sX11_looksAt v16 S17) (fun S22 => ck ((10 + (2 * v16)) + 1) 994 (ob (sX11_areAlike (S22 1 ((10 + (2 * v16)) + 1).toNatClampNeg) S22) (fun r25 => bnd (v16 + 1) (fun x26 => lX11_allAlike_51 n r25 x26 S22)))))
def lX11_allAlike_96 (w28 : Int32) : Nat → Int32 → (Nat → Nat → Int32) → Option ((Nat → Nat → Int32))
  | 0, _, _ => none
  | n + 1, v30, S31 =>
    ck 4 994 (if (S31 1 (4 : Int32).toNatClampNeg) ≤ v30 then some S31 else ck (982 + v30) 994 (ck (S31 1 (982 + v30).toNatClampNeg) 60 (bnd (qu2 S31 3 (S31 1 (982 + v30).toNatClampNeg).toNatClampNeg (vp_nar .boolean 0)) (fun S36 => bnd (v30 + 1) (fun x37 => lX11_allAlike_96 w28 n x37 S36)))))
def sX11_allAlike (p1 : Int32) (S : Nat → Nat → Int32) : Option (Int32 × (Nat → Nat → Int32)) :=
  ob (lX11_allAlike_2 p1 FU 0 S) (fun S14 => ob2 (lX11_allAlike_51 FU 1 0 S14) (fun w28 S29 => ob (lX11_allAlike_96 w28 FU 0 S29) (fun S39 => zk w28 (some (w28, S39)))))

def lX11_sizeOf_4  : Nat → Int32 → Int32 → Option (Int32)
  | 0, _, _ => none
  | n + 1, v1, v2 =>
    if v2 ≤ 0 then some v1 else bnd (v1 + (v2 &&& 1)) (fun x4 => bnd (v2 >>> ((1 : Int32) &&& 31)) (fun x5 => lX11_sizeOf_4 n x4 x5))
def sX11_sizeOf (p0 : Int32) : Option (Int32) :=
  ob (lX11_sizeOf_4 FU 0 p0) (fun w7 => some w7)

def lX11_fewest_16  : Nat → Int32 → Int32 → (Nat → Nat → Int32) → Option (Int32 × (Nat → Nat → Int32))
  | 0, _, _, _ => none
  | n + 1, v3, v4, S5 =>
    ck 4 994 (if ((1 : Int32) <<< ((S5 1 (4 : Int32).toNatClampNeg) &&& 31)) ≤ v4 then some (v3, S5) else if v3 = (-1) then ob2 (sX11_allAlike v4 S5) (fun r11 S10 => if r11 = 0 then bnd (v4 + 1) (fun x13 => lX11_fewest_16 n v3 x13 S10) else bnd (v4 + 1) (fun x14 => lX11_fewest_16 n v4 x14 S10)) else ob (sX11_sizeOf v4) (fun r16 => ob (sX11_sizeOf v3) (fun r18 => if r18 ≤ r16 then bnd (v4 + 1) (fun x20 => lX11_fewest_16 n v3 x20 S5) else ob2 (sX11_allAlike v4 S5) (fun r23 S22 => if r23 = 0 then bnd (v4 + 1) (fun x25 => lX11_fewest_16 n v3 x25 S22) else bnd (v4 + 1) (fun x26 => lX11_fewest_16 n v4 x26 S22)))))
def sX11_fewest  (S : Nat → Nat → Int32) : Option (Int32 × (Nat → Nat → Int32)) :=
  ck 0 994 (if (S 1 (0 : Int32).toNatClampNeg) = 0 then some ((-3), S) else ob2 (lX11_fewest_16 FU (-1) 0 S) (fun w28 S29 => some (w28, S29)))

def lX1_tiesMade_5 (p1 : Int32) (p2 : Int32) (S : Nat → Nat → Int32) (L : Nat → Nat → Int64) : Nat → Int32 → Int32 → Option (Unit ⊕ (Int32))
  | 0, _, _ => none
  | n + 1, v1, v2 =>
    if 6 ≤ v2 then some (.inr v1) else ck v2 6 (bnd (S 35 v2.toNatClampNeg) (fun x5 => ob (sX2_landOf p1 v2 S L) (fun r7 => if x5 = r7 then bnd (v2 + 1) (fun x13 => lX1_tiesMade_5 p1 p2 S L n v1 x13) else if x5 = (-1) then some (.inl ()) else if ((iush p2 v2) &&& 1) = 0 then some (.inl ()) else bnd (v1 + 1) (fun x11 => bnd (v2 + 1) (fun x12 => lX1_tiesMade_5 p1 p2 S L n x11 x12)))))
def sX1_tiesMade (p1 : Int32) (p2 : Int32) (S : Nat → Nat → Int32) (L : Nat → Nat → Int64) : Option (Int32) :=
  os2 (lX1_tiesMade_5 p1 p2 S L FU 0 0) (fun _ => some (-1)) (fun w15 => some w15)

def lX1_judgeEndingIn_2 (p1 : Int32) : Nat → Int32 → (Nat → Nat → Int32) → (Nat → Nat → Int64) → Option ((Int32 × (Nat → Nat → Int32) × (Nat → Nat → Int64)) ⊕ ((Nat → Nat → Int32) × (Nat → Nat → Int64)))
  | 0, _, _, _ => none
  | n + 1, v1, S2, L3 =>
    if 4 ≤ v1 then some (.inr (S2, L3)) else ob3 (sX4_outcome v1 S2 L3) (fun r8 S6 L7 => if r8 = p1 then some (.inl (v1, S6, L7)) else bnd (v1 + 1) (fun x10 => lX1_judgeEndingIn_2 p1 n x10 S6 L7))
def sX1_judgeEndingIn (p1 : Int32) (S : Nat → Nat → Int32) (L : Nat → Nat → Int64) : Option (Int32 × (Nat → Nat → Int32) × (Nat → Nat → Int64)) :=
  os2 (lX1_judgeEndingIn_2 p1 FU 0 S L) (un3 fun w12 S13 L14 => some (w12, S13, L14)) (un2 fun S15 L16 => some ((-1), S15, L16))

def sX1_keepIfBetter (p1 : Int32) (p2 : Int32) (p3 : Int32) (S : Nat → Nat → Int32) (L : Nat → Nat → Int64) : Option ((Nat → Nat → Int32) × (Nat → Nat → Int64)) :=
  if p3 = (-1) then some (S, L) else if (S 10 2) = (-1) then bnd (qu2 S 10 2 p2) (fun S3 => bnd (qu2 S3 10 3 p3) (fun S4 => bnd (qu2 S4 10 4 p1) (fun S5 => some (S5, L)))) else if p2 < (S 10 2) then bnd (qu2 S 10 2 p2) (fun S7 => bnd (qu2 S7 10 3 p3) (fun S8 => bnd (qu2 S8 10 4 p1) (fun S9 => some (S9, L)))) else if (S 10 3) ≤ p3 then some (S, L) else bnd (qu2 S 10 2 p2) (fun S11 => bnd (qu2 S11 10 3 p3) (fun S12 => bnd (qu2 S12 10 4 p1) (fun S13 => some (S13, L))))

def lX1_search_34 (p1 : Int32) (p2 : Int32) (p3 : Int32) (p4 : Int32) : Nat → Int32 → (Nat → Nat → Int32) → (Nat → Nat → Int64) → Option ((Nat → Nat → Int32) × (Nat → Nat → Int64))
  | 0, _, _, _ => none
  | n + 1, v8, S9, L10 =>
    if 15625 ≤ v8 then some (S9, L10) else ob2 (sX0_setTies v8 S9 L10) (fun S13 L14 => ob (sX1_tiesMade p1 p4 S13 L14) (fun r16 => if r16 = (-1) then bnd (v8 + 1) (fun x18 => lX1_search_34 p1 p2 p3 p4 n x18 S13 L14) else if (S13 10 2) = (-1) then ob2 (sX4_readBooks p2 S13 L14) (fun S21 L22 => ob3 (sX1_judgeEndingIn p3 S21 L22) (fun r26 S24 L25 => ob2 (sX1_keepIfBetter v8 r16 r26 S24 L25) (fun S28 L29 => bnd (v8 + 1) (fun x30 => lX1_search_34 p1 p2 p3 p4 n x30 S28 L29)))) else if r16 ≤ (S13 10 2) then ob2 (sX4_readBooks p2 S13 L14) (fun S33 L34 => ob3 (sX1_judgeEndingIn p3 S33 L34) (fun r38 S36 L37 => ob2 (sX1_keepIfBetter v8 r16 r38 S36 L37) (fun S40 L41 => bnd (v8 + 1) (fun x42 => lX1_search_34 p1 p2 p3 p4 n x42 S40 L41)))) else bnd (v8 + 1) (fun x43 => lX1_search_34 p1 p2 p3 p4 n x43 S13 L14)))
def sX1_search (p1 : Int32) (p2 : Int32) (p3 : Int32) (p4 : Int32) (S : Nat → Nat → Int32) (L : Nat → Nat → Int64) : Option ((Nat → Nat → Int32) × (Nat → Nat → Int64)) :=
  bnd (qu2 S 10 2 (-1)) (fun S1 => bnd (qu2 S1 10 3 (-1)) (fun S2 => bnd (qu2 S2 10 4 (-1)) (fun S3 => ck p1 16 (ob2 (sX0_start (S3 13 p1.toNatClampNeg) S3 L) (fun S6 L7 => ob2 (lX1_search_34 p1 p2 p3 p4 FU 0 S6 L7) (fun S45 L46 => some (S45, L46)))))))

def sX10_ask (p1 : Int32) (p2 : Int32) (p3 : Int32) (p4 : Int32) (p5 : Int32) (S : Nat → Nat → Int32) (L : Nat → Nat → Int64) : Option (Int32 × (Nat → Nat → Int32) × (Nat → Nat → Int64)) :=
  ob (sX10_isQuestion p3 p1 p2 S L) (fun r2 => if r2 = 0 then some ((-2), S, L) else ob (sX10_isBelow p4 64) (fun r5 => if r5 = 0 then some ((-2), S, L) else ob (sX10_isBelow p5 3) (fun r8 => if r8 = 0 then some ((-2), S, L) else ob2 (sX1_search p1 p2 p3 p4 S L) (fun S11 L12 => if p5 = 0 then some (S11 10 2, S11, L12) else if p5 = 1 then some (S11 10 3, S11, L12) else some (S11 10 4, S11, L12)))))

def lX11_other_4 (p1 : Int32) (S : Nat → Nat → Int32) : Nat → Int32 → Int32 → Option (Unit ⊕ (Int32))
  | 0, _, _ => none
  | n + 1, v1, v2 =>
    if 6 ≤ v2 then some (.inr v1) else ck v2 6 (ck v2 6 (if (S 2 v2.toNatClampNeg) = (S 6 v2.toNatClampNeg) then bnd (v2 + 1) (fun x7 => lX11_other_4 p1 S n v1 x7) else ck v2 6 (if (S 2 v2.toNatClampNeg) = (-1) then some (.inl ()) else if ((p1 >>> (v2 &&& 31)) &&& 1) = 0 then some (.inl ()) else bnd (v1 + 1) (fun x11 => bnd (v2 + 1) (fun x12 => lX11_other_4 p1 S n x11 x12)))))
def sX11_other (p1 : Int32) (S : Nat → Nat → Int32) : Option (Int32) :=
  os2 (lX11_other_4 p1 S FU 0 0) (fun _ => some (-1)) (fun w14 => some w14)

def lX11_ask_55 (p1 : Int32) (p2 : Int32) (p3 : Int32) (p4 : Int32) (p5 : Int32) : Nat → Int32 → (Nat → Nat → Int32) → Option ((Nat → Nat → Int32))
  | 0, _, _ => none
  | n + 1, v18, S19 =>
    if 6 ≤ v18 then some S19 else ck v18 6 (ck v18 6 (bnd (qu2 S19 6 v18.toNatClampNeg (S19 2 v18.toNatClampNeg)) (fun S23 => bnd (v18 + 1) (fun x24 => lX11_ask_55 p1 p2 p3 p4 p5 n x24 S23))))
def lX11_ask_130 (p1 : Int32) (p2 : Int32) (p3 : Int32) (p4 : Int32) (p5 : Int32) (v30 : Int32) (r37 : Int32) (S35 : Nat → Nat → Int32) : Nat → Int32 → Int32 → Int32 → Int32 → Option (Int32 × Int32 × Int32)
  | 0, _, _, _, _ => none
  | n + 1, v38, v39, v40, v41 =>
    if 4 ≤ v41 then some (v38, v39, v40) else if r37 = (-1) then some (v38, v39, v40) else if v38 = (-1) then ob (sX11_endsOf v41 p2 S35) (fun r47 => if r47 = p3 then bnd (v41 + 1) (fun x50 => lX11_ask_130 p1 p2 p3 p4 p5 v30 r37 S35 n r37 v41 v30 x50) else bnd (v41 + 1) (fun x49 => lX11_ask_130 p1 p2 p3 p4 p5 v30 r37 S35 n v38 v39 v40 x49)) else if r37 < v38 then ob (sX11_endsOf v41 p2 S35) (fun r54 => if r54 = p3 then bnd (v41 + 1) (fun x57 => lX11_ask_130 p1 p2 p3 p4 p5 v30 r37 S35 n r37 v41 v30 x57) else bnd (v41 + 1) (fun x56 => lX11_ask_130 p1 p2 p3 p4 p5 v30 r37 S35 n v38 v39 v40 x56)) else if r37 = v38 then if v39 ≤ v41 then bnd (v41 + 1) (fun x63 => lX11_ask_130 p1 p2 p3 p4 p5 v30 r37 S35 n v38 v39 v40 x63) else ob (sX11_endsOf v41 p2 S35) (fun r66 => if r66 = p3 then bnd (v41 + 1) (fun x69 => lX11_ask_130 p1 p2 p3 p4 p5 v30 r37 S35 n r37 v41 v30 x69) else bnd (v41 + 1) (fun x68 => lX11_ask_130 p1 p2 p3 p4 p5 v30 r37 S35 n v38 v39 v40 x68)) else bnd (v41 + 1) (fun x60 => lX11_ask_130 p1 p2 p3 p4 p5 v30 r37 S35 n v38 v39 v40 x60)
def lX11_ask_94 (p1 : Int32) (p2 : Int32) (p3 : Int32) (p4 : Int32) (p5 : Int32) : Nat → Int32 → Int32 → Int32 → Int32 → (Nat → Nat → Int32) → Option (Int32 × Int32 × Int32 × (Nat → Nat → Int32))
  | 0, _, _, _, _, _ => none
  | n + 1, v27, v28, v29, v30, S31 =>
    if 15625 ≤ v30 then some (v27, v28, v29, S31) else ck (10 + (2 * p1)) 994 (ob (sX11_looksAtNumber v30 (S31 1 (10 + (2 * p1)).toNatClampNeg) S31) (fun S35 => ob (sX11_other p4 S35) (fun r37 => ob3 (lX11_ask_130 p1 p2 p3 p4 p5 v30 r37 S35 FU v27 v28 v29 0) (fun w71 w72 w73 => bnd (v30 + 1) (fun x74 => lX11_ask_94 p1 p2 p3 p4 p5 n w71 w72 w73 x74 S35)))))
def sX11_ask (p1 : Int32) (p2 : Int32) (p3 : Int32) (p4 : Int32) (p5 : Int32) (S : Nat → Nat → Int32) : Option (Int32 × (Nat → Nat → Int32)) :=
  ob (sX11_is 0 p1 S) (fun r2 => if r2 = 0 then some ((-2), S) else ob (sX11_isKind p2) (fun r5 => if r5 = 0 then some ((-2), S) else ob (sX11_isLand p3) (fun r8 => if r8 = 0 then some ((-2), S) else ob (sX11_in p4 0 63) (fun r11 => if r11 = 0 then some ((-2), S) else ob (sX11_in p5 0 2) (fun r14 => if r14 = 0 then some ((-2), S) else ob (sX11_looksAt p1 S) (fun S17 => ob (lX11_ask_55 p1 p2 p3 p4 p5 FU 0 S17) (fun S26 => ob4 (lX11_ask_94 p1 p2 p3 p4 p5 FU (-1) 0 0 0 S26) (fun w76 w77 w78 S79 => if w76 = (-1) then some ((-1), S79) else if p5 = 0 then some (w76, S79) else if p5 = 1 then some (w77, S79) else some (w78, S79)))))))))

def sX10_count (p1 : Int32) (S : Nat → Nat → Int32) (L : Nat → Nat → Int64) : Option (Int32) :=
  ob (sX10_isBelow p1 5) (fun r2 => if r2 = 0 then some (-2) else if p1 = 0 then some (S 1 0) else if p1 = 1 then some (S 1 1) else if p1 = 2 then some (S 2 0) else if p1 = 3 then some (S 4 0) else some (S 5 0))

def sX11_count (p1 : Int32) (S : Nat → Nat → Int32) : Option (Int32) :=
  ob (sX11_in p1 0 4) (fun r2 => if r2 = 0 then some (-2) else ck p1 994 (some (S 1 p1.toNatClampNeg)))

def sX10_mix (p0 : Int64) (p1 : Int32) : Option (Int64) :=
  some ((31 * p0) + (p1.toInt64))

def lX10_mixAll_35_6 (p2 : Int32) (S : Nat → Nat → Int32) (L : Nat → Nat → Int64) : Nat → Int64 → Int32 → Option (Int64)
  | 0, _, _ => none
  | n + 1, v1, v2 =>
    if p2 ≤ v2 then some v1 else ck v2 6 (ob (sX10_mix v1 (S 35 v2.toNatClampNeg)) (fun r6 => bnd (v2 + 1) (fun x7 => lX10_mixAll_35_6 p2 S L n r6 x7)))
def sX10_mixAll_35 (p0 : Int64) (p2 : Int32) (S : Nat → Nat → Int32) (L : Nat → Nat → Int64) : Option (Int64) :=
  ob (lX10_mixAll_35_6 p2 S L FU p0 0) (fun w9 => some w9)

def lX10_mixCase_76 (v13 : Int32) : Nat → Int64 → Int32 → (Nat → Nat → Int32) → (Nat → Nat → Int64) → Option (Int64 × (Nat → Nat → Int32) × (Nat → Nat → Int64))
  | 0, _, _, _, _ => none
  | n + 1, v20, v21, S22, L23 =>
    if 4 ≤ v21 then some (v20, S22, L23) else ob3 (sX4_outcome v21 S22 L23) (fun r28 S26 L27 => ob (sX10_mix v20 r28) (fun r30 => bnd (v21 + 1) (fun x31 => lX10_mixCase_76 v13 n r30 x31 S26 L27)))
def lX10_mixCase_58  : Nat → Int64 → Int32 → (Nat → Nat → Int32) → (Nat → Nat → Int64) → Option (Int64 × (Nat → Nat → Int32) × (Nat → Nat → Int64))
  | 0, _, _, _, _ => none
  | n + 1, v12, v13, S14, L15 =>
    if 3 ≤ v13 then some (v12, S14, L15) else ob2 (sX4_readBooks v13 S14 L15) (fun S18 L19 => ob3 (lX10_mixCase_76 v13 FU v12 0 S18 L19) (fun w33 S34 L35 => bnd (v13 + 1) (fun x36 => lX10_mixCase_58 n w33 x36 S34 L35)))
def sX10_mixCase (p1 : Int64) (p2 : Int32) (S : Nat → Nat → Int32) (L : Nat → Nat → Int64) : Option (Int64 × (Nat → Nat → Int32) × (Nat → Nat → Int64)) :=
  ck p2 16 (ob (sX10_mix p1 (S 13 p2.toNatClampNeg)) (fun r3 => ck p2 16 (ob (sX10_mix r3 (S 14 p2.toNatClampNeg)) (fun r6 => ob2 (sX4_open p2 S L) (fun S8 L9 => ob (sX10_mixAll_35 r6 6 S8 L9) (fun r11 => ob3 (lX10_mixCase_58 FU r11 0 S8 L9) (fun w38 S39 L40 => some (w38, S39, L40))))))))

def lX10_mixRule_102 (p2 : Int32) (S : Nat → Nat → Int32) (L : Nat → Nat → Int64) : Nat → Int64 → Int32 → Option (Int64)
  | 0, _, _ => none
  | n + 1, v22, v23 =>
    ck p2 60 (if (S 23 p2.toNatClampNeg) ≤ v23 then some v22 else bnd ((p2 * 2) + v23) (fun x26 => ck x26 120 (ob (sX10_mix v22 (S 24 x26.toNatClampNeg)) (fun r29 => ck x26 120 (ob (sX10_mix r29 (S 25 x26.toNatClampNeg)) (fun r32 => bnd (v23 + 1) (fun x33 => lX10_mixRule_102 p2 S L n r32 x33)))))))
def sX10_mixRule (p1 : Int64) (p2 : Int32) (S : Nat → Nat → Int32) (L : Nat → Nat → Int64) : Option (Int64) :=
  ck p2 60 (ob (sX10_mix p1 (S 17 p2.toNatClampNeg)) (fun r3 => ck p2 60 (ob (sX10_mix r3 (S 18 p2.toNatClampNeg)) (fun r6 => ck p2 60 (ob (sX10_mix r6 (S 19 p2.toNatClampNeg)) (fun r9 => ck p2 60 (ob (sX10_mix r9 (S 20 p2.toNatClampNeg)) (fun r12 => ck p2 60 (ob (sX10_mix r12 (S 21 p2.toNatClampNeg)) (fun r15 => ck p2 60 (ob (sX10_mix r15 (S 22 p2.toNatClampNeg)) (fun r18 => ck p2 60 (ob (sX10_mix r18 (S 23 p2.toNatClampNeg)) (fun r21 => ob (lX10_mixRule_102 p2 S L FU r21 0) (fun w35 => some w35)))))))))))))))

def lX10_mixAll_29_6 (p2 : Int32) (S : Nat → Nat → Int32) (L : Nat → Nat → Int64) : Nat → Int64 → Int32 → Option (Int64)
  | 0, _, _ => none
  | n + 1, v1, v2 =>
    if p2 ≤ v2 then some v1 else ck v2 12 (ob (sX10_mix v1 (S 29 v2.toNatClampNeg)) (fun r6 => bnd (v2 + 1) (fun x7 => lX10_mixAll_29_6 p2 S L n r6 x7)))
def sX10_mixAll_29 (p0 : Int64) (p2 : Int32) (S : Nat → Nat → Int32) (L : Nat → Nat → Int64) : Option (Int64) :=
  ob (lX10_mixAll_29_6 p2 S L FU p0 0) (fun w9 => some w9)

def lX10_mixAll_30_6 (p2 : Int32) (S : Nat → Nat → Int32) (L : Nat → Nat → Int64) : Nat → Int64 → Int32 → Option (Int64)
  | 0, _, _ => none
  | n + 1, v1, v2 =>
    if p2 ≤ v2 then some v1 else ck v2 4 (ob (sX10_mix v1 (S 30 v2.toNatClampNeg)) (fun r6 => bnd (v2 + 1) (fun x7 => lX10_mixAll_30_6 p2 S L n r6 x7)))
def sX10_mixAll_30 (p0 : Int64) (p2 : Int32) (S : Nat → Nat → Int32) (L : Nat → Nat → Int64) : Option (Int64) :=
  ob (lX10_mixAll_30_6 p2 S L FU p0 0) (fun w9 => some w9)

def sX10_mixTreaty (p1 : Int64) (p2 : Int32) (S : Nat → Nat → Int32) (L : Nat → Nat → Int64) : Option (Int64) :=
  ck p2 8 (ob (sX10_mix p1 (S 31 p2.toNatClampNeg)) (fun r3 => ck p2 8 (ob (sX10_mix r3 (S 32 p2.toNatClampNeg)) (fun r6 => ck p2 8 (ob (sX10_mix r6 (S 33 p2.toNatClampNeg)) (fun r9 => some r9))))))

def lX10_mixAll_34_6 (p2 : Int32) (S : Nat → Nat → Int32) (L : Nat → Nat → Int64) : Nat → Int64 → Int32 → Option (Int64)
  | 0, _, _ => none
  | n + 1, v1, v2 =>
    if p2 ≤ v2 then some v1 else ck v2 12 (ob (sX10_mix v1 (S 34 v2.toNatClampNeg)) (fun r6 => bnd (v2 + 1) (fun x7 => lX10_mixAll_34_6 p2 S L n r6 x7)))
def sX10_mixAll_34 (p0 : Int64) (p2 : Int32) (S : Nat → Nat → Int32) (L : Nat → Nat → Int64) : Option (Int64) :=
  ob (lX10_mixAll_34_6 p2 S L FU p0 0) (fun w9 => some w9)

def lX10_digest_6  (S : Nat → Nat → Int32) (L : Nat → Nat → Int64) : Nat → Int64 → Int32 → Option (Int64)
  | 0, _, _ => none
  | n + 1, v1, v2 =>
    if 5 ≤ v2 then some v1 else ob (sX10_count v2 S L) (fun r5 => ob (sX10_mix v1 r5) (fun r7 => bnd (v2 + 1) (fun x8 => lX10_digest_6 S L n r7 x8)))
def lX10_digest_29  : Nat → Int64 → Int32 → (Nat → Nat → Int32) → (Nat → Nat → Int64) → Option (Int64 × (Nat → Nat → Int32) × (Nat → Nat → Int64))
  | 0, _, _, _, _ => none
  | n + 1, v11, v12, S13, L14 =>
    if (S13 1 0) ≤ v12 then some (v11, S13, L14) else ob3 (sX10_mixCase v11 v12 S13 L14) (fun r19 S17 L18 => bnd (v12 + 1) (fun x20 => lX10_digest_29 n r19 x20 S17 L18))
def lX10_digest_55  (S23 : Nat → Nat → Int32) (L24 : Nat → Nat → Int64) : Nat → Int64 → Int32 → Option (Int64)
  | 0, _, _ => none
  | n + 1, v25, v26 =>
    if (S23 2 0) ≤ v26 then some v25 else ob (sX10_mixRule v25 v26 S23 L24) (fun r29 => bnd (v26 + 1) (fun x30 => lX10_digest_55 S23 L24 n r29 x30))
def lX10_digest_121  (S23 : Nat → Nat → Int32) (L24 : Nat → Nat → Int64) : Nat → Int64 → Int32 → Option (Int64)
  | 0, _, _ => none
  | n + 1, v37, v38 =>
    if (S23 4 0) ≤ v38 then some v37 else ob (sX10_mixTreaty v37 v38 S23 L24) (fun r41 => bnd (v38 + 1) (fun x42 => lX10_digest_121 S23 L24 n r41 x42))
def sX10_digest  (S : Nat → Nat → Int32) (L : Nat → Nat → Int64) : Option (Int64 × (Nat → Nat → Int32) × (Nat → Nat → Int64)) :=
  ob (lX10_digest_6 S L FU 397 0) (fun w10 => ob3 (lX10_digest_29 FU w10 0 S L) (fun w22 S23 L24 => ob (lX10_digest_55 S23 L24 FU w22 0) (fun w32 => ob (sX10_mixAll_29 w32 12 S23 L24) (fun r34 => ob (sX10_mixAll_30 r34 4 S23 L24) (fun r36 => ob (lX10_digest_121 S23 L24 FU r36 0) (fun w44 => ob (sX10_mixAll_34 w44 (S23 5 0) S23 L24) (fun r46 => some (r46, S23, L24))))))))

def lX11_mixed_6 (p2 : Int32) (p3 : Int32) (S : Nat → Nat → Int32) : Nat → Int64 → Int32 → Option (Int64)
  | 0, _, _ => none
  | n + 1, v1, v2 =>
    if p3 ≤ v2 then some v1 else ck (p2 + v2) 994 (bnd ((31 * v1) + ((S 1 (p2 + v2).toNatClampNeg).toInt64)) (fun x5 => bnd (v2 + 1) (fun x6 => lX11_mixed_6 p2 p3 S n x5 x6)))
def sX11_mixed (p1 : Int64) (p2 : Int32) (p3 : Int32) (S : Nat → Nat → Int32) : Option (Int64) :=
  ob (lX11_mixed_6 p2 p3 S FU p1 0) (fun w8 => some w8)

def lX11_digest_43 (v4 : Int32) (S11 : Nat → Nat → Int32) : Nat → Int64 → Int32 → Option (Int64)
  | 0, _, _ => none
  | n + 1, v12, v13 =>
    if 6 ≤ v13 then some v12 else ck v13 6 (bnd ((31 * v12) + ((S11 2 v13.toNatClampNeg).toInt64)) (fun x16 => bnd (v13 + 1) (fun x17 => lX11_digest_43 v4 S11 n x16 x17)))
def lX11_digest_74 (v4 : Int32) (S11 : Nat → Nat → Int32) : Nat → Int64 → Int32 → Option (Int64)
  | 0, _, _ => none
  | n + 1, v20, v21 =>
    if 12 ≤ v21 then some v20 else ob (sX11_endsOf (irm v21 4) (v21 / 4) S11) (fun r24 => bnd ((31 * v20) + (r24.toInt64)) (fun x25 => bnd (v21 + 1) (fun x26 => lX11_digest_74 v4 S11 n x25 x26)))
def lX11_digest_12  : Nat → Int64 → Int32 → (Nat → Nat → Int32) → Option (Int64 × (Nat → Nat → Int32))
  | 0, _, _, _ => none
  | n + 1, v3, v4, S5 =>
    ck 0 994 (if (S5 1 (0 : Int32).toNatClampNeg) ≤ v4 then some (v3, S5) else ob (sX11_mixed v3 (10 + (2 * v4)) 2 S5) (fun r9 => ob (sX11_looksAt v4 S5) (fun S11 => ob (lX11_digest_43 v4 S11 FU r9 0) (fun w19 => ob (lX11_digest_74 v4 S11 FU w19 0) (fun w28 => bnd (v4 + 1) (fun x29 => lX11_digest_12 n w28 x29 S11))))))
def lX11_digest_115  (S32 : Nat → Nat → Int32) : Nat → Int64 → Int32 → Option (Int64)
  | 0, _, _ => none
  | n + 1, v33, v34 =>
    ck 2 994 (if (S32 1 (2 : Int32).toNatClampNeg) ≤ v34 then some v33 else ob (sX11_ruleOf v34 6 S32) (fun r38 => ob (sX11_mixed v33 (282 + (11 * v34)) (7 + (2 * r38)) S32) (fun r40 => bnd (v34 + 1) (fun x41 => lX11_digest_115 S32 n r40 x41))))
def sX11_digest  (S : Nat → Nat → Int32) : Option (Int64 × (Nat → Nat → Int32)) :=
  ob (sX11_mixed 397 0 5 S) (fun r2 => ob2 (lX11_digest_12 FU r2 0 S) (fun w31 S32 => ob (lX11_digest_115 S32 FU w31 0) (fun w43 => ob (sX11_mixed w43 942 12 S32) (fun r45 => ob (sX11_mixed r45 954 4 S32) (fun r47 => ck 3 994 (ob (sX11_mixed r47 958 (3 * (S32 1 (3 : Int32).toNatClampNeg)) S32) (fun r50 => ck 4 994 (ob (sX11_mixed r50 982 (S32 1 (4 : Int32).toNatClampNeg) S32) (fun r53 => some (r53, S32))))))))))
