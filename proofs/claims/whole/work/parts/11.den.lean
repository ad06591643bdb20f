-- ===== texts: what String's members answer =====
def f_Slen (q : Nat) : Sg → Option (Int32 × Sg) := gd (q < 22) (rt (Int32.ofNat (lenJS.getD q 0)))
def f_SchAt (q : Nat) (x : Int32) : Sg → Option (Int32 × Sg) := gd (q < 22) (gd (inb x (lenJS.getD q 0) = true) (rt (((bytJS.getD q []).getD x.toNatClampNeg 0) &&& 255)))
/-- indexOf on what is left of a text, from place k on -/
def ixF (c : Int32) : List Int32 → Nat → Int32
  | [], _ => -1
  | b :: l, k => if b &&& 255 = c then nI k else ixF c l (k + 1)
def f_Sidx (q : Nat) (x : Int32) : Sg → Option (Int32 × Sg) := gd (q < 22) (rt (ixF x (bytJS.getD q []) 0))
def f_X0_sort_b65 (k2 : Nat → Int32 → Int32 → Sg → Option (Unit × Sg)) (q1 : Nat) (x2 : Int32) (x3 : Int32) (x4 : Int32) (x5 : Int32) : Sg → Option (Unit × Sg) :=
  gd (isGd q1 = true) (gd (inb x5 8 = true) (pI 34 x5.toNatClampNeg x4 (k2 q1 x2 (x3 + 1))))
def f_X0_sort_b24 (k2 : Nat → Int32 → Int32 → Sg → Option (Unit × Sg)) : Nat → Nat → Int32 → Int32 → Int32 → Int32 → Sg → Option (Unit × Sg)
  | 0, _, _, _, _, _ => fun _ => none
  | fu + 1, q1, x2, x3, x4, x5 => gd (isGd q1 = true) (br (x5 ≤ 0) (f_X0_sort_b65 k2 q1 x2 x3 x4 x5) (gd (inb (x5 - 1) 8 = true) (dI 34 (x5 - 1).toNatClampNeg (fun v2 => br (x4 ≤ v2) (f_X0_sort_b65 k2 q1 x2 x3 x4 x5) (gd (inb (x5 - 1) 8 = true) (dI 34 (x5 - 1).toNatClampNeg (fun v4 => gd (inb x5 8 = true) (pI 34 x5.toNatClampNeg v4 ((f_X0_sort_b24 k2 fu) q1 x2 x3 x4 (x5 + (-1)))))))))))
def f_X0_sort_b2 : Nat → Nat → Int32 → Int32 → Sg → Option (Unit × Sg)
  | 0, _, _, _ => fun _ => none
  | fu + 1, q1, x2, x3 => gd (isGd q1 = true) (br (x2 ≤ x3) (rt ()) (br (8 ≤ x3) (rt ()) (gd (inb x3 8 = true) (dI (q1 + 2) x3.toNatClampNeg (fun v3 => f_X0_sort_b24 (f_X0_sort_b2 fu) FU q1 x2 x3 v3 x3)))))
def f_X0_sort (q1 : Nat) (x2 : Int32) : Sg → Option (Unit × Sg) :=
  gd (isGd q1 = true) (f_X0_sort_b2 FU q1 x2 0)
def f_X0_open_b149 (x3 : Int64) (x5 : Int64) : Sg → Option (Unit × Sg) :=
  dI 33 3 (fun v1 => pL 33 1 (((v1 - 1).toInt64) * x3) (pL 33 2 x5 (rt ())))
def f_X0_open_b77 : Nat → Int32 → Int64 → Int64 → Int32 → Sg → Option (Unit × Sg)
  | 0, _, _, _, _ => fun _ => none
  | fu + 1, x2, x3, x5, x7 => br (x2 ≤ x7) (f_X0_open_b149 x3 x5) (gd (inb x7 8 = true) (dI 34 x7.toNatClampNeg (fun v2 => dI 33 3 (fun v3 => br ((lg_cmp (v2.toInt64 * x5) (((v3 - 1).toInt64) * x3)) ≤ 0) (f_X0_open_b149 x3 x5) (gd (inb x7 8 = true) (dI 34 x7.toNatClampNeg (fun v5 => lt ((x5 * v5.toInt64) + x3 : Int64) (fun w6 => gd (inb x7 8 = true) (dI 34 x7.toNatClampNeg (fun v7 => lt (x3 * v7.toInt64 : Int64) (fun w8 => dI 33 3 (fun v9 => pI 33 3 (v9 + 1) ((f_X0_open_b77 fu) x2 w8 w6 (x7 + 1))))))))))))))
def f_X0_open (q1 : Nat) : Sg → Option (Unit × Sg) :=
  gd (isGd q1 = true) (pL 33 1 0 (pL 33 2 1 (pI 33 3 0 (dI q1 11 (fun v1 => lt (if 8 < v1 then 8 else v1 : Int32) (fun w2 => br (2 ≤ w2) (cl (f_X0_sort q1 w2) (fun _ => dI 34 (0 : Int32).toNatClampNeg (fun v4 => dI 34 (1 : Int32).toNatClampNeg (fun v5 => lt (v4.toInt64 * v5.toInt64 : Int64) (fun w6 => dI 34 (0 : Int32).toNatClampNeg (fun v7 => dI 34 (1 : Int32).toNatClampNeg (fun v8 => lt ((v7 + v8).toInt64 : Int64) (fun w9 => pI 33 3 2 (f_X0_open_b77 FU w2 w6 w9 2))))))))) (rt ())))))))
def f_X7_told (q0 : Nat) (x1 : Int32) (x2 : Int32) : Sg → Option (Int32 × Sg) :=
  gd (isSc q0 = true) (br (((x1 * 6) + x2) < 0) (rt (0 : Int32)) (br (24 ≤ ((x1 * 6) + x2)) (rt (0 : Int32)) (gd (inb ((x1 * 6) + x2) 24 = true) (dI (q0 + 1) ((x1 * 6) + x2).toNatClampNeg (fun v3 => rt v3)))))
def f_X1_startIn (q0 : Nat) (x1 : Int32) : Sg → Option (Unit × Sg) :=
  gd (isFl q0 = true) (pI q0 9 x1 (rt ()))
def f_X1_dropFrom (q0 : Nat) (x1 : Int32) : Sg → Option (Unit × Sg) :=
  gd (isFl q0 = true) (pI q0 3 x1 (pI q0 7 x1 (rt ())))
def f_J7_fill_53178_b5 : Nat → Nat → Int32 → Int32 → Int32 → Sg → Option (Unit × Sg)
  | 0, _, _, _, _ => fun _ => none
  | fu + 1, q0, x1, x2, x3 => gd (isFk q0 = true) (br (x3 ≤ x2) (rt ()) (gd (inb x2 6 = true) (pI q0 x2.toNatClampNeg x1 ((f_J7_fill_53178_b5 fu) q0 x1 (x2 + 1) x3))))
def f_J7_fill_53178 (q0 : Nat) (x1 : Int32) : Sg → Option (Unit × Sg) :=
  gd (isFk q0 = true) (f_J7_fill_53178_b5 FU q0 x1 0 6)
def f_X1_begin_b27 (q0 : Nat) (q1 : Nat) (xs0 : Int32) (qs1 : Nat) : Sg → Option (Unit × Sg) :=
  gd (isFl q0 = true) (gd (isSc q1 = true) (gd (isFl qs1 = true) (pI qs1 5 xs0 (dI q0 0 (fun v1 => cl (f_X7_told q1 v1 0) (fun r2 => pI q0 1 r2 (dI q0 0 (fun v3 => cl (f_X7_told q1 v3 1) (fun r4 => pI q0 2 r4 (dI q0 0 (fun v5 => cl (f_X7_told q1 v5 5) (fun r6 => pI q0 4 r6 (dI q0 0 (fun v7 => cl (f_X7_told q1 v7 2) (fun r8 => pI q0 6 r8 (dI q0 0 (fun v9 => cl (f_X7_told q1 v9 3) (fun r10 => cl (f_X1_startIn q0 r10) (fun _ => dI q0 0 (fun v11 => cl (f_X7_told q1 v11 4) (fun r12 => cl (f_X1_dropFrom q0 r12) (fun _ => pI q0 8 0 (pI q0 10 0 (pI q0 11 0 (pI q0 12 0 (pI q0 13 0 (pI q0 14 0 (cl (f_J7_fill_53178 (q0 + 1) 0) (fun _ => rt ())))))))))))))))))))))))))))))
def f_X1_begin_b16 (q0 : Nat) (q1 : Nat) (xs0 : Int32) : Sg → Option (Unit × Sg) :=
  gd (isFl q0 = true) (gd (isSc q1 = true) (br (xs0 = 0) (f_X1_begin_b27 q0 q1 4 q0) (f_X1_begin_b27 q0 q1 0 q0)))
def f_X1_begin (q0 : Nat) (q1 : Nat) : Sg → Option (Unit × Sg) :=
  gd (isFl q0 = true) (gd (isSc q1 = true) (dI q0 0 (fun v1 => dI q1 1 (fun v2 => br (v2 ≤ v1) (f_X1_begin_b16 q0 q1 0) (f_X1_begin_b16 q0 q1 1)))))
def f_X1_isComing_b15  : Sg → Option (Int32 × Sg) :=
  rt 1
def f_X1_isComing (q0 : Nat) : Sg → Option (Int32 × Sg) :=
  gd (isFl q0 = true) (dI q0 5 (fun v1 => br (v1 = 0) (f_X1_isComing_b15) (dI q0 5 (fun v3 => br (v3 = 1) (f_X1_isComing_b15) (rt 0)))))
def f_X1_addKind (q0 : Nat) (x1 : Int32) : Sg → Option (Unit × Sg) :=
  gd (isFl q0 = true) (br (x1 < 0) (rt ()) (br (6 ≤ x1) (rt ()) (gd (inb x1 6 = true) (dI (q0 + 1) x1.toNatClampNeg (fun v3 => gd (inb x1 6 = true) (pI (q0 + 1) x1.toNatClampNeg (v3 + 1) (rt ())))))))
def f_X1_landed (q0 : Nat) (x1 : Int32) : Sg → Option (Int32 × Sg) :=
  gd (isFl q0 = true) (br (x1 < 0) (rt (0 : Int32)) (br (6 ≤ x1) (rt (0 : Int32)) (gd (inb x1 6 = true) (dI (q0 + 1) x1.toNatClampNeg (fun v3 => rt v3)))))
def f_X1_flightOf (x0 : Int32) : Sg → Option (Int32 × Sg) :=
  rt (2 + (x0 / 2))
def f_X1_rise (q0 : Nat) (x1 : Int32) (x2 : Int32) (x3 : Int32) : Sg → Option (Unit × Sg) :=
  gd (isFl q0 = true) (dI q0 10 (fun v1 => pI q0 10 (v1 + 1) (dI q0 11 (fun v2 => lt (if v2 < x1 then x1 else v2 : Int32) (fun w3 => pI q0 11 w3 (dI q0 12 (fun v4 => pI q0 12 (v4 + x1) (pI q0 5 1 (pI q0 7 x1 (pI q0 8 x2 (cl (f_X1_flightOf x1) (fun r5 => pI q0 9 (x2 + r5) (pI q0 6 x3 (rt ()))))))))))))))
def f_X1_heightIn (q0 : Nat) (x1 : Int32) : Sg → Option (Int32 × Sg) :=
  gd (isFl q0 = true) (dI q0 5 (fun v1 => br (v1 = 0) (dI q0 3 (fun v3 => rt v3)) (dI q0 7 (fun v4 => cl (f_X1_flightOf v4) (fun r5 => dI q0 5 (fun v6 => br (v6 = 1) (br (1 ≤ r5) (dI q0 8 (fun v9 => dI q0 7 (fun v10 => gd (¬ (r5 * r5) = 0) (rt ((((4 * v10) * (x1 - v9)) * (r5 - (x1 - v9))) / (r5 * r5)))))) (rt (0 : Int32))) (rt (0 : Int32))))))))
def f_X6_clear (q0 : Nat) : Sg → Option (Unit × Sg) :=
  gd (isRu q0 = true) (pI q0 3 0 (pI q0 4 0 (rt ())))
def f_X2_clear (q0 : Nat) : Sg → Option (Unit × Sg) :=
  gd (isGd q0 = true) (pI q0 0 3 (pI q0 1 9 (pI q0 2 80 (pI q0 3 0 (pI q0 4 1 (pI q0 5 0 (pI q0 6 1 (pI q0 7 0 (pI q0 9 0 (pI q0 11 0 (cl (f_X6_clear (q0 + 3)) (fun _ => rt ()))))))))))))
def f_X2_tellOfLast (q0 : Nat) (x1 : Int32) (x2 : Int32) : Sg → Option (Unit × Sg) :=
  gd (isGd q0 = true) (dI q0 9 (fun v1 => lt (((v1 - 1) * 6) + x1 : Int32) (fun w2 => br (w2 < 0) (rt ()) (br (24 ≤ w2) (rt ()) (gd (inb w2 24 = true) (pI (q0 + 1) w2.toNatClampNeg x2 (rt ())))))))
def f_X2_addPush (q0 : Nat) (x1 : Int32) : Sg → Option (Unit × Sg) :=
  gd (isGd q0 = true) (dI q0 11 (fun v1 => br (v1 < 0) (rt ()) (dI q0 11 (fun v3 => br (8 ≤ v3) (rt ()) (dI q0 11 (fun v5 => gd (inb v5 8 = true) (pI (q0 + 2) v5.toNatClampNeg x1 (dI q0 11 (fun v6 => pI q0 11 (v6 + 1) (rt ()))))))))))
def f_X2_isBeyond_b17  : Sg → Option (Int32 × Sg) :=
  rt 1
def f_X2_isBeyond (q0 : Nat) (x1 : Int32) : Sg → Option (Int32 × Sg) :=
  gd (isGd q0 = true) (dI q0 1 (fun v1 => br (x1 < (-v1)) (f_X2_isBeyond_b17) (dI q0 1 (fun v3 => br (x1 ≤ v3) (rt 0) (f_X2_isBeyond_b17)))))
def f_X2_comesTo (q0 : Nat) (x1 : Int32) (x2 : Int32) (x3 : Int32) : Sg → Option (Int32 × Sg) :=
  gd (isGd q0 = true) (dI q0 3 (fun v1 => lt ((x1 + ((x1 * x2) / 40)) + v1 : Int32) (fun w2 => br (w2 ≤ 0) (lt (if (w2 + x3) < 0 then (w2 + x3) else 0 : Int32) (fun w4 => rt w4)) (lt (if 0 < (w2 - x3) then (w2 - x3) else 0 : Int32) (fun w5 => rt w5)))))
def f_X3_add (x1 : Int32) (x2 : Int32) (x3 : Int32) (x4 : Int32) (x5 : Int32) : Sg → Option (Unit × Sg) :=
  dI 28 1 (fun v1 => br ((v1 * 5) < 0) (rt ()) (br ((v1 * 5) ≤ (3000 - 5)) (gd (inb (v1 * 5) 3000 = true) (pI 29 (v1 * 5).toNatClampNeg x1 (gd (inb ((v1 * 5) + 1) 3000 = true) (pI 29 ((v1 * 5) + 1).toNatClampNeg x2 (gd (inb ((v1 * 5) + 2) 3000 = true) (pI 29 ((v1 * 5) + 2).toNatClampNeg x3 (gd (inb ((v1 * 5) + 3) 3000 = true) (pI 29 ((v1 * 5) + 3).toNatClampNeg x4 (gd (inb ((v1 * 5) + 4) 3000 = true) (pI 29 ((v1 * 5) + 4).toNatClampNeg x5 (dI 28 1 (fun v4 => pI 28 1 (v4 + 1) (rt ()))))))))))))) (rt ())))
def f_X3_told (x1 : Int32) (x2 : Int32) : Sg → Option (Int32 × Sg) :=
  br (((x1 * 5) + x2) < 0) (rt ((-1) : Int32)) (br (3000 ≤ ((x1 * 5) + x2)) (rt ((-1) : Int32)) (gd (inb ((x1 * 5) + x2) 3000 = true) (dI 29 ((x1 * 5) + x2).toNatClampNeg (fun v3 => rt v3))))
def f_X3_nextOf_b32 (k2 : Int32 → Int32 → Sg → Option (Int32 × Sg)) (x1 : Int32) (x3 : Int32) : Sg → Option (Int32 × Sg) :=
  k2 x1 (x3 + 1)
def f_X3_nextOf_b2 : Nat → Int32 → Int32 → Sg → Option (Int32 × Sg)
  | 0, _, _ => fun _ => none
  | fu + 1, x1, x3 => dI 28 1 (fun v1 => br (v1 ≤ x3) (dI 28 1 (fun v3 => rt v3)) (cl (f_X3_told x3 1) (fun r4 => br (r4 = x1) (cl (f_X3_told x3 2) (fun r6 => br (r6 = 4) (f_X3_nextOf_b32 (f_X3_nextOf_b2 fu) x1 x3) (rt x3))) (f_X3_nextOf_b32 (f_X3_nextOf_b2 fu) x1 x3))))
def f_X3_nextOf (x1 : Int32) (x2 : Int32) : Sg → Option (Int32 × Sg) :=
  f_X3_nextOf_b2 FU x1 x2
def f_X3_pace_b128 (k33 : Int32 → Int32 → Int32 → Int32 → Int32 → Sg → Option (Unit × Sg)) (x1 : Int32) (x2 : Int32) (x3 : Int32) (x4 : Int32) (x5 : Int32) : Sg → Option (Unit × Sg) :=
  cl (f_X3_nextOf x1 (x3 + 1)) (fun r1 => cl (f_X3_nextOf x2 (x4 + 1)) (fun r2 => k33 x1 x2 r1 r2 (x5 + 1)))
def f_X3_pace_b96 (k33 : Int32 → Int32 → Int32 → Int32 → Int32 → Sg → Option (Unit × Sg)) (x1 : Int32) (x2 : Int32) (x3 : Int32) (x4 : Int32) (x5 : Int32) (xs0 : Int32) : Sg → Option (Unit × Sg) :=
  pI 28 2 xs0 (dI 28 3 (fun v1 => br (v1 = 0) (dI 28 4 (fun v3 => br (v3 = ((-1))) (pI 28 4 x5 (f_X3_pace_b128 k33 x1 x2 x3 x4 x5)) (f_X3_pace_b128 k33 x1 x2 x3 x4 x5))) (pI 28 4 ((-1)) (f_X3_pace_b128 k33 x1 x2 x3 x4 x5))))
def f_X3_pace_b33 : Nat → Int32 → Int32 → Int32 → Int32 → Int32 → Sg → Option (Unit × Sg)
  | 0, _, _, _, _, _ => fun _ => none
  | fu + 1, x1, x2, x3, x4, x5 => br (600 ≤ x5) (rt ()) (dI 28 1 (fun v2 => br (v2 ≤ x3) (rt ()) (dI 28 1 (fun v4 => br (v4 ≤ x4) (rt ()) (cl (f_X3_told x3 0) (fun r6 => cl (f_X3_told x4 0) (fun r7 => lt (if 0 ≤ (r6 - r7) then (r6 - r7) else 0 - (r6 - r7) : Int32) (fun w8 => pI 28 3 w8 (br (x5 = 0) (dI 28 3 (fun v10 => f_X3_pace_b96 (f_X3_pace_b33 fu) x1 x2 x3 x4 x5 v10)) (dI 28 2 (fun v11 => f_X3_pace_b96 (f_X3_pace_b33 fu) x1 x2 x3 x4 x5 v11)))))))))))
def f_X3_pace (x1 : Int32) (x2 : Int32) : Sg → Option (Unit × Sg) :=
  pI 28 2 ((-1)) (pI 28 3 ((-1)) (pI 28 4 ((-1)) (cl (f_X3_nextOf x1 0) (fun r1 => cl (f_X3_nextOf x2 0) (fun r2 => f_X3_pace_b33 FU x1 x2 r1 r2 0)))))
def f_X4_flyer (x1 : Int32) : Sg → Option (Nat × Sg) :=
  lt (if (4 - 1) < x1 then (4 - 1) else x1 : Int32) (fun w1 => lt (if 0 < w1 then w1 else 0 : Int32) (fun w2 => gd (inb w2 4 = true) (lt (18 + 1 + 2 * w2.toNatClampNeg) (fun u3 => gd (isFl u3 = true) (rt u3)))))
def f_X4_begin_b40  : Sg → Option (Unit × Sg) :=
  pI 28 1 0 (pI 17 5 0 (pI 17 6 1 (pI 17 7 0 (gd (inb 0 4 = true) (lt (18 + 1 + 2 * (0 : Int32).toNatClampNeg) (fun u1 => gd (isFl u1 = true) (pR 17 8 u1 (pI 17 9 0 (pI 17 10 0 (pI 17 11 0 (pI 17 12 0 (pI 17 13 0 (pI 17 14 ((-1)) (pI 17 15 0 (rt ())))))))))))))))
def f_X4_begin_b15 : Nat → Nat → Int32 → Sg → Option (Unit × Sg)
  | 0, _, _ => fun _ => none
  | fu + 1, q2, x3 => gd (isSc q2 = true) (br (4 ≤ x3) (f_X4_begin_b40) (gd (inb x3 4 = true) (lt (18 + 1 + 2 * x3.toNatClampNeg) (fun u2 => gd (isFl u2 = true) (cl (f_X1_begin u2 q2) (fun _ => (f_X4_begin_b15 fu) q2 (x3 + 1)))))))
def f_X4_begin (q1 : Nat) (q2 : Nat) : Sg → Option (Unit × Sg) :=
  gd (isGd q1 = true) (gd (isSc q2 = true) (pR 17 3 q1 (dI q2 2 (fun v1 => pI 17 4 v1 (f_X4_begin_b15 FU q2 0)))))
def f_X4_keepOnly_b29 (k2 : Int32 → Int32 → Sg → Option (Unit × Sg)) (x1 : Int32) (x2 : Int32) : Sg → Option (Unit × Sg) :=
  k2 x1 (x2 + 1)
def f_X4_keepOnly_b2 : Nat → Int32 → Int32 → Sg → Option (Unit × Sg)
  | 0, _, _ => fun _ => none
  | fu + 1, x1, x2 => br (4 ≤ x2) (rt ()) (br (((x1 >>> (x2 &&& 31)) &&& 1) = 0) (gd (inb x2 4 = true) (lt (18 + 1 + 2 * x2.toNatClampNeg) (fun u3 => gd (isFl u3 = true) (pI u3 5 4 (f_X4_keepOnly_b29 (f_X4_keepOnly_b2 fu) x1 x2))))) (f_X4_keepOnly_b29 (f_X4_keepOnly_b2 fu) x1 x2))
def f_X4_keepOnly (x1 : Int32) : Sg → Option (Unit × Sg) :=
  f_X4_keepOnly_b2 FU x1 0
def f_X4_hurt_b23 (q1 : Nat) (x2 : Int32) : Sg → Option (Unit × Sg) :=
  gd (isFl q1 = true) (dI 17 14 (fun v1 => br (v1 = x2) (dI 17 15 (fun v3 => dI q1 0 (fun v4 => pI 17 15 (v3 ||| ((1 : Int32) <<< (v4 &&& 31))) (rt ())))) (rt ())))
def f_X4_hurt (q1 : Nat) (x2 : Int32) : Sg → Option (Unit × Sg) :=
  gd (isFl q1 = true) (dI q1 13 (fun v1 => pI q1 13 (v1 + 1) (dI 17 14 (fun v2 => br (v2 = ((-1))) (pI 17 14 x2 (f_X4_hurt_b23 q1 x2)) (f_X4_hurt_b23 q1 x2)))))
def f_X4_knock_b71 (k5 : Nat → Int32 → Int32 → Int32 → Sg → Option (Unit × Sg)) (q1 : Nat) (x2 : Int32) (x3 : Int32) (x4 : Int32) : Sg → Option (Unit × Sg) :=
  gd (isFl q1 = true) (k5 q1 x2 x3 (x4 + 1))
def f_X4_knock_b77 (q1 : Nat) (x2 : Int32) (x3 : Int32) : Sg → Option (Unit × Sg) :=
  gd (isFl q1 = true) (br (x3 = 0) (rt ()) (cl (f_X1_addKind q1 5) (fun _ => cl (f_X4_hurt q1 x2) (fun _ => rt ()))))
def f_X4_knock_b5 : Nat → Nat → Int32 → Int32 → Int32 → Sg → Option (Unit × Sg)
  | 0, _, _, _, _ => fun _ => none
  | fu + 1, q1, x2, x3, x4 => gd (isFl q1 = true) (br (4 ≤ x4) (f_X4_knock_b77 q1 x2 x3) (gd (inb x4 4 = true) (lt (18 + 1 + 2 * x4.toNatClampNeg) (fun u2 => gd (isFl u2 = true) (dI u2 5 (fun v3 => br (v3 = 2) (dI u2 6 (fun v5 => dI q1 6 (fun v6 => lt (if 0 ≤ (v5 - v6) then (v5 - v6) else 0 - (v5 - v6) : Int32) (fun w7 => dR 17 3 (fun u8 => gd (isGd u8 = true) (dI u8 4 (fun v9 => br (v9 < w7) (f_X4_knock_b71 (f_X4_knock_b5 fu) q1 x2 x3 x4) (cl (f_X1_addKind u2 5) (fun _ => cl (f_X4_hurt u2 x2) (fun _ => f_X4_knock_b71 (f_X4_knock_b5 fu) q1 x2 1 x4)))))))))) (f_X4_knock_b71 (f_X4_knock_b5 fu) q1 x2 x3 x4)))))))
def f_X4_knock (q1 : Nat) (x2 : Int32) : Sg → Option (Unit × Sg) :=
  gd (isFl q1 = true) (f_X4_knock_b5 FU q1 x2 0 0)
def f_X4_press_b79 (q1 : Nat) (x2 : Int32) (x4 : Int32) : Sg → Option (Int32 × Sg) :=
  gd (isFl q1 = true) (pR 17 8 q1 (dI 17 9 (fun v1 => pI 17 9 (v1 + x2) (dI 17 10 (fun v2 => pI 17 10 (v2 + x2) (rt x4))))))
def f_X4_press_b45 (q1 : Nat) (x2 : Int32) (x3 : Int32) : Sg → Option (Int32 × Sg) :=
  gd (isFl q1 = true) (dI 17 6 (fun v1 => br (v1 = 0) (dR 17 8 (fun u3 => gd (isFl u3 = true) (cl (f_X1_addKind u3 2) (fun _ => f_X4_press_b79 q1 x2 1)))) (pI 17 6 0 (pI 17 7 x3 (f_X4_press_b79 q1 x2 0)))))
def f_X4_press (q1 : Nat) (x2 : Int32) (x3 : Int32) : Sg → Option (Int32 × Sg) :=
  gd (isFl q1 = true) (dI 17 6 (fun v1 => br (v1 = 0) (dI 17 7 (fun v3 => dR 17 3 (fun u4 => gd (isGd u4 = true) (dI u4 0 (fun v5 => br ((x3 - v3) < v5) (f_X4_press_b45 q1 x2 x3) (dI q1 14 (fun v7 => pI q1 14 (v7 + x2) (dI 17 11 (fun v8 => pI 17 11 (v8 + x2) (rt (3 : Int32))))))))))) (f_X4_press_b45 q1 x2 x3)))
def f_X4_land_b66 (q1 : Nat) (x2 : Int32) (x3 : Int32) (x4 : Int32) : Sg → Option (Unit × Sg) :=
  gd (isFl q1 = true) (cl (f_X1_addKind q1 x4) (fun _ => dI q1 0 (fun v1 => dI q1 6 (fun v2 => cl (f_X3_add x2 v1 x4 v2 x3) (fun _ => rt ())))))
def f_X4_land (q1 : Nat) (x2 : Int32) : Sg → Option (Unit × Sg) :=
  gd (isFl q1 = true) (dI q1 1 (fun v1 => dI q1 7 (fun v2 => dR 17 3 (fun u3 => gd (isGd u3 = true) (dI q1 6 (fun v4 => cl (f_X2_isBeyond u3 v4) (fun r5 => br (r5 = 0) (cl (f_X4_knock q1 x2) (fun _ => pI q1 5 2 (pI q1 8 x2 (cl (f_X4_press q1 (v1 * v2) x2) (fun r7 => f_X4_land_b66 q1 x2 (v1 * v2) r7))))) (pI q1 5 3 (cl (f_X4_hurt q1 x2) (fun _ => f_X4_land_b66 q1 x2 (v1 * v2) 4))))))))))
def f_X4_landAll_b47 (k2 : Int32 → Int32 → Sg → Option (Unit × Sg)) (x1 : Int32) (x2 : Int32) : Sg → Option (Unit × Sg) :=
  k2 x1 (x2 + 1)
def f_X4_landAll_b2 : Nat → Int32 → Int32 → Sg → Option (Unit × Sg)
  | 0, _, _ => fun _ => none
  | fu + 1, x1, x2 => br (4 ≤ x2) (rt ()) (gd (inb x2 4 = true) (lt (18 + 1 + 2 * x2.toNatClampNeg) (fun u2 => gd (isFl u2 = true) (cl (f_X1_isComing u2) (fun r3 => br (r3 = 0) (f_X4_landAll_b47 (f_X4_landAll_b2 fu) x1 x2) (gd (inb x2 4 = true) (lt (18 + 1 + 2 * x2.toNatClampNeg) (fun u5 => gd (isFl u5 = true) (dI u5 9 (fun v6 => br (v6 = x1) (gd (inb x2 4 = true) (lt (18 + 1 + 2 * x2.toNatClampNeg) (fun u8 => gd (isFl u8 = true) (cl (f_X4_land u8 x1) (fun _ => f_X4_landAll_b47 (f_X4_landAll_b2 fu) x1 x2))))) (f_X4_landAll_b47 (f_X4_landAll_b2 fu) x1 x2)))))))))))
def f_X4_landAll (x1 : Int32) : Sg → Option (Unit × Sg) :=
  f_X4_landAll_b2 FU x1 0
def f_X4_riseEnds  : Sg → Option (Int32 × Sg) :=
  dI 17 7 (fun v1 => dR 17 3 (fun u2 => gd (isGd u2 = true) (dI u2 0 (fun v3 => rt (v1 + (2 * v3))))))
def f_X4_countOthers_b90 (k10 : Nat → Int32 → Int32 → Int32 → Int32 → Sg → Option (Unit × Sg)) (q1 : Nat) (x2 : Int32) (x3 : Int32) (x4 : Int32) (x5 : Int32) : Sg → Option (Unit × Sg) :=
  gd (isFl q1 = true) (k10 q1 x2 x3 x4 (x5 + 1))
def f_X4_countOthers_b87 (k10 : Nat → Int32 → Int32 → Int32 → Int32 → Sg → Option (Unit × Sg)) (q1 : Nat) (x2 : Int32) (x3 : Int32) (x5 : Int32) (xs0 : Int32) (xs1 : Int32) : Sg → Option (Unit × Sg) :=
  gd (isFl q1 = true) (f_X4_countOthers_b90 k10 q1 x2 x3 (xs1 + xs0) x5)
def f_X4_countOthers_b96 (x2 : Int32) (x3 : Int32) (x4 : Int32) : Sg → Option (Unit × Sg) :=
  pI 27 (5 : Int32).toNatClampNeg x2 (pI 27 (6 : Int32).toNatClampNeg x3 (pI 27 (7 : Int32).toNatClampNeg x4 (rt ())))
def f_X4_countOthers_b10 : Nat → Nat → Int32 → Int32 → Int32 → Int32 → Sg → Option (Unit × Sg)
  | 0, _, _, _, _, _ => fun _ => none
  | fu + 1, q1, x2, x3, x4, x5 => gd (isFl q1 = true) (br (4 ≤ x5) (f_X4_countOthers_b96 x2 x3 x4) (gd (inb x5 4 = true) (lt (18 + 1 + 2 * x5.toNatClampNeg) (fun u2 => gd (isFl u2 = true) (dI q1 0 (fun v3 => br (x5 = v3) (f_X4_countOthers_b90 (f_X4_countOthers_b10 fu) q1 x2 x3 x4 x5) (dI u2 5 (fun v5 => br (v5 = 1) (f_X4_countOthers_b90 (f_X4_countOthers_b10 fu) q1 (x2 + 1) x3 x4 x5) (dI u2 5 (fun v7 => br (v7 = 2) (dI u2 1 (fun v9 => dI q1 1 (fun v10 => br (v9 ≤ v10) (f_X4_countOthers_b87 (f_X4_countOthers_b10 fu) q1 x2 (x3 + 1) x5 0 x4) (f_X4_countOthers_b87 (f_X4_countOthers_b10 fu) q1 x2 (x3 + 1) x5 1 x4)))) (f_X4_countOthers_b90 (f_X4_countOthers_b10 fu) q1 x2 x3 x4 x5)))))))))))
def f_X4_countOthers (q1 : Nat) : Sg → Option (Unit × Sg) :=
  gd (isFl q1 = true) (f_X4_countOthers_b10 FU q1 0 0 0 0)
def f_X6_join_b56  : Sg → Option (Int32 × Sg) :=
  rt (1 : Int32)
def f_X6_join (x0 : Int32) (x1 : Int32) (x2 : Int32) : Sg → Option (Int32 × Sg) :=
  br (x0 = -8) (rt (x1 * x2)) (br (x0 = -7) (rt (x1 - x2)) (br (x0 = -6) (rt (x1 + x2)) (br (x0 = -5) (br (x1 = x2) (rt (1 : Int32)) (rt (0 : Int32))) (br (x0 = -4) (br (x2 ≤ x1) (rt (0 : Int32)) (rt (1 : Int32))) (br (x0 = -3) (br (x2 = 0) (rt (0 : Int32)) (gd (¬ x2 = 0) (rt (x1 / x2)))) (br (x0 = -2) (br (x1 = 0) (rt (0 : Int32)) (br (x2 = 0) (rt (0 : Int32)) (rt (1 : Int32)))) (br (x0 = -1) (br (x1 = 0) (br (x2 = 0) (rt (0 : Int32)) (f_X6_join_b56)) (f_X6_join_b56)) (br (x2 = 0) (rt (0 : Int32)) (gd (¬ x2 = 0) (rt (x1 / x2)))))))))))
def f_X6_holds_b218 (k43 : Nat → Int32 → Int32 → Int32 → Sg → Option (Int32 × Sg)) (q0 : Nat) (x1 : Int32) (x3 : Int32) (x4 : Int32) : Sg → Option (Int32 × Sg) :=
  gd (isRu q0 = true) (k43 q0 x1 x3 (x4 + 1))
def f_X6_holds_b115 (k43 : Nat → Int32 → Int32 → Int32 → Sg → Option (Int32 × Sg)) (q0 : Nat) (x1 : Int32) (x3 : Int32) (x4 : Int32) (xs0 : Int32) : Sg → Option (Int32 × Sg) :=
  gd (isRu q0 = true) (lt (if 40 < (x3 + 1) then 40 else (x3 + 1) : Int32) (fun w1 => gd (inb (w1 - 1) 40 = true) (pI (q0 + 3) (w1 - 1).toNatClampNeg xs0 (f_X6_holds_b218 k43 q0 x1 w1 x4))))
def f_X6_holds_b90 (k43 : Nat → Int32 → Int32 → Int32 → Sg → Option (Int32 × Sg)) (q0 : Nat) (x1 : Int32) (x3 : Int32) (x4 : Int32) (x5 : Int32) (x6 : Int32) : Sg → Option (Int32 × Sg) :=
  gd (isRu q0 = true) (br (x5 < 0) (br (8 ≤ x6) (f_X6_holds_b115 k43 q0 x1 x3 x4 0) (gd (inb x6 8 = true) (dI 27 x6.toNatClampNeg (fun v3 => f_X6_holds_b115 k43 q0 x1 x3 x4 v3)))) (f_X6_holds_b115 k43 q0 x1 x3 x4 x5))
def f_X6_holds_b177 (k43 : Nat → Int32 → Int32 → Int32 → Sg → Option (Int32 × Sg)) (q0 : Nat) (x1 : Int32) (x3 : Int32) (x4 : Int32) (xs0 : Int32) (xs1 : Int32) : Sg → Option (Int32 × Sg) :=
  gd (isRu q0 = true) (gd (inb xs1 40 = true) (pI (q0 + 3) xs1.toNatClampNeg xs0 (f_X6_holds_b218 k43 q0 x1 x3 x4)))
def f_X6_holds_b181 (k43 : Nat → Int32 → Int32 → Int32 → Sg → Option (Int32 × Sg)) (q0 : Nat) (x1 : Int32) (x3 : Int32) (x4 : Int32) (x5 : Int32) : Sg → Option (Int32 × Sg) :=
  gd (isRu q0 = true) (br (x3 < 2) (f_X6_holds_b218 k43 q0 x1 x3 x4) (gd (inb (x3 - 2) 40 = true) (dI (q0 + 3) (x3 - 2).toNatClampNeg (fun v2 => gd (inb (x3 - 1) 40 = true) (dI (q0 + 3) (x3 - 1).toNatClampNeg (fun v3 => cl (f_X6_join x5 v2 v3) (fun r4 => gd (inb (x3 - 2) 40 = true) (pI (q0 + 3) (x3 - 2).toNatClampNeg r4 (f_X6_holds_b218 k43 q0 x1 (x3 + (-1)) x4)))))))))
def f_X6_holds_b224 (q0 : Nat) (x3 : Int32) : Sg → Option (Int32 × Sg) :=
  gd (isRu q0 = true) (br (x3 < 1) (rt 0) (gd (inb (x3 - 1) 40 = true) (dI (q0 + 3) (x3 - 1).toNatClampNeg (fun v2 => br (v2 = 0) (rt 0) (rt 1)))))
def f_X6_holds_b43 : Nat → Nat → Int32 → Int32 → Int32 → Sg → Option (Int32 × Sg)
  | 0, _, _, _, _ => fun _ => none
  | fu + 1, q0, x1, x3, x4 => gd (isRu q0 = true) (gd (inb x1 4 = true) (dI (q0 + 2) x1.toNatClampNeg (fun v1 => br (v1 ≤ x4) (f_X6_holds_b224 q0 x3) (br (600 ≤ x4) (f_X6_holds_b224 q0 x3) (gd (inb x4 600 = true) (dI (q0 + 1) x4.toNatClampNeg (fun v4 => br (0 ≤ v4) (f_X6_holds_b90 (f_X6_holds_b43 fu) q0 x1 x3 x4 v4 (((-10)) - v4)) (br ((((-10)) - v4) < 0) (br (v4 = ((-3))) (br (x3 < 1) (f_X6_holds_b181 (f_X6_holds_b43 fu) q0 x1 x3 x4 v4) (gd (inb (x3 - 1) 40 = true) (dI (q0 + 3) (x3 - 1).toNatClampNeg (fun v9 => br (v9 = 0) (f_X6_holds_b177 (f_X6_holds_b43 fu) q0 x1 x3 x4 1 (x3 - 1)) (f_X6_holds_b177 (f_X6_holds_b43 fu) q0 x1 x3 x4 0 (x3 - 1)))))) (f_X6_holds_b181 (f_X6_holds_b43 fu) q0 x1 x3 x4 v4)) (f_X6_holds_b90 (f_X6_holds_b43 fu) q0 x1 x3 x4 v4 (((-10)) - v4))))))))))
def f_X6_holds_b41 (q0 : Nat) (x1 : Int32) (x3 : Int32) (xs0 : Int32) : Sg → Option (Int32 × Sg) :=
  gd (isRu q0 = true) (f_X6_holds_b43 FU q0 x1 x3 xs0)
def f_X6_holds (q0 : Nat) (x1 : Int32) : Sg → Option (Int32 × Sg) :=
  gd (isRu q0 = true) (br (x1 < 0) (rt 1) (dI q0 4 (fun v2 => br (v2 ≤ x1) (rt 1) (br (x1 < 4) (br (x1 = 0) (f_X6_holds_b41 q0 x1 0 0) (gd (inb (x1 - 1) 4 = true) (dI (q0 + 2) (x1 - 1).toNatClampNeg (fun v6 => f_X6_holds_b41 q0 x1 0 v6)))) (rt 1)))))
def f_X4_mayGo (q1 : Nat) (x2 : Int32) (x3 : Int32) : Sg → Option (Int32 × Sg) :=
  gd (isFl q1 = true) (dI 17 4 (fun v1 => br (v1 = ((-1))) (rt 1) (dI q1 0 (fun v3 => pI 27 (0 : Int32).toNatClampNeg v3 (dI q1 1 (fun v4 => pI 27 (1 : Int32).toNatClampNeg v4 (pI 27 (2 : Int32).toNatClampNeg x2 (dI q1 6 (fun v5 => pI 27 (3 : Int32).toNatClampNeg v5 (pI 27 (4 : Int32).toNatClampNeg x3 (cl (f_X4_countOthers q1) (fun _ => dR 17 3 (fun u6 => gd (isGd u6 = true) (dI 17 4 (fun v7 => cl (f_X6_holds (u6 + 3) v7) (fun r8 => gd (r8 = 0 ∨ r8 = 1) (rt r8)))))))))))))))))
def f_X4_send (q1 : Nat) (x2 : Int32) (x3 : Int32) : Sg → Option (Unit × Sg) :=
  gd (isFl q1 = true) (dR 17 3 (fun u1 => gd (isGd u1 = true) (dI q1 6 (fun v2 => dI q1 4 (fun v3 => cl (f_X2_comesTo u1 v2 x2 v3) (fun r4 => cl (f_X1_rise q1 x2 x3 r4) (fun _ => rt ())))))))
def f_X4_endRise_b52 (x1 : Int32) (q2 : Nat) (xs0 : Int32) : Sg → Option (Unit × Sg) :=
  gd (isFl q2 = true) (dI q2 2 (fun v1 => lt (if 999 < (xs0 + v1) then 999 else (xs0 + v1) : Int32) (fun w2 => pI 17 9 0 (pI 17 6 1 (dI 17 13 (fun v3 => pI 17 13 (v3 + 1) (cl (f_X4_mayGo q2 w2 x1) (fun r4 => br (r4 = 0) (rt ()) (dI 17 12 (fun v6 => dI q2 1 (fun v7 => pI 17 12 (v6 + (xs0 * v7)) (cl (f_X4_send q2 w2 x1) (fun _ => rt ())))))))))))))
def f_X4_endRise (x1 : Int32) : Sg → Option (Unit × Sg) :=
  dI 17 6 (fun v1 => br (v1 = 0) (cl (f_X4_riseEnds) (fun r3 => br (r3 ≤ x1) (dR 17 8 (fun u5 => gd (isFl u5 = true) (dI u5 1 (fun v6 => br (v6 ≤ 0) (f_X4_endRise_b52 x1 u5 0) (dI 17 9 (fun v8 => dR 17 3 (fun u9 => gd (isGd u9 = true) (dI u9 2 (fun v10 => dI u5 1 (fun v11 => gd (¬ v11 = 0) (f_X4_endRise_b52 x1 u5 (((v8 * v10) / 100) / v11)))))))))))) (rt ()))) (rt ()))
def f_X4_restEnds (q1 : Nat) : Sg → Option (Int32 × Sg) :=
  gd (isFl q1 = true) (dI q1 8 (fun v1 => dR 17 3 (fun u2 => gd (isGd u2 = true) (dI u2 0 (fun v3 => rt (v1 + (2 * v3)))))))
def f_X4_canPush (q0 : Nat) : Sg → Option (Int32 × Sg) :=
  gd (isFl q0 = true) (dI q0 5 (fun v1 => br (v1 = 2) (dI q0 2 (fun v3 => br (v3 ≤ 0) (rt 0) (rt 1))) (rt 0)))
def f_X4_sendOthers_b77 (k10 : Int32 → Int32 → Sg → Option (Unit × Sg)) (x1 : Int32) (x2 : Int32) : Sg → Option (Unit × Sg) :=
  k10 x1 (x2 + 1)
def f_X4_sendOthers_b40 (k10 : Int32 → Int32 → Sg → Option (Unit × Sg)) (x1 : Int32) (x2 : Int32) (q3 : Nat) (xs0 : Int32) : Sg → Option (Unit × Sg) :=
  gd (isFl q3 = true) (cl (f_X4_canPush q3) (fun r1 => br (r1 = 0) (f_X4_sendOthers_b77 k10 x1 x2) (br (xs0 = 0) (f_X4_sendOthers_b77 k10 x1 x2) (dI q3 2 (fun v4 => cl (f_X4_mayGo q3 v4 x1) (fun r5 => br (r5 = 0) (f_X4_sendOthers_b77 k10 x1 x2) (dI q3 2 (fun v7 => cl (f_X4_send q3 v7 x1) (fun _ => f_X4_sendOthers_b77 k10 x1 x2)))))))))
def f_X4_sendOthers_b10 : Nat → Int32 → Int32 → Sg → Option (Unit × Sg)
  | 0, _, _ => fun _ => none
  | fu + 1, x1, x2 => br (4 ≤ x2) (rt ()) (gd (inb x2 4 = true) (lt (18 + 1 + 2 * x2.toNatClampNeg) (fun u2 => gd (isFl u2 = true) (cl (f_X4_restEnds u2) (fun r3 => br (x1 < r3) (f_X4_sendOthers_b40 (f_X4_sendOthers_b10 fu) x1 x2 u2 0) (f_X4_sendOthers_b40 (f_X4_sendOthers_b10 fu) x1 x2 u2 1))))))
def f_X4_sendOthers (x1 : Int32) : Sg → Option (Unit × Sg) :=
  dI 17 6 (fun v1 => br (v1 = 0) (rt ()) (f_X4_sendOthers_b10 FU x1 0))
def f_X4_nextDue_b78 (k19 : Int32 → Int32 → Sg → Option (Int32 × Sg)) (x1 : Int32) (x2 : Int32) : Sg → Option (Int32 × Sg) :=
  k19 x1 (x2 + 1)
def f_X4_nextDue_b19 : Nat → Int32 → Int32 → Sg → Option (Int32 × Sg)
  | 0, _, _ => fun _ => none
  | fu + 1, x1, x2 => br (4 ≤ x2) (rt x1) (gd (inb x2 4 = true) (lt (18 + 1 + 2 * x2.toNatClampNeg) (fun u2 => gd (isFl u2 = true) (cl (f_X1_isComing u2) (fun r3 => br (r3 = 0) (dI 17 6 (fun v5 => br (v5 = 0) (f_X4_nextDue_b78 (f_X4_nextDue_b19 fu) x1 x2) (cl (f_X4_canPush u2) (fun r7 => br (r7 = 0) (f_X4_nextDue_b78 (f_X4_nextDue_b19 fu) x1 x2) (cl (f_X4_restEnds u2) (fun r9 => lt (if r9 < x1 then r9 else x1 : Int32) (fun w10 => f_X4_nextDue_b78 (f_X4_nextDue_b19 fu) w10 x2))))))) (dI u2 9 (fun v11 => lt (if v11 < x1 then v11 else x1 : Int32) (fun w12 => f_X4_nextDue_b78 (f_X4_nextDue_b19 fu) w12 x2))))))))
def f_X4_nextDue_b16 (xs0 : Int32) : Sg → Option (Int32 × Sg) :=
  f_X4_nextDue_b19 FU xs0 0
def f_X4_nextDue  : Sg → Option (Int32 × Sg) :=
  dI 17 6 (fun v1 => br (v1 = 0) (cl (f_X4_riseEnds) (fun r3 => f_X4_nextDue_b16 r3)) (f_X4_nextDue_b16 1000000))
def f_X4_go_b38 (k2 : Int32 → Int32 → Sg → Option (Unit × Sg)) (x2 : Int32) (x3 : Int32) : Sg → Option (Unit × Sg) :=
  k2 x2 (x3 + 1)
def f_X4_go_b2 : Nat → Int32 → Int32 → Sg → Option (Unit × Sg)
  | 0, _, _ => fun _ => none
  | fu + 1, x2, x3 => br (x2 ≤ x3) (rt ()) (dI 17 5 (fun v2 => br (x3 < v2) (f_X4_go_b38 (f_X4_go_b2 fu) x2 x3) (cl (f_X4_landAll x3) (fun _ => cl (f_X4_endRise x3) (fun _ => cl (f_X4_sendOthers x3) (fun _ => cl (f_X4_nextDue) (fun r4 => pI 17 5 r4 (f_X4_go_b38 (f_X4_go_b2 fu) x2 x3))))))))
def f_X4_go (x1 : Int32) (x2 : Int32) : Sg → Option (Unit × Sg) :=
  f_X4_go_b2 FU x2 x1
def f_X4_hurtsOfAll_b4 : Nat → Int32 → Int32 → Sg → Option (Int32 × Sg)
  | 0, _, _ => fun _ => none
  | fu + 1, x1, x2 => br (4 ≤ x2) (rt x1) (gd (inb x2 4 = true) (lt (18 + 1 + 2 * x2.toNatClampNeg) (fun u2 => gd (isFl u2 = true) (dI u2 13 (fun v3 => (f_X4_hurtsOfAll_b4 fu) (x1 + v3) (x2 + 1))))))
def f_X4_hurtsOfAll  : Sg → Option (Int32 × Sg) :=
  f_X4_hurtsOfAll_b4 FU 0 0
def f_X4_funOfAll_b4 : Nat → Int32 → Int32 → Sg → Option (Int32 × Sg)
  | 0, _, _ => fun _ => none
  | fu + 1, x1, x2 => br (4 ≤ x2) (rt x1) (gd (inb x2 4 = true) (lt (18 + 1 + 2 * x2.toNatClampNeg) (fun u2 => gd (isFl u2 = true) (dI u2 12 (fun v3 => (f_X4_funOfAll_b4 fu) (x1 + v3) (x2 + 1))))))
def f_X4_funOfAll  : Sg → Option (Int32 × Sg) :=
  f_X4_funOfAll_b4 FU 0 0
def f_X5_behindBlanks_b50 (k5 : Int32 → Sg → Option (Int32 × Sg)) (x1 : Int32) : Sg → Option (Int32 × Sg) :=
  k5 (x1 + 1)
def f_X5_behindBlanks_b5 : Nat → Int32 → Sg → Option (Int32 × Sg)
  | 0, _ => fun _ => none
  | fu + 1, x1 => br (x1 < 0) (dI 15 1 (fun v2 => rt v2)) (dI 15 1 (fun v3 => br (v3 ≤ x1) (dI 15 1 (fun v5 => rt v5)) (dR 15 0 (fun u6 => gd (u6 = 1) (br (600 ≤ x1) (dI 15 1 (fun v8 => rt v8)) (dR 15 0 (fun u9 => gd (u9 = 1) (gd (inb x1 600 = true) (dI 1 x1.toNatClampNeg (fun v10 => br (v10 = 32) (f_X5_behindBlanks_b50 (f_X5_behindBlanks_b5 fu) x1) (dR 15 0 (fun u12 => gd (u12 = 1) (gd (inb x1 600 = true) (dI 1 x1.toNatClampNeg (fun v13 => br (v13 = 10) (f_X5_behindBlanks_b50 (f_X5_behindBlanks_b5 fu) x1) (rt x1))))))))))))))))
def f_X5_behindBlanks  : Sg → Option (Int32 × Sg) :=
  dI 15 2 (fun v1 => f_X5_behindBlanks_b5 FU v1)
def f_X5_behindRow_b5 : Nat → Int32 → Int32 → Int32 → Sg → Option (Int32 × Sg)
  | 0, _, _, _ => fun _ => none
  | fu + 1, x1, x2, x3 => br (x3 < 0) (dI 15 1 (fun v2 => rt v2)) (dI 15 1 (fun v3 => br (v3 ≤ x3) (dI 15 1 (fun v5 => rt v5)) (dR 15 0 (fun u6 => gd (u6 = 1) (br (600 ≤ x3) (dI 15 1 (fun v8 => rt v8)) (dR 15 0 (fun u9 => gd (u9 = 1) (gd (inb x3 600 = true) (dI 1 x3.toNatClampNeg (fun v10 => br (v10 < x1) (rt x3) (dR 15 0 (fun u12 => gd (u12 = 1) (gd (inb x3 600 = true) (dI 1 x3.toNatClampNeg (fun v13 => br (v13 ≤ x2) ((f_X5_behindRow_b5 fu) x1 x2 (x3 + 1)) (rt x3))))))))))))))))
def f_X5_behindRow (x1 : Int32) (x2 : Int32) : Sg → Option (Int32 × Sg) :=
  dI 15 4 (fun v1 => f_X5_behindRow_b5 FU x1 x2 v1)
def f_X5_valueOfRow_b24 : Nat → Int32 → Int32 → Sg → Option (Int32 × Sg)
  | 0, _, _ => fun _ => none
  | fu + 1, x1, x2 => br (x2 < 0) (rt x1) (dI 15 2 (fun v2 => br (v2 ≤ x2) (rt x1) (dR 15 0 (fun u4 => gd (u4 = 1) (br (600 ≤ x2) (rt x1) (dR 15 0 (fun u6 => gd (u6 = 1) (gd (inb x2 600 = true) (dI 1 x2.toNatClampNeg (fun v7 => lt (((x1 * 10) + v7) - 48 : Int32) (fun w8 => (f_X5_valueOfRow_b24 fu) w8 (x2 + 1))))))))))))
def f_X5_valueOfRow  : Sg → Option (Int32 × Sg) :=
  dI 15 2 (fun v1 => dI 15 4 (fun v2 => br ((v1 - v2) ≤ 4) (dI 15 4 (fun v4 => f_X5_valueOfRow_b24 FU 0 v4)) (rt (10000 : Int32))))
def f_X5_next_b46  : Sg → Option (Unit × Sg) :=
  pI 15 3 258 (rt ())
def f_X5_next_b162 (xs0 : Int32) : Sg → Option (Unit × Sg) :=
  pI 15 3 xs0 (dI 15 4 (fun v1 => pI 15 2 (v1 + 1) (rt ())))
def f_X5_next_b145 (x1 : Int32) : Sg → Option (Unit × Sg) :=
  cl (f_Sidx 1 x1) (fun r1 => br (r1 < 0) (f_X5_next_b162 259) (f_X5_next_b162 x1))
def f_X5_next_b103 (x1 : Int32) : Sg → Option (Unit × Sg) :=
  br (x1 < 48) (f_X5_next_b145 x1) (br (57 < x1) (f_X5_next_b145 x1) (pI 15 3 257 (cl (f_X5_behindRow 48 57) (fun r3 => pI 15 2 r3 (cl (f_X5_valueOfRow) (fun r4 => pI 15 5 r4 (rt ())))))))
def f_X5_next  : Sg → Option (Unit × Sg) :=
  cl (f_X5_behindBlanks) (fun r1 => pI 15 4 r1 (dI 15 4 (fun v2 => pI 15 2 v2 (dI 15 4 (fun v3 => br (v3 < 0) (f_X5_next_b46) (dI 15 4 (fun v5 => dI 15 1 (fun v6 => br (v6 ≤ v5) (f_X5_next_b46) (dI 15 4 (fun v8 => dR 15 0 (fun u9 => gd (u9 = 1) (br (v8 < 600) (dR 15 0 (fun u11 => gd (u11 = 1) (dI 15 4 (fun v12 => gd (inb v12 600 = true) (dI 1 v12.toNatClampNeg (fun v13 => lt (((v13 &&& 255).toUInt32 % 65536).toInt32 : Int32) (fun w14 => br (w14 < 97) (f_X5_next_b103 w14) (br (122 < w14) (f_X5_next_b103 w14) (pI 15 3 256 (cl (f_X5_behindRow 97 122) (fun r17 => pI 15 2 r17 (rt ())))))))))))) (f_X5_next_b46)))))))))))))
def f_X5_begin (q1 : Nat) (x2 : Int32) : Sg → Option (Unit × Sg) :=
  gd (q1 = 1) (pR 15 0 1 (lt (if 600 < x2 then 600 else x2 : Int32) (fun w1 => pI 15 1 w1 (pI 15 2 0 (cl (f_X5_next) (fun _ => rt ()))))))
def f_X5_isWord_b30 : Nat → Nat → Int32 → Sg → Option (Int32 × Sg)
  | 0, _, _ => fun _ => none
  | fu + 1, q1, x2 => gd (q1 < 22) (cl (f_Slen q1) (fun r1 => br (r1 ≤ x2) (rt 1) (dI 15 4 (fun v3 => br ((v3 + x2) < 0) (rt 0) (dR 15 0 (fun u5 => gd (u5 = 1) (br (600 ≤ (v3 + x2)) (rt 0) (dR 15 0 (fun u7 => gd (u7 = 1) (gd (inb (v3 + x2) 600 = true) (dI 1 (v3 + x2).toNatClampNeg (fun v8 => gd (q1 < 22) (cl (f_SchAt q1 x2) (fun r9 => br (v8 = r9) ((f_X5_isWord_b30 fu) q1 (x2 + 1)) (rt 0)))))))))))))))
def f_X5_isWord (q1 : Nat) : Sg → Option (Int32 × Sg) :=
  dI 15 3 (fun v1 => br (v1 = 256) (dI 15 2 (fun v3 => dI 15 4 (fun v4 => gd (q1 < 22) (cl (f_Slen q1) (fun r5 => br ((v3 - v4) = r5) (f_X5_isWord_b30 FU q1 0) (rt 0)))))) (rt 0))
def f_X6_add (q0 : Nat) (x1 : Int32) : Sg → Option (Unit × Sg) :=
  gd (isRu q0 = true) (dI q0 3 (fun v1 => br (v1 < 0) (rt ()) (dI q0 3 (fun v3 => br (600 ≤ v3) (rt ()) (dI q0 3 (fun v5 => gd (inb v5 600 = true) (pI (q0 + 1) v5.toNatClampNeg x1 (dI q0 3 (fun v6 => pI q0 3 (v6 + 1) (rt ()))))))))))
def f_X6_endRule (q0 : Nat) : Sg → Option (Unit × Sg) :=
  gd (isRu q0 = true) (dI q0 4 (fun v1 => br (v1 < 0) (rt ()) (dI q0 4 (fun v3 => br (4 ≤ v3) (rt ()) (dI q0 4 (fun v5 => dI q0 3 (fun v6 => gd (inb v5 4 = true) (pI (q0 + 2) v5.toNatClampNeg v6 (dI q0 4 (fun v7 => pI q0 4 (v7 + 1) (rt ())))))))))))
def f_X7_begin (q0 : Nat) (q1 : Nat) : Sg → Option (Unit × Sg) :=
  gd (isSc q0 = true) (gd (isGd q1 = true) (wI (q0 + 1) (fun σ => va_cpy (σ.1 (q1 + 1)) (σ.1 (q0 + 1)) 0 0 24) (dI q1 9 (fun v1 => pI q0 1 v1 (pI q0 2 ((-1)) (pI q0 3 200 (pI q0 7 0 (pI q0 9 0 (rt ())))))))))
def f_X7_copy (q0 : Nat) (q1 : Nat) : Sg → Option (Unit × Sg) :=
  gd (isSc q0 = true) (gd (isSc q1 = true) (wI (q0 + 1) (fun σ => va_cpy (σ.1 (q1 + 1)) (σ.1 (q0 + 1)) 0 0 24) (dI q1 1 (fun v1 => pI q0 1 v1 (dI q1 2 (fun v2 => pI q0 2 v2 (dI q1 3 (fun v3 => pI q0 3 v3 (wI (q0 + 2) (fun σ => va_cpy (σ.1 (q1 + 2)) (σ.1 (q0 + 2)) 0 0 40) (wI (q0 + 3) (fun σ => va_cpy (σ.1 (q1 + 3)) (σ.1 (q0 + 3)) 0 0 40) (wI (q0 + 4) (fun σ => va_cpy (σ.1 (q1 + 4)) (σ.1 (q0 + 4)) 0 0 40) (dI q1 7 (fun v4 => pI q0 7 v4 (wI (q0 + 5) (fun σ => va_cpy (σ.1 (q1 + 5)) (σ.1 (q0 + 5)) 0 0 20) (dI q1 9 (fun v5 => pI q0 9 v5 (rt ())))))))))))))))))
def f_X7_put (q0 : Nat) (x1 : Int32) (x2 : Int32) (x3 : Int32) : Sg → Option (Int32 × Sg) :=
  gd (isSc q0 = true) (br (x1 = 3) (dI q0 2 (fun v2 => pI q0 2 x3 (rt v2))) (br (x1 = 4) (dI q0 3 (fun v4 => pI q0 3 x3 (rt v4))) (lt (((x2 * 6) + 3) + x1 : Int32) (fun w5 => br (w5 < 0) (rt ((-1) : Int32)) (br (24 ≤ w5) (rt ((-1) : Int32)) (gd (inb w5 24 = true) (dI (q0 + 1) w5.toNatClampNeg (fun v8 => gd (inb w5 24 = true) (pI (q0 + 1) w5.toNatClampNeg x3 (rt v8))))))))))
def f_X7_dropOldestAct (q0 : Nat) : Sg → Option (Unit × Sg) :=
  gd (isSc q0 = true) (wI (q0 + 2) (fun σ => va_cpy (σ.1 (q0 + 2)) (σ.1 (q0 + 2)) 1 0 39) (wI (q0 + 3) (fun σ => va_cpy (σ.1 (q0 + 3)) (σ.1 (q0 + 3)) 1 0 39) (wI (q0 + 4) (fun σ => va_cpy (σ.1 (q0 + 4)) (σ.1 (q0 + 4)) 1 0 39) (pI q0 7 39 (rt ())))))
def f_X7_keepAct_b13 (q0 : Nat) (x1 : Int32) (x2 : Int32) (x3 : Int32) : Sg → Option (Unit × Sg) :=
  gd (isSc q0 = true) (dI q0 7 (fun v1 => br (v1 < 0) (rt ()) (dI q0 7 (fun v3 => br (40 ≤ v3) (rt ()) (dI q0 7 (fun v5 => gd (inb v5 40 = true) (pI (q0 + 2) v5.toNatClampNeg x1 (dI q0 7 (fun v6 => gd (inb v6 40 = true) (pI (q0 + 3) v6.toNatClampNeg x2 (dI q0 7 (fun v7 => gd (inb v7 40 = true) (pI (q0 + 4) v7.toNatClampNeg x3 (dI q0 7 (fun v8 => pI q0 7 (v8 + 1) (rt ()))))))))))))))))
def f_X7_keepAct (q0 : Nat) (x1 : Int32) (x2 : Int32) (x3 : Int32) : Sg → Option (Unit × Sg) :=
  gd (isSc q0 = true) (dI q0 7 (fun v1 => br (v1 < 40) (f_X7_keepAct_b13 q0 x1 x2 x3) (cl (f_X7_dropOldestAct q0) (fun _ => f_X7_keepAct_b13 q0 x1 x2 x3))))
def f_X7_act (q0 : Nat) (x1 : Int32) (x2 : Int32) (x3 : Int32) : Sg → Option (Int32 × Sg) :=
  gd (isSc q0 = true) (cl (f_X7_put q0 x1 x2 x3) (fun r1 => cl (f_X7_keepAct q0 x1 x2 r1) (fun _ => rt r1)))
def f_X7_takeBack (q0 : Nat) : Sg → Option (Int32 × Sg) :=
  gd (isSc q0 = true) (dI q0 7 (fun v1 => br (v1 ≤ 0) (rt 0) (dI q0 7 (fun v3 => br (v3 ≤ 40) (dI q0 7 (fun v5 => pI q0 7 (v5 - 1) (dI q0 7 (fun v6 => gd (inb v6 40 = true) (dI (q0 + 2) v6.toNatClampNeg (fun v7 => dI q0 7 (fun v8 => gd (inb v8 40 = true) (dI (q0 + 3) v8.toNatClampNeg (fun v9 => dI q0 7 (fun v10 => gd (inb v10 40 = true) (dI (q0 + 4) v10.toNatClampNeg (fun v11 => cl (f_X7_put q0 v7 v9 v11) (fun r12 => rt 1))))))))))))) (rt 0)))))
def f_X7_addPlace (q0 : Nat) (x1 : Int32) : Sg → Option (Int32 × Sg) :=
  gd (isSc q0 = true) (dI q0 9 (fun v1 => br (v1 < 0) (rt 0) (dI q0 9 (fun v3 => br (v3 < 20) (dI q0 9 (fun v5 => gd (inb v5 20 = true) (pI (q0 + 5) v5.toNatClampNeg x1 (dI q0 9 (fun v6 => pI q0 9 (v6 + 1) (rt 1)))))) (rt 0)))))
def f_X7_fitting_b87 (k5 : Nat → Int32 → Int32 → Int32 → Sg → Option (Int32 × Sg)) (q0 : Nat) (x1 : Int32) (x3 : Int32) (xs0 : Int32) (xs1 : Int32) : Sg → Option (Int32 × Sg) :=
  gd (isSc q0 = true) (k5 q0 x1 (xs1 &&& xs0) (x3 + 1))
def f_X7_fitting_b69 (k5 : Nat → Int32 → Int32 → Int32 → Sg → Option (Int32 × Sg)) (q0 : Nat) (x1 : Int32) (x2 : Int32) (x3 : Int32) (x5 : Int32) (xs0 : Int32) : Sg → Option (Int32 × Sg) :=
  gd (isSc q0 = true) (br (xs0 = 0) (f_X7_fitting_b87 k5 q0 x1 x3 0 x2) (f_X7_fitting_b87 k5 q0 x1 x3 ((1 : Int32) <<< ((3 + x5) &&& 31)) x2))
def f_X7_fitting_b68 (k5 : Nat → Int32 → Int32 → Int32 → Sg → Option (Int32 × Sg)) (q0 : Nat) (x1 : Int32) (x2 : Int32) (x3 : Int32) (x5 : Int32) : Sg → Option (Int32 × Sg) :=
  gd (isSc q0 = true) (f_X7_fitting_b69 k5 q0 x1 x2 x3 x5 0)
def f_X7_fitting_b5 : Nat → Nat → Int32 → Int32 → Int32 → Sg → Option (Int32 × Sg)
  | 0, _, _, _, _ => fun _ => none
  | fu + 1, q0, x1, x2, x3 => gd (isSc q0 = true) (dI q0 9 (fun v1 => br (v1 ≤ x3) (rt x2) (br (20 ≤ x3) (rt x2) (gd (inb (x3 - 1) 20 = true) (dI (q0 + 5) (x3 - 1).toNatClampNeg (fun v4 => gd (inb x3 20 = true) (dI (q0 + 5) x3.toNatClampNeg (fun v5 => lt ((v5 - v4) - ((v4 * x1) / 40) : Int32) (fun w6 => br (w6 < ((-3))) (f_X7_fitting_b68 (f_X7_fitting_b5 fu) q0 x1 x2 x3 w6) (br (3 < w6) (f_X7_fitting_b68 (f_X7_fitting_b5 fu) q0 x1 x2 x3 w6) (f_X7_fitting_b69 (f_X7_fitting_b5 fu) q0 x1 x2 x3 w6 1)))))))))))
def f_X7_fitting (q0 : Nat) (x1 : Int32) : Sg → Option (Int32 × Sg) :=
  gd (isSc q0 = true) (f_X7_fitting_b5 FU q0 x1 127 1)
def f_X8_fail (x1 : Int32) : Sg → Option (Int32 × Sg) :=
  pI 14 4 x1 (dI 15 4 (fun v1 => pI 14 5 v1 (rt 0)))
def f_X8_passOnce (x1 : Int32) : Sg → Option (Int32 × Sg) :=
  dI 14 2 (fun v1 => br ((v1 &&& x1) = 0) (dI 14 2 (fun v3 => pI 14 2 (v3 ||| x1) (cl (f_X5_next) (fun _ => rt 1)))) (cl (f_X8_fail 5) (fun r4 => gd (r4 = 0 ∨ r4 = 1) (rt r4))))
def f_X8_number_b41  : Sg → Option (Int32 × Sg) :=
  cl (f_X8_fail 2) (fun r1 => gd (r1 = 0 ∨ r1 = 1) (rt r1))
def f_X8_number (x1 : Int32) (x2 : Int32) : Sg → Option (Int32 × Sg) :=
  dI 15 3 (fun v1 => br (v1 = 257) (dI 15 5 (fun v3 => br (v3 < x1) (f_X8_number_b41) (dI 15 5 (fun v5 => br (v5 ≤ x2) (dI 15 5 (fun v7 => pI 14 3 v7 (cl (f_X5_next) (fun _ => rt 1)))) (f_X8_number_b41))))) (cl (f_X8_fail 1) (fun r8 => gd (r8 = 0 ∨ r8 = 1) (rt r8))))
def f_X8_tellMat  : Sg → Option (Int32 × Sg) :=
  dR 14 1 (fun u1 => gd (isGd u1 = true) (dI u1 9 (fun v2 => br (v2 ≤ 0) (cl (f_X8_passOnce 1) (fun r4 => br (r4 = 0) (rt 0) (cl (f_X8_number 1 9) (fun r6 => br (r6 = 0) (rt 0) (dR 14 1 (fun u8 => gd (isGd u8 = true) (dI 14 3 (fun v9 => pI u8 0 v9 (cl (f_X8_number 3 20) (fun r10 => br (r10 = 0) (rt 0) (dR 14 1 (fun u12 => gd (isGd u12 = true) (dI 14 3 (fun v13 => pI u12 1 v13 (cl (f_X8_number 10 100) (fun r14 => br (r14 = 0) (rt 0) (dR 14 1 (fun u16 => gd (isGd u16 = true) (dI 14 3 (fun v17 => pI u16 2 v17 (rt 1))))))))))))))))))))) (cl (f_X8_fail 4) (fun r18 => gd (r18 = 0 ∨ r18 = 1) (rt r18))))))
def f_X8_signed_b57 (xs0 : Int32) : Sg → Option (Int32 × Sg) :=
  pI 14 3 xs0 (rt 1)
def f_X8_signed_b29 (x1 : Int32) (x2 : Int32) : Sg → Option (Int32 × Sg) :=
  cl (f_X8_number 0 x1) (fun r1 => br (r1 = 0) (rt 0) (br (x2 = 0) (dI 14 3 (fun v4 => f_X8_signed_b57 v4)) (dI 14 3 (fun v5 => f_X8_signed_b57 (-v5)))))
def f_X8_signed_b17 (x1 : Int32) (xs0 : Int32) : Sg → Option (Int32 × Sg) :=
  br (xs0 = 0) (f_X8_signed_b29 x1 xs0) (cl (f_X5_next) (fun _ => f_X8_signed_b29 x1 xs0))
def f_X8_signed (x1 : Int32) : Sg → Option (Int32 × Sg) :=
  dI 15 3 (fun v1 => br (v1 = 45) (f_X8_signed_b17 x1 1) (f_X8_signed_b17 x1 0))
def f_X8_tellBroken  : Sg → Option (Int32 × Sg) :=
  cl (f_X8_passOnce 2) (fun r1 => br (r1 = 0) (rt 0) (cl (f_X8_signed 3) (fun r3 => br (r3 = 0) (rt 0) (dR 14 1 (fun u5 => gd (isGd u5 = true) (dI 14 3 (fun v6 => pI u5 3 v6 (rt 1))))))))
def f_X8_tellNear  : Sg → Option (Int32 × Sg) :=
  cl (f_X8_passOnce 4) (fun r1 => br (r1 = 0) (rt 0) (cl (f_X8_number 0 9) (fun r3 => br (r3 = 0) (rt 0) (dR 14 1 (fun u5 => gd (isGd u5 = true) (dI 14 3 (fun v6 => pI u5 4 v6 (rt 1))))))))
def f_X8_tellSlips_b78 (xs0 : Int32) : Sg → Option (Int32 × Sg) :=
  cl (f_X8_number xs0 9) (fun r1 => br (r1 = 0) (rt 0) (dR 14 1 (fun u3 => gd (isGd u3 = true) (dI 14 3 (fun v4 => pI u3 7 v4 (rt 1))))))
def f_X8_tellSlips  : Sg → Option (Int32 × Sg) :=
  cl (f_X8_passOnce 8) (fun r1 => br (r1 = 0) (rt 0) (cl (f_X8_number 0 9) (fun r3 => br (r3 = 0) (rt 0) (dR 14 1 (fun u5 => gd (isGd u5 = true) (dI 14 3 (fun v6 => pI u5 5 v6 (cl (f_X8_number 0 9) (fun r7 => br (r7 = 0) (rt 0) (dR 14 1 (fun u9 => gd (isGd u9 = true) (dI 14 3 (fun v10 => pI u9 6 v10 (dR 14 1 (fun u11 => gd (isGd u11 = true) (dI u11 5 (fun v12 => dR 14 1 (fun u13 => gd (isGd u13 = true) (dI u13 6 (fun v14 => br ((v12 + v14) ≤ 0) (f_X8_tellSlips_b78 1) (f_X8_tellSlips_b78 0)))))))))))))))))))))
def f_X8_numberOfLast (x1 : Int32) (x2 : Int32) (x3 : Int32) : Sg → Option (Int32 × Sg) :=
  cl (f_X8_number x2 x3) (fun r1 => br (r1 = 0) (rt 0) (dR 14 1 (fun u3 => gd (isGd u3 = true) (dI 14 3 (fun v4 => cl (f_X2_tellOfLast u3 x1 v4) (fun _ => rt 1))))))
def f_X8_tellJumper  : Sg → Option (Int32 × Sg) :=
  dR 14 1 (fun u1 => gd (isGd u1 = true) (dI u1 9 (fun v2 => br (v2 < 4) (cl (f_X5_next) (fun _ => dR 14 1 (fun u4 => gd (isGd u4 = true) (dI u4 9 (fun v5 => pI u4 9 (v5 + 1) (cl (f_X8_numberOfLast 0 1 99) (fun r6 => br (r6 = 0) (rt 0) (cl (f_X8_numberOfLast 1 0 30) (fun r8 => br (r8 = 0) (rt 0) (dR 14 1 (fun u10 => gd (isGd u10 = true) (dI u10 1 (fun v11 => cl (f_X8_signed v11) (fun r12 => br (r12 = 0) (rt 0) (dR 14 1 (fun u14 => gd (isGd u14 = true) (dI 14 3 (fun v15 => cl (f_X2_tellOfLast u14 2 v15) (fun _ => dR 14 1 (fun u16 => gd (isGd u16 = true) (cl (f_X2_tellOfLast u16 5 0) (fun _ => cl (f_X8_numberOfLast 3 0 99) (fun r17 => br (r17 = 0) (rt 0) (cl (f_X8_numberOfLast 4 0 60) (fun r19 => br (r19 = 0) (rt 0) (cl (f_X5_isWord 7) (fun r21 => br (r21 = 0) (rt 1) (cl (f_X5_next) (fun _ => cl (f_X8_numberOfLast 5 0 9) (fun r23 => gd (r23 = 0 ∨ r23 = 1) (rt r23))))))))))))))))))))))))))))))) (cl (f_X8_fail 2) (fun r24 => gd (r24 = 0 ∨ r24 = 1) (rt r24))))))
def f_X8_mayBeginPart_b38  : Sg → Option (Int32 × Sg) :=
  rt 1
def f_X8_mayBeginPart  : Sg → Option (Int32 × Sg) :=
  dI 15 3 (fun v1 => br (v1 = 257) (f_X8_mayBeginPart_b38) (dI 15 3 (fun v3 => br (v3 = 256) (f_X8_mayBeginPart_b38) (dI 15 3 (fun v5 => br (v5 = 40) (f_X8_mayBeginPart_b38) (rt 0))))))
def f_X8_pass (x1 : Int32) : Sg → Option (Int32 × Sg) :=
  dI 15 3 (fun v1 => br (v1 = x1) (cl (f_X5_next) (fun _ => rt 1)) (cl (f_X8_fail 1) (fun r3 => gd (r3 = 0 ∨ r3 = 1) (rt r3))))
def f_X8_valueTold  : Sg → Option (Int32 × Sg) :=
  cl (f_X5_isWord 10) (fun r1 => br (r1 = 0) (cl (f_X5_isWord 11) (fun r3 => br (r3 = 0) (cl (f_X5_isWord 12) (fun r5 => br (r5 = 0) (cl (f_X5_isWord 13) (fun r7 => br (r7 = 0) (cl (f_X5_isWord 14) (fun r9 => br (r9 = 0) (cl (f_X5_isWord 15) (fun r11 => br (r11 = 0) (cl (f_X5_isWord 16) (fun r13 => br (r13 = 0) (cl (f_X5_isWord 17) (fun r15 => br (r15 = 0) (rt ((-1) : Int32)) (rt (7 : Int32)))) (rt (6 : Int32)))) (rt (5 : Int32)))) (rt (4 : Int32)))) (rt (3 : Int32)))) (rt (2 : Int32)))) (rt (1 : Int32)))) (rt (0 : Int32)))
def f_X8_part (kE : Int32 → Sg → Option (Int32 × Sg)) (x1 : Int32) : Sg → Option (Int32 × Sg) :=
  dI 15 3 (fun v1 => br (v1 = 257) (cl (f_X8_number 0 9999) (fun r3 => br (r3 = 0) (rt 0) (dR 14 1 (fun u5 => gd (isGd u5 = true) (dI 14 3 (fun v6 => cl (f_X6_add (u5 + 3) v6) (fun _ => rt 1))))))) (dI 15 3 (fun v7 => br (v7 = 256) (cl (f_X8_valueTold) (fun r9 => br (r9 = ((-1))) (cl (f_X8_fail 3) (fun r11 => gd (r11 = 0 ∨ r11 = 1) (rt r11))) (dR 14 1 (fun u12 => gd (isGd u12 = true) (cl (f_X6_add (u12 + 3) (((-10)) - r9)) (fun _ => cl (f_X5_next) (fun _ => rt 1))))))) (cl (f_X8_pass 40) (fun r13 => br (r13 = 0) (rt 0) (cl (kE (x1 + 1)) (fun r15 => br (r15 = 0) (rt 0) (cl (f_X8_pass 41) (fun r17 => br (r17 = 0) (rt 0) (rt 1))))))))))
def f_X8_product_b88 (kE : Int32 → Sg → Option (Int32 × Sg)) (k12 : Int32 → Int32 → Sg → Option (Int32 × Sg)) (x1 : Int32) (x2 : Int32) (xs0 : Int32) (qs1 : Nat) : Sg → Option (Int32 × Sg) :=
  gd (isRu qs1 = true) (cl (f_X6_add qs1 xs0) (fun _ => k12 x1 (x2 + 1)))
def f_X8_product_b43 (kE : Int32 → Sg → Option (Int32 × Sg)) (k12 : Int32 → Int32 → Sg → Option (Int32 × Sg)) (x1 : Int32) (x2 : Int32) : Sg → Option (Int32 × Sg) :=
  dI 15 3 (fun v1 => cl (f_X5_next) (fun _ => cl (f_X8_part kE x1) (fun r2 => br (r2 = 0) (rt 0) (dR 14 1 (fun u4 => gd (isGd u4 = true) (br (v1 = 42) (f_X8_product_b88 kE k12 x1 x2 ((-8)) (u4 + 3)) (f_X8_product_b88 kE k12 x1 x2 ((-9)) (u4 + 3))))))))
def f_X8_product_b12 (kE : Int32 → Sg → Option (Int32 × Sg)) : Nat → Int32 → Int32 → Sg → Option (Int32 × Sg)
  | 0, _, _ => fun _ => none
  | fu + 1, x1, x2 => br (600 ≤ x2) (rt 1) (dI 15 3 (fun v2 => br (v2 = 42) (f_X8_product_b43 kE (f_X8_product_b12 kE fu) x1 x2) (dI 15 3 (fun v4 => br (v4 = 47) (f_X8_product_b43 kE (f_X8_product_b12 kE fu) x1 x2) (rt 1)))))
def f_X8_product (kE : Int32 → Sg → Option (Int32 × Sg)) (x1 : Int32) : Sg → Option (Int32 × Sg) :=
  cl (f_X8_part kE x1) (fun r1 => br (r1 = 0) (rt 0) (f_X8_product_b12 kE FU x1 0))
def f_X8_sum_b88 (kE : Int32 → Sg → Option (Int32 × Sg)) (k12 : Int32 → Int32 → Sg → Option (Int32 × Sg)) (x1 : Int32) (x2 : Int32) (xs0 : Int32) (qs1 : Nat) : Sg → Option (Int32 × Sg) :=
  gd (isRu qs1 = true) (cl (f_X6_add qs1 xs0) (fun _ => k12 x1 (x2 + 1)))
def f_X8_sum_b43 (kE : Int32 → Sg → Option (Int32 × Sg)) (k12 : Int32 → Int32 → Sg → Option (Int32 × Sg)) (x1 : Int32) (x2 : Int32) : Sg → Option (Int32 × Sg) :=
  dI 15 3 (fun v1 => cl (f_X5_next) (fun _ => cl (f_X8_product kE x1) (fun r2 => br (r2 = 0) (rt 0) (dR 14 1 (fun u4 => gd (isGd u4 = true) (br (v1 = 43) (f_X8_sum_b88 kE k12 x1 x2 ((-6)) (u4 + 3)) (f_X8_sum_b88 kE k12 x1 x2 ((-7)) (u4 + 3))))))))
def f_X8_sum_b12 (kE : Int32 → Sg → Option (Int32 × Sg)) : Nat → Int32 → Int32 → Sg → Option (Int32 × Sg)
  | 0, _, _ => fun _ => none
  | fu + 1, x1, x2 => br (600 ≤ x2) (rt 1) (dI 15 3 (fun v2 => br (v2 = 43) (f_X8_sum_b43 kE (f_X8_sum_b12 kE fu) x1 x2) (dI 15 3 (fun v4 => br (v4 = 45) (f_X8_sum_b43 kE (f_X8_sum_b12 kE fu) x1 x2) (rt 1)))))
def f_X8_sum (kE : Int32 → Sg → Option (Int32 × Sg)) (x1 : Int32) : Sg → Option (Int32 × Sg) :=
  cl (f_X8_product kE x1) (fun r1 => br (r1 = 0) (rt 0) (f_X8_sum_b12 kE FU x1 0))
def f_X8_test_b69 (kE : Int32 → Sg → Option (Int32 × Sg)) (xs0 : Int32) (qs1 : Nat) : Sg → Option (Int32 × Sg) :=
  gd (isRu qs1 = true) (cl (f_X6_add qs1 xs0) (fun _ => rt 1))
def f_X8_test_b32 (kE : Int32 → Sg → Option (Int32 × Sg)) (x1 : Int32) (x2 : Int32) : Sg → Option (Int32 × Sg) :=
  cl (f_X5_next) (fun _ => cl (f_X8_sum kE x1) (fun r1 => br (r1 = 0) (rt 0) (dR 14 1 (fun u3 => gd (isGd u3 = true) (br (x2 = 60) (f_X8_test_b69 kE ((-4)) (u3 + 3)) (f_X8_test_b69 kE ((-5)) (u3 + 3)))))))
def f_X8_test (kE : Int32 → Sg → Option (Int32 × Sg)) (x1 : Int32) : Sg → Option (Int32 × Sg) :=
  cl (f_X8_sum kE x1) (fun r1 => br (r1 = 0) (rt 0) (dI 15 3 (fun v3 => br (v3 = 60) (f_X8_test_b32 kE x1 v3) (br (v3 = 61) (f_X8_test_b32 kE x1 v3) (rt 1)))))
def f_X8_denied_b28 (kE : Int32 → Sg → Option (Int32 × Sg))  : Sg → Option (Int32 × Sg) :=
  cl (f_X8_fail 2) (fun r1 => gd (r1 = 0 ∨ r1 = 1) (rt r1))
def f_X8_denied_b62 (kE : Int32 → Sg → Option (Int32 × Sg)) : Nat → Int32 → Int32 → Sg → Option (Int32 × Sg)
  | 0, _, _ => fun _ => none
  | fu + 1, x2, x3 => br (x2 ≤ x3) (rt 1) (dR 14 1 (fun u2 => gd (isGd u2 = true) (cl (f_X6_add (u2 + 3) ((-3))) (fun _ => (f_X8_denied_b62 kE fu) x2 (x3 + 1)))))
def f_X8_denied_b50 (kE : Int32 → Sg → Option (Int32 × Sg)) (x1 : Int32) (x2 : Int32) : Sg → Option (Int32 × Sg) :=
  cl (f_X8_test kE x1) (fun r1 => br (r1 = 0) (rt 0) (f_X8_denied_b62 kE FU x2 0))
def f_X8_denied_b4 (kE : Int32 → Sg → Option (Int32 × Sg)) : Nat → Int32 → Int32 → Int32 → Sg → Option (Int32 × Sg)
  | 0, _, _, _ => fun _ => none
  | fu + 1, x1, x2, x3 => br (6 < x3) (f_X8_denied_b50 kE x1 x2) (cl (f_X5_isWord 9) (fun r2 => br (r2 = 0) (f_X8_denied_b50 kE x1 x2) (br (x3 = 6) (f_X8_denied_b28 kE) (cl (f_X5_next) (fun _ => (f_X8_denied_b4 kE fu) x1 (x2 + 1) (x3 + 1))))))
def f_X8_denied (kE : Int32 → Sg → Option (Int32 × Sg)) (x1 : Int32) : Sg → Option (Int32 × Sg) :=
  f_X8_denied_b4 kE FU x1 0 0
def f_X8_both_b12 (kE : Int32 → Sg → Option (Int32 × Sg)) : Nat → Int32 → Int32 → Sg → Option (Int32 × Sg)
  | 0, _, _ => fun _ => none
  | fu + 1, x1, x2 => br (600 ≤ x2) (rt 1) (cl (f_X5_isWord 18) (fun r2 => br (r2 = 0) (rt 1) (cl (f_X5_next) (fun _ => cl (f_X8_denied kE x1) (fun r4 => br (r4 = 0) (rt 0) (dR 14 1 (fun u6 => gd (isGd u6 = true) (cl (f_X6_add (u6 + 3) ((-2))) (fun _ => (f_X8_both_b12 kE fu) x1 (x2 + 1))))))))))
def f_X8_both (kE : Int32 → Sg → Option (Int32 × Sg)) (x1 : Int32) : Sg → Option (Int32 × Sg) :=
  cl (f_X8_denied kE x1) (fun r1 => br (r1 = 0) (rt 0) (f_X8_both_b12 kE FU x1 0))
def f_X8_eitherB_b19 (kE : Int32 → Sg → Option (Int32 × Sg)) (xs0 : Int32) : Sg → Option (Int32 × Sg) :=
  cl (f_X8_fail xs0) (fun r1 => gd (r1 = 0 ∨ r1 = 1) (rt r1))
def f_X8_eitherB_b35 (kE : Int32 → Sg → Option (Int32 × Sg)) : Nat → Int32 → Int32 → Sg → Option (Int32 × Sg)
  | 0, _, _ => fun _ => none
  | fu + 1, x1, x2 => br (600 ≤ x2) (rt 1) (cl (f_X5_isWord 19) (fun r2 => br (r2 = 0) (rt 1) (cl (f_X5_next) (fun _ => cl (f_X8_both kE x1) (fun r4 => br (r4 = 0) (rt 0) (dR 14 1 (fun u6 => gd (isGd u6 = true) (cl (f_X6_add (u6 + 3) ((-1))) (fun _ => (f_X8_eitherB_b35 kE fu) x1 (x2 + 1))))))))))
def f_X8_eitherB (kE : Int32 → Sg → Option (Int32 × Sg)) (x1 : Int32) : Sg → Option (Int32 × Sg) :=
  br (x1 < 6) (cl (f_X8_both kE x1) (fun r2 => br (r2 = 0) (rt 0) (f_X8_eitherB_b35 kE FU x1 0))) (cl (f_X8_mayBeginPart) (fun r4 => br (r4 = 0) (f_X8_eitherB_b19 kE 1) (f_X8_eitherB_b19 kE 2)))
def f_X8_either : Nat → Int32 → Sg → Option (Int32 × Sg)
  | 0, _ => fun _ => none
  | fu + 1, x1 => f_X8_eitherB (f_X8_either fu) x1
def f_X8_tellEgg_b45  : Sg → Option (Int32 × Sg) :=
  cl (f_X8_fail 2) (fun r1 => gd (r1 = 0 ∨ r1 = 1) (rt r1))
def f_X8_tellEgg_b13 : Nat → Int32 → Sg → Option (Int32 × Sg)
  | 0, _ => fun _ => none
  | fu + 1, x1 => br (600 ≤ x1) (rt 1) (dI 15 3 (fun v2 => br (v2 = 257) (dR 14 1 (fun u4 => gd (isGd u4 = true) (dI u4 11 (fun v5 => br (v5 < 8) (cl (f_X8_number 1 99) (fun r7 => br (r7 = 0) (rt 0) (dR 14 1 (fun u9 => gd (isGd u9 = true) (dI 14 3 (fun v10 => cl (f_X2_addPush u9 v10) (fun _ => (f_X8_tellEgg_b13 fu) (x1 + 1)))))))) (f_X8_tellEgg_b45))))) (rt 1)))
def f_X8_tellEgg  : Sg → Option (Int32 × Sg) :=
  cl (f_X8_passOnce 16) (fun r1 => br (r1 = 0) (rt 0) (f_X8_tellEgg_b13 FU 0))
def f_X9_comeTo_b26 (x3 : Int64) : Sg → Option (Unit × Sg) :=
  dL 30 2 (fun v1 => pL 30 2 (v1 + x3) (rt ()))
def f_X9_comeTo (q1 : Nat) (x2 : Int32) (x3 : Int64) : Sg → Option (Unit × Sg) :=
  gd (isGd q1 = true) (cl (f_X2_isBeyond q1 x2) (fun r1 => br (r1 = 0) (br ((x2 + 20) < 0) (f_X9_comeTo_b26 x3) (br ((x2 + 20) < 41) (lt (x2 + 20 : Int32) (fun w5 => gd (inb w5 41 = true) (dL 32 w5.toNatClampNeg (fun v6 => gd (inb w5 41 = true) (pL 32 w5.toNatClampNeg (v6 + x3) (rt ())))))) (f_X9_comeTo_b26 x3))) (f_X9_comeTo_b26 x3)))
def f_J7_fill_d0a16_b6 : Nat → Int64 → Int32 → Int32 → Sg → Option (Unit × Sg)
  | 0, _, _, _ => fun _ => none
  | fu + 1, x1, x3, x4 => br (x4 ≤ x3) (rt ()) (gd (inb x3 41 = true) (pL 32 x3.toNatClampNeg x1 ((f_J7_fill_d0a16_b6 fu) x1 (x3 + 1) x4)))
def f_J7_fill_d0a16 (x1 : Int64) : Sg → Option (Unit × Sg) :=
  f_J7_fill_d0a16_b6 FU x1 0 41
def f_X9_takeNext  : Sg → Option (Unit × Sg) :=
  wL 31 (fun σ => va_cpy (σ.2.1 32) (σ.2.1 31) 0 0 41) (cl (f_J7_fill_d0a16 0) (fun _ => rt ()))
def f_X9_jump_b139 (k43 : Nat → Int32 → Int32 → Int32 → Sg → Option (Unit × Sg)) (q1 : Nat) (x2 : Int32) (x3 : Int32) (x5 : Int32) : Sg → Option (Unit × Sg) :=
  gd (isGd q1 = true) (k43 q1 x2 x3 (x5 + 1))
def f_X9_jump_b43 : Nat → Nat → Int32 → Int32 → Int32 → Sg → Option (Unit × Sg)
  | 0, _, _, _, _ => fun _ => none
  | fu + 1, q1, x2, x3, x5 => gd (isGd q1 = true) (br (41 ≤ x5) (rt ()) (gd (inb x5 41 = true) (dL 31 x5.toNatClampNeg (fun v2 => br ((lg_cmp v2 0) = 0) (f_X9_jump_b139 (f_X9_jump_b43 fu) q1 x2 x3 x5) (cl (f_X2_comesTo q1 (x5 - 20) x2 x3) (fun r4 => gd (inb x5 41 = true) (dL 31 x5.toNatClampNeg (fun v5 => dI q1 5 (fun v6 => cl (f_X9_comeTo q1 (r4 - 1) (v5 * v6.toInt64)) (fun _ => gd (inb x5 41 = true) (dL 31 x5.toNatClampNeg (fun v7 => dI q1 6 (fun v8 => cl (f_X9_comeTo q1 r4 (v7 * v8.toInt64)) (fun _ => gd (inb x5 41 = true) (dL 31 x5.toNatClampNeg (fun v9 => dI q1 7 (fun v10 => cl (f_X9_comeTo q1 (r4 + 1) (v9 * v10.toInt64)) (fun _ => f_X9_jump_b139 (f_X9_jump_b43 fu) q1 x2 x3 x5))))))))))))))))))
def f_X9_jump (q1 : Nat) (x2 : Int32) (x3 : Int32) : Sg → Option (Unit × Sg) :=
  gd (isGd q1 = true) (dI q1 5 (fun v1 => dI q1 6 (fun v2 => dI q1 7 (fun v3 => dL 30 2 (fun v4 => pL 30 2 (v4 * (((v1 + v2) + v3).toInt64)) (dL 30 3 (fun v5 => pL 30 3 (v5 * (((v1 + v2) + v3).toInt64)) (f_X9_jump_b43 FU q1 x2 x3 0))))))))
def f_X9_go_b24 : Nat → Nat → Int32 → Int32 → Int32 → Int32 → Sg → Option (Unit × Sg)
  | 0, _, _, _, _, _ => fun _ => none
  | fu + 1, q1, x3, x4, x5, x6 => gd (isGd q1 = true) (br (x5 ≤ x6) (rt ()) (cl (f_X9_jump q1 x3 x4) (fun _ => cl (f_X9_takeNext) (fun _ => (f_X9_go_b24 fu) q1 x3 x4 x5 (x6 + 1)))))
def f_X9_go (q1 : Nat) (x2 : Int32) (x3 : Int32) (x4 : Int32) (x5 : Int32) : Sg → Option (Unit × Sg) :=
  gd (isGd q1 = true) (pL 30 2 0 (pL 30 3 1 (cl (f_X9_comeTo q1 x2 1) (fun _ => cl (f_X9_takeNext) (fun _ => f_X9_go_b24 FU q1 x3 x4 x5 0)))))
def f_X9_waysAt (x1 : Int32) : Sg → Option (Int64 × Sg) :=
  br (x1 < ((-20))) (rt 0) (br (20 < x1) (rt 0) (gd (inb (x1 + 20) 41 = true) (dL 31 (x1 + 20).toNatClampNeg (fun v3 => rt v3))))
def f_X10_addFour_b42 (k3 : Int32 → Int32 → Sg → Option (Unit × Sg)) (x1 : Int32) (x2 : Int32) : Sg → Option (Unit × Sg) :=
  k3 x1 (x2 + (-8))
def f_X10_addFour_b3 : Nat → Int32 → Int32 → Sg → Option (Unit × Sg)
  | 0, _, _ => fun _ => none
  | fu + 1, x1, x2 => br (x2 < 0) (rt ()) (dI 0 1 (fun v2 => br (600 ≤ v2) (f_X10_addFour_b42 (f_X10_addFour_b3 fu) x1 x2) (dI 0 1 (fun v4 => gd (inb v4 600 = true) (pI 1 v4.toNatClampNeg (vp_nar .byte ((x1 >>> (x2 &&& 31)).toInt8.toInt32)) (dI 0 1 (fun v5 => pI 0 1 (v5 + 1) (f_X10_addFour_b42 (f_X10_addFour_b3 fu) x1 x2))))))))
def f_X10_addFour (x1 : Int32) : Sg → Option (Unit × Sg) :=
  f_X10_addFour_b3 FU x1 24
def f_X10_feed (x1 : Int32) (x2 : Int32) (x3 : Int32) (x4 : Int32) (x5 : Int32) : Sg → Option (Int32 × Sg) :=
  dI 0 1 (fun v1 => br (v1 ≤ 580) (cl (f_X10_addFour x1) (fun _ => cl (f_X10_addFour x2) (fun _ => cl (f_X10_addFour x3) (fun _ => cl (f_X10_addFour x4) (fun _ => cl (f_X10_addFour x5) (fun _ => dI 0 1 (fun v3 => rt v3))))))) (rt ((-1) : Int32)))
def f_X10_fault  : Sg → Option (Int32 × Sg) :=
  dI 0 2 (fun v1 => rt v1)
def f_X10_countTold (x1 : Int32) : Sg → Option (Int32 × Sg) :=
  br (x1 = 0) (dR 0 6 (fun u2 => gd (isGd u2 = true) (dI u2 0 (fun v3 => rt v3)))) (br (x1 = 1) (dR 0 6 (fun u5 => gd (isGd u5 = true) (dI u5 1 (fun v6 => rt v6)))) (br (x1 = 2) (dR 0 6 (fun u8 => gd (isGd u8 = true) (dI u8 2 (fun v9 => rt v9)))) (br (x1 = 3) (dR 0 6 (fun u11 => gd (isGd u11 = true) (dI u11 3 (fun v12 => rt v12)))) (br (x1 = 4) (dR 0 6 (fun u14 => gd (isGd u14 = true) (dI u14 4 (fun v15 => rt v15)))) (br (x1 = 5) (dR 0 6 (fun u17 => gd (isGd u17 = true) (dI u17 5 (fun v18 => rt v18)))) (br (x1 = 6) (dR 0 6 (fun u20 => gd (isGd u20 = true) (dI u20 6 (fun v21 => rt v21)))) (br (x1 = 7) (dR 0 6 (fun u23 => gd (isGd u23 = true) (dI u23 7 (fun v24 => rt v24)))) (br (x1 = 8) (dR 0 6 (fun u26 => gd (isGd u26 = true) (dI u26 9 (fun v27 => rt v27)))) (dR 0 6 (fun u28 => gd (isGd u28 = true) (dI (u28 + 3) 4 (fun v29 => rt v29))))))))))))
def f_X10_countNow (x1 : Int32) : Sg → Option (Int32 × Sg) :=
  br (x1 = 10) (dI 2 2 (fun v2 => rt v2)) (br (x1 = 11) (dI 2 3 (fun v4 => rt v4)) (br (x1 = 12) (dR 0 6 (fun u6 => gd (isGd u6 = true) (dI u6 11 (fun v7 => rt v7)))) (br (x1 = 13) (dI 2 7 (fun v9 => rt v9)) (br (x1 = 14) (dI 2 9 (fun v11 => rt v11)) (br (x1 = 15) (dI 0 1 (fun v13 => rt v13)) (br (x1 = 16) (dI 0 3 (fun v15 => rt v15)) (br (x1 = 17) (dI 0 4 (fun v17 => rt v17)) (dI 0 5 (fun v18 => rt v18)))))))))
def f_X10_mostOf (x0 : Int32) : Sg → Option (Int32 × Sg) :=
  br (x0 = 3) (rt (99 : Int32)) (br (x0 = 4) (rt (60 : Int32)) (rt (9 : Int32)))
def f_X10_isRule (x1 : Int32) : Sg → Option (Int32 × Sg) :=
  br (x1 < ((-1))) (rt 0) (dR 0 6 (fun u2 => gd (isGd u2 = true) (dI (u2 + 3) 4 (fun v3 => br (v3 ≤ x1) (rt 0) (rt 1)))))
def f_X10_obey (x1 : Int32) : Sg → Option (Int32 × Sg) :=
  cl (f_X10_isRule x1) (fun r1 => br (r1 = 0) (dI 0 4 (fun v3 => pI 0 4 (v3 + 1) (rt 0))) (cl (f_X7_act 2 3 0 x1) (fun r4 => rt 1)))
def f_X10_last_b12  : Sg → Option (Int32 × Sg) :=
  dI 0 4 (fun v1 => pI 0 4 (v1 + 1) (rt 0))
def f_X10_last (x1 : Int32) : Sg → Option (Int32 × Sg) :=
  br (x1 < 1) (f_X10_last_b12) (br (x1 ≤ 600) (cl (f_X7_act 2 4 0 x1) (fun r3 => rt 1)) (f_X10_last_b12))
def f_X10_undo  : Sg → Option (Int32 × Sg) :=
  cl (f_X7_takeBack 2) (fun r1 => br (r1 = 0) (rt ((-1) : Int32)) (dI 2 7 (fun v3 => rt v3)))
def f_X10_worthOf (q0 : Nat) (x1 : Int32) : Sg → Option (Int32 × Sg) :=
  gd (isFl q0 = true) (br (x1 = 0) (dI q0 11 (fun v2 => rt v2)) (br (x1 = 1) (dI q0 12 (fun v4 => rt v4)) (dI q0 14 (fun v5 => rt (-v5)))))
def f_X10_prepare  : Sg → Option (Unit × Sg) :=
  dR 0 6 (fun u1 => gd (isGd u1 = true) (cl (f_X4_begin u1 2) (fun _ => rt ())))
def f_X10_hurtAmong (x1 : Int32) : Sg → Option (Int32 × Sg) :=
  cl (f_X10_prepare) (fun _ => cl (f_X4_keepOnly x1) (fun _ => dI 2 3 (fun v1 => cl (f_X4_go 0 v1) (fun _ => dI 17 14 (fun v2 => br (v2 = ((-1))) (rt 0) (rt 1))))))
def f_X10_pairBit (x0 : Int32) (x1 : Int32) : Sg → Option (Int32 × Sg) :=
  rt ((1 : Int32) <<< (((4 * x0) + x1) &&& 31))
def f_X10_pairs_b52 (k4 : Int32 → Int32 → Sg → Option (Int32 × Sg)) (k19 : Int32 → Int32 → Int32 → Sg → Option (Int32 × Sg)) (x1 : Int32) (x2 : Int32) (x3 : Int32) : Sg → Option (Int32 × Sg) :=
  k19 x1 x2 (x3 + 1)
def f_X10_pairs_b58 (k4 : Int32 → Int32 → Sg → Option (Int32 × Sg)) (x1 : Int32) (x2 : Int32) : Sg → Option (Int32 × Sg) :=
  k4 x1 (x2 + 1)
def f_X10_pairs_b19 (k4 : Int32 → Int32 → Sg → Option (Int32 × Sg)) : Nat → Int32 → Int32 → Int32 → Sg → Option (Int32 × Sg)
  | 0, _, _, _ => fun _ => none
  | fu + 1, x1, x2, x3 => dI 2 1 (fun v1 => br (v1 ≤ x3) (f_X10_pairs_b58 k4 x1 x2) (cl (f_X10_hurtAmong (((1 : Int32) <<< (x2 &&& 31)) ||| ((1 : Int32) <<< (x3 &&& 31)))) (fun r3 => br (r3 = 0) (f_X10_pairs_b52 k4 (f_X10_pairs_b19 k4 fu) x1 x2 x3) (cl (f_X10_pairBit x2 x3) (fun r5 => f_X10_pairs_b52 k4 (f_X10_pairs_b19 k4 fu) (x1 ||| r5) x2 x3)))))
def f_X10_pairs_b4 : Nat → Int32 → Int32 → Sg → Option (Int32 × Sg)
  | 0, _, _ => fun _ => none
  | fu + 1, x1, x2 => dI 2 1 (fun v1 => br (v1 ≤ x2) (rt x1) (f_X10_pairs_b19 (f_X10_pairs_b4 fu) FU x1 x2 (x2 + 1)))
def f_X10_pairs  : Sg → Option (Int32 × Sg) :=
  f_X10_pairs_b4 FU 0 0
def f_X10_lawHolds_b86 (k2 : Int32 → Int32 → Int32 → Sg → Option (Int32 × Sg)) (k18 : Int32 → Int32 → Int32 → Int32 → Sg → Option (Int32 × Sg)) (x1 : Int32) (x2 : Int32) (x3 : Int32) (x4 : Int32) (xs0 : Int32) (xs1 : Int32) : Sg → Option (Int32 × Sg) :=
  br (xs1 = xs0) (k18 x1 x2 x3 (x4 + 1)) (rt 0)
def f_X10_lawHolds_b71 (k2 : Int32 → Int32 → Int32 → Sg → Option (Int32 × Sg)) (k18 : Int32 → Int32 → Int32 → Int32 → Sg → Option (Int32 × Sg)) (x1 : Int32) (x2 : Int32) (x3 : Int32) (x4 : Int32) (x5 : Int32) (xs0 : Int32) : Sg → Option (Int32 × Sg) :=
  br (x5 < x1) (f_X10_lawHolds_b86 k2 k18 x1 x2 x3 x4 0 xs0) (f_X10_lawHolds_b86 k2 k18 x1 x2 x3 x4 1 xs0)
def f_X10_lawHolds_b97 (k2 : Int32 → Int32 → Int32 → Sg → Option (Int32 × Sg)) (x1 : Int32) (x2 : Int32) (x3 : Int32) : Sg → Option (Int32 × Sg) :=
  k2 x1 x2 (x3 + 1)
def f_X10_lawHolds_b18 (k2 : Int32 → Int32 → Int32 → Sg → Option (Int32 × Sg)) : Nat → Int32 → Int32 → Int32 → Int32 → Sg → Option (Int32 × Sg)
  | 0, _, _, _, _ => fun _ => none
  | fu + 1, x1, x2, x3, x4 => dI 2 1 (fun v1 => br (v1 ≤ x4) (f_X10_lawHolds_b97 k2 x1 x2 x3) (cl (f_X7_told 2 x3 0) (fun r3 => cl (f_X7_told 2 x4 0) (fun r4 => lt (if 0 ≤ (r3 - r4) then (r3 - r4) else 0 - (r3 - r4) : Int32) (fun w5 => cl (f_X10_pairBit x3 x4) (fun r6 => br ((x2 &&& r6) = 0) (f_X10_lawHolds_b71 k2 (f_X10_lawHolds_b18 k2 fu) x1 x2 x3 x4 w5 0) (f_X10_lawHolds_b71 k2 (f_X10_lawHolds_b18 k2 fu) x1 x2 x3 x4 w5 1)))))))
def f_X10_lawHolds_b2 : Nat → Int32 → Int32 → Int32 → Sg → Option (Int32 × Sg)
  | 0, _, _, _ => fun _ => none
  | fu + 1, x1, x2, x3 => dI 2 1 (fun v1 => br (v1 ≤ x3) (rt 1) (f_X10_lawHolds_b18 (f_X10_lawHolds_b2 fu) FU x1 x2 x3 (x3 + 1)))
def f_X10_lawHolds (x1 : Int32) (x2 : Int32) : Sg → Option (Int32 × Sg) :=
  f_X10_lawHolds_b2 FU x1 x2 0
def f_X10_apart_b7 : Nat → Int32 → Int32 → Sg → Option (Int32 × Sg)
  | 0, _, _ => fun _ => none
  | fu + 1, x1, x2 => br (99 < x2) (rt ((-1) : Int32)) (cl (f_X10_lawHolds x2 x1) (fun r2 => br (r2 = 0) ((f_X10_apart_b7 fu) x1 (x2 + 1)) (rt x2)))
def f_X10_apart  : Sg → Option (Int32 × Sg) :=
  cl (f_X10_pairs) (fun r1 => f_X10_apart_b7 FU r1 0)
def f_X10_playBy (x1 : Int32) : Sg → Option (Unit × Sg) :=
  cl (f_X10_prepare) (fun _ => pI 17 4 x1 (dI 2 3 (fun v1 => cl (f_X4_go 0 v1) (fun _ => rt ()))))
def f_X10_best_b81 (k9 : Int32 → Int32 → Int32 → Int32 → Sg → Option (Int32 × Sg)) (x1 : Int32) (x2 : Int32) (x3 : Int32) (x4 : Int32) : Sg → Option (Int32 × Sg) :=
  k9 x1 x2 x3 (x4 + 1)
def f_X10_best_b72 (k9 : Int32 → Int32 → Int32 → Int32 → Sg → Option (Int32 × Sg)) (x4 : Int32) (x5 : Int32) (x6 : Int32) : Sg → Option (Int32 × Sg) :=
  f_X10_best_b81 k9 x4 x5 x6 x4
def f_X10_best_b9 : Nat → Int32 → Int32 → Int32 → Int32 → Sg → Option (Int32 × Sg)
  | 0, _, _, _, _ => fun _ => none
  | fu + 1, x1, x2, x3, x4 => dR 0 6 (fun u1 => gd (isGd u1 = true) (dI (u1 + 3) 4 (fun v2 => br (v2 ≤ x4) (rt x1) (cl (f_X10_playBy x4) (fun _ => cl (f_X4_hurtsOfAll) (fun r4 => cl (f_X4_funOfAll) (fun r5 => br (x4 = ((-1))) (f_X10_best_b72 (f_X10_best_b9 fu) x4 r4 r5) (br (r4 < x2) (f_X10_best_b72 (f_X10_best_b9 fu) x4 r4 r5) (br (r4 = x2) (br (r5 ≤ x3) (f_X10_best_b81 (f_X10_best_b9 fu) x1 x2 x3 x4) (f_X10_best_b72 (f_X10_best_b9 fu) x4 r4 r5)) (f_X10_best_b81 (f_X10_best_b9 fu) x1 x2 x3 x4))))))))))
def f_X10_best  : Sg → Option (Int32 × Sg) :=
  f_X10_best_b9 FU ((-1)) 0 0 ((-1))
def f_J6_bitCount_0f7a4 (x0 : Int32) : Sg → Option (Int32 × Sg) :=
  lt (x0 - (((x0.toUInt32 >>> ((1 : Int32).toUInt32 &&& Int32.toUInt32 31)).toInt32) &&& 1431655765) : Int32) (fun w1 => lt ((w1 &&& 858993459) + (((w1.toUInt32 >>> ((2 : Int32).toUInt32 &&& Int32.toUInt32 31)).toInt32) &&& 858993459) : Int32) (fun w2 => lt ((w2 + ((w2.toUInt32 >>> ((4 : Int32).toUInt32 &&& Int32.toUInt32 31)).toInt32)) &&& 252645135 : Int32) (fun w3 => lt (w3 + ((w3.toUInt32 >>> ((8 : Int32).toUInt32 &&& Int32.toUInt32 31)).toInt32) : Int32) (fun w4 => lt (w4 + ((w4.toUInt32 >>> ((16 : Int32).toUInt32 &&& Int32.toUInt32 31)).toInt32) : Int32) (fun w5 => rt (w5 &&& 63))))))
def f_X10_atOnce_b38 (k4 : Int32 → Int32 → Sg → Option (Int32 × Sg)) (x1 : Int32) (x2 : Int32) : Sg → Option (Int32 × Sg) :=
  k4 x1 (x2 + 1)
def f_X10_atOnce_b4 : Nat → Int32 → Int32 → Sg → Option (Int32 × Sg)
  | 0, _, _ => fun _ => none
  | fu + 1, x1, x2 => dI 2 1 (fun v1 => br (((1 : Int32) <<< (v1 &&& 31)) ≤ x2) (rt x1) (cl (f_J6_bitCount_0f7a4 x2) (fun r3 => cl (f_J6_bitCount_0f7a4 x1) (fun r4 => br (r3 ≤ r4) (f_X10_atOnce_b38 (f_X10_atOnce_b4 fu) x1 x2) (cl (f_X10_hurtAmong x2) (fun r6 => br (r6 = 0) (f_X10_atOnce_b38 (f_X10_atOnce_b4 fu) x2 x2) (f_X10_atOnce_b38 (f_X10_atOnce_b4 fu) x1 x2)))))))
def f_X10_atOnce  : Sg → Option (Int32 × Sg) :=
  f_X10_atOnce_b4 FU 0 1
def f_X10_find_b23  : Sg → Option (Int32 × Sg) :=
  dI 0 5 (fun v1 => pI 0 5 (v1 + 1) (rt ((-1) : Int32)))
def f_X10_find (x1 : Int32) : Sg → Option (Int32 × Sg) :=
  br (x1 < ((-99))) (f_X10_find_b23) (br (99 < x1) (f_X10_find_b23) (cl (f_X7_addPlace 2 x1) (fun r3 => br (r3 = 0) (f_X10_find_b23) (dI 2 9 (fun v5 => rt v5)))))
def f_X10_forget  : Sg → Option (Int32 × Sg) :=
  dI 2 9 (fun v1 => br (v1 = 0) (rt ((-1) : Int32)) (dI 2 9 (fun v3 => pI 2 9 (v3 - 1) (dI 2 9 (fun v4 => rt v4)))))
def f_X10_staysOn_b46 (x5 : Int32) : Sg → Option (Int32 × Sg) :=
  dR 0 6 (fun u1 => gd (isGd u1 = true) (cl (f_X2_isBeyond u1 x5) (fun r2 => br (r2 = 0) (rt 1) (rt 0))))
def f_X10_staysOn_b6 : Nat → Int32 → Int32 → Int32 → Int32 → Int32 → Sg → Option (Int32 × Sg)
  | 0, _, _, _, _, _ => fun _ => none
  | fu + 1, x2, x3, x4, x5, x6 => br (x4 ≤ x6) (f_X10_staysOn_b46 x5) (dR 0 6 (fun u2 => gd (isGd u2 = true) (cl (f_X2_isBeyond u2 x5) (fun r3 => br (r3 = 0) (dR 0 6 (fun u5 => gd (isGd u5 = true) (cl (f_X2_comesTo u5 x5 x2 x3) (fun r6 => (f_X10_staysOn_b6 fu) x2 x3 x4 r6 (x6 + 1))))) (rt 0)))))
def f_X10_staysOn (x1 : Int32) (x2 : Int32) (x3 : Int32) (x4 : Int32) : Sg → Option (Int32 × Sg) :=
  f_X10_staysOn_b6 FU x2 x3 x4 x1 0
def f_X10_sharedDivisor_b9 : Nat → Int64 → Int64 → Int32 → Sg → Option (Int64 × Sg)
  | 0, _, _, _ => fun _ => none
  | fu + 1, x4, x6, x8 => br (1000 ≤ x8) (rt x4) (br ((lg_cmp x6 0) = 0) (rt x4) (gd (¬ x6 = 0) (lt (x4 - x4 / x6 * x6 : Int64) (fun w3 => (f_X10_sharedDivisor_b9 fu) x6 w3 (x8 + 1)))))
def f_X10_sharedDivisor (x0 : Int64) (x2 : Int64) : Sg → Option (Int64 × Sg) :=
  f_X10_sharedDivisor_b9 FU x0 x2 0
def f_X10_partOf_b17 (x5 : Int64) (xs0 : Int64) : Sg → Option (Int64 × Sg) :=
  br ((lg_cmp x5 0) ≤ 0) (rt xs0) (gd (¬ x5 = 0) (rt (xs0 / x5)))
def f_X10_partOf (x0 : Int64) (x2 : Int64) (x4 : Int32) : Sg → Option (Int64 × Sg) :=
  cl (f_X10_sharedDivisor x0 x2) (fun r1 => br (x4 = 0) (f_X10_partOf_b17 r1 x0) (f_X10_partOf_b17 r1 x2))
def f_X10_image  : Sg → Option (Unit × Sg) :=
  cl (f_X7_copy 8 2) (fun _ => pI 0 9 1 (rt ()))
def f_X10_restore  : Sg → Option (Int32 × Sg) :=
  dI 0 9 (fun v1 => br (v1 = 0) (rt 0) (cl (f_X7_copy 2 8) (fun _ => rt 1)))
def f_X10_isJumper (x1 : Int32) : Sg → Option (Int32 × Sg) :=
  br (x1 < 0) (rt 0) (dI 2 1 (fun v2 => br (v2 ≤ x1) (rt 0) (rt 1)))
def f_X10_isTick (x1 : Int32) : Sg → Option (Int32 × Sg) :=
  br (x1 < 0) (rt 0) (dI 2 3 (fun v2 => br (v2 ≤ x1) (rt 0) (rt 1)))
def f_X10_isToldHeight (x0 : Int32) : Sg → Option (Int32 × Sg) :=
  br (x0 < 0) (rt 0) (br (60 < x0) (rt 0) (rt 1))
def f_X10_isCorrects (x0 : Int32) : Sg → Option (Int32 × Sg) :=
  br (x0 < 0) (rt 0) (br (9 < x0) (rt 0) (rt 1))
def f_X10_mayWander (x1 : Int32) (x2 : Int32) (x3 : Int32) : Sg → Option (Int32 × Sg) :=
  br (x3 < 0) (rt 0) (br (12 < x3) (rt 0) (cl (f_X10_isToldHeight x2) (fun r3 => br (r3 = 0) (rt 0) (dR 0 6 (fun u5 => gd (isGd u5 = true) (cl (f_X2_isBeyond u5 x1) (fun r6 => br (r6 = 0) (rt 1) (rt 0))))))))
def f_X10_playAll  : Sg → Option (Unit × Sg) :=
  cl (f_X10_prepare) (fun _ => dI 2 3 (fun v1 => cl (f_X4_go 0 v1) (fun _ => rt ())))
def f_X11_thrown  : Sg → Option (Int32 × Sg) :=
  dI 56 0 (fun v1 => rt v1)
def f_X11_right_b16  : Sg → Option (Int32 × Sg) :=
  dI 56 0 (fun v1 => br (v1 = 0) (rt 1) (rt 0))
def f_X11_right (x1 : Int32) (x2 : Int32) : Sg → Option (Int32 × Sg) :=
  dI 56 0 (fun v1 => br (v1 = 0) (br (x1 = 0) (pI 56 0 x2 (f_X11_right_b16)) (f_X11_right_b16)) (f_X11_right_b16))
def f_X11_within (x0 : Int32) (x1 : Int32) (x2 : Int32) : Sg → Option (Int32 × Sg) :=
  br (x0 < x1) (rt 0) (br (x2 < x0) (rt 0) (rt 1))
def f_X11_off (x0 : Int32) (x1 : Int32) : Sg → Option (Int32 × Sg) :=
  br (x1 ≤ x0) (rt (x0 - x1)) (rt (x1 - x0))
def f_X11_bits_b4 : Nat → Int32 → Int32 → Int32 → Sg → Option (Int32 × Sg)
  | 0, _, _, _ => fun _ => none
  | fu + 1, x0, x1, x2 => br (4 ≤ x2) (rt x1) (lt (x1 + ((x0 >>> (x2 &&& 31)) &&& 1) : Int32) (fun w2 => (f_X11_bits_b4 fu) x0 w2 (x2 + 1)))
def f_X11_bits (x0 : Int32) : Sg → Option (Int32 × Sg) :=
  f_X11_bits_b4 FU x0 0 0
def f_X11_lays_b3 : Nat → Int32 → Int32 → Sg → Option (Unit × Sg)
  | 0, _, _ => fun _ => none
  | fu + 1, x1, x2 => br (x2 < 0) (rt ()) (dI 56 15 (fun v2 => gd (inb v2 600 = true) (pI 62 v2.toNatClampNeg ((x1 >>> (x2 &&& 31)) &&& 255) (dI 56 15 (fun v3 => pI 56 15 (v3 + 1) ((f_X11_lays_b3 fu) x1 (x2 + (-8))))))))
def f_X11_lays (x1 : Int32) : Sg → Option (Unit × Sg) :=
  f_X11_lays_b3 FU x1 24
def f_X11_feed (x1 : Int32) (x2 : Int32) (x3 : Int32) (x4 : Int32) (x5 : Int32) : Sg → Option (Int32 × Sg) :=
  pI 56 0 0 (dI 56 15 (fun v1 => br ((v1 + 20) ≤ 600) (cl (f_X11_lays x1) (fun _ => cl (f_X11_lays x2) (fun _ => cl (f_X11_lays x3) (fun _ => cl (f_X11_lays x4) (fun _ => cl (f_X11_lays x5) (fun _ => dI 56 15 (fun v3 => rt v3))))))) (rt ((-1) : Int32))))
def f_X11_byteAt (x1 : Int32) : Sg → Option (Int32 × Sg) :=
  dI 56 19 (fun v1 => br (v1 ≤ x1) (rt (0 : Int32)) (gd (inb x1 600 = true) (dI 62 x1.toNatClampNeg (fun v3 => rt v3))))
def f_X11_isLetter (x0 : Int32) : Sg → Option (Int32 × Sg) :=
  br (x0 < 97) (rt 0) (br (122 < x0) (rt 0) (rt 1))
def f_X11_isDigit (x0 : Int32) : Sg → Option (Int32 × Sg) :=
  br (x0 < 48) (rt 0) (br (57 < x0) (rt 0) (rt 1))
def f_X11_goes_b37 (k0 : Sg → Option (Unit × Sg))  : Sg → Option (Unit × Sg) :=
  dI 56 20 (fun v1 => pI 56 20 (v1 + 1) (k0))
def f_X11_goes_b159 (k108 : Sg → Option (Unit × Sg))  : Sg → Option (Unit × Sg) :=
  dI 56 20 (fun v1 => pI 56 20 (v1 + 1) (k108))
def f_X11_goes_b331  : Sg → Option (Unit × Sg) :=
  dI 56 20 (fun v1 => dI 56 22 (fun v2 => pI 56 23 (v1 - v2) (rt ())))
def f_X11_goes_b172  : Sg → Option (Unit × Sg) :=
  pI 56 21 1 (f_X11_goes_b331)
def f_X11_goes_b108 : Nat → Sg → Option (Unit × Sg)
  | 0 => fun _ => none
  | fu + 1 => dI 56 20 (fun v1 => cl (f_X11_byteAt v1) (fun r2 => cl (f_X11_isLetter r2) (fun r3 => br (r3 = 0) (f_X11_goes_b172) (dI 56 20 (fun v5 => dI 56 22 (fun v6 => br (8 ≤ (v5 - v6)) (f_X11_goes_b159 (f_X11_goes_b108 fu)) (dL 56 26 (fun v8 => dI 56 20 (fun v9 => cl (f_X11_byteAt v9) (fun r10 => pL 56 26 ((v8 <<< ((5 : Int32).toInt64 &&& 63)) ||| ((r10 - 96).toInt64)) (f_X11_goes_b159 (f_X11_goes_b108 fu))))))))))))
def f_X11_goes_b237 (k187 : Sg → Option (Unit × Sg))  : Sg → Option (Unit × Sg) :=
  dI 56 20 (fun v1 => pI 56 20 (v1 + 1) (k187))
def f_X11_goes_b250  : Sg → Option (Unit × Sg) :=
  pI 56 21 2 (f_X11_goes_b331)
def f_X11_goes_b187 : Nat → Sg → Option (Unit × Sg)
  | 0 => fun _ => none
  | fu + 1 => dI 56 20 (fun v1 => cl (f_X11_byteAt v1) (fun r2 => cl (f_X11_isDigit r2) (fun r3 => br (r3 = 0) (f_X11_goes_b250) (dI 56 20 (fun v5 => dI 56 22 (fun v6 => br (4 ≤ (v5 - v6)) (f_X11_goes_b237 (f_X11_goes_b187 fu)) (dI 56 24 (fun v8 => dI 56 20 (fun v9 => cl (f_X11_byteAt v9) (fun r10 => pI 56 24 (((10 * v8) + r10) - 48) (f_X11_goes_b237 (f_X11_goes_b187 fu))))))))))))
def f_X11_goes_b328 (xs0 : Int32) : Sg → Option (Unit × Sg) :=
  pI 56 21 xs0 (f_X11_goes_b331)
def f_X11_goes_b323  : Sg → Option (Unit × Sg) :=
  f_X11_goes_b328 3
def f_X11_goes_b50  : Sg → Option (Unit × Sg) :=
  dI 56 20 (fun v1 => pI 56 22 v1 (pL 56 26 0 (pI 56 24 0 (dI 56 20 (fun v2 => cl (f_X11_byteAt v2) (fun r3 => pI 56 25 r3 (dI 56 20 (fun v4 => dI 56 19 (fun v5 => br (v4 < v5) (cl (f_X11_isLetter r3) (fun r7 => br (r7 = 0) (cl (f_X11_isDigit r3) (fun r9 => br (r9 = 0) (dI 56 20 (fun v11 => pI 56 20 (v11 + 1) (br (r3 = 59) (f_X11_goes_b323) (br (r3 = 40) (f_X11_goes_b323) (br (r3 = 41) (f_X11_goes_b323) (br (r3 = 43) (f_X11_goes_b323) (br (r3 = 45) (f_X11_goes_b323) (br (r3 = 42) (f_X11_goes_b323) (br (r3 = 47) (f_X11_goes_b323) (br (r3 = 60) (f_X11_goes_b323) (br (r3 = 61) (f_X11_goes_b323) (f_X11_goes_b328 4)))))))))))) (f_X11_goes_b187 FU))) (f_X11_goes_b108 FU))) (pI 56 21 0 (f_X11_goes_b331)))))))))))
def f_X11_goes_b0 : Nat → Sg → Option (Unit × Sg)
  | 0 => fun _ => none
  | fu + 1 => dI 56 20 (fun v1 => dI 56 19 (fun v2 => br (v2 ≤ v1) (f_X11_goes_b50) (dI 56 20 (fun v4 => cl (f_X11_byteAt v4) (fun r5 => br (r5 = 32) (f_X11_goes_b37 (f_X11_goes_b0 fu)) (dI 56 20 (fun v7 => cl (f_X11_byteAt v7) (fun r8 => br (r8 = 10) (f_X11_goes_b37 (f_X11_goes_b0 fu)) (f_X11_goes_b50)))))))))
def f_X11_goes  : Sg → Option (Unit × Sg) :=
  f_X11_goes_b0 FU
def f_X11_spelled_b102 (x7 : Int32) (x8 : Int64) : Sg → Option (Int64 × Sg) :=
  br (x7 = 0) (rt x8) (lt ((x8 <<< ((5 : Int32).toInt64 &&& 63)) ||| ((x7 - 96).toInt64) : Int64) (fun w2 => rt w2))
def f_X11_spelled_b84 (x6 : Int32) (x7 : Int32) (x8 : Int64) : Sg → Option (Int64 × Sg) :=
  br (x6 = 0) (f_X11_spelled_b102 x7 x8) (lt ((x8 <<< ((5 : Int32).toInt64 &&& 63)) ||| ((x6 - 96).toInt64) : Int64) (fun w2 => f_X11_spelled_b102 x7 w2))
def f_X11_spelled_b66 (x5 : Int32) (x6 : Int32) (x7 : Int32) (x8 : Int64) : Sg → Option (Int64 × Sg) :=
  br (x5 = 0) (f_X11_spelled_b84 x6 x7 x8) (lt ((x8 <<< ((5 : Int32).toInt64 &&& 63)) ||| ((x5 - 96).toInt64) : Int64) (fun w2 => f_X11_spelled_b84 x6 x7 w2))
def f_X11_spelled_b48 (x4 : Int32) (x5 : Int32) (x6 : Int32) (x7 : Int32) (x8 : Int64) : Sg → Option (Int64 × Sg) :=
  br (x4 = 0) (f_X11_spelled_b66 x5 x6 x7 x8) (lt ((x8 <<< ((5 : Int32).toInt64 &&& 63)) ||| ((x4 - 96).toInt64) : Int64) (fun w2 => f_X11_spelled_b66 x5 x6 x7 w2))
def f_X11_spelled_b32 (x3 : Int32) (x4 : Int32) (x5 : Int32) (x6 : Int32) (x7 : Int32) (x8 : Int64) : Sg → Option (Int64 × Sg) :=
  br (x3 = 0) (f_X11_spelled_b48 x4 x5 x6 x7 x8) (lt ((x8 <<< ((5 : Int32).toInt64 &&& 63)) ||| ((x3 - 96).toInt64) : Int64) (fun w2 => f_X11_spelled_b48 x4 x5 x6 x7 w2))
def f_X11_spelled (x0 : Int32) (x1 : Int32) (x2 : Int32) (x3 : Int32) (x4 : Int32) (x5 : Int32) (x6 : Int32) (x7 : Int32) : Sg → Option (Int64 × Sg) :=
  lt (((x0.toInt64 - 96) <<< ((5 : Int32).toInt64 &&& 63)) ||| ((x1 - 96).toInt64) : Int64) (fun w1 => br (x2 = 0) (f_X11_spelled_b32 x3 x4 x5 x6 x7 w1) (lt ((w1 <<< ((5 : Int32).toInt64 &&& 63)) ||| ((x2 - 96).toInt64) : Int64) (fun w3 => f_X11_spelled_b32 x3 x4 x5 x6 x7 w3)))
def f_X11_letters (x0 : Int32) : Sg → Option (Int64 × Sg) :=
  br (x0 = 0) (cl (f_X11_spelled 109 101 0 0 0 0 0 0) (fun r2 => rt r2)) (br (x0 = 1) (cl (f_X11_spelled 119 101 105 103 104 116 0 0) (fun r4 => rt r4)) (br (x0 = 2) (cl (f_X11_spelled 104 101 105 103 104 116 0 0) (fun r6 => rt r6)) (br (x0 = 3) (cl (f_X11_spelled 112 108 97 99 101 0 0 0) (fun r8 => rt r8)) (br (x0 = 4) (cl (f_X11_spelled 116 105 99 107 0 0 0 0) (fun r10 => rt r10)) (br (x0 = 5) (cl (f_X11_spelled 117 112 0 0 0 0 0 0) (fun r12 => rt r12)) (br (x0 = 6) (cl (f_X11_spelled 111 110 0 0 0 0 0 0) (fun r14 => rt r14)) (br (x0 = 7) (cl (f_X11_spelled 104 101 97 118 105 101 114 0) (fun r16 => rt r16)) (br (x0 = 8) (cl (f_X11_spelled 109 97 116 0 0 0 0 0) (fun r18 => rt r18)) (br (x0 = 9) (cl (f_X11_spelled 98 114 111 107 101 110 0 0) (fun r20 => rt r20)) (br (x0 = 10) (cl (f_X11_spelled 110 101 97 114 0 0 0 0) (fun r22 => rt r22)) (br (x0 = 11) (cl (f_X11_spelled 115 108 105 112 115 0 0 0) (fun r24 => rt r24)) (br (x0 = 12) (cl (f_X11_spelled 101 103 103 0 0 0 0 0) (fun r26 => rt r26)) (br (x0 = 13) (cl (f_X11_spelled 106 117 109 112 101 114 0 0) (fun r28 => rt r28)) (br (x0 = 14) (cl (f_X11_spelled 99 111 114 114 101 99 116 115) (fun r30 => rt r30)) (br (x0 = 15) (cl (f_X11_spelled 114 117 108 101 0 0 0 0) (fun r32 => rt r32)) (br (x0 = 16) (cl (f_X11_spelled 97 110 100 0 0 0 0 0) (fun r34 => rt r34)) (br (x0 = 17) (cl (f_X11_spelled 111 114 0 0 0 0 0 0) (fun r36 => rt r36)) (cl (f_X11_spelled 110 111 116 0 0 0 0 0) (fun r37 => rt r37)))))))))))))))))))
def f_X11_knownWord_b21 : Nat → Int32 → Sg → Option (Int32 × Sg)
  | 0, _ => fun _ => none
  | fu + 1, x1 => br (19 ≤ x1) (rt ((-1) : Int32)) (cl (f_X11_letters x1) (fun r2 => dL 56 26 (fun v3 => br ((lg_cmp r2 v3) = 0) (rt x1) ((f_X11_knownWord_b21 fu) (x1 + 1)))))
def f_X11_knownWord  : Sg → Option (Int32 × Sg) :=
  dI 56 21 (fun v1 => br (v1 = 1) (dI 56 23 (fun v3 => br (v3 ≤ 8) (f_X11_knownWord_b21 FU 0) (rt ((-1) : Int32)))) (rt ((-1) : Int32)))
def f_X11_wrong (x1 : Int32) : Sg → Option (Unit × Sg) :=
  dI 56 16 (fun v1 => br (v1 = 0) (pI 56 16 x1 (dI 56 22 (fun v3 => pI 56 17 v3 (rt ())))) (rt ()))
def f_X11_isGood  : Sg → Option (Int32 × Sg) :=
  dI 56 16 (fun v1 => br (v1 = 0) (rt 1) (rt 0))
def f_X11_isSign (x1 : Int32) : Sg → Option (Int32 × Sg) :=
  dI 56 21 (fun v1 => br (v1 = 3) (dI 56 25 (fun v3 => br (v3 = x1) (rt 1) (rt 0))) (rt 0))
def f_X11_need (x1 : Int32) : Sg → Option (Unit × Sg) :=
  cl (f_X11_isGood) (fun r1 => br (r1 = 0) (rt ()) (br (x1 = 0) (cl (f_X11_wrong 1) (fun _ => rt ())) (cl (f_X11_goes) (fun _ => rt ()))))
def f_X11_number_b54  : Sg → Option (Int32 × Sg) :=
  dI 56 24 (fun v1 => cl (f_X11_isGood) (fun r2 => br (r2 = 0) (rt v1) (cl (f_X11_goes) (fun _ => rt v1))))
def f_X11_number_b49  : Sg → Option (Int32 × Sg) :=
  cl (f_X11_wrong 2) (fun _ => f_X11_number_b54)
def f_X11_number (x1 : Int32) (x2 : Int32) : Sg → Option (Int32 × Sg) :=
  cl (f_X11_isGood) (fun r1 => br (r1 = 0) (rt (0 : Int32)) (dI 56 21 (fun v3 => br (v3 = 2) (dI 56 23 (fun v5 => br (4 < v5) (f_X11_number_b49) (dI 56 24 (fun v7 => br (v7 < x1) (f_X11_number_b49) (dI 56 24 (fun v9 => br (v9 ≤ x2) (f_X11_number_b54) (f_X11_number_b49))))))) (cl (f_X11_wrong 1) (fun _ => f_X11_number_b54)))))
def f_X11_signed_b30 (x1 : Int32) (x2 : Int32) : Sg → Option (Int32 × Sg) :=
  cl (f_X11_number 0 x1) (fun r1 => br (x2 = 0) (rt r1) (rt (0 - r1)))
def f_X11_signed_b21 (x1 : Int32) (xs0 : Int32) : Sg → Option (Int32 × Sg) :=
  br (xs0 = 0) (f_X11_signed_b30 x1 xs0) (cl (f_X11_goes) (fun _ => f_X11_signed_b30 x1 xs0))
def f_X11_signed_b20 (x1 : Int32) : Sg → Option (Int32 × Sg) :=
  f_X11_signed_b21 x1 0
def f_X11_signed (x1 : Int32) : Sg → Option (Int32 × Sg) :=
  cl (f_X11_isGood) (fun r1 => br (r1 = 0) (f_X11_signed_b20 x1) (cl (f_X11_isSign 45) (fun r3 => br (r3 = 0) (f_X11_signed_b20 x1) (f_X11_signed_b21 x1 1))))
def f_X11_puts (x1 : Int32) : Sg → Option (Unit × Sg) :=
  dI 56 36 (fun v1 => gd (inb v1 1600 = true) (pI 68 v1.toNatClampNeg x1 (dI 56 36 (fun v2 => pI 56 36 (v2 + 1) (rt ())))))
def f_X11_isOpen (x0 : Int32) : Sg → Option (Int32 × Sg) :=
  br (x0 < 14) (rt 0) (rt 1)
def f_X11_strength_b39  : Sg → Option (Int32 × Sg) :=
  rt (4 : Int32)
def f_X11_strength_b55  : Sg → Option (Int32 × Sg) :=
  rt (5 : Int32)
def f_X11_strength (x0 : Int32) : Sg → Option (Int32 × Sg) :=
  br (x0 = 5) (rt (1 : Int32)) (br (x0 = 4) (rt (2 : Int32)) (br (x0 = 3) (rt (3 : Int32)) (br (x0 = 6) (f_X11_strength_b39) (br (x0 = 7) (f_X11_strength_b39) (br (x0 = 8) (f_X11_strength_b55) (br (x0 = 9) (f_X11_strength_b55) (rt (6 : Int32))))))))
def f_X11_drops_b0 : Nat → Int32 → Sg → Option (Unit × Sg)
  | 0, _ => fun _ => none
  | fu + 1, x1 => dI 56 37 (fun v1 => br (v1 ≤ 0) (rt ()) (dI 56 37 (fun v3 => gd (inb (v3 - 1) 800 = true) (dI 69 (v3 - 1).toNatClampNeg (fun v4 => cl (f_X11_isOpen v4) (fun r5 => br (r5 = 0) (dI 56 37 (fun v7 => gd (inb (v7 - 1) 800 = true) (dI 69 (v7 - 1).toNatClampNeg (fun v8 => cl (f_X11_strength v8) (fun r9 => br (r9 < x1) (rt ()) (dI 56 37 (fun v11 => pI 56 37 (v11 - 1) (dI 56 37 (fun v12 => gd (inb v12 800 = true) (dI 69 v12.toNatClampNeg (fun v13 => cl (f_X11_puts v13) (fun _ => (f_X11_drops_b0 fu) x1)))))))))))) (rt ())))))))
def f_X11_drops (x1 : Int32) : Sg → Option (Unit × Sg) :=
  f_X11_drops_b0 FU x1
def f_X11_waitsFor (x1 : Int32) : Sg → Option (Unit × Sg) :=
  dI 56 37 (fun v1 => gd (inb v1 800 = true) (pI 69 v1.toNatClampNeg x1 (dI 56 37 (fun v2 => pI 56 37 (v2 + 1) (rt ())))))
def f_X11_part_b91  : Sg → Option (Unit × Sg) :=
  cl (f_X11_isGood) (fun r1 => br (r1 = 0) (rt ()) (cl (f_X11_goes) (fun _ => rt ())))
def f_X11_part_b29  : Sg → Option (Unit × Sg) :=
  cl (f_X11_puts 1) (fun _ => dI 56 24 (fun v1 => cl (f_X11_puts v1) (fun _ => f_X11_part_b91)))
def f_X11_part_b73 (x1 : Int32) : Sg → Option (Unit × Sg) :=
  cl (f_X11_puts 2) (fun _ => cl (f_X11_puts x1) (fun _ => f_X11_part_b91))
def f_X11_part_b68 (x1 : Int32) : Sg → Option (Unit × Sg) :=
  cl (f_X11_wrong 3) (fun _ => f_X11_part_b73 x1)
def f_X11_part  : Sg → Option (Unit × Sg) :=
  cl (f_X11_isGood) (fun r1 => br (r1 = 0) (rt ()) (dI 56 21 (fun v3 => br (v3 = 2) (dI 56 23 (fun v5 => br (v5 ≤ 4) (f_X11_part_b29) (cl (f_X11_wrong 2) (fun _ => f_X11_part_b29)))) (dI 56 21 (fun v7 => br (v7 = 1) (cl (f_X11_knownWord) (fun r9 => br (r9 < 0) (f_X11_part_b68 r9) (br (r9 ≤ 7) (f_X11_part_b73 r9) (f_X11_part_b68 r9)))) (cl (f_X11_wrong 1) (fun _ => f_X11_part_b91)))))))
def f_X11_deeper_b61 (xs0 : Int32) : Sg → Option (Unit × Sg) :=
  cl (f_X11_wrong xs0) (fun _ => rt ())
def f_X11_deeper_b56  : Sg → Option (Unit × Sg) :=
  f_X11_deeper_b61 2
def f_X11_deeper  : Sg → Option (Unit × Sg) :=
  dI 56 38 (fun v1 => br (6 ≤ v1) (dI 56 21 (fun v3 => br (v3 = 2) (f_X11_deeper_b56) (dI 56 21 (fun v5 => br (v5 = 1) (f_X11_deeper_b56) (cl (f_X11_isSign 40) (fun r7 => br (r7 = 0) (f_X11_deeper_b61 1) (f_X11_deeper_b56))))))) (dI 56 38 (fun v9 => pI 56 38 (v9 + 1) (dI 56 38 (fun v10 => gd (inb v10 9 = true) (pI 70 v10.toNatClampNeg (vp_nar .boolean 0) (rt ())))))))
def f_X11_operand_b50 (k4 : Int32 → Int32 → Sg → Option (Unit × Sg)) (k18 : Int32 → Int32 → Sg → Option (Unit × Sg)) (x2 : Int32) (x4 : Int32) : Sg → Option (Unit × Sg) :=
  cl (f_X11_isGood) (fun r1 => br (r1 = 0) (k18 x2 (x4 + 1)) (cl (f_X11_waitsFor 3) (fun _ => cl (f_X11_goes) (fun _ => k18 x2 (x4 + 1)))))
def f_X11_operand_b96 (k4 : Int32 → Int32 → Sg → Option (Unit × Sg)) (x2 : Int32) (xs0 : Int32) : Sg → Option (Unit × Sg) :=
  br (xs0 = 0) (k4 x2 xs0) (cl (f_X11_waitsFor 14) (fun _ => cl (f_X11_goes) (fun _ => cl (f_X11_deeper) (fun _ => k4 1 xs0))))
def f_X11_operand_b95 (k4 : Int32 → Int32 → Sg → Option (Unit × Sg)) (x2 : Int32) : Sg → Option (Unit × Sg) :=
  f_X11_operand_b96 k4 x2 0
def f_X11_operand_b75 (k4 : Int32 → Int32 → Sg → Option (Unit × Sg)) (x2 : Int32) : Sg → Option (Unit × Sg) :=
  cl (f_X11_isGood) (fun r1 => br (r1 = 0) (f_X11_operand_b95 k4 x2) (cl (f_X11_isSign 40) (fun r3 => br (r3 = 0) (f_X11_operand_b95 k4 x2) (f_X11_operand_b96 k4 x2 1))))
def f_X11_operand_b18 (k4 : Int32 → Int32 → Sg → Option (Unit × Sg)) : Nat → Int32 → Int32 → Sg → Option (Unit × Sg)
  | 0, _, _ => fun _ => none
  | fu + 1, x2, x4 => cl (f_X11_isGood) (fun r1 => br (r1 = 0) (f_X11_operand_b75 k4 x2) (br (x2 = 0) (f_X11_operand_b75 k4 x2) (cl (f_X11_knownWord) (fun r4 => br (r4 = 18) (br (x4 = 6) (cl (f_X11_wrong 2) (fun _ => f_X11_operand_b50 k4 (f_X11_operand_b18 k4 fu) x2 x4)) (f_X11_operand_b50 k4 (f_X11_operand_b18 k4 fu) x2 x4)) (f_X11_operand_b75 k4 x2)))))
def f_X11_operand_b120  : Sg → Option (Unit × Sg) :=
  cl (f_X11_part) (fun _ => rt ())
def f_X11_operand_b4 : Nat → Int32 → Int32 → Sg → Option (Unit × Sg)
  | 0, _, _ => fun _ => none
  | fu + 1, x2, x3 => br (x3 = 0) (f_X11_operand_b120) (cl (f_X11_isGood) (fun r2 => br (r2 = 0) (f_X11_operand_b120) (f_X11_operand_b18 (f_X11_operand_b4 fu) FU x2 0)))
def f_X11_operand (x1 : Int32) : Sg → Option (Unit × Sg) :=
  f_X11_operand_b4 FU x1 1
def f_X11_isOpened_b29 (x1 : Int32) : Sg → Option (Int32 × Sg) :=
  br (x1 < 0) (rt 0) (rt 1)
def f_X11_isOpened_b7 : Nat → Int32 → Sg → Option (Int32 × Sg)
  | 0, _ => fun _ => none
  | fu + 1, x1 => br (x1 < 0) (f_X11_isOpened_b29 x1) (gd (inb x1 800 = true) (dI 69 x1.toNatClampNeg (fun v2 => cl (f_X11_isOpen v2) (fun r3 => br (r3 = 0) ((f_X11_isOpened_b7 fu) (x1 + (-1))) (f_X11_isOpened_b29 x1)))))
def f_X11_isOpened  : Sg → Option (Int32 × Sg) :=
  dI 56 37 (fun v1 => f_X11_isOpened_b7 FU (v1 - 1))
def f_X11_closes  : Sg → Option (Unit × Sg) :=
  cl (f_X11_drops 0) (fun _ => dI 56 37 (fun v1 => pI 56 37 (v1 - 1) (dI 56 38 (fun v2 => pI 56 38 (v2 - 1) (cl (f_X11_goes) (fun _ => rt ()))))))
def f_X11_expression_b84 (k29 : Int32 → Sg → Option (Unit × Sg)) (x1 : Int32) (xs0 : Int32) : Sg → Option (Unit × Sg) :=
  cl (f_X11_waitsFor xs0) (fun _ => dI 56 38 (fun v1 => gd (inb v1 9 = true) (pI 70 v1.toNatClampNeg (vp_nar .boolean 0) (cl (f_X11_goes) (fun _ => cl (f_X11_operand 1) (fun _ => k29 x1))))))
def f_X11_expression_b69 (k29 : Int32 → Sg → Option (Unit × Sg)) (x1 : Int32) (x2 : Int32) (xs0 : Int32) : Sg → Option (Unit × Sg) :=
  cl (f_X11_drops xs0) (fun _ => br (x2 = 16) (f_X11_expression_b84 k29 x1 4) (f_X11_expression_b84 k29 x1 5))
def f_X11_expression_b57 (k29 : Int32 → Sg → Option (Unit × Sg)) (x1 : Int32) (x2 : Int32) : Sg → Option (Unit × Sg) :=
  br (x2 = 16) (f_X11_expression_b69 k29 x1 x2 2) (f_X11_expression_b69 k29 x1 x2 1)
def f_X11_expression_b161 (k29 : Int32 → Sg → Option (Unit × Sg)) (x1 : Int32) (xs0 : Int32) : Sg → Option (Unit × Sg) :=
  cl (f_X11_waitsFor xs0) (fun _ => dI 56 38 (fun v1 => gd (inb v1 9 = true) (pI 70 v1.toNatClampNeg (vp_nar .boolean 1) (cl (f_X11_goes) (fun _ => cl (f_X11_operand 0) (fun _ => k29 x1))))))
def f_X11_expression_b226 (k29 : Int32 → Sg → Option (Unit × Sg)) (x1 : Int32) (xs0 : Int32) : Sg → Option (Unit × Sg) :=
  cl (f_X11_waitsFor xs0) (fun _ => cl (f_X11_goes) (fun _ => cl (f_X11_operand 0) (fun _ => k29 x1)))
def f_X11_expression_b204 (k29 : Int32 → Sg → Option (Unit × Sg)) (x1 : Int32) : Sg → Option (Unit × Sg) :=
  cl (f_X11_drops 5) (fun _ => cl (f_X11_isSign 43) (fun r1 => br (r1 = 0) (f_X11_expression_b226 k29 x1 9) (f_X11_expression_b226 k29 x1 8)))
def f_X11_expression_b282 (k29 : Int32 → Sg → Option (Unit × Sg)) (x1 : Int32) (xs0 : Int32) : Sg → Option (Unit × Sg) :=
  cl (f_X11_waitsFor xs0) (fun _ => cl (f_X11_goes) (fun _ => cl (f_X11_operand 0) (fun _ => k29 x1)))
def f_X11_expression_b259 (k29 : Int32 → Sg → Option (Unit × Sg)) (x1 : Int32) : Sg → Option (Unit × Sg) :=
  cl (f_X11_drops 6) (fun _ => cl (f_X11_isSign 42) (fun r1 => br (r1 = 0) (f_X11_expression_b282 k29 x1 11) (f_X11_expression_b282 k29 x1 10)))
def f_X11_expression_b320 (k29 : Int32 → Sg → Option (Unit × Sg))  : Sg → Option (Unit × Sg) :=
  k29 0
def f_X11_expression_b186 (k29 : Int32 → Sg → Option (Unit × Sg)) (x1 : Int32) : Sg → Option (Unit × Sg) :=
  cl (f_X11_isSign 43) (fun r1 => br (r1 = 0) (cl (f_X11_isSign 45) (fun r3 => br (r3 = 0) (cl (f_X11_isSign 42) (fun r5 => br (r5 = 0) (cl (f_X11_isSign 47) (fun r7 => br (r7 = 0) (cl (f_X11_isSign 41) (fun r9 => br (r9 = 0) (f_X11_expression_b320 k29) (cl (f_X11_isOpened) (fun r11 => br (r11 = 0) (f_X11_expression_b320 k29) (cl (f_X11_closes) (fun _ => k29 x1)))))) (f_X11_expression_b259 k29 x1))) (f_X11_expression_b259 k29 x1))) (f_X11_expression_b204 k29 x1))) (f_X11_expression_b204 k29 x1))
def f_X11_expression_b127 (k29 : Int32 → Sg → Option (Unit × Sg)) (x1 : Int32) : Sg → Option (Unit × Sg) :=
  dI 56 38 (fun v1 => gd (inb v1 9 = true) (dI 70 v1.toNatClampNeg (fun v2 => br (v2 = 0) (cl (f_X11_drops 4) (fun _ => cl (f_X11_isSign 60) (fun r4 => br (r4 = 0) (f_X11_expression_b161 k29 x1 7) (f_X11_expression_b161 k29 x1 6)))) (f_X11_expression_b186 k29 x1))))
def f_X11_expression_b345  : Sg → Option (Unit × Sg) :=
  cl (f_X11_drops 0) (fun _ => cl (f_X11_puts 0) (fun _ => rt ()))
def f_X11_expression_b325  : Sg → Option (Unit × Sg) :=
  cl (f_X11_isGood) (fun r1 => br (r1 = 0) (f_X11_expression_b345) (dI 56 38 (fun v3 => br (v3 ≤ 1) (f_X11_expression_b345) (cl (f_X11_wrong 1) (fun _ => f_X11_expression_b345)))))
def f_X11_expression_b29 : Nat → Int32 → Sg → Option (Unit × Sg)
  | 0, _ => fun _ => none
  | fu + 1, x1 => br (x1 = 0) (f_X11_expression_b325) (cl (f_X11_isGood) (fun r2 => br (r2 = 0) (f_X11_expression_b325) (cl (f_X11_knownWord) (fun r4 => br (r4 = 16) (f_X11_expression_b57 (f_X11_expression_b29 fu) x1 r4) (br (r4 = 17) (f_X11_expression_b57 (f_X11_expression_b29 fu) x1 r4) (cl (f_X11_isSign 60) (fun r7 => br (r7 = 0) (cl (f_X11_isSign 61) (fun r9 => br (r9 = 0) (f_X11_expression_b186 (f_X11_expression_b29 fu) x1) (f_X11_expression_b127 (f_X11_expression_b29 fu) x1))) (f_X11_expression_b127 (f_X11_expression_b29 fu) x1))))))))
def f_X11_expression  : Sg → Option (Unit × Sg) :=
  cl (f_X11_isGood) (fun r1 => br (r1 = 0) (rt ()) (pI 56 37 0 (pI 56 38 0 (cl (f_X11_deeper) (fun _ => cl (f_X11_operand 1) (fun _ => f_X11_expression_b29 FU 1))))))
def f_X11_begins_b40  : Sg → Option (Int32 × Sg) :=
  cl (f_X11_isGood) (fun r1 => gd (r1 = 0 ∨ r1 = 1) (rt r1))
def f_X11_begins_b17 (x1 : Int32) : Sg → Option (Int32 × Sg) :=
  dI 56 35 (fun v1 => pI 56 35 (v1 ||| ((1 : Int32) <<< (x1 &&& 31))) (cl (f_X11_isGood) (fun r2 => br (r2 = 0) (f_X11_begins_b40) (cl (f_X11_goes) (fun _ => f_X11_begins_b40)))))
def f_X11_begins (x1 : Int32) : Sg → Option (Int32 × Sg) :=
  dI 56 35 (fun v1 => br (((v1 >>> (x1 &&& 31)) &&& 1) = 1) (cl (f_X11_wrong 5) (fun _ => f_X11_begins_b17 x1)) (f_X11_begins_b17 x1))
def f_X11_readsJumper_b151  : Sg → Option (Unit × Sg) :=
  cl (f_X11_isGood) (fun r1 => br (r1 = 0) (rt ()) (dI 56 32 (fun v3 => pI 56 32 (v3 + 1) (rt ()))))
def f_X11_readsJumper_b13  : Sg → Option (Unit × Sg) :=
  cl (f_X11_isGood) (fun r1 => br (r1 = 0) (rt ()) (cl (f_X11_goes) (fun _ => dI 56 32 (fun v3 => cl (f_X11_number 1 99) (fun r4 => gd (inb (6 * v3) 24 = true) (pI 65 (6 * v3).toNatClampNeg r4 (cl (f_X11_number 0 30) (fun r5 => gd (inb ((6 * v3) + 1) 24 = true) (pI 65 ((6 * v3) + 1).toNatClampNeg r5 (dI 56 28 (fun v6 => cl (f_X11_signed v6) (fun r7 => gd (inb ((6 * v3) + 2) 24 = true) (pI 65 ((6 * v3) + 2).toNatClampNeg r7 (cl (f_X11_number 0 99) (fun r8 => gd (inb ((6 * v3) + 3) 24 = true) (pI 65 ((6 * v3) + 3).toNatClampNeg r8 (cl (f_X11_number 0 60) (fun r9 => gd (inb ((6 * v3) + 4) 24 = true) (pI 65 ((6 * v3) + 4).toNatClampNeg r9 (gd (inb ((6 * v3) + 5) 24 = true) (pI 65 ((6 * v3) + 5).toNatClampNeg 0 (cl (f_X11_isGood) (fun r10 => br (r10 = 0) (f_X11_readsJumper_b151) (cl (f_X11_knownWord) (fun r12 => br (r12 = 14) (cl (f_X11_goes) (fun _ => cl (f_X11_number 0 9) (fun r14 => gd (inb ((6 * v3) + 5) 24 = true) (pI 65 ((6 * v3) + 5).toNatClampNeg r14 (f_X11_readsJumper_b151))))) (f_X11_readsJumper_b151))))))))))))))))))))))))))
def f_X11_readsJumper  : Sg → Option (Unit × Sg) :=
  dI 56 32 (fun v1 => br (v1 = 4) (cl (f_X11_wrong 2) (fun _ => f_X11_readsJumper_b13)) (f_X11_readsJumper_b13))
def f_X11_readsEgg_b39 (k10 : Sg → Option (Unit × Sg))  : Sg → Option (Unit × Sg) :=
  cl (f_X11_number 1 99) (fun r1 => cl (f_X11_isGood) (fun r2 => br (r2 = 0) (rt ()) (dI 56 34 (fun v4 => gd (inb v4 8 = true) (pI 67 v4.toNatClampNeg r1 (dI 56 34 (fun v5 => pI 56 34 (v5 + 1) (k10))))))))
def f_X11_readsEgg_b10 : Nat → Sg → Option (Unit × Sg)
  | 0 => fun _ => none
  | fu + 1 => cl (f_X11_isGood) (fun r1 => br (r1 = 0) (rt ()) (dI 56 21 (fun v3 => br (v3 = 2) (dI 56 34 (fun v5 => br (v5 = 8) (cl (f_X11_wrong 2) (fun _ => f_X11_readsEgg_b39 (f_X11_readsEgg_b10 fu))) (f_X11_readsEgg_b39 (f_X11_readsEgg_b10 fu)))) (rt ()))))
def f_X11_readsEgg  : Sg → Option (Unit × Sg) :=
  cl (f_X11_begins 12) (fun r1 => br (r1 = 0) (rt ()) (f_X11_readsEgg_b10 FU))
def f_X11_line_b292  : Sg → Option (Unit × Sg) :=
  cl (f_X11_isSign 59) (fun r1 => cl (f_X11_need r1) (fun _ => rt ()))
def f_X11_line_b23 (x1 : Int32) : Sg → Option (Unit × Sg) :=
  cl (f_X11_begins x1) (fun r1 => br (r1 = 0) (rt ()) (cl (f_X11_number 1 9) (fun r3 => pI 56 27 r3 (cl (f_X11_number 3 20) (fun r4 => pI 56 28 r4 (cl (f_X11_number 10 100) (fun r5 => pI 56 29 r5 (f_X11_line_b292))))))))
def f_X11_line_b191 (xs0 : Int32) (xs2 : Int32) : Sg → Option (Unit × Sg) :=
  cl (f_X11_number xs0 9) (fun r1 => gd (inb xs2 3 = true) (pI 64 xs2.toNatClampNeg r1 (f_X11_line_b292)))
def f_X11_line_b232  : Sg → Option (Unit × Sg) :=
  cl (f_X11_isGood) (fun r1 => br (r1 = 0) (rt ()) (cl (f_X11_goes) (fun _ => dI 56 33 (fun v3 => dI 56 36 (fun v4 => gd (inb v3 4 = true) (pI 66 v3.toNatClampNeg v4 (dI 56 33 (fun v5 => pI 56 33 (v5 + 1) (cl (f_X11_expression) (fun _ => f_X11_line_b292))))))))))
def f_X11_line  : Sg → Option (Unit × Sg) :=
  cl (f_X11_knownWord) (fun r1 => br (r1 = 8) (dI 56 32 (fun v3 => br (v3 ≤ 0) (f_X11_line_b23 r1) (cl (f_X11_wrong 4) (fun _ => f_X11_line_b23 r1)))) (br (r1 = 9) (cl (f_X11_begins r1) (fun r6 => br (r6 = 0) (f_X11_line_b292) (cl (f_X11_signed 3) (fun r8 => pI 56 30 r8 (f_X11_line_b292))))) (br (r1 = 10) (cl (f_X11_begins r1) (fun r10 => br (r10 = 0) (f_X11_line_b292) (cl (f_X11_number 0 9) (fun r12 => pI 56 31 r12 (f_X11_line_b292))))) (br (r1 = 11) (cl (f_X11_begins r1) (fun r14 => br (r14 = 0) (rt ()) (cl (f_X11_number 0 9) (fun r16 => pI 64 (0 : Int32).toNatClampNeg r16 (cl (f_X11_number 0 9) (fun r17 => pI 64 (1 : Int32).toNatClampNeg r17 (dI 64 (0 : Int32).toNatClampNeg (fun v18 => dI 64 (1 : Int32).toNatClampNeg (fun v19 => br ((v18 + v19) = 0) (f_X11_line_b191 1 2) (f_X11_line_b191 0 2)))))))))) (br (r1 = 13) (cl (f_X11_readsJumper) (fun _ => f_X11_line_b292)) (br (r1 = 15) (dI 56 33 (fun v23 => br (v23 = 4) (cl (f_X11_wrong 2) (fun _ => f_X11_line_b232)) (f_X11_line_b232))) (br (r1 = 12) (cl (f_X11_readsEgg) (fun _ => f_X11_line_b292)) (cl (f_X11_wrong 1) (fun _ => f_X11_line_b292)))))))))
def f_X11_copies_64_57_b2 : Nat → Int32 → Sg → Option (Unit × Sg)
  | 0, _ => fun _ => none
  | fu + 1, x3 => br (3 ≤ x3) (rt ()) (gd (inb x3 3 = true) (dI 64 x3.toNatClampNeg (fun v2 => gd (inb x3 3 = true) (pI 57 x3.toNatClampNeg v2 ((f_X11_copies_64_57_b2 fu) (x3 + 1))))))
def f_X11_copies_64_57  : Sg → Option (Unit × Sg) :=
  f_X11_copies_64_57_b2 FU 0
def f_X11_copies_65_58_b2 : Nat → Int32 → Sg → Option (Unit × Sg)
  | 0, _ => fun _ => none
  | fu + 1, x3 => br (24 ≤ x3) (rt ()) (gd (inb x3 24 = true) (dI 65 x3.toNatClampNeg (fun v2 => gd (inb x3 24 = true) (pI 58 x3.toNatClampNeg v2 ((f_X11_copies_65_58_b2 fu) (x3 + 1))))))
def f_X11_copies_65_58  : Sg → Option (Unit × Sg) :=
  f_X11_copies_65_58_b2 FU 0
def f_X11_copies_66_59_b2 : Nat → Int32 → Sg → Option (Unit × Sg)
  | 0, _ => fun _ => none
  | fu + 1, x3 => br (4 ≤ x3) (rt ()) (gd (inb x3 4 = true) (dI 66 x3.toNatClampNeg (fun v2 => gd (inb x3 4 = true) (pI 59 x3.toNatClampNeg v2 ((f_X11_copies_66_59_b2 fu) (x3 + 1))))))
def f_X11_copies_66_59  : Sg → Option (Unit × Sg) :=
  f_X11_copies_66_59_b2 FU 0
def f_X11_copies_67_60_b2 : Nat → Int32 → Sg → Option (Unit × Sg)
  | 0, _ => fun _ => none
  | fu + 1, x3 => br (8 ≤ x3) (rt ()) (gd (inb x3 8 = true) (dI 67 x3.toNatClampNeg (fun v2 => gd (inb x3 8 = true) (pI 60 x3.toNatClampNeg v2 ((f_X11_copies_67_60_b2 fu) (x3 + 1))))))
def f_X11_copies_67_60  : Sg → Option (Unit × Sg) :=
  f_X11_copies_67_60_b2 FU 0
def f_X11_copies_68_61_b2 : Nat → Int32 → Sg → Option (Unit × Sg)
  | 0, _ => fun _ => none
  | fu + 1, x3 => br (1600 ≤ x3) (rt ()) (gd (inb x3 1600 = true) (dI 68 x3.toNatClampNeg (fun v2 => gd (inb x3 1600 = true) (pI 61 x3.toNatClampNeg v2 ((f_X11_copies_68_61_b2 fu) (x3 + 1))))))
def f_X11_copies_68_61  : Sg → Option (Unit × Sg) :=
  f_X11_copies_68_61_b2 FU 0
def f_X11_garden_b155  : Sg → Option (Int32 × Sg) :=
  cl (f_X11_isGood) (fun r1 => br (r1 = 0) (dI 63 (0 : Int32).toNatClampNeg (fun v3 => pI 63 (0 : Int32).toNatClampNeg (v3 + 1) (dI 56 16 (fun v4 => rt v4)))) (dI 56 27 (fun v5 => pI 56 1 v5 (dI 56 28 (fun v6 => pI 56 2 v6 (dI 56 29 (fun v7 => pI 56 3 v7 (dI 56 30 (fun v8 => pI 56 4 v8 (dI 56 31 (fun v9 => pI 56 5 v9 (dI 56 32 (fun v10 => pI 56 6 v10 (dI 56 33 (fun v11 => pI 56 7 v11 (dI 56 34 (fun v12 => pI 56 8 v12 (cl (f_X11_copies_64_57) (fun _ => cl (f_X11_copies_65_58) (fun _ => cl (f_X11_copies_66_59) (fun _ => cl (f_X11_copies_67_60) (fun _ => cl (f_X11_copies_68_61) (fun _ => pI 56 46 ((-1)) (pI 56 47 200 (pI 56 48 0 (pI 56 80 0 (pI 56 83 0 (rt (0 : Int32)))))))))))))))))))))))))))))
def f_X11_garden_b134 : Nat → Sg → Option (Int32 × Sg)
  | 0 => fun _ => none
  | fu + 1 => cl (f_X11_isGood) (fun r1 => br (r1 = 0) (f_X11_garden_b155) (dI 56 21 (fun v3 => br (v3 = 0) (f_X11_garden_b155) (cl (f_X11_line) (fun _ => (f_X11_garden_b134 fu))))))
def f_X11_garden_b23 (x1 : Int32) (xs0 : Int32) : Sg → Option (Int32 × Sg) :=
  cl (f_X11_right xs0 1) (fun r1 => br (r1 = 0) (rt (0 : Int32)) (pI 56 15 0 (pI 56 17 ((-1)) (pI 56 16 0 (pI 56 19 x1 (pI 56 20 0 (pI 56 27 3 (pI 56 28 9 (pI 56 29 80 (pI 56 30 0 (pI 56 31 1 (pI 64 (0 : Int32).toNatClampNeg 0 (pI 64 (1 : Int32).toNatClampNeg 1 (pI 64 (2 : Int32).toNatClampNeg 0 (pI 56 32 0 (pI 56 33 0 (pI 56 34 0 (pI 56 35 0 (pI 56 36 0 (cl (f_X11_goes) (fun _ => f_X11_garden_b134 FU)))))))))))))))))))))
def f_X11_garden_b22 (x1 : Int32) : Sg → Option (Int32 × Sg) :=
  f_X11_garden_b23 x1 0
def f_X11_garden (x1 : Int32) : Sg → Option (Int32 × Sg) :=
  pI 56 0 0 (br (x1 < 0) (f_X11_garden_b22 x1) (dI 56 15 (fun v2 => br (v2 < x1) (f_X11_garden_b22 x1) (f_X11_garden_b23 x1 1))))
def f_X11_fault  : Sg → Option (Int32 × Sg) :=
  pI 56 0 0 (dI 56 17 (fun v1 => rt v1))
def f_X11_count (x1 : Int32) : Sg → Option (Int32 × Sg) :=
  pI 56 0 0 (cl (f_X11_within x1 0 18) (fun r1 => cl (f_X11_right r1 1) (fun r2 => br (r2 = 0) (rt (0 : Int32)) (br (x1 = 0) (dI 56 1 (fun v5 => rt v5)) (br (x1 = 1) (dI 56 2 (fun v7 => rt v7)) (br (x1 = 2) (dI 56 3 (fun v9 => rt v9)) (br (x1 = 3) (dI 56 4 (fun v11 => rt v11)) (br (x1 = 4) (dI 56 5 (fun v13 => rt v13)) (br (x1 = 5) (gd (inb (x1 - 5) 3 = true) (dI 57 (x1 - 5).toNatClampNeg (fun v15 => rt v15))) (br (x1 = 6) (gd (inb (x1 - 5) 3 = true) (dI 57 (x1 - 5).toNatClampNeg (fun v17 => rt v17))) (br (x1 = 7) (gd (inb (x1 - 5) 3 = true) (dI 57 (x1 - 5).toNatClampNeg (fun v19 => rt v19))) (br (x1 = 8) (dI 56 6 (fun v21 => rt v21)) (br (x1 = 9) (dI 56 7 (fun v23 => rt v23)) (br (x1 = 10) (dI 56 46 (fun v25 => rt v25)) (br (x1 = 11) (dI 56 47 (fun v27 => rt v27)) (br (x1 = 12) (dI 56 8 (fun v29 => rt v29)) (br (x1 = 13) (dI 56 48 (fun v31 => rt v31)) (br (x1 = 14) (dI 56 80 (fun v33 => rt v33)) (br (x1 = 15) (dI 56 15 (fun v35 => rt v35)) (gd (inb (x1 - 16) 3 = true) (dI 63 (x1 - 16).toNatClampNeg (fun v36 => rt v36))))))))))))))))))))))
def f_X11_isJumper_b18 (xs0 : Int32) : Sg → Option (Int32 × Sg) :=
  cl (f_X11_right xs0 1) (fun r1 => gd (r1 = 0 ∨ r1 = 1) (rt r1))
def f_X11_isJumper_b17  : Sg → Option (Int32 × Sg) :=
  f_X11_isJumper_b18 0
def f_X11_isJumper (x1 : Int32) : Sg → Option (Int32 × Sg) :=
  br (x1 < 0) (f_X11_isJumper_b17) (dI 56 6 (fun v2 => br (v2 ≤ x1) (f_X11_isJumper_b17) (f_X11_isJumper_b18 1)))
def f_X11_isWhat (x1 : Int32) (x2 : Int32) : Sg → Option (Int32 × Sg) :=
  cl (f_X11_within x1 0 x2) (fun r1 => cl (f_X11_right r1 1) (fun r2 => gd (r2 = 0 ∨ r2 = 1) (rt r2)))
def f_X11_weight (x1 : Int32) : Sg → Option (Int32 × Sg) :=
  gd (inb (6 * x1) 24 = true) (dI 58 (6 * x1).toNatClampNeg (fun v1 => rt v1))
def f_X11_jumper (x1 : Int32) (x2 : Int32) : Sg → Option (Int32 × Sg) :=
  pI 56 0 0 (cl (f_X11_isJumper x1) (fun r1 => br (r1 = 0) (rt (0 : Int32)) (cl (f_X11_isWhat x2 5) (fun r3 => br (r3 = 0) (rt (0 : Int32)) (gd (inb ((6 * x1) + x2) 24 = true) (dI 58 ((6 * x1) + x2).toNatClampNeg (fun v5 => rt v5)))))))
def f_X11_keeps_b47 (x1 : Int32) (x2 : Int32) : Sg → Option (Unit × Sg) :=
  dI 56 48 (fun v1 => gd (inb (2 * v1) 80 = true) (pI 71 (2 * v1).toNatClampNeg x1 (dI 56 48 (fun v2 => gd (inb ((2 * v2) + 1) 80 = true) (pI 71 ((2 * v2) + 1).toNatClampNeg x2 (dI 56 48 (fun v3 => pI 56 48 (v3 + 1) (rt ()))))))))
def f_X11_keeps_b37 (x1 : Int32) (x2 : Int32) : Sg → Option (Unit × Sg) :=
  dI 56 48 (fun v1 => pI 56 48 (v1 - 1) (f_X11_keeps_b47 x1 x2))
def f_X11_keeps_b11 : Nat → Int32 → Int32 → Int32 → Sg → Option (Unit × Sg)
  | 0, _, _, _ => fun _ => none
  | fu + 1, x1, x2, x3 => br (80 ≤ x3) (f_X11_keeps_b37 x1 x2) (gd (inb x3 80 = true) (dI 71 x3.toNatClampNeg (fun v2 => gd (inb (x3 - 2) 80 = true) (pI 71 (x3 - 2).toNatClampNeg v2 ((f_X11_keeps_b11 fu) x1 x2 (x3 + 1))))))
def f_X11_keeps (x1 : Int32) (x2 : Int32) : Sg → Option (Unit × Sg) :=
  dI 56 48 (fun v1 => br (v1 = 40) (f_X11_keeps_b11 FU x1 x2 2) (f_X11_keeps_b47 x1 x2))
def f_X11_refuses (x1 : Int32) : Sg → Option (Int32 × Sg) :=
  gd (inb x1 3 = true) (dI 63 x1.toNatClampNeg (fun v1 => gd (inb x1 3 = true) (pI 63 x1.toNatClampNeg (v1 + 1) (rt ((-1) : Int32)))))
def f_X11_become_b47 (x1 : Int32) (x2 : Int32) (x3 : Int32) (xs0 : Int32) (xs1 : Int32) (xs2 : Int32) : Sg → Option (Int32 × Sg) :=
  cl (f_X11_within xs2 xs1 xs0) (fun r1 => br (r1 = 0) (cl (f_X11_refuses 1) (fun r3 => rt r3)) (lt (((6 * x1) + 3) + x2 : Int32) (fun w4 => gd (inb w4 24 = true) (dI 58 w4.toNatClampNeg (fun v5 => cl (f_X11_keeps w4 v5) (fun _ => gd (inb w4 24 = true) (pI 58 w4.toNatClampNeg x3 (rt v5))))))))
def f_X11_become (x1 : Int32) (x2 : Int32) (x3 : Int32) : Sg → Option (Int32 × Sg) :=
  pI 56 0 0 (cl (f_X11_isJumper x1) (fun r1 => br (r1 = 0) (rt (0 : Int32)) (cl (f_X11_isWhat x2 2) (fun r3 => br (r3 = 0) (rt (0 : Int32)) (br (x2 = 0) (f_X11_become_b47 x1 x2 x3 99 0 x3) (br (x2 = 1) (f_X11_become_b47 x1 x2 x3 60 0 x3) (f_X11_become_b47 x1 x2 x3 9 0 x3)))))))
def f_X11_obey_b18  : Sg → Option (Int32 × Sg) :=
  cl (f_X11_refuses 1) (fun r1 => br (r1 ≤ 0) (rt 0) (rt 1))
def f_X11_obey (x1 : Int32) : Sg → Option (Int32 × Sg) :=
  pI 56 0 0 (br (x1 < ((-1))) (f_X11_obey_b18) (dI 56 7 (fun v2 => br (x1 < v2) (dI 56 46 (fun v4 => cl (f_X11_keeps 24 v4) (fun _ => pI 56 46 x1 (rt 1)))) (f_X11_obey_b18))))
def f_X11_last (x1 : Int32) : Sg → Option (Int32 × Sg) :=
  pI 56 0 0 (cl (f_X11_within x1 1 600) (fun r1 => br (r1 = 0) (cl (f_X11_refuses 1) (fun r3 => br (r3 ≤ 0) (rt 0) (rt 1))) (dI 56 47 (fun v5 => cl (f_X11_keeps 25 v5) (fun _ => pI 56 47 x1 (rt 1))))))
def f_X11_undo  : Sg → Option (Int32 × Sg) :=
  pI 56 0 0 (dI 56 48 (fun v1 => br (v1 = 0) (rt ((-1) : Int32)) (dI 56 48 (fun v3 => pI 56 48 (v3 - 1) (dI 56 48 (fun v4 => gd (inb (2 * v4) 80 = true) (dI 71 (2 * v4).toNatClampNeg (fun v5 => dI 56 48 (fun v6 => gd (inb ((2 * v6) + 1) 80 = true) (dI 71 ((2 * v6) + 1).toNatClampNeg (fun v7 => br (v5 = 24) (pI 56 46 v7 (dI 56 48 (fun v9 => rt v9))) (br (v5 = 25) (pI 56 47 v7 (dI 56 48 (fun v11 => rt v11))) (gd (inb v5 24 = true) (pI 58 v5.toNatClampNeg v7 (dI 56 48 (fun v12 => rt v12))))))))))))))))
def f_X11_works_b66  : Sg → Option (Int32 × Sg) :=
  rt (1 : Int32)
def f_X11_works (x0 : Int32) (x1 : Int32) (x2 : Int32) : Sg → Option (Int32 × Sg) :=
  br (x0 = 4) (br (x1 = 0) (rt (0 : Int32)) (br (x2 = 0) (rt (0 : Int32)) (rt (1 : Int32)))) (br (x0 = 5) (br (x1 = 0) (br (x2 = 0) (rt (0 : Int32)) (f_X11_works_b66)) (f_X11_works_b66)) (br (x0 = 6) (br (x2 ≤ x1) (rt (0 : Int32)) (rt (1 : Int32))) (br (x0 = 7) (br (x1 = x2) (rt (1 : Int32)) (rt (0 : Int32))) (br (x0 = 8) (rt (x1 + x2)) (br (x0 = 9) (rt (x1 - x2)) (br (x0 = 10) (rt (x1 * x2)) (br (x2 = 0) (rt (0 : Int32)) (gd (¬ x2 = 0) (rt (x1 / x2))))))))))
def f_X11_valueOf_b118 (k50 : Int32 → Int32 → Int32 → Int32 → Sg → Option (Int32 × Sg)) (x1 : Int32) (x2 : Int32) (x5 : Int32) (x6 : Int32) : Sg → Option (Int32 × Sg) :=
  k50 x1 x2 x5 (x6 + 1)
def f_X11_valueOf_b115 (k50 : Int32 → Int32 → Int32 → Int32 → Sg → Option (Int32 × Sg)) (x1 : Int32) (x2 : Int32) (x6 : Int32) (xs0 : Int32) (xs1 : Int32) : Sg → Option (Int32 × Sg) :=
  f_X11_valueOf_b118 k50 x1 x2 (xs1 + xs0) x6
def f_X11_valueOf_b110 (k50 : Int32 → Int32 → Int32 → Int32 → Sg → Option (Int32 × Sg)) (x1 : Int32) (x2 : Int32) (x6 : Int32) (xs0 : Int32) : Sg → Option (Int32 × Sg) :=
  f_X11_valueOf_b115 k50 x1 x2 x6 1 xs0
def f_X11_valueOf_b82 (k50 : Int32 → Int32 → Int32 → Int32 → Sg → Option (Int32 × Sg)) (x1 : Int32) (x2 : Int32) (x5 : Int32) (x6 : Int32) (xs0 : Int32) (xs1 : Int32) : Sg → Option (Int32 × Sg) :=
  br (xs1 = xs0) (br (x1 = 7) (cl (f_X11_weight x6) (fun r3 => cl (f_X11_weight x2) (fun r4 => br (r3 ≤ r4) (f_X11_valueOf_b115 k50 x1 x2 x6 0 x5) (f_X11_valueOf_b110 k50 x1 x2 x6 x5)))) (f_X11_valueOf_b110 k50 x1 x2 x6 x5)) (f_X11_valueOf_b118 k50 x1 x2 x5 x6)
def f_X11_valueOf_b50 : Nat → Int32 → Int32 → Int32 → Int32 → Sg → Option (Int32 × Sg)
  | 0, _, _, _, _ => fun _ => none
  | fu + 1, x1, x2, x5, x6 => dI 56 6 (fun v1 => br (v1 ≤ x6) (rt x5) (br (x6 = x2) (f_X11_valueOf_b118 (f_X11_valueOf_b50 fu) x1 x2 x5 x6) (gd (inb x6 4 = true) (dI 73 x6.toNatClampNeg (fun v4 => br (x1 = 5) (f_X11_valueOf_b82 (f_X11_valueOf_b50 fu) x1 x2 x5 x6 1 v4) (f_X11_valueOf_b82 (f_X11_valueOf_b50 fu) x1 x2 x5 x6 2 v4))))))
def f_X11_valueOf (x1 : Int32) (x2 : Int32) (x3 : Int32) (x4 : Int32) : Sg → Option (Int32 × Sg) :=
  br (x1 = 0) (rt x2) (br (x1 = 1) (cl (f_X11_weight x2) (fun r3 => rt r3)) (br (x1 = 2) (rt x3) (br (x1 = 3) (gd (inb x2 4 = true) (dI 74 x2.toNatClampNeg (fun v6 => rt v6))) (br (x1 = 4) (rt x4) (f_X11_valueOf_b50 FU x1 x2 0 0)))))
def f_X11_mayGo_b94 (k24 : Int32 → Int32 → Int32 → Int32 → Int32 → Sg → Option (Int32 × Sg)) (x1 : Int32) (x2 : Int32) (x3 : Int32) (x4 : Int32) (x5 : Int32) (xs0 : Int32) (xs1 : Int32) : Sg → Option (Int32 × Sg) :=
  gd (inb xs1 800 = true) (pI 72 xs1.toNatClampNeg xs0 (k24 x1 x2 x3 (x4 + 1) (x5 + 1)))
def f_X11_mayGo_b58 (k24 : Int32 → Int32 → Int32 → Int32 → Int32 → Sg → Option (Int32 × Sg)) (x1 : Int32) (x2 : Int32) (x3 : Int32) (x4 : Int32) (x5 : Int32) (x6 : Int32) : Sg → Option (Int32 × Sg) :=
  br (x6 = 1) (gd (inb x5 1600 = true) (dI 61 x5.toNatClampNeg (fun v2 => f_X11_mayGo_b94 k24 x1 x2 x3 x4 x5 v2 x4))) (gd (inb x5 1600 = true) (dI 61 x5.toNatClampNeg (fun v3 => cl (f_X11_valueOf v3 x1 x2 x3) (fun r4 => f_X11_mayGo_b94 k24 x1 x2 x3 x4 x5 r4 x4))))
def f_X11_mayGo_b135 (k24 : Int32 → Int32 → Int32 → Int32 → Int32 → Sg → Option (Int32 × Sg)) (x1 : Int32) (x2 : Int32) (x3 : Int32) (x4 : Int32) (x5 : Int32) (xs0 : Int32) (xs1 : Int32) : Sg → Option (Int32 × Sg) :=
  gd (inb xs1 800 = true) (pI 72 xs1.toNatClampNeg xs0 (k24 x1 x2 x3 x4 x5))
def f_X11_mayGo_b175  : Sg → Option (Int32 × Sg) :=
  dI 72 (0 : Int32).toNatClampNeg (fun v1 => br (v1 = 0) (rt 0) (rt 1))
def f_X11_mayGo_b24 : Nat → Int32 → Int32 → Int32 → Int32 → Int32 → Sg → Option (Int32 × Sg)
  | 0, _, _, _, _, _ => fun _ => none
  | fu + 1, x1, x2, x3, x4, x5 => gd (inb x5 1600 = true) (dI 61 x5.toNatClampNeg (fun v1 => br (v1 = 0) (f_X11_mayGo_b175) (gd (inb x5 1600 = true) (dI 61 x5.toNatClampNeg (fun v3 => br (v3 = 1) (f_X11_mayGo_b58 (f_X11_mayGo_b24 fu) x1 x2 x3 x4 (x5 + 1) v3) (br (v3 = 2) (f_X11_mayGo_b58 (f_X11_mayGo_b24 fu) x1 x2 x3 x4 (x5 + 1) v3) (br (v3 = 3) (gd (inb (x4 - 1) 800 = true) (dI 72 (x4 - 1).toNatClampNeg (fun v7 => br (v7 = 0) (f_X11_mayGo_b135 (f_X11_mayGo_b24 fu) x1 x2 x3 x4 (x5 + 1) 1 (x4 - 1)) (f_X11_mayGo_b135 (f_X11_mayGo_b24 fu) x1 x2 x3 x4 (x5 + 1) 0 (x4 - 1))))) (gd (inb ((x4 + (-1)) - 1) 800 = true) (dI 72 ((x4 + (-1)) - 1).toNatClampNeg (fun v9 => gd (inb (x4 + (-1)) 800 = true) (dI 72 (x4 + (-1)).toNatClampNeg (fun v10 => cl (f_X11_works v3 v9 v10) (fun r11 => gd (inb ((x4 + (-1)) - 1) 800 = true) (pI 72 ((x4 + (-1)) - 1).toNatClampNeg r11 ((f_X11_mayGo_b24 fu) x1 x2 x3 (x4 + (-1)) (x5 + 1))))))))))))))))
def f_X11_mayGo (x1 : Int32) (x2 : Int32) (x3 : Int32) : Sg → Option (Int32 × Sg) :=
  dI 56 46 (fun v1 => br (v1 = ((-1))) (rt 1) (dI 56 46 (fun v3 => gd (inb v3 4 = true) (dI 59 v3.toNatClampNeg (fun v4 => f_X11_mayGo_b24 FU x1 x2 x3 0 v4)))))
def f_X11_hurts_b23 (x1 : Int32) (x2 : Int32) : Sg → Option (Unit × Sg) :=
  dI 56 72 (fun v1 => br (v1 = x2) (dI 56 73 (fun v3 => pI 56 73 (v3 ||| ((1 : Int32) <<< (x1 &&& 31))) (rt ()))) (rt ()))
def f_X11_hurts (x1 : Int32) (x2 : Int32) : Sg → Option (Unit × Sg) :=
  gd (inb x1 4 = true) (dI 81 x1.toNatClampNeg (fun v1 => gd (inb x1 4 = true) (pI 81 x1.toNatClampNeg (v1 + 1) (dI 56 72 (fun v2 => br (v2 = ((-1))) (pI 56 72 x2 (f_X11_hurts_b23 x1 x2)) (f_X11_hurts_b23 x1 x2))))))
def f_X11_landed (x1 : Int32) (x2 : Int32) (x3 : Int32) (x4 : Int32) : Sg → Option (Unit × Sg) :=
  dI 56 64 (fun v1 => gd (inb (5 * v1) 6500 = true) (pI 85 (5 * v1).toNatClampNeg x1 (gd (inb ((5 * v1) + 1) 6500 = true) (pI 85 ((5 * v1) + 1).toNatClampNeg x2 (gd (inb ((5 * v1) + 2) 6500 = true) (pI 85 ((5 * v1) + 2).toNatClampNeg x3 (gd (inb x2 4 = true) (dI 74 x2.toNatClampNeg (fun v2 => gd (inb ((5 * v1) + 3) 6500 = true) (pI 85 ((5 * v1) + 3).toNatClampNeg v2 (gd (inb ((5 * v1) + 4) 6500 = true) (pI 85 ((5 * v1) + 4).toNatClampNeg x4 (dI 56 64 (fun v3 => pI 56 64 (v3 + 1) (lt ((6 * x2) + x3 : Int32) (fun w4 => gd (inb w4 24 = true) (dI 83 w4.toNatClampNeg (fun v5 => gd (inb w4 24 = true) (pI 83 w4.toNatClampNeg (v5 + 1) (rt ()))))))))))))))))))))
def f_X11_comesDown_b41 (x1 : Int32) (x2 : Int32) (x3 : Int32) : Sg → Option (Unit × Sg) :=
  gd (inb x1 4 = true) (pI 73 x1.toNatClampNeg 3 (cl (f_X11_hurts x1 x2) (fun _ => cl (f_X11_landed x2 x1 4 x3) (fun _ => rt ()))))
def f_X11_comesDown_b147 (k69 : Int32 → Int32 → Int32 → Int32 → Int32 → Sg → Option (Unit × Sg)) (x1 : Int32) (x2 : Int32) (x3 : Int32) (x4 : Int32) (x5 : Int32) : Sg → Option (Unit × Sg) :=
  k69 x1 x2 x3 x4 (x5 + 1)
def f_X11_comesDown_b298 (x3 : Int32) (xs0 : Int32) (xs1 : Int32) (xs2 : Int32) : Sg → Option (Unit × Sg) :=
  cl (f_X11_landed xs2 xs1 xs0 x3) (fun _ => rt ())
def f_X11_comesDown_b260 (x1 : Int32) (x2 : Int32) (x3 : Int32) (x5 : Int32) : Sg → Option (Unit × Sg) :=
  dI 56 66 (fun v1 => pI 56 66 (v1 + x3) (dI 56 68 (fun v2 => pI 56 68 (v2 + x3) (pI 56 67 x1 (br (x5 = 0) (f_X11_comesDown_b298 x3 1 x1 x2) (f_X11_comesDown_b298 x3 0 x1 x2))))))
def f_X11_comesDown_b227 (x1 : Int32) (x2 : Int32) (x3 : Int32) (xs0 : Int32) : Sg → Option (Unit × Sg) :=
  br (xs0 = 0) (dI 56 67 (fun v2 => lt ((6 * v2) + 2 : Int32) (fun w3 => gd (inb w3 24 = true) (dI 83 w3.toNatClampNeg (fun v4 => gd (inb w3 24 = true) (pI 83 w3.toNatClampNeg (v4 + 1) (f_X11_comesDown_b260 x1 x2 x3 xs0))))))) (pI 56 65 x2 (f_X11_comesDown_b260 x1 x2 x3 xs0))
def f_X11_comesDown_b214 (x1 : Int32) (x2 : Int32) (x3 : Int32) : Sg → Option (Unit × Sg) :=
  dI 56 65 (fun v1 => br (v1 = ((-1))) (f_X11_comesDown_b227 x1 x2 x3 1) (f_X11_comesDown_b227 x1 x2 x3 0))
def f_X11_comesDown_b179 (x1 : Int32) (x2 : Int32) (x3 : Int32) : Sg → Option (Unit × Sg) :=
  gd (inb x1 4 = true) (pI 73 x1.toNatClampNeg 2 (gd (inb x1 4 = true) (pI 77 x1.toNatClampNeg x2 (dI 56 65 (fun v1 => br (v1 = ((-1))) (f_X11_comesDown_b214 x1 x2 x3) (dI 56 65 (fun v3 => dI 56 1 (fun v4 => br (v4 ≤ (x2 - v3)) (gd (inb x1 4 = true) (dI 82 x1.toNatClampNeg (fun v6 => gd (inb x1 4 = true) (pI 82 x1.toNatClampNeg (v6 + x3) (dI 56 69 (fun v7 => pI 56 69 (v7 + x3) (cl (f_X11_landed x2 x1 3 x3) (fun _ => rt ())))))))) (f_X11_comesDown_b214 x1 x2 x3)))))))))
def f_X11_comesDown_b153 (x1 : Int32) (x2 : Int32) (x3 : Int32) (x4 : Int32) : Sg → Option (Unit × Sg) :=
  br (x4 = 0) (f_X11_comesDown_b179 x1 x2 x3) (cl (f_X11_hurts x1 x2) (fun _ => lt ((6 * x1) + 5 : Int32) (fun w2 => gd (inb w2 24 = true) (dI 83 w2.toNatClampNeg (fun v3 => gd (inb w2 24 = true) (pI 83 w2.toNatClampNeg (v3 + 1) (f_X11_comesDown_b179 x1 x2 x3)))))))
def f_X11_comesDown_b69 : Nat → Int32 → Int32 → Int32 → Int32 → Int32 → Sg → Option (Unit × Sg)
  | 0, _, _, _, _, _ => fun _ => none
  | fu + 1, x1, x2, x3, x4, x5 => dI 56 6 (fun v1 => br (v1 ≤ x5) (f_X11_comesDown_b153 x1 x2 x3 x4) (br (x5 = x1) (f_X11_comesDown_b147 (f_X11_comesDown_b69 fu) x1 x2 x3 x4 x5) (gd (inb x5 4 = true) (dI 73 x5.toNatClampNeg (fun v4 => br (v4 = 2) (gd (inb x5 4 = true) (dI 74 x5.toNatClampNeg (fun v6 => gd (inb x1 4 = true) (dI 74 x1.toNatClampNeg (fun v7 => cl (f_X11_off v6 v7) (fun r8 => dI 56 5 (fun v9 => br (r8 ≤ v9) (cl (f_X11_hurts x5 x2) (fun _ => lt ((6 * x5) + 5 : Int32) (fun w11 => gd (inb w11 24 = true) (dI 83 w11.toNatClampNeg (fun v12 => gd (inb w11 24 = true) (pI 83 w11.toNatClampNeg (v12 + 1) (f_X11_comesDown_b147 (f_X11_comesDown_b69 fu) x1 x2 x3 1 x5))))))) (f_X11_comesDown_b147 (f_X11_comesDown_b69 fu) x1 x2 x3 x4 x5)))))))) (f_X11_comesDown_b147 (f_X11_comesDown_b69 fu) x1 x2 x3 x4 x5))))))
def f_X11_comesDown (x1 : Int32) (x2 : Int32) : Sg → Option (Unit × Sg) :=
  cl (f_X11_weight x1) (fun r1 => gd (inb x1 4 = true) (dI 76 x1.toNatClampNeg (fun v2 => gd (inb x1 4 = true) (dI 74 x1.toNatClampNeg (fun v3 => dI 56 2 (fun v4 => br (v4 < v3) (f_X11_comesDown_b41 x1 x2 (r1 * v2)) (gd (inb x1 4 = true) (dI 74 x1.toNatClampNeg (fun v6 => dI 56 2 (fun v7 => br ((0 - v7) ≤ v6) (f_X11_comesDown_b69 FU x1 x2 (r1 * v2) 0 0) (f_X11_comesDown_b41 x1 x2 (r1 * v2))))))))))))
def f_X11_then (x1 : Int32) (x2 : Int32) (x3 : Int32) : Sg → Option (Int32 × Sg) :=
  dI 56 4 (fun v1 => lt ((x1 + ((x1 * x2) / 40)) + v1 : Int32) (fun w2 => br (w2 ≤ 0) (br ((0 - w2) ≤ x3) (rt (0 : Int32)) (rt (w2 + x3))) (br (w2 ≤ x3) (rt (0 : Int32)) (rt (w2 - x3)))))
def f_X11_goesUp_b35 (x1 : Int32) (x2 : Int32) (x3 : Int32) (xs0 : Int32) (xs1 : Int32) : Sg → Option (Unit × Sg) :=
  gd (inb xs1 4 = true) (pI 79 xs1.toNatClampNeg xs0 (gd (inb x1 4 = true) (dI 80 x1.toNatClampNeg (fun v1 => gd (inb x1 4 = true) (pI 80 x1.toNatClampNeg (v1 + x2) (gd (inb x1 4 = true) (pI 73 x1.toNatClampNeg 1 (gd (inb x1 4 = true) (pI 77 x1.toNatClampNeg x3 (gd (inb x1 4 = true) (pI 76 x1.toNatClampNeg x2 (gd (inb x1 4 = true) (pI 75 x1.toNatClampNeg ((x3 + 2) + (x2 / 2)) (gd (inb x1 4 = true) (dI 74 x1.toNatClampNeg (fun v2 => gd (inb ((6 * x1) + 5) 24 = true) (dI 58 ((6 * x1) + 5).toNatClampNeg (fun v3 => cl (f_X11_then v2 x2 v3) (fun r4 => gd (inb x1 4 = true) (pI 74 x1.toNatClampNeg r4 (rt ())))))))))))))))))))))
def f_X11_goesUp (x1 : Int32) (x2 : Int32) (x3 : Int32) : Sg → Option (Unit × Sg) :=
  gd (inb x1 4 = true) (dI 78 x1.toNatClampNeg (fun v1 => gd (inb x1 4 = true) (pI 78 x1.toNatClampNeg (v1 + 1) (gd (inb x1 4 = true) (dI 79 x1.toNatClampNeg (fun v2 => br (x2 ≤ v2) (gd (inb x1 4 = true) (dI 79 x1.toNatClampNeg (fun v4 => f_X11_goesUp_b35 x1 x2 x3 v4 x1))) (f_X11_goesUp_b35 x1 x2 x3 x2 x1)))))))
def f_X11_clears_b86 (k2 : Int32 → Int32 → Sg → Option (Unit × Sg)) (x1 : Int32) (x2 : Int32) (xs0 : Int32) (xs1 : Int32) : Sg → Option (Unit × Sg) :=
  gd (inb xs1 4 = true) (pI 75 xs1.toNatClampNeg xs0 (gd (inb ((6 * x2) + 4) 24 = true) (dI 58 ((6 * x2) + 4).toNatClampNeg (fun v1 => gd (inb x2 4 = true) (pI 76 x2.toNatClampNeg v1 (gd (inb x2 4 = true) (pI 77 x2.toNatClampNeg 0 (gd (inb x2 4 = true) (pI 78 x2.toNatClampNeg 0 (gd (inb x2 4 = true) (pI 79 x2.toNatClampNeg 0 (gd (inb x2 4 = true) (pI 80 x2.toNatClampNeg 0 (gd (inb x2 4 = true) (pI 81 x2.toNatClampNeg 0 (gd (inb x2 4 = true) (pI 82 x2.toNatClampNeg 0 (k2 x1 (x2 + 1)))))))))))))))))))
def f_X11_clears_b44 (k2 : Int32 → Int32 → Sg → Option (Unit × Sg)) (x1 : Int32) (x2 : Int32) (x3 : Int32) (xs0 : Int32) (xs1 : Int32) : Sg → Option (Unit × Sg) :=
  gd (inb xs1 4 = true) (pI 73 xs1.toNatClampNeg xs0 (gd (inb ((6 * x2) + 2) 24 = true) (dI 58 ((6 * x2) + 2).toNatClampNeg (fun v1 => gd (inb x2 4 = true) (pI 74 x2.toNatClampNeg v1 (br (x3 = 0) (f_X11_clears_b86 k2 x1 x2 ((-1)) x2) (gd (inb ((6 * x2) + 3) 24 = true) (dI 58 ((6 * x2) + 3).toNatClampNeg (fun v3 => f_X11_clears_b86 k2 x1 x2 v3 x2)))))))))
def f_X11_clears_b29 (k2 : Int32 → Int32 → Sg → Option (Unit × Sg)) (x1 : Int32) (x2 : Int32) (xs0 : Int32) : Sg → Option (Unit × Sg) :=
  br (xs0 = 0) (f_X11_clears_b44 k2 x1 x2 xs0 3 x2) (f_X11_clears_b44 k2 x1 x2 xs0 0 x2)
def f_X11_clears_b28 (k2 : Int32 → Int32 → Sg → Option (Unit × Sg)) (x1 : Int32) (x2 : Int32) : Sg → Option (Unit × Sg) :=
  f_X11_clears_b29 k2 x1 x2 0
def f_X11_clears_b173  : Sg → Option (Unit × Sg) :=
  pI 56 64 0 (pI 56 65 ((-1)) (pI 56 66 0 (pI 56 67 ((-1)) (pI 56 68 0 (pI 56 69 0 (pI 56 70 0 (pI 56 71 0 (pI 56 72 ((-1)) (pI 56 73 0 (rt ()))))))))))
def f_X11_clears_b154 : Nat → Int32 → Sg → Option (Unit × Sg)
  | 0, _ => fun _ => none
  | fu + 1, x2 => br (24 ≤ x2) (f_X11_clears_b173) (gd (inb x2 24 = true) (pI 83 x2.toNatClampNeg 0 ((f_X11_clears_b154 fu) (x2 + 1))))
def f_X11_clears_b152  : Sg → Option (Unit × Sg) :=
  f_X11_clears_b154 FU 0
def f_X11_clears_b2 : Nat → Int32 → Int32 → Sg → Option (Unit × Sg)
  | 0, _, _ => fun _ => none
  | fu + 1, x1, x2 => br (4 ≤ x2) (f_X11_clears_b152) (dI 56 6 (fun v2 => br (v2 ≤ x2) (f_X11_clears_b28 (f_X11_clears_b2 fu) x1 x2) (br (((x1 >>> (x2 &&& 31)) &&& 1) = 1) (f_X11_clears_b29 (f_X11_clears_b2 fu) x1 x2 1) (f_X11_clears_b28 (f_X11_clears_b2 fu) x1 x2))))
def f_X11_clears (x1 : Int32) : Sg → Option (Unit × Sg) :=
  f_X11_clears_b2 FU x1 0
def f_X11_high (x1 : Int32) (x2 : Int32) : Sg → Option (Int32 × Sg) :=
  gd (inb x1 4 = true) (dI 73 x1.toNatClampNeg (fun v1 => br (v1 = 0) (gd (inb x1 4 = true) (dI 76 x1.toNatClampNeg (fun v3 => rt v3))) (gd (inb x1 4 = true) (dI 73 x1.toNatClampNeg (fun v4 => br (v4 = 1) (gd (inb x1 4 = true) (dI 75 x1.toNatClampNeg (fun v6 => gd (inb x1 4 = true) (dI 77 x1.toNatClampNeg (fun v7 => gd (inb x1 4 = true) (dI 77 x1.toNatClampNeg (fun v8 => gd (inb x1 4 = true) (dI 76 x1.toNatClampNeg (fun v9 => gd (¬ ((v6 - v7) * (v6 - v7)) = 0) (rt ((((4 * v9) * (x2 - v8)) * ((v6 - v7) - (x2 - v8))) / ((v6 - v7) * (v6 - v7))))))))))))) (rt (0 : Int32)))))))
def f_X11_runs_b60 (k7 : Int32 → Sg → Option (Unit × Sg)) (k17 : Int32 → Int32 → Sg → Option (Unit × Sg)) (x2 : Int32) (x3 : Int32) : Sg → Option (Unit × Sg) :=
  k17 x2 (x3 + 1)
def f_X11_runs_b44 (k7 : Int32 → Sg → Option (Unit × Sg)) (k17 : Int32 → Int32 → Sg → Option (Unit × Sg)) (x2 : Int32) (x3 : Int32) : Sg → Option (Unit × Sg) :=
  gd (inb x3 4 = true) (dI 75 x3.toNatClampNeg (fun v1 => br (v1 = x2) (cl (f_X11_comesDown x3 x2) (fun _ => f_X11_runs_b60 k7 k17 x2 x3)) (f_X11_runs_b60 k7 k17 x2 x3)))
def f_X11_runs_b288 (k7 : Int32 → Sg → Option (Unit × Sg)) (k208 : Int32 → Int32 → Sg → Option (Unit × Sg)) (x2 : Int32) (x3 : Int32) : Sg → Option (Unit × Sg) :=
  k208 x2 (x3 + 1)
def f_X11_runs_b328 (k7 : Int32 → Sg → Option (Unit × Sg)) (x2 : Int32) : Sg → Option (Unit × Sg) :=
  k7 (x2 + 1)
def f_X11_runs_b296 (k7 : Int32 → Sg → Option (Unit × Sg)) : Nat → Int32 → Int32 → Sg → Option (Unit × Sg)
  | 0, _, _ => fun _ => none
  | fu + 1, x2, x3 => dI 56 6 (fun v1 => br (v1 ≤ x3) (f_X11_runs_b328 k7 x2) (cl (f_X11_high x3 x2) (fun r3 => gd (inb ((600 * x3) + x2) 2400 = true) (pI 84 ((600 * x3) + x2).toNatClampNeg r3 ((f_X11_runs_b296 k7 fu) x2 (x3 + 1))))))
def f_X11_runs_b294 (k7 : Int32 → Sg → Option (Unit × Sg)) (x2 : Int32) : Sg → Option (Unit × Sg) :=
  f_X11_runs_b296 k7 FU x2 0
def f_X11_runs_b208 (k7 : Int32 → Sg → Option (Unit × Sg)) : Nat → Int32 → Int32 → Sg → Option (Unit × Sg)
  | 0, _, _ => fun _ => none
  | fu + 1, x2, x3 => dI 56 6 (fun v1 => br (v1 ≤ x3) (f_X11_runs_b294 k7 x2) (dI 56 65 (fun v3 => br (v3 = ((-1))) (gd (inb ((6 * x3) + 1) 24 = true) (dI 58 ((6 * x3) + 1).toNatClampNeg (fun v5 => gd (inb x3 4 = true) (dI 73 x3.toNatClampNeg (fun v6 => br (v6 = 2) (gd (inb x3 4 = true) (dI 77 x3.toNatClampNeg (fun v8 => dI 56 1 (fun v9 => br ((x2 - v8) < (2 * v9)) (f_X11_runs_b288 k7 (f_X11_runs_b208 k7 fu) x2 x3) (br (v5 ≤ 0) (f_X11_runs_b288 k7 (f_X11_runs_b208 k7 fu) x2 x3) (cl (f_X11_mayGo x3 v5 x2) (fun r12 => br (r12 = 0) (f_X11_runs_b288 k7 (f_X11_runs_b208 k7 fu) x2 x3) (cl (f_X11_goesUp x3 v5 x2) (fun _ => f_X11_runs_b288 k7 (f_X11_runs_b208 k7 fu) x2 x3))))))))) (f_X11_runs_b288 k7 (f_X11_runs_b208 k7 fu) x2 x3)))))) (f_X11_runs_b294 k7 x2))))
def f_X11_runs_b206 (k7 : Int32 → Sg → Option (Unit × Sg)) (x2 : Int32) : Sg → Option (Unit × Sg) :=
  f_X11_runs_b208 k7 FU x2 0
def f_X11_runs_b142 (k7 : Int32 → Sg → Option (Unit × Sg)) (x2 : Int32) (x3 : Int32) (x4 : Int32) : Sg → Option (Unit × Sg) :=
  dI 56 71 (fun v1 => pI 56 71 (v1 + 1) (pI 56 66 0 (pI 56 65 ((-1)) (dI 56 67 (fun v2 => cl (f_X11_mayGo v2 x4 x2) (fun r3 => br (r3 = 0) (f_X11_runs_b206 k7 x2) (dI 56 70 (fun v5 => dI 56 67 (fun v6 => cl (f_X11_weight v6) (fun r7 => pI 56 70 (v5 + (x3 * r7)) (dI 56 67 (fun v8 => cl (f_X11_goesUp v8 x4 x2) (fun _ => f_X11_runs_b206 k7 x2)))))))))))))
def f_X11_runs_b66 (k7 : Int32 → Sg → Option (Unit × Sg)) (x2 : Int32) : Sg → Option (Unit × Sg) :=
  dI 56 65 (fun v1 => br (v1 = ((-1))) (f_X11_runs_b206 k7 x2) (dI 56 65 (fun v3 => dI 56 1 (fun v4 => br (x2 = (v3 + (2 * v4))) (dI 56 66 (fun v6 => dI 56 3 (fun v7 => dI 56 67 (fun v8 => cl (f_X11_weight v8) (fun r9 => gd (¬ r9 = 0) (lt (((v6 * v7) / 100) / r9 : Int32) (fun w10 => dI 56 67 (fun v11 => gd (inb ((6 * v11) + 1) 24 = true) (dI 58 ((6 * v11) + 1).toNatClampNeg (fun v12 => br ((w10 + v12) ≤ 999) (f_X11_runs_b142 k7 x2 w10 (w10 + v12)) (f_X11_runs_b142 k7 x2 w10 999))))))))))) (f_X11_runs_b206 k7 x2)))))
def f_X11_runs_b17 (k7 : Int32 → Sg → Option (Unit × Sg)) : Nat → Int32 → Int32 → Sg → Option (Unit × Sg)
  | 0, _, _ => fun _ => none
  | fu + 1, x2, x3 => dI 56 6 (fun v1 => br (v1 ≤ x3) (f_X11_runs_b66 k7 x2) (gd (inb x3 4 = true) (dI 73 x3.toNatClampNeg (fun v3 => br (v3 = 0) (f_X11_runs_b44 k7 (f_X11_runs_b17 k7 fu) x2 x3) (gd (inb x3 4 = true) (dI 73 x3.toNatClampNeg (fun v5 => br (v5 = 1) (f_X11_runs_b44 k7 (f_X11_runs_b17 k7 fu) x2 x3) (f_X11_runs_b60 k7 (f_X11_runs_b17 k7 fu) x2 x3))))))))
def f_X11_runs_b7 : Nat → Int32 → Sg → Option (Unit × Sg)
  | 0, _ => fun _ => none
  | fu + 1, x2 => dI 56 47 (fun v1 => br (v1 ≤ x2) (rt ()) (f_X11_runs_b17 (f_X11_runs_b7 fu) FU x2 0))
def f_X11_runs (x1 : Int32) : Sg → Option (Unit × Sg) :=
  cl (f_X11_clears x1) (fun _ => f_X11_runs_b7 FU 0)
def f_X11_all  : Sg → Option (Int32 × Sg) :=
  dI 56 6 (fun v1 => rt (((1 : Int32) <<< (v1 &&& 31)) - 1))
def f_X11_runsAll  : Sg → Option (Unit × Sg) :=
  cl (f_X11_all) (fun r1 => cl (f_X11_runs r1) (fun _ => rt ()))
def f_X11_ran (x1 : Int32) (x2 : Int32) : Sg → Option (Int32 × Sg) :=
  pI 56 0 0 (cl (f_X11_isJumper x1) (fun r1 => br (r1 = 0) (rt (0 : Int32)) (cl (f_X11_isWhat x2 6) (fun r3 => br (r3 = 0) (rt (0 : Int32)) (cl (f_X11_runsAll) (fun _ => br (x2 = 0) (gd (inb x1 4 = true) (dI 78 x1.toNatClampNeg (fun v6 => rt v6))) (br (x2 = 1) (gd (inb x1 4 = true) (dI 79 x1.toNatClampNeg (fun v8 => rt v8))) (br (x2 = 2) (gd (inb x1 4 = true) (dI 80 x1.toNatClampNeg (fun v10 => rt v10))) (br (x2 = 3) (gd (inb x1 4 = true) (dI 81 x1.toNatClampNeg (fun v12 => rt v12))) (br (x2 = 4) (gd (inb x1 4 = true) (dI 82 x1.toNatClampNeg (fun v14 => rt v14))) (br (x2 = 5) (gd (inb x1 4 = true) (dI 74 x1.toNatClampNeg (fun v16 => rt v16))) (gd (inb x1 4 = true) (dI 73 x1.toNatClampNeg (fun v17 => rt v17))))))))))))))
def f_X11_lands (x1 : Int32) (x2 : Int32) : Sg → Option (Int32 × Sg) :=
  pI 56 0 0 (cl (f_X11_isJumper x1) (fun r1 => br (r1 = 0) (rt (0 : Int32)) (cl (f_X11_isWhat x2 5) (fun r3 => br (r3 = 0) (rt (0 : Int32)) (cl (f_X11_runsAll) (fun _ => gd (inb ((6 * x1) + x2) 24 = true) (dI 83 ((6 * x1) + x2).toNatClampNeg (fun v5 => rt v5))))))))
def f_X11_film_b31 (x1 : Int32) (x2 : Int32) (xs0 : Int32) : Sg → Option (Int32 × Sg) :=
  cl (f_X11_right xs0 1) (fun r1 => br (r1 = 0) (rt (0 : Int32)) (cl (f_X11_runsAll) (fun _ => gd (inb ((600 * x1) + x2) 2400 = true) (dI 84 ((600 * x1) + x2).toNatClampNeg (fun v3 => rt v3)))))
def f_X11_film_b30 (x1 : Int32) (x2 : Int32) : Sg → Option (Int32 × Sg) :=
  f_X11_film_b31 x1 x2 0
def f_X11_film (x1 : Int32) (x2 : Int32) : Sg → Option (Int32 × Sg) :=
  pI 56 0 0 (cl (f_X11_isJumper x1) (fun r1 => br (r1 = 0) (rt (0 : Int32)) (br (x2 < 0) (f_X11_film_b30 x1 x2) (dI 56 47 (fun v4 => br (v4 ≤ x2) (f_X11_film_b30 x1 x2) (f_X11_film_b31 x1 x2 1))))))
def f_X11_over_b90 (k58 : Int32 → Int32 → Int32 → Int32 → Int32 → Int32 → Sg → Option (Int32 × Sg)) (x1 : Int32) (x2 : Int32) (x3 : Int32) (x4 : Int32) (x5 : Int32) (x6 : Int32) : Sg → Option (Int32 × Sg) :=
  k58 x1 x2 x3 x4 x5 (x6 + (-1))
def f_X11_over_b96 (x3 : Int32) (x4 : Int32) (x5 : Int32) : Sg → Option (Int32 × Sg) :=
  br (x3 = 0) (rt x4) (rt x5)
def f_X11_over_b58 : Nat → Int32 → Int32 → Int32 → Int32 → Int32 → Int32 → Sg → Option (Int32 × Sg)
  | 0, _, _, _, _, _, _ => fun _ => none
  | fu + 1, x1, x2, x3, x4, x5, x6 => br (x6 < 0) (f_X11_over_b96 x3 x4 x5) (gd (inb ((600 * x1) + x6) 2400 = true) (dI 84 ((600 * x1) + x6).toNatClampNeg (fun v2 => br (x2 ≤ v2) (f_X11_over_b90 (f_X11_over_b58 fu) x1 x2 x3 (x4 + 1) x6 x6) (f_X11_over_b90 (f_X11_over_b58 fu) x1 x2 x3 x4 x5 x6))))
def f_X11_over (x1 : Int32) (x2 : Int32) (x3 : Int32) : Sg → Option (Int32 × Sg) :=
  pI 56 0 0 (cl (f_X11_isJumper x1) (fun r1 => br (r1 = 0) (rt (0 : Int32)) (cl (f_X11_isWhat x3 1) (fun r3 => br (r3 = 0) (rt (0 : Int32)) (cl (f_X11_within x2 0 999) (fun r5 => cl (f_X11_right r5 2) (fun r6 => br (r6 = 0) (rt (0 : Int32)) (cl (f_X11_runsAll) (fun _ => dI 56 47 (fun v8 => f_X11_over_b58 FU x1 x2 x3 0 ((-1)) (v8 - 1)))))))))))
def f_X11_mat (x1 : Int32) : Sg → Option (Int32 × Sg) :=
  pI 56 0 0 (cl (f_X11_isWhat x1 4) (fun r1 => br (r1 = 0) (rt (0 : Int32)) (cl (f_X11_runsAll) (fun _ => br (x1 = 0) (dI 56 68 (fun v4 => rt v4)) (br (x1 = 1) (dI 56 69 (fun v6 => rt v6)) (br (x1 = 2) (dI 56 70 (fun v8 => rt v8)) (br (x1 = 3) (dI 56 71 (fun v10 => rt v10)) (dI 56 66 (fun v11 => rt v11)))))))))
def f_X11_landing_b71 (x1 : Int32) (x2 : Int32) (xs0 : Int32) : Sg → Option (Int32 × Sg) :=
  cl (f_X11_right xs0 1) (fun r1 => br (r1 = 0) (rt (0 : Int32)) (gd (inb ((5 * x1) + x2) 6500 = true) (dI 85 ((5 * x1) + x2).toNatClampNeg (fun v3 => rt v3))))
def f_X11_landing_b35 (x1 : Int32) (x2 : Int32) (xs0 : Int32) (xs1 : Int32) : Sg → Option (Int32 × Sg) :=
  cl (f_X11_isWhat xs1 xs0) (fun r1 => br (r1 = 0) (rt (0 : Int32)) (cl (f_X11_runsAll) (fun _ => br (x1 = ((-1))) (dI 56 64 (fun v4 => rt v4)) (dI 56 64 (fun v5 => br (v5 ≤ x1) (f_X11_landing_b71 x1 x2 0) (f_X11_landing_b71 x1 x2 1))))))
def f_X11_landing_b16 (x1 : Int32) (x2 : Int32) (xs0 : Int32) : Sg → Option (Int32 × Sg) :=
  cl (f_X11_right xs0 1) (fun r1 => br (r1 = 0) (rt (0 : Int32)) (br (x1 = ((-1))) (f_X11_landing_b35 x1 x2 0 x2) (f_X11_landing_b35 x1 x2 4 x2)))
def f_X11_landing (x1 : Int32) (x2 : Int32) : Sg → Option (Int32 × Sg) :=
  pI 56 0 0 (br (x1 < ((-1))) (f_X11_landing_b16 x1 x2 0) (f_X11_landing_b16 x1 x2 1))
def f_X11_moment_b130 (k45 : Int32 → Int32 → Int32 → Int32 → Int32 → Int32 → Sg → Option (Int32 × Sg)) (x1 : Int32) (x2 : Int32) (x3 : Int32) (x4 : Int32) (x5 : Int32) (x6 : Int32) : Sg → Option (Int32 × Sg) :=
  k45 x1 x2 x3 x4 x5 (x6 + 1)
def f_X11_moment_b122 (k45 : Int32 → Int32 → Int32 → Int32 → Int32 → Int32 → Sg → Option (Int32 × Sg)) (x1 : Int32) (x2 : Int32) (x3 : Int32) (x6 : Int32) (x7 : Int32) : Sg → Option (Int32 × Sg) :=
  f_X11_moment_b130 k45 x1 x2 x3 x6 x7 x6
def f_X11_moment_b104 (k45 : Int32 → Int32 → Int32 → Int32 → Int32 → Int32 → Sg → Option (Int32 × Sg)) (x1 : Int32) (x2 : Int32) (x3 : Int32) (x4 : Int32) (x5 : Int32) (x6 : Int32) (xs0 : Int32) : Sg → Option (Int32 × Sg) :=
  br (x4 = ((-1))) (f_X11_moment_b122 k45 x1 x2 x3 x6 xs0) (br (x5 < xs0) (f_X11_moment_b122 k45 x1 x2 x3 x6 xs0) (f_X11_moment_b130 k45 x1 x2 x3 x4 x5 x6))
def f_X11_moment_b136 (x1 : Int32) (x3 : Int32) (x4 : Int32) : Sg → Option (Int32 × Sg) :=
  gd (inb ((6 * x1) + 3) 24 = true) (pI 58 ((6 * x1) + 3).toNatClampNeg x3 (rt x4))
def f_X11_moment_b45 : Nat → Int32 → Int32 → Int32 → Int32 → Int32 → Int32 → Sg → Option (Int32 × Sg)
  | 0, _, _, _, _, _, _ => fun _ => none
  | fu + 1, x1, x2, x3, x4, x5, x6 => br (40 ≤ x6) (f_X11_moment_b136 x1 x3 x4) (gd (inb ((6 * x1) + 3) 24 = true) (pI 58 ((6 * x1) + 3).toNatClampNeg x6 (cl (f_X11_runsAll) (fun _ => br (x2 = 0) (gd (inb x1 4 = true) (dI 79 x1.toNatClampNeg (fun v3 => f_X11_moment_b104 (f_X11_moment_b45 fu) x1 x2 x3 x4 x5 x6 v3))) (br (x2 = 1) (gd (inb x1 4 = true) (dI 80 x1.toNatClampNeg (fun v5 => f_X11_moment_b104 (f_X11_moment_b45 fu) x1 x2 x3 x4 x5 x6 v5))) (gd (inb x1 4 = true) (dI 82 x1.toNatClampNeg (fun v6 => f_X11_moment_b104 (f_X11_moment_b45 fu) x1 x2 x3 x4 x5 x6 (0 - v6)))))))))
def f_X11_moment (x1 : Int32) (x2 : Int32) : Sg → Option (Int32 × Sg) :=
  pI 56 0 0 (cl (f_X11_isJumper x1) (fun r1 => br (r1 = 0) (rt (0 : Int32)) (cl (f_X11_isWhat x2 2) (fun r3 => br (r3 = 0) (rt (0 : Int32)) (gd (inb ((6 * x1) + 3) 24 = true) (dI 58 ((6 * x1) + 3).toNatClampNeg (fun v5 => f_X11_moment_b45 FU x1 x2 v5 ((-1)) 0 0)))))))
def f_X11_ticksOf_86_b62 (k5 : Int32 → Int32 → Int32 → Sg → Option (Int32 × Sg)) (x1 : Int32) (x3 : Int32) (x4 : Int32) : Sg → Option (Int32 × Sg) :=
  k5 x1 x3 (x4 + 1)
def f_X11_ticksOf_86_b5 : Nat → Int32 → Int32 → Int32 → Sg → Option (Int32 × Sg)
  | 0, _, _, _ => fun _ => none
  | fu + 1, x1, x3, x4 => dI 56 64 (fun v1 => br (v1 ≤ x4) (rt x3) (gd (inb ((5 * x4) + 1) 6500 = true) (dI 85 ((5 * x4) + 1).toNatClampNeg (fun v3 => br (v3 = x1) (gd (inb ((5 * x4) + 2) 6500 = true) (dI 85 ((5 * x4) + 2).toNatClampNeg (fun v5 => br (v5 = 4) (f_X11_ticksOf_86_b62 (f_X11_ticksOf_86_b5 fu) x1 x3 x4) (gd (inb (5 * x4) 6500 = true) (dI 85 (5 * x4).toNatClampNeg (fun v7 => gd (inb x3 1300 = true) (pI 86 x3.toNatClampNeg v7 (f_X11_ticksOf_86_b62 (f_X11_ticksOf_86_b5 fu) x1 (x3 + 1) x4)))))))) (f_X11_ticksOf_86_b62 (f_X11_ticksOf_86_b5 fu) x1 x3 x4)))))
def f_X11_ticksOf_86 (x1 : Int32) : Sg → Option (Int32 × Sg) :=
  f_X11_ticksOf_86_b5 FU x1 0 0
def f_X11_ticksOf_87_b62 (k5 : Int32 → Int32 → Int32 → Sg → Option (Int32 × Sg)) (x1 : Int32) (x3 : Int32) (x4 : Int32) : Sg → Option (Int32 × Sg) :=
  k5 x1 x3 (x4 + 1)
def f_X11_ticksOf_87_b5 : Nat → Int32 → Int32 → Int32 → Sg → Option (Int32 × Sg)
  | 0, _, _, _ => fun _ => none
  | fu + 1, x1, x3, x4 => dI 56 64 (fun v1 => br (v1 ≤ x4) (rt x3) (gd (inb ((5 * x4) + 1) 6500 = true) (dI 85 ((5 * x4) + 1).toNatClampNeg (fun v3 => br (v3 = x1) (gd (inb ((5 * x4) + 2) 6500 = true) (dI 85 ((5 * x4) + 2).toNatClampNeg (fun v5 => br (v5 = 4) (f_X11_ticksOf_87_b62 (f_X11_ticksOf_87_b5 fu) x1 x3 x4) (gd (inb (5 * x4) 6500 = true) (dI 85 (5 * x4).toNatClampNeg (fun v7 => gd (inb x3 1300 = true) (pI 87 x3.toNatClampNeg v7 (f_X11_ticksOf_87_b62 (f_X11_ticksOf_87_b5 fu) x1 (x3 + 1) x4)))))))) (f_X11_ticksOf_87_b62 (f_X11_ticksOf_87_b5 fu) x1 x3 x4)))))
def f_X11_ticksOf_87 (x1 : Int32) : Sg → Option (Int32 × Sg) :=
  f_X11_ticksOf_87_b5 FU x1 0 0
def f_X11_step_b230 (x6 : Int32) (x9 : Int32) : Sg → Option (Int32 × Sg) :=
  br (x9 = x6) (rt ((-1) : Int32)) (rt x9)
def f_X11_step_b198 : Nat → Int32 → Int32 → Sg → Option (Int32 × Sg)
  | 0, _, _ => fun _ => none
  | fu + 1, x6, x9 => br (x9 ≤ 0) (f_X11_step_b230 x6 x9) (gd (inb (x9 - 1) 1300 = true) (dI 86 (x9 - 1).toNatClampNeg (fun v2 => gd (inb (x9 - 1) 1300 = true) (dI 87 (x9 - 1).toNatClampNeg (fun v3 => br (v2 = v3) ((f_X11_step_b198 fu) x6 (x9 + (-1))) (f_X11_step_b230 x6 x9))))))
def f_X11_step_b90 (x3 : Int32) (xs0 : Int32) : Sg → Option (Int32 × Sg) :=
  br (xs0 = 0) (br (x3 = 2) (rt (0 : Int32)) (rt ((-1) : Int32))) (dI 86 (0 : Int32).toNatClampNeg (fun v3 => dI 87 (0 : Int32).toNatClampNeg (fun v4 => cl (f_X11_off v3 v4) (fun r5 => gd (inb (xs0 - 1) 1300 = true) (dI 86 (xs0 - 1).toNatClampNeg (fun v6 => gd (inb (xs0 - 1) 1300 = true) (dI 87 (xs0 - 1).toNatClampNeg (fun v7 => cl (f_X11_off v6 v7) (fun r8 => br (2 ≤ x3) (br (x3 = 2) (br (r5 ≤ r8) (br (r8 ≤ r5) (rt (0 : Int32)) (rt (1 : Int32))) (rt ((-1) : Int32))) (f_X11_step_b198 FU xs0 xs0)) (br (x3 = 0) (rt r5) (rt r8)))))))))))
def f_X11_step_b41 (x1 : Int32) (x2 : Int32) (x3 : Int32) (xs0 : Int32) : Sg → Option (Int32 × Sg) :=
  cl (f_X11_right xs0 2) (fun r1 => br (r1 = 0) (rt (0 : Int32)) (cl (f_X11_runsAll) (fun _ => cl (f_X11_ticksOf_86 x1) (fun r3 => cl (f_X11_ticksOf_87 x2) (fun r4 => br (r4 ≤ r3) (f_X11_step_b90 x3 r4) (f_X11_step_b90 x3 r3))))))
def f_X11_step (x1 : Int32) (x2 : Int32) (x3 : Int32) : Sg → Option (Int32 × Sg) :=
  pI 56 0 0 (cl (f_X11_isJumper x1) (fun r1 => br (r1 = 0) (rt (0 : Int32)) (cl (f_X11_isJumper x2) (fun r3 => br (r3 = 0) (rt (0 : Int32)) (cl (f_X11_isWhat x3 3) (fun r5 => br (r5 = 0) (rt (0 : Int32)) (br (x1 = x2) (f_X11_step_b41 x1 x2 x3 0) (f_X11_step_b41 x1 x2 x3 1))))))))
def f_X11_isHurt  : Sg → Option (Int32 × Sg) :=
  dI 56 72 (fun v1 => br (v1 = ((-1))) (rt 0) (rt 1))
def f_X11_danger_b71 (k32 : Int32 → Int32 → Int32 → Int32 → Sg → Option (Int32 × Sg)) (x1 : Int32) (x2 : Int32) (x3 : Int32) (x4 : Int32) : Sg → Option (Int32 × Sg) :=
  k32 x1 x2 x3 (x4 + 1)
def f_X11_danger_b77 (x1 : Int32) (x2 : Int32) (x3 : Int32) : Sg → Option (Int32 × Sg) :=
  gd (inb ((6 * x1) + 4) 24 = true) (pI 58 ((6 * x1) + 4).toNatClampNeg x2 (rt x3))
def f_X11_danger_b32 : Nat → Int32 → Int32 → Int32 → Int32 → Sg → Option (Int32 × Sg)
  | 0, _, _, _, _ => fun _ => none
  | fu + 1, x1, x2, x3, x4 => br (60 < x4) (f_X11_danger_b77 x1 x2 x3) (br (x3 = ((-1))) (gd (inb ((6 * x1) + 4) 24 = true) (pI 58 ((6 * x1) + 4).toNatClampNeg x4 (cl (f_X11_runsAll) (fun _ => cl (f_X11_isHurt) (fun r3 => br (r3 = 0) (f_X11_danger_b71 (f_X11_danger_b32 fu) x1 x2 x3 x4) (f_X11_danger_b71 (f_X11_danger_b32 fu) x1 x2 x4 x4)))))) (f_X11_danger_b77 x1 x2 x3))
def f_X11_danger (x1 : Int32) : Sg → Option (Int32 × Sg) :=
  pI 56 0 0 (cl (f_X11_isJumper x1) (fun r1 => br (r1 = 0) (rt (0 : Int32)) (gd (inb ((6 * x1) + 4) 24 = true) (dI 58 ((6 * x1) + 4).toNatClampNeg (fun v3 => f_X11_danger_b32 FU x1 v3 ((-1)) 0)))))
def f_X11_pairsOf_b54 (k4 : Int32 → Int32 → Sg → Option (Int32 × Sg)) (k16 : Int32 → Int32 → Int32 → Sg → Option (Int32 × Sg)) (x2 : Int32) (x3 : Int32) (xs0 : Int32) (xs1 : Int32) : Sg → Option (Int32 × Sg) :=
  k16 (xs1 ||| xs0) x2 (x3 + 1)
def f_X11_pairsOf_b62 (k4 : Int32 → Int32 → Sg → Option (Int32 × Sg)) (x1 : Int32) (x2 : Int32) : Sg → Option (Int32 × Sg) :=
  k4 x1 (x2 + 1)
def f_X11_pairsOf_b16 (k4 : Int32 → Int32 → Sg → Option (Int32 × Sg)) : Nat → Int32 → Int32 → Int32 → Sg → Option (Int32 × Sg)
  | 0, _, _, _ => fun _ => none
  | fu + 1, x1, x2, x3 => dI 56 6 (fun v1 => br (v1 ≤ x3) (f_X11_pairsOf_b62 k4 x1 x2) (cl (f_X11_runs (((1 : Int32) <<< (x2 &&& 31)) ||| ((1 : Int32) <<< (x3 &&& 31)))) (fun _ => cl (f_X11_isHurt) (fun r3 => br (r3 = 0) (f_X11_pairsOf_b54 k4 (f_X11_pairsOf_b16 k4 fu) x2 x3 0 x1) (f_X11_pairsOf_b54 k4 (f_X11_pairsOf_b16 k4 fu) x2 x3 ((1 : Int32) <<< (((4 * x2) + x3) &&& 31)) x1)))))
def f_X11_pairsOf_b4 : Nat → Int32 → Int32 → Sg → Option (Int32 × Sg)
  | 0, _, _ => fun _ => none
  | fu + 1, x1, x2 => dI 56 6 (fun v1 => br (v1 ≤ x2) (rt x1) (f_X11_pairsOf_b16 (f_X11_pairsOf_b4 fu) FU x1 x2 (x2 + 1)))
def f_X11_pairsOf  : Sg → Option (Int32 × Sg) :=
  f_X11_pairsOf_b4 FU 0 0
def f_X11_pairs  : Sg → Option (Int32 × Sg) :=
  pI 56 0 0 (cl (f_X11_pairsOf) (fun r1 => rt r1))
def f_X11_apart_b103 (k12 : Int32 → Int32 → Sg → Option (Int32 × Sg)) (k23 : Int32 → Int32 → Int32 → Int32 → Sg → Option (Int32 × Sg)) (k38 : Int32 → Int32 → Int32 → Int32 → Int32 → Sg → Option (Int32 × Sg)) (x1 : Int32) (x2 : Int32) (x4 : Int32) (x5 : Int32) (xs0 : Int32) : Sg → Option (Int32 × Sg) :=
  k38 x1 x2 xs0 x4 (x5 + 1)
def f_X11_apart_b102 (k12 : Int32 → Int32 → Sg → Option (Int32 × Sg)) (k23 : Int32 → Int32 → Int32 → Int32 → Sg → Option (Int32 × Sg)) (k38 : Int32 → Int32 → Int32 → Int32 → Int32 → Sg → Option (Int32 × Sg)) (x1 : Int32) (x2 : Int32) (x4 : Int32) (x5 : Int32) : Sg → Option (Int32 × Sg) :=
  f_X11_apart_b103 k12 k23 k38 x1 x2 x4 x5 0
def f_X11_apart_b95 (k12 : Int32 → Int32 → Sg → Option (Int32 × Sg)) (k23 : Int32 → Int32 → Int32 → Int32 → Sg → Option (Int32 × Sg)) (k38 : Int32 → Int32 → Int32 → Int32 → Int32 → Sg → Option (Int32 × Sg)) (x1 : Int32) (x2 : Int32) (x4 : Int32) (x5 : Int32) (xs0 : Int32) (xs1 : Int32) : Sg → Option (Int32 × Sg) :=
  br (xs1 = xs0) (f_X11_apart_b103 k12 k23 k38 x1 x2 x4 x5 1) (f_X11_apart_b102 k12 k23 k38 x1 x2 x4 x5)
def f_X11_apart_b71 (k12 : Int32 → Int32 → Sg → Option (Int32 × Sg)) (k23 : Int32 → Int32 → Int32 → Int32 → Sg → Option (Int32 × Sg)) (k38 : Int32 → Int32 → Int32 → Int32 → Int32 → Sg → Option (Int32 × Sg)) (x1 : Int32) (x2 : Int32) (x4 : Int32) (x5 : Int32) (xs0 : Int32) : Sg → Option (Int32 × Sg) :=
  cl (f_X11_weight x4) (fun r1 => cl (f_X11_weight x5) (fun r2 => cl (f_X11_off r1 r2) (fun r3 => br (r3 < x2) (f_X11_apart_b95 k12 k23 k38 x1 x2 x4 x5 0 xs0) (f_X11_apart_b95 k12 k23 k38 x1 x2 x4 x5 1 xs0))))
def f_X11_apart_b110 (k12 : Int32 → Int32 → Sg → Option (Int32 × Sg)) (k23 : Int32 → Int32 → Int32 → Int32 → Sg → Option (Int32 × Sg)) (x1 : Int32) (x2 : Int32) (x3 : Int32) (x4 : Int32) : Sg → Option (Int32 × Sg) :=
  k23 x1 x2 x3 (x4 + 1)
def f_X11_apart_b38 (k12 : Int32 → Int32 → Sg → Option (Int32 × Sg)) (k23 : Int32 → Int32 → Int32 → Int32 → Sg → Option (Int32 × Sg)) : Nat → Int32 → Int32 → Int32 → Int32 → Int32 → Sg → Option (Int32 × Sg)
  | 0, _, _, _, _, _ => fun _ => none
  | fu + 1, x1, x2, x3, x4, x5 => dI 56 6 (fun v1 => br (v1 ≤ x5) (f_X11_apart_b110 k12 k23 x1 x2 x3 x4) (br (x3 = 0) (f_X11_apart_b102 k12 k23 (f_X11_apart_b38 k12 k23 fu) x1 x2 x4 x5) (br (((x1 >>> (((4 * x4) + x5) &&& 31)) &&& 1) = 1) (f_X11_apart_b71 k12 k23 (f_X11_apart_b38 k12 k23 fu) x1 x2 x4 x5 1) (f_X11_apart_b71 k12 k23 (f_X11_apart_b38 k12 k23 fu) x1 x2 x4 x5 0))))
def f_X11_apart_b116 (k12 : Int32 → Int32 → Sg → Option (Int32 × Sg)) (x1 : Int32) (x2 : Int32) (x3 : Int32) : Sg → Option (Int32 × Sg) :=
  br (x3 = 0) (k12 x1 (x2 + 1)) (rt x2)
def f_X11_apart_b23 (k12 : Int32 → Int32 → Sg → Option (Int32 × Sg)) : Nat → Int32 → Int32 → Int32 → Int32 → Sg → Option (Int32 × Sg)
  | 0, _, _, _, _ => fun _ => none
  | fu + 1, x1, x2, x3, x4 => dI 56 6 (fun v1 => br (v1 ≤ x4) (f_X11_apart_b116 k12 x1 x2 x3) (f_X11_apart_b38 k12 (f_X11_apart_b23 k12 fu) FU x1 x2 x3 x4 (x4 + 1)))
def f_X11_apart_b12 : Nat → Int32 → Int32 → Sg → Option (Int32 × Sg)
  | 0, _, _ => fun _ => none
  | fu + 1, x1, x2 => br (99 < x2) (rt ((-1) : Int32)) (f_X11_apart_b23 (f_X11_apart_b12 fu) FU x1 x2 1 0)
def f_X11_apart  : Sg → Option (Int32 × Sg) :=
  pI 56 0 0 (cl (f_X11_pairsOf) (fun r1 => f_X11_apart_b12 FU r1 0))
def f_X11_without_b32 (x1 : Int32) (x2 : Int32) (xs0 : Int32) : Sg → Option (Int32 × Sg) :=
  cl (f_X11_right xs0 2) (fun r1 => br (r1 = 0) (rt (0 : Int32)) (cl (f_X11_runsAll) (fun _ => gd (inb x1 4 = true) (dI 79 x1.toNatClampNeg (fun v3 => cl (f_X11_all) (fun r4 => cl (f_X11_runs (r4 &&& (((1 : Int32) <<< (x2 &&& 31)) ^^^ ((-1))))) (fun _ => gd (inb x1 4 = true) (dI 79 x1.toNatClampNeg (fun v5 => rt (v5 - v3))))))))))
def f_X11_without (x1 : Int32) (x2 : Int32) : Sg → Option (Int32 × Sg) :=
  pI 56 0 0 (cl (f_X11_isJumper x1) (fun r1 => br (r1 = 0) (rt (0 : Int32)) (cl (f_X11_isJumper x2) (fun r3 => br (r3 = 0) (rt (0 : Int32)) (br (x1 = x2) (f_X11_without_b32 x1 x2 0) (f_X11_without_b32 x1 x2 1))))))
def f_X11_atOnce_b47 (k9 : Int32 → Int32 → Sg → Option (Int32 × Sg)) (x1 : Int32) (x2 : Int32) : Sg → Option (Int32 × Sg) :=
  k9 x1 (x2 + 1)
def f_X11_atOnce_b9 : Nat → Int32 → Int32 → Sg → Option (Int32 × Sg)
  | 0, _, _ => fun _ => none
  | fu + 1, x1, x2 => dI 56 6 (fun v1 => br (((1 : Int32) <<< (v1 &&& 31)) ≤ x2) (rt x1) (cl (f_X11_bits x2) (fun r3 => cl (f_X11_bits x1) (fun r4 => br (r4 < r3) (cl (f_X11_runs x2) (fun _ => cl (f_X11_isHurt) (fun r6 => br (r6 = 0) (f_X11_atOnce_b47 (f_X11_atOnce_b9 fu) x2 x2) (f_X11_atOnce_b47 (f_X11_atOnce_b9 fu) x1 x2)))) (f_X11_atOnce_b47 (f_X11_atOnce_b9 fu) x1 x2)))))
def f_X11_atOnce  : Sg → Option (Int32 × Sg) :=
  pI 56 0 0 (f_X11_atOnce_b9 FU 0 1)
def f_X11_stop (x1 : Int32) : Sg → Option (Int32 × Sg) :=
  pI 56 0 0 (cl (f_X11_isWhat x1 1) (fun r1 => br (r1 = 0) (rt (0 : Int32)) (cl (f_X11_runsAll) (fun _ => br (x1 = 0) (dI 56 72 (fun v4 => rt v4)) (dI 56 73 (fun v5 => rt v5))))))
def f_X11_common_b6 : Nat → Int64 → Int64 → Sg → Option (Int64 × Sg)
  | 0, _, _ => fun _ => none
  | fu + 1, x4, x6 => br ((lg_cmp x6 0) = 0) (rt x4) (gd (¬ x6 = 0) (lt (x4 - x4 / x6 * x6 : Int64) (fun w2 => (f_X11_common_b6 fu) x6 w2)))
def f_X11_common (x0 : Int64) (x2 : Int64) : Sg → Option (Int64 × Sg) :=
  f_X11_common_b6 FU x0 x2
def f_X11_portion_b10 (x0 : Int64) (x2 : Int64) (xs0 : Int64) : Sg → Option (Int64 × Sg) :=
  cl (f_X11_common x2 x0) (fun r1 => gd (¬ r1 = 0) (rt (xs0 / r1)))
def f_X11_portion (x0 : Int64) (x2 : Int64) (x4 : Int32) : Sg → Option (Int64 × Sg) :=
  br (x4 = 0) (f_X11_portion_b10 x0 x2 x0) (f_X11_portion_b10 x0 x2 x2)
def f_X11_isIn (x1 : Int32) : Sg → Option (Int32 × Sg) :=
  dI 56 2 (fun v1 => br (v1 < x1) (rt 0) (dI 56 2 (fun v3 => br (x1 < (0 - v3)) (rt 0) (rt 1))))
def f_X11_wandersBy_b237 (k69 : Int32 → Int32 → Int32 → Int32 → Int32 → Sg → Option (Unit × Sg)) (k127 : Int32 → Int32 → Int32 → Int32 → Int32 → Int32 → Sg → Option (Unit × Sg)) (k165 : Int32 → Int32 → Int32 → Int32 → Int32 → Int32 → Int32 → Int32 → Sg → Option (Unit × Sg)) (x2 : Int32) (x3 : Int32) (x4 : Int32) (x5 : Int32) (x6 : Int32) (x7 : Int32) (x8 : Int32) (x9 : Int32) : Sg → Option (Unit × Sg) :=
  k165 x2 x3 x4 x5 x6 x7 x8 (x9 + 1)
def f_X11_wandersBy_b243 (k69 : Int32 → Int32 → Int32 → Int32 → Int32 → Sg → Option (Unit × Sg)) (k127 : Int32 → Int32 → Int32 → Int32 → Int32 → Int32 → Sg → Option (Unit × Sg)) (x2 : Int32) (x3 : Int32) (x4 : Int32) (x5 : Int32) (x6 : Int32) (x7 : Int32) : Sg → Option (Unit × Sg) :=
  k127 x2 x3 x4 x5 x6 (x7 + 1)
def f_X11_wandersBy_b165 (k69 : Int32 → Int32 → Int32 → Int32 → Int32 → Sg → Option (Unit × Sg)) (k127 : Int32 → Int32 → Int32 → Int32 → Int32 → Int32 → Sg → Option (Unit × Sg)) : Nat → Int32 → Int32 → Int32 → Int32 → Int32 → Int32 → Int32 → Int32 → Sg → Option (Unit × Sg)
  | 0, _, _, _, _, _, _, _, _ => fun _ => none
  | fu + 1, x2, x3, x4, x5, x6, x7, x8, x9 => br (3 ≤ x9) (f_X11_wandersBy_b243 k69 k127 x2 x3 x4 x5 x6 x7) (gd (inb x7 41 = true) (dL 88 x7.toNatClampNeg (fun v2 => gd (inb x9 3 = true) (dI 57 x9.toNatClampNeg (fun v3 => lt (v2 * v3.toInt64 : Int64) (fun w4 => cl (f_X11_isIn ((x8 + x9) - 1)) (fun r5 => br (r5 = 0) (dL 56 78 (fun v7 => pL 56 78 (v7 + w4) (f_X11_wandersBy_b237 k69 k127 (f_X11_wandersBy_b165 k69 k127 fu) x2 x3 x4 x5 x6 x7 x8 x9))) (lt (((20 + x8) + x9) - 1 : Int32) (fun w8 => gd (inb w8 41 = true) (dL 89 w8.toNatClampNeg (fun v9 => gd (inb w8 41 = true) (pL 89 w8.toNatClampNeg (v9 + w4) (f_X11_wandersBy_b237 k69 k127 (f_X11_wandersBy_b165 k69 k127 fu) x2 x3 x4 x5 x6 x7 x8 x9)))))))))))))
def f_X11_wandersBy_b279 (k69 : Int32 → Int32 → Int32 → Int32 → Int32 → Sg → Option (Unit × Sg)) (x2 : Int32) (x3 : Int32) (x4 : Int32) (x5 : Int32) (x6 : Int32) : Sg → Option (Unit × Sg) :=
  k69 x2 x3 x4 x5 (x6 + 1)
def f_X11_wandersBy_b252 (k69 : Int32 → Int32 → Int32 → Int32 → Int32 → Sg → Option (Unit × Sg)) : Nat → Int32 → Int32 → Int32 → Int32 → Int32 → Int32 → Sg → Option (Unit × Sg)
  | 0, _, _, _, _, _, _ => fun _ => none
  | fu + 1, x2, x3, x4, x5, x6, x7 => br (41 ≤ x7) (f_X11_wandersBy_b279 k69 x2 x3 x4 x5 x6) (gd (inb x7 41 = true) (dL 89 x7.toNatClampNeg (fun v2 => gd (inb x7 41 = true) (pL 88 x7.toNatClampNeg v2 ((f_X11_wandersBy_b252 k69 fu) x2 x3 x4 x5 x6 (x7 + 1))))))
def f_X11_wandersBy_b249 (k69 : Int32 → Int32 → Int32 → Int32 → Int32 → Sg → Option (Unit × Sg)) (x2 : Int32) (x3 : Int32) (x4 : Int32) (x5 : Int32) (x6 : Int32) : Sg → Option (Unit × Sg) :=
  f_X11_wandersBy_b252 k69 FU x2 x3 x4 x5 x6 0
def f_X11_wandersBy_b127 (k69 : Int32 → Int32 → Int32 → Int32 → Int32 → Sg → Option (Unit × Sg)) : Nat → Int32 → Int32 → Int32 → Int32 → Int32 → Int32 → Sg → Option (Unit × Sg)
  | 0, _, _, _, _, _, _ => fun _ => none
  | fu + 1, x2, x3, x4, x5, x6, x7 => br (41 ≤ x7) (f_X11_wandersBy_b249 k69 x2 x3 x4 x5 x6) (gd (inb x7 41 = true) (dL 88 x7.toNatClampNeg (fun v2 => br ((lg_cmp v2 0) = 0) (f_X11_wandersBy_b243 k69 (f_X11_wandersBy_b127 k69 fu) x2 x3 x4 x5 x6 x7) (cl (f_X11_then (x7 - 20) x2 x3) (fun r4 => f_X11_wandersBy_b165 k69 (f_X11_wandersBy_b127 k69 fu) FU x2 x3 x4 x5 x6 x7 r4 0)))))
def f_X11_wandersBy_b100 (k69 : Int32 → Int32 → Int32 → Int32 → Int32 → Sg → Option (Unit × Sg)) (x2 : Int32) (x3 : Int32) (x4 : Int32) (x5 : Int32) (x6 : Int32) : Sg → Option (Unit × Sg) :=
  dL 56 78 (fun v1 => pL 56 78 (v1 * x5.toInt64) (dL 56 79 (fun v2 => pL 56 79 (v2 * x5.toInt64) (f_X11_wandersBy_b127 k69 FU x2 x3 x4 x5 x6 0))))
def f_X11_wandersBy_b79 (k69 : Int32 → Int32 → Int32 → Int32 → Int32 → Sg → Option (Unit × Sg)) : Nat → Int32 → Int32 → Int32 → Int32 → Int32 → Int32 → Sg → Option (Unit × Sg)
  | 0, _, _, _, _, _, _ => fun _ => none
  | fu + 1, x2, x3, x4, x5, x6, x7 => br (41 ≤ x7) (f_X11_wandersBy_b100 k69 x2 x3 x4 x5 x6) (gd (inb x7 41 = true) (pL 89 x7.toNatClampNeg 0 ((f_X11_wandersBy_b79 k69 fu) x2 x3 x4 x5 x6 (x7 + 1))))
def f_X11_wandersBy_b69 : Nat → Int32 → Int32 → Int32 → Int32 → Int32 → Sg → Option (Unit × Sg)
  | 0, _, _, _, _, _ => fun _ => none
  | fu + 1, x2, x3, x4, x5, x6 => br (x4 ≤ x6) (rt ()) (f_X11_wandersBy_b79 (f_X11_wandersBy_b69 fu) FU x2 x3 x4 x5 x6 0)
def f_X11_wandersBy_b24 (x1 : Int32) (x2 : Int32) (x3 : Int32) (x4 : Int32) : Sg → Option (Unit × Sg) :=
  gd (inb (20 + x1) 41 = true) (pL 88 (20 + x1).toNatClampNeg 1 (pL 56 78 0 (pL 56 79 1 (dI 57 (0 : Int32).toNatClampNeg (fun v1 => dI 57 (1 : Int32).toNatClampNeg (fun v2 => dI 57 (2 : Int32).toNatClampNeg (fun v3 => f_X11_wandersBy_b69 FU x2 x3 x4 ((v1 + v2) + v3) 0)))))))
def f_X11_wandersBy_b3 : Nat → Int32 → Int32 → Int32 → Int32 → Int32 → Sg → Option (Unit × Sg)
  | 0, _, _, _, _, _ => fun _ => none
  | fu + 1, x1, x2, x3, x4, x5 => br (41 ≤ x5) (f_X11_wandersBy_b24 x1 x2 x3 x4) (gd (inb x5 41 = true) (pL 88 x5.toNatClampNeg 0 ((f_X11_wandersBy_b3 fu) x1 x2 x3 x4 (x5 + 1))))
def f_X11_wandersBy (x1 : Int32) (x2 : Int32) (x3 : Int32) (x4 : Int32) : Sg → Option (Unit × Sg) :=
  f_X11_wandersBy_b3 FU x1 x2 x3 x4 0
def f_X11_isWander_b45 (x5 : Int32) (xs0 : Int32) : Sg → Option (Int32 × Sg) :=
  cl (f_X11_right xs0 x5) (fun r1 => gd (r1 = 0 ∨ r1 = 1) (rt r1))
def f_X11_isWander_b44 (x5 : Int32) : Sg → Option (Int32 × Sg) :=
  f_X11_isWander_b45 x5 0
def f_X11_isWander (x1 : Int32) (x2 : Int32) (x3 : Int32) (x4 : Int32) (x5 : Int32) : Sg → Option (Int32 × Sg) :=
  cl (f_X11_within x4 0 12) (fun r1 => br (r1 = 0) (f_X11_isWander_b44 x5) (cl (f_X11_within x2 0 60) (fun r3 => br (r3 = 0) (f_X11_isWander_b44 x5) (cl (f_X11_isIn x1) (fun r5 => br (r5 = 0) (f_X11_isWander_b44 x5) (cl (f_X11_within x3 0 9) (fun r7 => br (r7 = 0) (f_X11_isWander_b44 x5) (f_X11_isWander_b45 x5 1))))))))
def f_X11_falls (x1 : Int32) (x2 : Int32) (x3 : Int32) (x4 : Int32) (x5 : Int32) : Sg → Option (Int64 × Sg) :=
  pI 56 0 0 (cl (f_X11_isWhat x5 1) (fun r1 => br (r1 = 0) (rt 0) (cl (f_X11_isWander x1 x2 x3 x4 2) (fun r3 => br (r3 = 0) (rt 0) (cl (f_X11_wandersBy x1 x2 x3 x4) (fun _ => dL 56 78 (fun v5 => dL 56 79 (fun v6 => cl (f_X11_portion v5 v6 x5) (fun r7 => rt r7)))))))))
def f_X11_wanders_b62 (x6 : Int32) (xs0 : Int64) : Sg → Option (Int64 × Sg) :=
  dL 56 79 (fun v1 => cl (f_X11_portion xs0 v1 x6) (fun r2 => rt r2))
def f_X11_wanders (x1 : Int32) (x2 : Int32) (x3 : Int32) (x4 : Int32) (x5 : Int32) (x6 : Int32) : Sg → Option (Int64 × Sg) :=
  pI 56 0 0 (cl (f_X11_isWhat x6 1) (fun r1 => br (r1 = 0) (rt 0) (cl (f_X11_isWander x1 x2 x3 x4 2) (fun r3 => br (r3 = 0) (rt 0) (cl (f_X11_wandersBy x1 x2 x3 x4) (fun _ => cl (f_X11_isIn x5) (fun r5 => br (r5 = 0) (f_X11_wanders_b62 x6 0) (gd (inb (20 + x5) 41 = true) (dL 88 (20 + x5).toNatClampNeg (fun v7 => f_X11_wanders_b62 x6 v7))))))))))
def f_X11_correct_b73 (k28 : Int32 → Int32 → Int32 → Int32 → Int64 → Int32 → Sg → Option (Int32 × Sg)) (x1 : Int32) (x2 : Int32) (x3 : Int32) (x4 : Int32) (x5 : Int64) (x7 : Int32) : Sg → Option (Int32 × Sg) :=
  k28 x1 x2 x3 x4 x5 (x7 + 1)
def f_X11_correct_b63 (k28 : Int32 → Int32 → Int32 → Int32 → Int64 → Int32 → Sg → Option (Int32 × Sg)) (x1 : Int32) (x2 : Int32) (x3 : Int32) (x7 : Int32) : Sg → Option (Int32 × Sg) :=
  dL 56 78 (fun v1 => f_X11_correct_b73 k28 x1 x2 x3 x7 v1 x7)
def f_X11_correct_b28 : Nat → Int32 → Int32 → Int32 → Int32 → Int64 → Int32 → Sg → Option (Int32 × Sg)
  | 0, _, _, _, _, _, _ => fun _ => none
  | fu + 1, x1, x2, x3, x4, x5, x7 => br (9 < x7) (rt x4) (cl (f_X11_wandersBy x1 x2 x7 x3) (fun _ => br (x4 = ((-1))) (f_X11_correct_b63 (f_X11_correct_b28 fu) x1 x2 x3 x7) (dL 56 78 (fun v3 => br ((lg_cmp v3 x5) < 0) (f_X11_correct_b63 (f_X11_correct_b28 fu) x1 x2 x3 x7) (f_X11_correct_b73 (f_X11_correct_b28 fu) x1 x2 x3 x4 x5 x7)))))
def f_X11_correct (x1 : Int32) (x2 : Int32) (x3 : Int32) : Sg → Option (Int32 × Sg) :=
  pI 56 0 0 (cl (f_X11_isWander x1 x2 0 x3 1) (fun r1 => br (r1 = 0) (rt (0 : Int32)) (f_X11_correct_b28 FU x1 x2 x3 ((-1)) 0 0)))
def f_X11_safe_b130 (k61 : Int32 → Int32 → Int32 → Int64 → Int32 → Sg → Option (Int64 × Sg)) (x1 : Int32) (x2 : Int32) (x3 : Int32) (x6 : Int32) (xs0 : Int64) (xs1 : Int64) : Sg → Option (Int64 × Sg) :=
  k61 x1 x2 x3 (xs1 ||| xs0) (x6 + 1)
def f_X11_safe_b108 (k61 : Int32 → Int32 → Int32 → Int64 → Int32 → Sg → Option (Int64 × Sg)) (x1 : Int32) (x2 : Int32) (x3 : Int32) (x4 : Int64) (x6 : Int32) (x7 : Int32) : Sg → Option (Int64 × Sg) :=
  cl (f_X11_isIn x7) (fun r1 => br (r1 = 0) (f_X11_safe_b130 k61 x1 x2 x3 x6 0 x4) (f_X11_safe_b130 k61 x1 x2 x3 x6 (1 <<< ((20 + x6).toInt64 &&& 63)) x4))
def f_X11_safe_b77 (k61 : Int32 → Int32 → Int32 → Int64 → Int32 → Sg → Option (Int64 × Sg)) : Nat → Int32 → Int32 → Int32 → Int64 → Int32 → Int32 → Int32 → Sg → Option (Int64 × Sg)
  | 0, _, _, _, _, _, _, _ => fun _ => none
  | fu + 1, x1, x2, x3, x4, x6, x7, x8 => br (x3 ≤ x8) (f_X11_safe_b108 k61 x1 x2 x3 x4 x6 x7) (cl (f_X11_isIn x7) (fun r2 => br (r2 = 0) (f_X11_safe_b108 k61 x1 x2 x3 x4 x6 x7) (cl (f_X11_then x7 x1 x2) (fun r4 => (f_X11_safe_b77 k61 fu) x1 x2 x3 x4 x6 r4 (x8 + 1)))))
def f_X11_safe_b61 : Nat → Int32 → Int32 → Int32 → Int64 → Int32 → Sg → Option (Int64 × Sg)
  | 0, _, _, _, _, _ => fun _ => none
  | fu + 1, x1, x2, x3, x4, x6 => dI 56 2 (fun v1 => br (v1 < x6) (rt x4) (f_X11_safe_b77 (f_X11_safe_b61 fu) FU x1 x2 x3 x4 x6 x6 0))
def f_X11_safe_b41 (x1 : Int32) (x2 : Int32) (x3 : Int32) (xs0 : Int32) : Sg → Option (Int64 × Sg) :=
  cl (f_X11_right xs0 1) (fun r1 => br (r1 = 0) (rt 0) (dI 56 2 (fun v3 => f_X11_safe_b61 FU x1 x2 x3 0 (0 - v3))))
def f_X11_safe_b40 (x1 : Int32) (x2 : Int32) (x3 : Int32) : Sg → Option (Int64 × Sg) :=
  f_X11_safe_b41 x1 x2 x3 0
def f_X11_safe (x1 : Int32) (x2 : Int32) (x3 : Int32) : Sg → Option (Int64 × Sg) :=
  pI 56 0 0 (cl (f_X11_within x1 0 60) (fun r1 => br (r1 = 0) (f_X11_safe_b40 x1 x2 x3) (cl (f_X11_within x2 0 9) (fun r3 => br (r3 = 0) (f_X11_safe_b40 x1 x2 x3) (cl (f_X11_within x3 0 100) (fun r5 => br (r5 = 0) (f_X11_safe_b40 x1 x2 x3) (f_X11_safe_b41 x1 x2 x3 1)))))))
def f_X11_find_b25  : Sg → Option (Int32 × Sg) :=
  cl (f_X11_refuses 2) (fun r1 => rt r1)
def f_X11_find (x1 : Int32) : Sg → Option (Int32 × Sg) :=
  pI 56 0 0 (dI 56 80 (fun v1 => br (v1 = 20) (f_X11_find_b25) (cl (f_X11_within x1 ((-99)) 99) (fun r3 => br (r3 = 0) (f_X11_find_b25) (dI 56 80 (fun v5 => gd (inb v5 20 = true) (pI 90 v5.toNatClampNeg x1 (dI 56 80 (fun v6 => pI 56 80 (v6 + 1) (dI 56 80 (fun v7 => rt v7)))))))))))
def f_X11_forget  : Sg → Option (Int32 × Sg) :=
  pI 56 0 0 (dI 56 80 (fun v1 => br (v1 = 0) (rt ((-1) : Int32)) (dI 56 80 (fun v3 => pI 56 80 (v3 - 1) (dI 56 80 (fun v4 => rt v4))))))
def f_X11_broken_b93 (k27 : Int32 → Int32 → Int32 → Sg → Option (Int32 × Sg)) (k38 : Int32 → Int32 → Int32 → Int32 → Int32 → Sg → Option (Int32 × Sg)) (x1 : Int32) (x2 : Int32) (x3 : Int32) (x5 : Int32) (xs0 : Int32) : Sg → Option (Int32 × Sg) :=
  k38 x1 x2 x3 xs0 (x5 + 1)
def f_X11_broken_b92 (k27 : Int32 → Int32 → Int32 → Sg → Option (Int32 × Sg)) (k38 : Int32 → Int32 → Int32 → Int32 → Int32 → Sg → Option (Int32 × Sg)) (x1 : Int32) (x2 : Int32) (x3 : Int32) (x5 : Int32) : Sg → Option (Int32 × Sg) :=
  f_X11_broken_b93 k27 k38 x1 x2 x3 x5 0
def f_X11_broken_b116 (k27 : Int32 → Int32 → Int32 → Sg → Option (Int32 × Sg)) (x1 : Int32) (x3 : Int32) (xs0 : Int32) (xs1 : Int32) : Sg → Option (Int32 × Sg) :=
  k27 x1 (xs1 ||| xs0) (x3 + 1)
def f_X11_broken_b101 (k27 : Int32 → Int32 → Int32 → Sg → Option (Int32 × Sg)) (x1 : Int32) (x2 : Int32) (x3 : Int32) (x4 : Int32) : Sg → Option (Int32 × Sg) :=
  br (x4 = 0) (f_X11_broken_b116 k27 x1 x3 0 x2) (f_X11_broken_b116 k27 x1 x3 ((1 : Int32) <<< ((x3 + 3) &&& 31)) x2)
def f_X11_broken_b38 (k27 : Int32 → Int32 → Int32 → Sg → Option (Int32 × Sg)) : Nat → Int32 → Int32 → Int32 → Int32 → Int32 → Sg → Option (Int32 × Sg)
  | 0, _, _, _, _, _ => fun _ => none
  | fu + 1, x1, x2, x3, x4, x5 => dI 56 80 (fun v1 => br (v1 ≤ x5) (f_X11_broken_b101 k27 x1 x2 x3 x4) (br (x4 = 0) (f_X11_broken_b92 k27 (f_X11_broken_b38 k27 fu) x1 x2 x3 x5) (gd (inb x5 20 = true) (dI 90 x5.toNatClampNeg (fun v4 => gd (inb (x5 - 1) 20 = true) (dI 90 (x5 - 1).toNatClampNeg (fun v5 => gd (inb (x5 - 1) 20 = true) (dI 90 (x5 - 1).toNatClampNeg (fun v6 => br (v4 = ((v5 + ((v6 * x1) / 40)) + x3)) (f_X11_broken_b93 k27 (f_X11_broken_b38 k27 fu) x1 x2 x3 x5 1) (f_X11_broken_b92 k27 (f_X11_broken_b38 k27 fu) x1 x2 x3 x5))))))))))
def f_X11_broken_b27 : Nat → Int32 → Int32 → Int32 → Sg → Option (Int32 × Sg)
  | 0, _, _, _ => fun _ => none
  | fu + 1, x1, x2, x3 => br (3 < x3) (rt x2) (f_X11_broken_b38 (f_X11_broken_b27 fu) FU x1 x2 x3 1 1)
def f_X11_broken (x1 : Int32) : Sg → Option (Int32 × Sg) :=
  pI 56 0 0 (cl (f_X11_within x1 0 60) (fun r1 => cl (f_X11_right r1 1) (fun r2 => br (r2 = 0) (rt (0 : Int32)) (f_X11_broken_b27 FU x1 0 ((-3))))))
def f_X11_second_b218 (k111 : Int32 → Int32 → Int32 → Int32 → Int32 → Int32 → Int32 → Int32 → Int32 → Int32 → Int32 → Sg → Option (Int32 × Sg)) (x1 : Int32) (x2 : Int32) (x3 : Int32) (x4 : Int32) (x5 : Int32) (x6 : Int32) (x7 : Int32) (x8 : Int32) (x9 : Int32) (x10 : Int32) (x11 : Int32) : Sg → Option (Int32 × Sg) :=
  k111 x1 x2 x3 x4 x5 x6 x7 x8 x9 x10 (x11 + 1)
def f_X11_second_b215 (k111 : Int32 → Int32 → Int32 → Int32 → Int32 → Int32 → Int32 → Int32 → Int32 → Int32 → Int32 → Sg → Option (Int32 × Sg)) (x1 : Int32) (x2 : Int32) (x3 : Int32) (x4 : Int32) (x5 : Int32) (x6 : Int32) (x7 : Int32) (x8 : Int32) (x9 : Int32) (x11 : Int32) (xs0 : Int32) (xs1 : Int32) : Sg → Option (Int32 × Sg) :=
  f_X11_second_b218 k111 x1 x2 x3 x4 x5 x6 x7 x8 x9 (xs1 + xs0) x11
def f_X11_second_b224 (x1 : Int32) (x2 : Int32) (x6 : Int32) (x7 : Int32) (x8 : Int32) (x9 : Int32) (x10 : Int32) : Sg → Option (Int32 × Sg) :=
  gd (inb ((6 * x1) + 3) 24 = true) (pI 58 ((6 * x1) + 3).toNatClampNeg x7 (gd (inb ((6 * x2) + 3) 24 = true) (pI 58 ((6 * x2) + 3).toNatClampNeg x8 (br (x6 = 0) (rt x9) (rt x10)))))
def f_X11_second_b111 : Nat → Int32 → Int32 → Int32 → Int32 → Int32 → Int32 → Int32 → Int32 → Int32 → Int32 → Int32 → Sg → Option (Int32 × Sg)
  | 0, _, _, _, _, _, _, _, _, _, _, _ => fun _ => none
  | fu + 1, x1, x2, x3, x4, x5, x6, x7, x8, x9, x10, x11 => br (576 ≤ x11) (f_X11_second_b224 x1 x2 x6 x7 x8 x9 x10) (gd (inb ((6 * x1) + 3) 24 = true) (pI 58 ((6 * x1) + 3).toNatClampNeg (x11 / 24) (gd (inb ((6 * x2) + 3) 24 = true) (pI 58 ((6 * x2) + 3).toNatClampNeg (x11 - x11 / 24 * 24) (cl (f_X11_runsAll) (fun _ => gd (inb ((600 * x1) + x3) 2400 = true) (dI 84 ((600 * x1) + x3).toNatClampNeg (fun v2 => br (v2 = x4) (gd (inb ((600 * x2) + x3) 2400 = true) (dI 84 ((600 * x2) + x3).toNatClampNeg (fun v4 => br (v4 = x5) (br ((x11 / 24) ≤ (x11 - x11 / 24 * 24)) (f_X11_second_b215 (f_X11_second_b111 fu) x1 x2 x3 x4 x5 x6 x7 x8 (x9 + 1) x11 0 x10) (f_X11_second_b215 (f_X11_second_b111 fu) x1 x2 x3 x4 x5 x6 x7 x8 (x9 + 1) x11 1 x10)) (f_X11_second_b218 (f_X11_second_b111 fu) x1 x2 x3 x4 x5 x6 x7 x8 x9 x10 x11)))) (f_X11_second_b218 (f_X11_second_b111 fu) x1 x2 x3 x4 x5 x6 x7 x8 x9 x10 x11)))))))))
def f_X11_second_b67 (x1 : Int32) (x2 : Int32) (x3 : Int32) (x4 : Int32) (x5 : Int32) (x6 : Int32) (xs0 : Int32) : Sg → Option (Int32 × Sg) :=
  cl (f_X11_right xs0 2) (fun r1 => br (r1 = 0) (rt (0 : Int32)) (gd (inb ((6 * x1) + 3) 24 = true) (dI 58 ((6 * x1) + 3).toNatClampNeg (fun v3 => gd (inb ((6 * x2) + 3) 24 = true) (dI 58 ((6 * x2) + 3).toNatClampNeg (fun v4 => f_X11_second_b111 FU x1 x2 x3 x4 x5 x6 v3 v4 0 0 0))))))
def f_X11_second_b39 (x1 : Int32) (x2 : Int32) (x3 : Int32) (x4 : Int32) (x5 : Int32) (x6 : Int32) (xs0 : Int32) : Sg → Option (Int32 × Sg) :=
  cl (f_X11_right xs0 1) (fun r1 => br (r1 = 0) (rt (0 : Int32)) (cl (f_X11_isWhat x6 1) (fun r3 => br (r3 = 0) (rt (0 : Int32)) (br (x1 = x2) (f_X11_second_b67 x1 x2 x3 x4 x5 x6 0) (f_X11_second_b67 x1 x2 x3 x4 x5 x6 1)))))
def f_X11_second_b38 (x1 : Int32) (x2 : Int32) (x3 : Int32) (x4 : Int32) (x5 : Int32) (x6 : Int32) : Sg → Option (Int32 × Sg) :=
  f_X11_second_b39 x1 x2 x3 x4 x5 x6 0
def f_X11_second (x1 : Int32) (x2 : Int32) (x3 : Int32) (x4 : Int32) (x5 : Int32) (x6 : Int32) : Sg → Option (Int32 × Sg) :=
  pI 56 0 0 (cl (f_X11_isJumper x1) (fun r1 => br (r1 = 0) (rt (0 : Int32)) (cl (f_X11_isJumper x2) (fun r3 => br (r3 = 0) (rt (0 : Int32)) (br (x3 < 0) (f_X11_second_b38 x1 x2 x3 x4 x5 x6) (dI 56 47 (fun v6 => br (v6 ≤ x3) (f_X11_second_b38 x1 x2 x3 x4 x5 x6) (f_X11_second_b39 x1 x2 x3 x4 x5 x6 1))))))))
def f_X11_hurtsAll_b4 : Nat → Int32 → Int32 → Sg → Option (Int32 × Sg)
  | 0, _, _ => fun _ => none
  | fu + 1, x1, x2 => dI 56 6 (fun v1 => br (v1 ≤ x2) (rt x1) (gd (inb x2 4 = true) (dI 81 x2.toNatClampNeg (fun v3 => (f_X11_hurtsAll_b4 fu) (x1 + v3) (x2 + 1)))))
def f_X11_hurtsAll  : Sg → Option (Int32 × Sg) :=
  f_X11_hurtsAll_b4 FU 0 0
def f_X11_funAll_b4 : Nat → Int32 → Int32 → Sg → Option (Int32 × Sg)
  | 0, _, _ => fun _ => none
  | fu + 1, x1, x2 => dI 56 6 (fun v1 => br (v1 ≤ x2) (rt x1) (gd (inb x2 4 = true) (dI 80 x2.toNatClampNeg (fun v3 => (f_X11_funAll_b4 fu) (x1 + v3) (x2 + 1)))))
def f_X11_funAll  : Sg → Option (Int32 × Sg) :=
  f_X11_funAll_b4 FU 0 0
def f_X11_runsBy (x1 : Int32) : Sg → Option (Unit × Sg) :=
  dI 56 46 (fun v1 => pI 56 46 x1 (cl (f_X11_runsAll) (fun _ => pI 56 46 v1 (rt ()))))
def f_X11_compare_b24 (x1 : Int32) (x2 : Int32) (xs0 : Int32) : Sg → Option (Int32 × Sg) :=
  cl (f_X11_right xs0 1) (fun r1 => br (r1 = 0) (rt (0 : Int32)) (cl (f_X11_isWhat x2 1) (fun r3 => br (r3 = 0) (rt (0 : Int32)) (cl (f_X11_runsBy x1) (fun _ => br (x2 = 0) (cl (f_X11_hurtsAll) (fun r6 => rt r6)) (cl (f_X11_funAll) (fun r7 => rt r7)))))))
def f_X11_compare_b23 (x1 : Int32) (x2 : Int32) : Sg → Option (Int32 × Sg) :=
  f_X11_compare_b24 x1 x2 0
def f_X11_compare (x1 : Int32) (x2 : Int32) : Sg → Option (Int32 × Sg) :=
  pI 56 0 0 (br (x1 < ((-1))) (f_X11_compare_b23 x1 x2) (dI 56 7 (fun v2 => br (v2 ≤ x1) (f_X11_compare_b23 x1 x2) (f_X11_compare_b24 x1 x2 1))))
def f_X11_best_b80 (k25 : Int32 → Int32 → Int32 → Int32 → Sg → Option (Int32 × Sg)) (x1 : Int32) (x2 : Int32) (x3 : Int32) (x4 : Int32) : Sg → Option (Int32 × Sg) :=
  k25 x1 x2 x3 (x4 + 1)
def f_X11_best_b67 (k25 : Int32 → Int32 → Int32 → Int32 → Sg → Option (Int32 × Sg)) (x4 : Int32) : Sg → Option (Int32 × Sg) :=
  cl (f_X11_hurtsAll) (fun r1 => cl (f_X11_funAll) (fun r2 => f_X11_best_b80 k25 x4 r1 r2 x4))
def f_X11_best_b25 : Nat → Int32 → Int32 → Int32 → Int32 → Sg → Option (Int32 × Sg)
  | 0, _, _, _, _ => fun _ => none
  | fu + 1, x1, x2, x3, x4 => dI 56 7 (fun v1 => br (v1 ≤ x4) (rt x1) (cl (f_X11_runsBy x4) (fun _ => cl (f_X11_hurtsAll) (fun r3 => br (x2 < r3) (f_X11_best_b80 (f_X11_best_b25 fu) x1 x2 x3 x4) (cl (f_X11_hurtsAll) (fun r5 => br (r5 = x2) (cl (f_X11_funAll) (fun r7 => br (x3 < r7) (f_X11_best_b67 (f_X11_best_b25 fu) x4) (f_X11_best_b80 (f_X11_best_b25 fu) x1 x2 x3 x4))) (f_X11_best_b67 (f_X11_best_b25 fu) x4)))))))
def f_X11_best  : Sg → Option (Int32 × Sg) :=
  pI 56 0 0 (cl (f_X11_runsBy ((-1))) (fun _ => cl (f_X11_hurtsAll) (fun r1 => cl (f_X11_funAll) (fun r2 => f_X11_best_b25 FU ((-1)) r1 r2 0))))
def f_X11_isGreater_b82  : Sg → Option (Int32 × Sg) :=
  rt 0
def f_X11_isGreater_b59 (x16 : Int32) (x17 : Int64) (x19 : Int64) : Sg → Option (Int32 × Sg) :=
  br (x16 = 0) (br ((lg_cmp x17 0) ≤ 0) (rt 0) (br ((lg_cmp x19 0) = 0) (rt 1) (rt 0))) (br ((lg_cmp x17 0) = 0) (br ((lg_cmp x19 0) ≤ 0) (f_X11_isGreater_b82) (rt 1)) (f_X11_isGreater_b82))
def f_X11_isGreater_b132 (k17 : Int64 → Int64 → Int64 → Int64 → Int32 → Sg → Option (Int32 × Sg)) (x8 : Int64) (x10 : Int64) (x12 : Int64) (x14 : Int64) (xs0 : Int32) : Sg → Option (Int32 × Sg) :=
  k17 x8 x10 x12 x14 xs0
def f_X11_isGreater_b137 (x8 : Int64) (x10 : Int64) (x12 : Int64) (x14 : Int64) (x16 : Int32) : Sg → Option (Int32 × Sg) :=
  br (x16 = 0) (gd (¬ x10 = 0) (gd (¬ x14 = 0) (br ((lg_cmp (x8 / x10) (x12 / x14)) ≤ 0) (rt 0) (rt 1)))) (gd (¬ x10 = 0) (gd (¬ x14 = 0) (br (0 ≤ (lg_cmp (x8 / x10) (x12 / x14))) (rt 0) (rt 1))))
def f_X11_isGreater_b17 : Nat → Int64 → Int64 → Int64 → Int64 → Int32 → Sg → Option (Int32 × Sg)
  | 0, _, _, _, _, _ => fun _ => none
  | fu + 1, x8, x10, x12, x14, x16 => gd (¬ x10 = 0) (gd (¬ x14 = 0) (br ((lg_cmp (x8 / x10) (x12 / x14)) = 0) (gd (¬ x10 = 0) (lt (x8 - x8 / x10 * x10 : Int64) (fun w2 => gd (¬ x14 = 0) (lt (x12 - x12 / x14 * x14 : Int64) (fun w3 => br ((lg_cmp w2 0) = 0) (f_X11_isGreater_b59 x16 w2 w3) (br ((lg_cmp w3 0) = 0) (f_X11_isGreater_b59 x16 w2 w3) (br (x16 = 0) (f_X11_isGreater_b132 (f_X11_isGreater_b17 fu) x10 w2 x14 w3 1) (f_X11_isGreater_b132 (f_X11_isGreater_b17 fu) x10 w2 x14 w3 0)))))))) (f_X11_isGreater_b137 x8 x10 x12 x14 x16)))
def f_X11_isGreater (x0 : Int64) (x2 : Int64) (x4 : Int64) (x6 : Int64) : Sg → Option (Int32 × Sg) :=
  f_X11_isGreater_b17 FU x0 x2 x4 x6 0
def f_X11_egg_b88 (k37 : Int32 → Int32 → Sg → Option (Int64 × Sg)) (x1 : Int32) (x2 : Int32) (x3 : Int32) : Sg → Option (Int64 × Sg) :=
  gd (inb x2 8 = true) (dI 60 x2.toNatClampNeg (fun v1 => gd (inb x3 8 = true) (pI 91 x3.toNatClampNeg v1 (k37 x1 (x2 + 1)))))
def f_X11_egg_b47 (k37 : Int32 → Int32 → Sg → Option (Int64 × Sg)) : Nat → Int32 → Int32 → Int32 → Sg → Option (Int64 × Sg)
  | 0, _, _, _ => fun _ => none
  | fu + 1, x1, x2, x3 => br (x3 ≤ 0) (f_X11_egg_b88 k37 x1 x2 x3) (gd (inb (x3 - 1) 8 = true) (dI 91 (x3 - 1).toNatClampNeg (fun v2 => gd (inb x2 8 = true) (dI 60 x2.toNatClampNeg (fun v3 => br (v3 ≤ v2) (f_X11_egg_b88 k37 x1 x2 x3) (gd (inb (x3 - 1) 8 = true) (dI 91 (x3 - 1).toNatClampNeg (fun v5 => gd (inb x3 8 = true) (pI 91 x3.toNatClampNeg v5 ((f_X11_egg_b47 k37 fu) x1 x2 (x3 + (-1))))))))))))
def f_X11_egg_b255 (k129 : Int32 → Int64 → Int64 → Int32 → Int64 → Int64 → Int32 → Sg → Option (Int64 × Sg)) (x1 : Int32) (x2 : Int64) (x4 : Int64) (x6 : Int32) (x7 : Int64) (x9 : Int64) (x11 : Int32) : Sg → Option (Int64 × Sg) :=
  k129 x1 x2 x4 x6 x7 x9 (x11 + 1)
def f_X11_egg_b244 (k129 : Int32 → Int64 → Int64 → Int32 → Int64 → Int64 → Int32 → Sg → Option (Int64 × Sg)) (x1 : Int32) (x7 : Int64) (x9 : Int64) (x11 : Int32) (x16 : Int64) (x18 : Int64) : Sg → Option (Int64 × Sg) :=
  f_X11_egg_b255 k129 x1 x16 x18 x11 x7 x9 x11
def f_X11_egg_b261 (x1 : Int32) (x2 : Int64) (x4 : Int64) (x6 : Int32) : Sg → Option (Int64 × Sg) :=
  br (x1 = 0) (rt x2) (br (x1 = 1) (rt x4) (rt x6.toInt64))
def f_X11_egg_b129 : Nat → Int32 → Int64 → Int64 → Int32 → Int64 → Int64 → Int32 → Sg → Option (Int64 × Sg)
  | 0, _, _, _, _, _, _, _ => fun _ => none
  | fu + 1, x1, x2, x4, x6, x7, x9, x11 => dI 56 8 (fun v1 => br (v1 < x11) (f_X11_egg_b261 x1 x2 x4 x6) (gd (inb (x11 - 1) 8 = true) (dI 91 (x11 - 1).toNatClampNeg (fun v3 => lt ((x7 * v3.toInt64) + x9 : Int64) (fun w4 => gd (inb (x11 - 1) 8 = true) (dI 91 (x11 - 1).toNatClampNeg (fun v5 => lt (x9 * v5.toInt64 : Int64) (fun w6 => cl (f_X11_portion w4 w6 0) (fun r7 => cl (f_X11_portion w4 w6 1) (fun r8 => cl (f_X11_portion (((x11 - 1).toInt64) * r8) r7 0) (fun r9 => cl (f_X11_portion (((x11 - 1).toInt64) * r8) r7 1) (fun r10 => br (x6 ≤ 0) (f_X11_egg_b244 (f_X11_egg_b129 fu) x1 r7 r8 x11 r9 r10) (cl (f_X11_isGreater r9 r10 x2 x4) (fun r12 => br (r12 = 0) (f_X11_egg_b255 (f_X11_egg_b129 fu) x1 x2 x4 x6 r7 r8 x11) (f_X11_egg_b244 (f_X11_egg_b129 fu) x1 r7 r8 x11 r9 r10)))))))))))))))
def f_X11_egg_b106 (x1 : Int32) : Sg → Option (Int64 × Sg) :=
  dI 91 (0 : Int32).toNatClampNeg (fun v1 => f_X11_egg_b129 FU x1 0 1 0 1 v1.toInt64 2)
def f_X11_egg_b37 : Nat → Int32 → Int32 → Sg → Option (Int64 × Sg)
  | 0, _, _ => fun _ => none
  | fu + 1, x1, x2 => dI 56 8 (fun v1 => br (v1 ≤ x2) (f_X11_egg_b106 x1) (f_X11_egg_b47 (f_X11_egg_b37 fu) FU x1 x2 x2))
def f_X11_egg (x1 : Int32) : Sg → Option (Int64 × Sg) :=
  pI 56 0 0 (cl (f_X11_isWhat x1 2) (fun r1 => br (r1 = 0) (rt 0) (dI 56 8 (fun v3 => br (2 ≤ v3) (f_X11_egg_b37 FU x1 0) (br (x1 = 1) (rt 1) (rt 0))))))
def f_X11_afternoons_b187 (k80 : Int32 → Int32 → Int32 → Int32 → Int32 → Int32 → Int32 → Sg → Option (Int32 × Sg)) (x2 : Int32) (x3 : Int32) (x4 : Int32) (x5 : Int32) (x6 : Int32) (x8 : Int32) (xs0 : Int32) (xs1 : Int32) : Sg → Option (Int32 × Sg) :=
  k80 x2 x3 x4 x5 x6 (xs1 + xs0) (x8 + 1)
def f_X11_afternoons_b171 (k80 : Int32 → Int32 → Int32 → Int32 → Int32 → Int32 → Int32 → Sg → Option (Int32 × Sg)) (x2 : Int32) (x3 : Int32) (x4 : Int32) (x5 : Int32) (x7 : Int32) (x8 : Int32) (xs0 : Int32) : Sg → Option (Int32 × Sg) :=
  cl (f_X11_isHurt) (fun r1 => br (r1 = 0) (f_X11_afternoons_b187 k80 x2 x3 x4 x5 xs0 x8 1 x7) (f_X11_afternoons_b187 k80 x2 x3 x4 x5 xs0 x8 0 x7))
def f_X11_afternoons_b140 (k80 : Int32 → Int32 → Int32 → Int32 → Int32 → Int32 → Int32 → Sg → Option (Int32 × Sg)) (x2 : Int32) (x3 : Int32) (x4 : Int32) (x5 : Int32) (x6 : Int32) (x7 : Int32) (x8 : Int32) : Sg → Option (Int32 × Sg) :=
  cl (f_X11_runsAll) (fun _ => cl (f_X11_hurtsAll) (fun r1 => cl (f_X11_funAll) (fun r2 => br (r2 ≤ x6) (f_X11_afternoons_b171 k80 x2 x3 x4 (x5 + r1) x7 x8 x6) (cl (f_X11_funAll) (fun r4 => f_X11_afternoons_b171 k80 x2 x3 x4 (x5 + r1) x7 x8 r4)))))
def f_X11_afternoons_b89 (k80 : Int32 → Int32 → Int32 → Int32 → Int32 → Int32 → Int32 → Sg → Option (Int32 × Sg)) : Nat → Int32 → Int32 → Int32 → Int32 → Int32 → Int32 → Int32 → Int32 → Sg → Option (Int32 × Sg)
  | 0, _, _, _, _, _, _, _, _ => fun _ => none
  | fu + 1, x2, x3, x4, x5, x6, x7, x8, x9 => dI 56 6 (fun v1 => br (v1 ≤ x9) (f_X11_afternoons_b140 k80 x2 x3 x4 x5 x6 x7 x8) (lt ((x4 * 1103515245) + 12345 : Int32) (fun w3 => gd (inb ((6 * x9) + 3) 24 = true) (pI 58 ((6 * x9) + 3).toNatClampNeg (((w3 >>> ((16 : Int32) &&& 31)) &&& 32767) - ((w3 >>> ((16 : Int32) &&& 31)) &&& 32767) / 40 * 40) ((f_X11_afternoons_b89 k80 fu) x2 x3 w3 x5 x6 x7 x8 (x9 + 1))))))
def f_X11_afternoons_b230 (x3 : Int32) (x5 : Int32) (x6 : Int32) (x7 : Int32) : Sg → Option (Int32 × Sg) :=
  br (x3 = 0) (rt x5) (br (x3 = 1) (rt x6) (rt x7))
def f_X11_afternoons_b199 : Nat → Int32 → Int32 → Int32 → Int32 → Int32 → Sg → Option (Int32 × Sg)
  | 0, _, _, _, _, _ => fun _ => none
  | fu + 1, x3, x5, x6, x7, x8 => br (4 ≤ x8) (f_X11_afternoons_b230 x3 x5 x6 x7) (gd (inb x8 1300 = true) (dI 86 x8.toNatClampNeg (fun v2 => gd (inb ((6 * x8) + 3) 24 = true) (pI 58 ((6 * x8) + 3).toNatClampNeg v2 ((f_X11_afternoons_b199 fu) x3 x5 x6 x7 (x8 + 1))))))
def f_X11_afternoons_b196 (x3 : Int32) (x5 : Int32) (x6 : Int32) (x7 : Int32) : Sg → Option (Int32 × Sg) :=
  f_X11_afternoons_b199 FU x3 x5 x6 x7 0
def f_X11_afternoons_b80 : Nat → Int32 → Int32 → Int32 → Int32 → Int32 → Int32 → Int32 → Sg → Option (Int32 × Sg)
  | 0, _, _, _, _, _, _, _ => fun _ => none
  | fu + 1, x2, x3, x4, x5, x6, x7, x8 => br (x2 ≤ x8) (f_X11_afternoons_b196 x3 x5 x6 x7) (f_X11_afternoons_b89 (f_X11_afternoons_b80 fu) FU x2 x3 x4 x5 x6 x7 x8 0)
def f_X11_afternoons_b65 (x1 : Int32) (x2 : Int32) (x3 : Int32) : Sg → Option (Int32 × Sg) :=
  f_X11_afternoons_b80 FU x2 x3 x1 0 0 0 0
def f_X11_afternoons_b34 : Nat → Int32 → Int32 → Int32 → Int32 → Sg → Option (Int32 × Sg)
  | 0, _, _, _, _ => fun _ => none
  | fu + 1, x1, x2, x3, x4 => br (4 ≤ x4) (f_X11_afternoons_b65 x1 x2 x3) (gd (inb ((6 * x4) + 3) 24 = true) (dI 58 ((6 * x4) + 3).toNatClampNeg (fun v2 => gd (inb x4 1300 = true) (pI 86 x4.toNatClampNeg v2 ((f_X11_afternoons_b34 fu) x1 x2 x3 (x4 + 1))))))
def f_X11_afternoons (x1 : Int32) (x2 : Int32) (x3 : Int32) : Sg → Option (Int32 × Sg) :=
  pI 56 0 0 (cl (f_X11_isWhat x3 2) (fun r1 => br (r1 = 0) (rt (0 : Int32)) (cl (f_X11_within x2 0 40) (fun r3 => cl (f_X11_right r3 2) (fun r4 => br (r4 = 0) (rt (0 : Int32)) (f_X11_afternoons_b34 FU x1 x2 x3 0))))))
def f_X11_copies_58_92_b2 : Nat → Int32 → Sg → Option (Unit × Sg)
  | 0, _ => fun _ => none
  | fu + 1, x3 => br (24 ≤ x3) (rt ()) (gd (inb x3 24 = true) (dI 58 x3.toNatClampNeg (fun v2 => gd (inb x3 24 = true) (pI 92 x3.toNatClampNeg v2 ((f_X11_copies_58_92_b2 fu) (x3 + 1))))))
def f_X11_copies_58_92  : Sg → Option (Unit × Sg) :=
  f_X11_copies_58_92_b2 FU 0
def f_X11_copies_71_93_b2 : Nat → Int32 → Sg → Option (Unit × Sg)
  | 0, _ => fun _ => none
  | fu + 1, x3 => br (80 ≤ x3) (rt ()) (gd (inb x3 80 = true) (dI 71 x3.toNatClampNeg (fun v2 => gd (inb x3 80 = true) (pI 93 x3.toNatClampNeg v2 ((f_X11_copies_71_93_b2 fu) (x3 + 1))))))
def f_X11_copies_71_93  : Sg → Option (Unit × Sg) :=
  f_X11_copies_71_93_b2 FU 0
def f_X11_copies_90_94_b2 : Nat → Int32 → Sg → Option (Unit × Sg)
  | 0, _ => fun _ => none
  | fu + 1, x3 => br (20 ≤ x3) (rt ()) (gd (inb x3 20 = true) (dI 90 x3.toNatClampNeg (fun v2 => gd (inb x3 20 = true) (pI 94 x3.toNatClampNeg v2 ((f_X11_copies_90_94_b2 fu) (x3 + 1))))))
def f_X11_copies_90_94  : Sg → Option (Unit × Sg) :=
  f_X11_copies_90_94_b2 FU 0
def f_X11_image  : Sg → Option (Unit × Sg) :=
  pI 56 0 0 (pI 56 83 1 (dI 56 46 (fun v1 => pI 56 84 v1 (dI 56 47 (fun v2 => pI 56 85 v2 (dI 56 48 (fun v3 => pI 56 86 v3 (dI 56 80 (fun v4 => pI 56 87 v4 (cl (f_X11_copies_58_92) (fun _ => cl (f_X11_copies_71_93) (fun _ => cl (f_X11_copies_90_94) (fun _ => rt ())))))))))))))
def f_X11_copies_92_58_b2 : Nat → Int32 → Sg → Option (Unit × Sg)
  | 0, _ => fun _ => none
  | fu + 1, x3 => br (24 ≤ x3) (rt ()) (gd (inb x3 24 = true) (dI 92 x3.toNatClampNeg (fun v2 => gd (inb x3 24 = true) (pI 58 x3.toNatClampNeg v2 ((f_X11_copies_92_58_b2 fu) (x3 + 1))))))
def f_X11_copies_92_58  : Sg → Option (Unit × Sg) :=
  f_X11_copies_92_58_b2 FU 0
def f_X11_copies_93_71_b2 : Nat → Int32 → Sg → Option (Unit × Sg)
  | 0, _ => fun _ => none
  | fu + 1, x3 => br (80 ≤ x3) (rt ()) (gd (inb x3 80 = true) (dI 93 x3.toNatClampNeg (fun v2 => gd (inb x3 80 = true) (pI 71 x3.toNatClampNeg v2 ((f_X11_copies_93_71_b2 fu) (x3 + 1))))))
def f_X11_copies_93_71  : Sg → Option (Unit × Sg) :=
  f_X11_copies_93_71_b2 FU 0
def f_X11_copies_94_90_b2 : Nat → Int32 → Sg → Option (Unit × Sg)
  | 0, _ => fun _ => none
  | fu + 1, x3 => br (20 ≤ x3) (rt ()) (gd (inb x3 20 = true) (dI 94 x3.toNatClampNeg (fun v2 => gd (inb x3 20 = true) (pI 90 x3.toNatClampNeg v2 ((f_X11_copies_94_90_b2 fu) (x3 + 1))))))
def f_X11_copies_94_90  : Sg → Option (Unit × Sg) :=
  f_X11_copies_94_90_b2 FU 0
def f_X11_restore  : Sg → Option (Int32 × Sg) :=
  pI 56 0 0 (dI 56 83 (fun v1 => br (v1 = 0) (rt 0) (dI 56 84 (fun v3 => pI 56 46 v3 (dI 56 85 (fun v4 => pI 56 47 v4 (dI 56 86 (fun v5 => pI 56 48 v5 (dI 56 87 (fun v6 => pI 56 80 v6 (cl (f_X11_copies_92_58) (fun _ => cl (f_X11_copies_93_71) (fun _ => cl (f_X11_copies_94_90) (fun _ => rt 1))))))))))))))
def f_J6_compare_7cf53 (x0 : Int32) (x1 : Int32) : Sg → Option (Int32 × Sg) :=
  br (x1 ≤ x0) (br (x0 = x1) (rt (0 : Int32)) (rt (1 : Int32))) (rt ((-1) : Int32))
def f_X8_tellRule  : Sg → Option (Int32 × Sg) :=
  dR 14 1 (fun u1 => gd (isGd u1 = true) (dI (u1 + 3) 4 (fun v2 => br (v2 < 4) (cl (f_X5_next) (fun _ => cl (f_X8_either 8 0) (fun r4 => br (r4 = 0) (rt 0) (dR 14 1 (fun u6 => gd (isGd u6 = true) (cl (f_X6_endRule (u6 + 3)) (fun _ => rt 1))))))) (cl (f_X8_fail 2) (fun r7 => gd (r7 = 0 ∨ r7 = 1) (rt r7))))))
def f_X8_tellLine  : Sg → Option (Int32 × Sg) :=
  cl (f_X5_isWord 2) (fun r1 => br (r1 = 0) (cl (f_X5_isWord 3) (fun r3 => br (r3 = 0) (cl (f_X5_isWord 4) (fun r5 => br (r5 = 0) (cl (f_X5_isWord 5) (fun r7 => br (r7 = 0) (cl (f_X5_isWord 6) (fun r9 => br (r9 = 0) (cl (f_X5_isWord 8) (fun r11 => br (r11 = 0) (cl (f_X5_isWord 20) (fun r13 => br (r13 = 0) (cl (f_X8_fail 1) (fun r15 => gd (r15 = 0 ∨ r15 = 1) (rt r15))) (cl (f_X8_tellEgg) (fun r16 => gd (r16 = 0 ∨ r16 = 1) (rt r16))))) (cl (f_X8_tellRule) (fun r17 => gd (r17 = 0 ∨ r17 = 1) (rt r17))))) (cl (f_X8_tellJumper) (fun r18 => gd (r18 = 0 ∨ r18 = 1) (rt r18))))) (cl (f_X8_tellSlips) (fun r19 => gd (r19 = 0 ∨ r19 = 1) (rt r19))))) (cl (f_X8_tellNear) (fun r20 => gd (r20 = 0 ∨ r20 = 1) (rt r20))))) (cl (f_X8_tellBroken) (fun r21 => gd (r21 = 0 ∨ r21 = 1) (rt r21))))) (cl (f_X8_tellMat) (fun r22 => gd (r22 = 0 ∨ r22 = 1) (rt r22))))
def f_X8_tell_b23 : Nat → Int32 → Sg → Option (Int32 × Sg)
  | 0, _ => fun _ => none
  | fu + 1, x3 => br (600 < x3) (rt (0 : Int32)) (dI 15 3 (fun v2 => br (v2 = 258) (rt (0 : Int32)) (cl (f_X8_tellLine) (fun r4 => br (r4 = 0) (dI 14 4 (fun v6 => rt v6)) (cl (f_X8_pass 59) (fun r7 => br (r7 = 0) (dI 14 4 (fun v9 => rt v9)) ((f_X8_tell_b23 fu) (x3 + 1))))))))
def f_X8_tell (q1 : Nat) (x2 : Int32) : Sg → Option (Int32 × Sg) :=
  gd (q1 = 1) (dR 14 1 (fun u1 => gd (isGd u1 = true) (cl (f_X2_clear u1) (fun _ => pI 14 2 0 (cl (f_X5_begin 1 x2) (fun _ => f_X8_tell_b23 FU 0))))))
