def f_X10_afternoons_b176 (k50 : Int32 → Int32 → Int32 → Int32 → Int32 → Int32 → Int32 → Sg → Option ((Int32 ⊕ Bool) × Sg)) (x2 : Int32) (x3 : Int32) (x4 : Int32) (x5 : Int32) (x6 : Int32) (x8 : Int32) (xs0 : Int32) (xs1 : Int32) : Sg → Option ((Int32 ⊕ Bool) × Sg) :=
  k50 x2 x3 x4 x5 x6 (xs1 + xs0) (x8 + 1)
def f_X10_afternoons_b117 (k50 : Int32 → Int32 → Int32 → Int32 → Int32 → Int32 → Int32 → Sg → Option ((Int32 ⊕ Bool) × Sg)) (x2 : Int32) (x3 : Int32) (x4 : Int32) (x5 : Int32) (x6 : Int32) (x7 : Int32) (x8 : Int32) : Sg → Option ((Int32 ⊕ Bool) × Sg) :=
  dI 2 3 (fun v1 => cl (f_X4_go 0 v1) (fun _ => cl (f_X4_hurtsOfAll) (fun r2 => cl (f_X4_funOfAll) (fun r3 => lt (if x6 < r3 then r3 else x6 : Int32) (fun w4 => dI 17 14 (fun v5 => br (v5 = ((-1))) (f_X10_afternoons_b176 k50 x2 x3 x4 (x5 + r2) w4 x8 1 x7) (f_X10_afternoons_b176 k50 x2 x3 x4 (x5 + r2) w4 x8 0 x7)))))))
def f_X10_afternoons_b63 (k50 : Int32 → Int32 → Int32 → Int32 → Int32 → Int32 → Int32 → Sg → Option ((Int32 ⊕ Bool) × Sg)) : Nat → Int32 → Int32 → Int32 → Int32 → Int32 → Int32 → Int32 → Int32 → Sg → Option ((Int32 ⊕ Bool) × Sg)
  | 0, _, _, _, _, _, _, _, _ => fun _ => none
  | fu + 1, x2, x3, x4, x5, x6, x7, x8, x9 => dI 2 1 (fun v1 => br (v1 ≤ x9) (f_X10_afternoons_b117 k50 x2 x3 x4 x5 x6 x7 x8) (lt ((x4 * 1103515245) + 12345 : Int32) (fun w3 => cl (f_X4_flyer x9) (fun u4 => gd (isFl u4 = true) (cl (f_X1_startIn u4 (((w3 >>> ((16 : Int32) &&& 31)) &&& 32767) - ((w3 >>> ((16 : Int32) &&& 31)) &&& 32767) / 40 * 40)) (fun _ => (f_X10_afternoons_b63 k50 fu) x2 x3 w3 x5 x6 x7 x8 (x9 + 1)))))))
def f_X10_afternoons_b185 (x3 : Int32) (x5 : Int32) (x6 : Int32) (x7 : Int32) : Sg → Option ((Int32 ⊕ Bool) × Sg) :=
  br (x3 = 0) (rtX x5) (br (x3 = 1) (rtX x6) (rtX x7))
def f_X10_afternoons_b50 : Nat → Int32 → Int32 → Int32 → Int32 → Int32 → Int32 → Int32 → Sg → Option ((Int32 ⊕ Bool) × Sg)
  | 0, _, _, _, _, _, _, _ => fun _ => none
  | fu + 1, x2, x3, x4, x5, x6, x7, x8 => br (x2 ≤ x8) (f_X10_afternoons_b185 x3 x5 x6 x7) (cl (f_X10_prepare) (fun _ => f_X10_afternoons_b63 (f_X10_afternoons_b50 fu) FU x2 x3 x4 x5 x6 x7 x8 0))
def f_X10_afternoons_b32 (x1 : Int32) (x2 : Int32) (x3 : Int32) (xs0 : Int32) : Sg → Option ((Int32 ⊕ Bool) × Sg) :=
  clX (f_X10_demand xs0) (fun _ => f_X10_afternoons_b50 FU x2 x3 x1 0 0 0 0)
def f_X10_afternoons_b31 (x1 : Int32) (x2 : Int32) (x3 : Int32) : Sg → Option ((Int32 ⊕ Bool) × Sg) :=
  f_X10_afternoons_b32 x1 x2 x3 0
def f_X10_afternoons_b14 (x1 : Int32) (x2 : Int32) (x3 : Int32) (xs0 : Int32) : Sg → Option ((Int32 ⊕ Bool) × Sg) :=
  clX (f_X10_need xs0) (fun _ => br (x2 < 0) (f_X10_afternoons_b31 x1 x2 x3) (br (40 < x2) (f_X10_afternoons_b31 x1 x2 x3) (f_X10_afternoons_b32 x1 x2 x3 1)))
def f_X10_afternoons_b13 (x1 : Int32) (x2 : Int32) (x3 : Int32) : Sg → Option ((Int32 ⊕ Bool) × Sg) :=
  f_X10_afternoons_b14 x1 x2 x3 0
def f_X10_afternoons (x1 : Int32) (x2 : Int32) (x3 : Int32) : Sg → Option ((Int32 ⊕ Bool) × Sg) :=
  br (x3 < 0) (f_X10_afternoons_b13 x1 x2 x3) (br (2 < x3) (f_X10_afternoons_b13 x1 x2 x3) (f_X10_afternoons_b14 x1 x2 x3 1))
def f_X10_become_b39  : Sg → Option ((Int32 ⊕ Bool) × Sg) :=
  dI 0 4 (fun v1 => pI 0 4 (v1 + 1) (rtX ((-1) : Int32)))
def f_X10_become_b22 (x1 : Int32) (x2 : Int32) (x3 : Int32) (xs0 : Int32) : Sg → Option ((Int32 ⊕ Bool) × Sg) :=
  clX (f_X10_need xs0) (fun _ => br (x3 < 0) (f_X10_become_b39) (cl (f_X10_mostOf (3 + x2)) (fun r2 => br (x3 ≤ r2) (cl (f_X7_act 2 x2 x1 x3) (fun r4 => rtX r4)) (f_X10_become_b39))))
def f_X10_become_b21 (x1 : Int32) (x2 : Int32) (x3 : Int32) : Sg → Option ((Int32 ⊕ Bool) × Sg) :=
  f_X10_become_b22 x1 x2 x3 0
def f_X10_become (x1 : Int32) (x2 : Int32) (x3 : Int32) : Sg → Option ((Int32 ⊕ Bool) × Sg) :=
  cl (f_X10_isJumper x1) (fun r1 => br (r1 = 0) (f_X10_become_b21 x1 x2 x3) (br (x2 < 0) (f_X10_become_b21 x1 x2 x3) (br (2 < x2) (f_X10_become_b21 x1 x2 x3) (f_X10_become_b22 x1 x2 x3 1))))
def f_X10_broken (x1 : Int32) : Sg → Option ((Int32 ⊕ Bool) × Sg) :=
  cl (f_X10_isToldHeight x1) (fun r1 => clX (f_X10_demand r1) (fun _ => cl (f_X7_fitting 2 x1) (fun r2 => rtX r2)))
def f_X10_compare_b22 (x1 : Int32) (x2 : Int32) (xs0 : Int32) : Sg → Option ((Int32 ⊕ Bool) × Sg) :=
  clX (f_X10_need xs0) (fun _ => cl (f_X10_playBy x1) (fun _ => br (x2 = 0) (cl (f_X4_hurtsOfAll) (fun r2 => rtX r2)) (cl (f_X4_funOfAll) (fun r3 => rtX r3))))
def f_X10_compare_b17 (x1 : Int32) (x2 : Int32) : Sg → Option ((Int32 ⊕ Bool) × Sg) :=
  f_X10_compare_b22 x1 x2 1
def f_X10_compare_b21 (x1 : Int32) (x2 : Int32) : Sg → Option ((Int32 ⊕ Bool) × Sg) :=
  f_X10_compare_b22 x1 x2 0
def f_X10_compare (x1 : Int32) (x2 : Int32) : Sg → Option ((Int32 ⊕ Bool) × Sg) :=
  cl (f_X10_isRule x1) (fun r1 => br (r1 = 0) (f_X10_compare_b21 x1 x2) (br (x2 = 0) (f_X10_compare_b17 x1 x2) (br (x2 = 1) (f_X10_compare_b17 x1 x2) (f_X10_compare_b21 x1 x2))))
def f_X10_correct_b73 (k19 : Int32 → Int32 → Int32 → Int32 → Int64 → Int32 → Sg → Option ((Int32 ⊕ Bool) × Sg)) (x1 : Int32) (x2 : Int32) (x3 : Int32) (x4 : Int32) (x5 : Int64) (x7 : Int32) : Sg → Option ((Int32 ⊕ Bool) × Sg) :=
  k19 x1 x2 x3 x4 x5 (x7 + 1)
def f_X10_correct_b60 (k19 : Int32 → Int32 → Int32 → Int32 → Int64 → Int32 → Sg → Option ((Int32 ⊕ Bool) × Sg)) (x1 : Int32) (x2 : Int32) (x3 : Int32) (x7 : Int32) : Sg → Option ((Int32 ⊕ Bool) × Sg) :=
  dL 30 2 (fun v1 => f_X10_correct_b73 k19 x1 x2 x3 x7 v1 x7)
def f_X10_correct_b19 : Nat → Int32 → Int32 → Int32 → Int32 → Int64 → Int32 → Sg → Option ((Int32 ⊕ Bool) × Sg)
  | 0, _, _, _, _, _, _ => fun _ => none
  | fu + 1, x1, x2, x3, x4, x5, x7 => br (9 < x7) (rtX x4) (dR 0 6 (fun u2 => gd (isGd u2 = true) (cl (f_X9_go u2 x1 x2 x7 x3) (fun _ => br (x7 = 0) (f_X10_correct_b60 (f_X10_correct_b19 fu) x1 x2 x3 x7) (dL 30 2 (fun v4 => br (0 ≤ (lg_cmp v4 x5)) (f_X10_correct_b73 (f_X10_correct_b19 fu) x1 x2 x3 x4 x5 x7) (f_X10_correct_b60 (f_X10_correct_b19 fu) x1 x2 x3 x7)))))))
def f_X10_correct (x1 : Int32) (x2 : Int32) (x3 : Int32) : Sg → Option ((Int32 ⊕ Bool) × Sg) :=
  cl (f_X10_mayWander x1 x2 x3) (fun r1 => clX (f_X10_demand r1) (fun _ => f_X10_correct_b19 FU x1 x2 x3 0 0 0))
def f_X10_count_b15 (x1 : Int32) (xs0 : Int32) : Sg → Option ((Int32 ⊕ Bool) × Sg) :=
  clX (f_X10_need xs0) (fun _ => br (9 < x1) (cl (f_X10_countNow x1) (fun r2 => rtX r2)) (cl (f_X10_countTold x1) (fun r3 => rtX r3)))
def f_X10_count_b14 (x1 : Int32) : Sg → Option ((Int32 ⊕ Bool) × Sg) :=
  f_X10_count_b15 x1 0
def f_X10_count (x1 : Int32) : Sg → Option ((Int32 ⊕ Bool) × Sg) :=
  br (x1 < 0) (f_X10_count_b14 x1) (br (18 < x1) (f_X10_count_b14 x1) (f_X10_count_b15 x1 1))
def f_X10_danger_b10 : Nat → Int32 → Int32 → Sg → Option ((Int32 ⊕ Bool) × Sg)
  | 0, _, _ => fun _ => none
  | fu + 1, x1, x2 => br (60 < x2) (rtX ((-1) : Int32)) (cl (f_X10_prepare) (fun _ => cl (f_X4_flyer x1) (fun u2 => gd (isFl u2 = true) (cl (f_X1_dropFrom u2 x2) (fun _ => dI 2 3 (fun v3 => cl (f_X4_go 0 v3) (fun _ => dI 17 14 (fun v4 => br (v4 = ((-1))) ((f_X10_danger_b10 fu) x1 (x2 + 1)) (rtX x2)))))))))
def f_X10_danger (x1 : Int32) : Sg → Option ((Int32 ⊕ Bool) × Sg) :=
  cl (f_X10_isJumper x1) (fun r1 => clX (f_X10_need r1) (fun _ => f_X10_danger_b10 FU x1 0))
def f_X10_egg_b14 (x1 : Int32) (xs0 : Int32) : Sg → Option ((Int64 ⊕ Bool) × Sg) :=
  clX (f_X10_need xs0) (fun _ => dR 0 6 (fun u1 => gd (isGd u1 = true) (cl (f_X0_open u1) (fun _ => br (x1 = 2) (dI 33 3 (fun v3 => rtX v3.toInt64)) (dL 33 1 (fun v4 => dL 33 2 (fun v5 => cl (f_X10_partOf v4 v5 x1) (fun r6 => rtX r6))))))))
def f_X10_egg_b13 (x1 : Int32) : Sg → Option ((Int64 ⊕ Bool) × Sg) :=
  f_X10_egg_b14 x1 0
def f_X10_egg (x1 : Int32) : Sg → Option ((Int64 ⊕ Bool) × Sg) :=
  br (x1 < 0) (f_X10_egg_b13 x1) (br (2 < x1) (f_X10_egg_b13 x1) (f_X10_egg_b14 x1 1))
def f_X10_falls_b42 (x1 : Int32) (x2 : Int32) (x3 : Int32) (x4 : Int32) (x5 : Int32) (xs0 : Int32) : Sg → Option ((Int64 ⊕ Bool) × Sg) :=
  clX (f_X10_demand xs0) (fun _ => dR 0 6 (fun u1 => gd (isGd u1 = true) (cl (f_X9_go u1 x1 x2 x3 x4) (fun _ => dL 30 2 (fun v2 => dL 30 3 (fun v3 => cl (f_X10_partOf v2 v3 x5) (fun r4 => rtX r4)))))))
def f_X10_falls_b41 (x1 : Int32) (x2 : Int32) (x3 : Int32) (x4 : Int32) (x5 : Int32) : Sg → Option ((Int64 ⊕ Bool) × Sg) :=
  f_X10_falls_b42 x1 x2 x3 x4 x5 0
def f_X10_falls_b16 (x1 : Int32) (x2 : Int32) (x3 : Int32) (x4 : Int32) (x5 : Int32) (xs0 : Int32) : Sg → Option ((Int64 ⊕ Bool) × Sg) :=
  clX (f_X10_need xs0) (fun _ => cl (f_X10_mayWander x1 x2 x4) (fun r1 => br (r1 = 0) (f_X10_falls_b41 x1 x2 x3 x4 x5) (cl (f_X10_isCorrects x3) (fun r3 => br (r3 = 0) (f_X10_falls_b41 x1 x2 x3 x4 x5) (f_X10_falls_b42 x1 x2 x3 x4 x5 1)))))
def f_X10_falls_b11 (x1 : Int32) (x2 : Int32) (x3 : Int32) (x4 : Int32) (x5 : Int32) : Sg → Option ((Int64 ⊕ Bool) × Sg) :=
  f_X10_falls_b16 x1 x2 x3 x4 x5 1
def f_X10_falls (x1 : Int32) (x2 : Int32) (x3 : Int32) (x4 : Int32) (x5 : Int32) : Sg → Option ((Int64 ⊕ Bool) × Sg) :=
  br (x5 = 0) (f_X10_falls_b11 x1 x2 x3 x4 x5) (br (x5 = 1) (f_X10_falls_b11 x1 x2 x3 x4 x5) (f_X10_falls_b16 x1 x2 x3 x4 x5 0))
def f_X10_film_b21 (x1 : Int32) (x2 : Int32) (xs0 : Int32) : Sg → Option ((Int32 ⊕ Bool) × Sg) :=
  clX (f_X10_need xs0) (fun _ => cl (f_X10_prepare) (fun _ => cl (f_X4_go 0 (x2 + 1)) (fun _ => cl (f_X4_flyer x1) (fun u1 => gd (isFl u1 = true) (cl (f_X1_heightIn u1 x2) (fun r2 => rtX r2))))))
def f_X10_film_b20 (x1 : Int32) (x2 : Int32) : Sg → Option ((Int32 ⊕ Bool) × Sg) :=
  f_X10_film_b21 x1 x2 0
def f_X10_film (x1 : Int32) (x2 : Int32) : Sg → Option ((Int32 ⊕ Bool) × Sg) :=
  cl (f_X10_isJumper x1) (fun r1 => br (r1 = 0) (f_X10_film_b20 x1 x2) (cl (f_X10_isTick x2) (fun r3 => br (r3 = 0) (f_X10_film_b20 x1 x2) (f_X10_film_b21 x1 x2 1))))
def f_X10_garden_b17 (x1 : Int32) (xs0 : Int32) : Sg → Option ((Int32 ⊕ Bool) × Sg) :=
  clX (f_X10_demand xs0) (fun _ => pI 0 1 0 (cl (f_X8_tell 1 x1) (fun r1 => br (r1 = 0) (pI 0 2 ((-1)) (dR 14 1 (fun u3 => gd (isGd u3 = true) (dR 0 6 (fun u4 => gd (isGd u4 = true) (pR 14 1 u4 (pR 0 6 u3 (cl (f_X7_begin 2 u3) (fun _ => pI 0 9 0 (rtX (0 : Int32))))))))))) (dI 14 5 (fun v5 => pI 0 2 v5 (dI 0 3 (fun v6 => pI 0 3 (v6 + 1) (rtX r1))))))))
def f_X10_garden_b16 (x1 : Int32) : Sg → Option ((Int32 ⊕ Bool) × Sg) :=
  f_X10_garden_b17 x1 0
def f_X10_garden (x1 : Int32) : Sg → Option ((Int32 ⊕ Bool) × Sg) :=
  br (x1 < 0) (f_X10_garden_b16 x1) (dI 0 1 (fun v2 => br (v2 < x1) (f_X10_garden_b16 x1) (f_X10_garden_b17 x1 1)))
def f_X10_jumper_b23 (x1 : Int32) (x2 : Int32) (xs0 : Int32) : Sg → Option ((Int32 ⊕ Bool) × Sg) :=
  clX (f_X10_need xs0) (fun _ => cl (f_X7_told 2 x1 x2) (fun r1 => rtX r1))
def f_X10_jumper_b22 (x1 : Int32) (x2 : Int32) : Sg → Option ((Int32 ⊕ Bool) × Sg) :=
  f_X10_jumper_b23 x1 x2 0
def f_X10_jumper (x1 : Int32) (x2 : Int32) : Sg → Option ((Int32 ⊕ Bool) × Sg) :=
  cl (f_X10_isJumper x1) (fun r1 => br (r1 = 0) (f_X10_jumper_b22 x1 x2) (br (x2 < 0) (f_X10_jumper_b22 x1 x2) (br (6 ≤ x2) (f_X10_jumper_b22 x1 x2) (f_X10_jumper_b23 x1 x2 1))))
def f_X10_landing_b54 (x1 : Int32) (x2 : Int32) (xs0 : Int32) : Sg → Option ((Int32 ⊕ Bool) × Sg) :=
  clX (f_X10_need xs0) (fun _ => br (x1 = ((-1))) (dI 28 1 (fun v2 => rtX v2)) (cl (f_X3_told x1 x2) (fun r3 => rtX r3)))
def f_X10_landing_b28 (x1 : Int32) (x2 : Int32) (xs0 : Int32) : Sg → Option ((Int32 ⊕ Bool) × Sg) :=
  clX (f_X10_need xs0) (fun _ => cl (f_X10_playAll) (fun _ => dI 28 1 (fun v1 => br (v1 ≤ x1) (f_X10_landing_b54 x1 x2 0) (f_X10_landing_b54 x1 x2 1))))
def f_X10_landing_b23 (x1 : Int32) (x2 : Int32) : Sg → Option ((Int32 ⊕ Bool) × Sg) :=
  f_X10_landing_b28 x1 x2 1
def f_X10_landing_b27 (x1 : Int32) (x2 : Int32) : Sg → Option ((Int32 ⊕ Bool) × Sg) :=
  f_X10_landing_b28 x1 x2 0
def f_X10_landing (x1 : Int32) (x2 : Int32) : Sg → Option ((Int32 ⊕ Bool) × Sg) :=
  br (x1 < ((-1))) (f_X10_landing_b27 x1 x2) (br (x2 < 0) (f_X10_landing_b27 x1 x2) (br (5 ≤ x2) (f_X10_landing_b27 x1 x2) (br (x1 = ((-1))) (br (x2 = 0) (f_X10_landing_b23 x1 x2) (f_X10_landing_b27 x1 x2)) (f_X10_landing_b23 x1 x2))))
def f_X10_lands_b23 (x1 : Int32) (x2 : Int32) (xs0 : Int32) : Sg → Option ((Int32 ⊕ Bool) × Sg) :=
  clX (f_X10_need xs0) (fun _ => cl (f_X10_playAll) (fun _ => cl (f_X4_flyer x1) (fun u1 => gd (isFl u1 = true) (cl (f_X1_landed u1 x2) (fun r2 => rtX r2)))))
def f_X10_lands_b22 (x1 : Int32) (x2 : Int32) : Sg → Option ((Int32 ⊕ Bool) × Sg) :=
  f_X10_lands_b23 x1 x2 0
def f_X10_lands (x1 : Int32) (x2 : Int32) : Sg → Option ((Int32 ⊕ Bool) × Sg) :=
  cl (f_X10_isJumper x1) (fun r1 => br (r1 = 0) (f_X10_lands_b22 x1 x2) (br (x2 < 0) (f_X10_lands_b22 x1 x2) (br (6 ≤ x2) (f_X10_lands_b22 x1 x2) (f_X10_lands_b23 x1 x2 1))))
def f_X10_mat_b14 (x1 : Int32) (xs0 : Int32) : Sg → Option ((Int32 ⊕ Bool) × Sg) :=
  clX (f_X10_need xs0) (fun _ => cl (f_X10_playAll) (fun _ => br (x1 = 0) (dI 17 10 (fun v2 => rtX v2)) (br (x1 = 1) (dI 17 11 (fun v4 => rtX v4)) (br (x1 = 2) (dI 17 12 (fun v6 => rtX v6)) (br (x1 = 3) (dI 17 13 (fun v8 => rtX v8)) (dI 17 9 (fun v9 => rtX v9)))))))
def f_X10_mat_b13 (x1 : Int32) : Sg → Option ((Int32 ⊕ Bool) × Sg) :=
  f_X10_mat_b14 x1 0
def f_X10_mat (x1 : Int32) : Sg → Option ((Int32 ⊕ Bool) × Sg) :=
  br (x1 < 0) (f_X10_mat_b13 x1) (br (4 < x1) (f_X10_mat_b13 x1) (f_X10_mat_b14 x1 1))
def f_X10_moment_b105 (k33 : Int32 → Int32 → Int32 → Int32 → Int32 → Sg → Option ((Int32 ⊕ Bool) × Sg)) (x1 : Int32) (x2 : Int32) (x3 : Int32) (x4 : Int32) (x5 : Int32) : Sg → Option ((Int32 ⊕ Bool) × Sg) :=
  k33 x1 x2 x3 x4 (x5 + 1)
def f_X10_moment_b98 (k33 : Int32 → Int32 → Int32 → Int32 → Int32 → Sg → Option ((Int32 ⊕ Bool) × Sg)) (x1 : Int32) (x2 : Int32) (x5 : Int32) (x6 : Int32) : Sg → Option ((Int32 ⊕ Bool) × Sg) :=
  f_X10_moment_b105 k33 x1 x2 x5 x6 x5
def f_X10_moment_b33 : Nat → Int32 → Int32 → Int32 → Int32 → Int32 → Sg → Option ((Int32 ⊕ Bool) × Sg)
  | 0, _, _, _, _, _ => fun _ => none
  | fu + 1, x1, x2, x3, x4, x5 => br (40 ≤ x5) (rtX x3) (cl (f_X10_prepare) (fun _ => cl (f_X4_flyer x1) (fun u2 => gd (isFl u2 = true) (cl (f_X1_startIn u2 x5) (fun _ => dI 2 3 (fun v3 => cl (f_X4_go 0 v3) (fun _ => cl (f_X4_flyer x1) (fun u4 => gd (isFl u4 = true) (cl (f_X10_worthOf u4 x2) (fun r5 => br (x5 = 0) (f_X10_moment_b98 (f_X10_moment_b33 fu) x1 x2 x5 r5) (br (r5 ≤ x4) (f_X10_moment_b105 (f_X10_moment_b33 fu) x1 x2 x3 x4 x5) (f_X10_moment_b98 (f_X10_moment_b33 fu) x1 x2 x5 r5))))))))))))
def f_X10_moment_b22 (x1 : Int32) (x2 : Int32) (xs0 : Int32) : Sg → Option ((Int32 ⊕ Bool) × Sg) :=
  clX (f_X10_need xs0) (fun _ => f_X10_moment_b33 FU x1 x2 0 0 0)
def f_X10_moment_b21 (x1 : Int32) (x2 : Int32) : Sg → Option ((Int32 ⊕ Bool) × Sg) :=
  f_X10_moment_b22 x1 x2 0
def f_X10_moment (x1 : Int32) (x2 : Int32) : Sg → Option ((Int32 ⊕ Bool) × Sg) :=
  cl (f_X10_isJumper x1) (fun r1 => br (r1 = 0) (f_X10_moment_b21 x1 x2) (br (x2 < 0) (f_X10_moment_b21 x1 x2) (br (2 < x2) (f_X10_moment_b21 x1 x2) (f_X10_moment_b22 x1 x2 1))))
def f_X10_over_b116 (k57 : Int32 → Int32 → Int32 → Int32 → Int32 → Int32 → Sg → Option ((Int32 ⊕ Bool) × Sg)) (x1 : Int32) (x2 : Int32) (x3 : Int32) (x4 : Int32) (x5 : Int32) (x6 : Int32) : Sg → Option ((Int32 ⊕ Bool) × Sg) :=
  k57 x1 x2 x3 x4 x5 (x6 + 1)
def f_X10_over_b111 (k57 : Int32 → Int32 → Int32 → Int32 → Int32 → Int32 → Sg → Option ((Int32 ⊕ Bool) × Sg)) (x1 : Int32) (x2 : Int32) (x3 : Int32) (x4 : Int32) (x6 : Int32) (xs0 : Int32) : Sg → Option ((Int32 ⊕ Bool) × Sg) :=
  f_X10_over_b116 k57 x1 x2 x3 (x4 + 1) xs0 x6
def f_X10_over_b122 (x3 : Int32) (x4 : Int32) (x5 : Int32) : Sg → Option ((Int32 ⊕ Bool) × Sg) :=
  br (x3 = 0) (rtX x4) (rtX x5)
def f_X10_over_b57 : Nat → Int32 → Int32 → Int32 → Int32 → Int32 → Int32 → Sg → Option ((Int32 ⊕ Bool) × Sg)
  | 0, _, _, _, _, _, _ => fun _ => none
  | fu + 1, x1, x2, x3, x4, x5, x6 => dI 2 3 (fun v1 => br (v1 ≤ x6) (f_X10_over_b122 x3 x4 x5) (cl (f_X4_go x6 (x6 + 1)) (fun _ => cl (f_X4_flyer x1) (fun u3 => gd (isFl u3 = true) (cl (f_X1_heightIn u3 x6) (fun r4 => br (r4 < x2) (f_X10_over_b116 (f_X10_over_b57 fu) x1 x2 x3 x4 x5 x6) (br (x4 = 0) (f_X10_over_b111 (f_X10_over_b57 fu) x1 x2 x3 x4 x6 x6) (f_X10_over_b111 (f_X10_over_b57 fu) x1 x2 x3 x4 x6 x5))))))))
def f_X10_over_b41 (x1 : Int32) (x2 : Int32) (x3 : Int32) (xs0 : Int32) : Sg → Option ((Int32 ⊕ Bool) × Sg) :=
  clX (f_X10_demand xs0) (fun _ => cl (f_X10_prepare) (fun _ => f_X10_over_b57 FU x1 x2 x3 0 ((-1)) 0))
def f_X10_over_b40 (x1 : Int32) (x2 : Int32) (x3 : Int32) : Sg → Option ((Int32 ⊕ Bool) × Sg) :=
  f_X10_over_b41 x1 x2 x3 0
def f_X10_over_b22 (x1 : Int32) (x2 : Int32) (x3 : Int32) (xs0 : Int32) : Sg → Option ((Int32 ⊕ Bool) × Sg) :=
  clX (f_X10_need xs0) (fun _ => br (x2 < 0) (f_X10_over_b40 x1 x2 x3) (br (999 < x2) (f_X10_over_b40 x1 x2 x3) (f_X10_over_b41 x1 x2 x3 1)))
def f_X10_over_b17 (x1 : Int32) (x2 : Int32) (x3 : Int32) : Sg → Option ((Int32 ⊕ Bool) × Sg) :=
  f_X10_over_b22 x1 x2 x3 1
def f_X10_over_b21 (x1 : Int32) (x2 : Int32) (x3 : Int32) : Sg → Option ((Int32 ⊕ Bool) × Sg) :=
  f_X10_over_b22 x1 x2 x3 0
def f_X10_over (x1 : Int32) (x2 : Int32) (x3 : Int32) : Sg → Option ((Int32 ⊕ Bool) × Sg) :=
  cl (f_X10_isJumper x1) (fun r1 => br (r1 = 0) (f_X10_over_b21 x1 x2 x3) (br (x3 = 0) (f_X10_over_b17 x1 x2 x3) (br (x3 = 1) (f_X10_over_b17 x1 x2 x3) (f_X10_over_b21 x1 x2 x3))))
def f_X10_ran_b23 (x1 : Int32) (x2 : Int32) (xs0 : Int32) : Sg → Option ((Int32 ⊕ Bool) × Sg) :=
  clX (f_X10_need xs0) (fun _ => cl (f_X10_playAll) (fun _ => cl (f_X4_flyer x1) (fun u1 => gd (isFl u1 = true) (br (x2 = 0) (dI u1 10 (fun v3 => rtX v3)) (br (x2 = 1) (dI u1 11 (fun v5 => rtX v5)) (br (x2 = 2) (dI u1 12 (fun v7 => rtX v7)) (br (x2 = 3) (dI u1 13 (fun v9 => rtX v9)) (br (x2 = 4) (dI u1 14 (fun v11 => rtX v11)) (br (x2 = 5) (dI u1 6 (fun v13 => rtX v13)) (dI u1 5 (fun v14 => rtX v14)))))))))))
def f_X10_ran_b22 (x1 : Int32) (x2 : Int32) : Sg → Option ((Int32 ⊕ Bool) × Sg) :=
  f_X10_ran_b23 x1 x2 0
def f_X10_ran (x1 : Int32) (x2 : Int32) : Sg → Option ((Int32 ⊕ Bool) × Sg) :=
  cl (f_X10_isJumper x1) (fun r1 => br (r1 = 0) (f_X10_ran_b22 x1 x2) (br (x2 < 0) (f_X10_ran_b22 x1 x2) (br (6 < x2) (f_X10_ran_b22 x1 x2) (f_X10_ran_b23 x1 x2 1))))
def f_X10_safe_b70 (k39 : Int32 → Int32 → Int32 → Int64 → Int32 → Sg → Option ((Int64 ⊕ Bool) × Sg)) (x1 : Int32) (x2 : Int32) (x3 : Int32) (x4 : Int64) (x6 : Int32) : Sg → Option ((Int64 ⊕ Bool) × Sg) :=
  k39 x1 x2 x3 x4 (x6 + 1)
def f_X10_safe_b39 : Nat → Int32 → Int32 → Int32 → Int64 → Int32 → Sg → Option ((Int64 ⊕ Bool) × Sg)
  | 0, _, _, _, _, _ => fun _ => none
  | fu + 1, x1, x2, x3, x4, x6 => br (20 < x6) (rtX x4) (cl (f_X10_staysOn x6 x1 x2 x3) (fun r2 => br (r2 = 0) (f_X10_safe_b70 (f_X10_safe_b39 fu) x1 x2 x3 x4 x6) (lt (x4 ||| (1 <<< ((20 + x6).toInt64 &&& 63)) : Int64) (fun w4 => f_X10_safe_b70 (f_X10_safe_b39 fu) x1 x2 x3 w4 x6))))
def f_X10_safe_b29 (x1 : Int32) (x2 : Int32) (x3 : Int32) (xs0 : Int32) : Sg → Option ((Int64 ⊕ Bool) × Sg) :=
  clX (f_X10_demand xs0) (fun _ => f_X10_safe_b39 FU x1 x2 x3 0 ((-20)))
def f_X10_safe_b28 (x1 : Int32) (x2 : Int32) (x3 : Int32) : Sg → Option ((Int64 ⊕ Bool) × Sg) :=
  f_X10_safe_b29 x1 x2 x3 0
def f_X10_safe (x1 : Int32) (x2 : Int32) (x3 : Int32) : Sg → Option ((Int64 ⊕ Bool) × Sg) :=
  cl (f_X10_isToldHeight x1) (fun r1 => br (r1 = 0) (f_X10_safe_b28 x1 x2 x3) (cl (f_X10_isCorrects x2) (fun r3 => br (r3 = 0) (f_X10_safe_b28 x1 x2 x3) (br (x3 < 0) (f_X10_safe_b28 x1 x2 x3) (br (100 < x3) (f_X10_safe_b28 x1 x2 x3) (f_X10_safe_b29 x1 x2 x3 1))))))
def f_X10_second_b173 (k62 : Int32 → Int32 → Int32 → Int32 → Int32 → Int32 → Int32 → Int32 → Sg → Option ((Int32 ⊕ Bool) × Sg)) (k72 : Int32 → Int32 → Int32 → Int32 → Int32 → Int32 → Int32 → Int32 → Int32 → Sg → Option ((Int32 ⊕ Bool) × Sg)) (x1 : Int32) (x2 : Int32) (x3 : Int32) (x4 : Int32) (x5 : Int32) (x6 : Int32) (x7 : Int32) (x8 : Int32) (x9 : Int32) : Sg → Option ((Int32 ⊕ Bool) × Sg) :=
  k72 x1 x2 x3 x4 x5 x6 x7 x8 (x9 + 1)
def f_X10_second_b95 (k62 : Int32 → Int32 → Int32 → Int32 → Int32 → Int32 → Int32 → Int32 → Sg → Option ((Int32 ⊕ Bool) × Sg)) (k72 : Int32 → Int32 → Int32 → Int32 → Int32 → Int32 → Int32 → Int32 → Int32 → Sg → Option ((Int32 ⊕ Bool) × Sg)) (x1 : Int32) (x2 : Int32) (x3 : Int32) (x4 : Int32) (x5 : Int32) (x6 : Int32) (x7 : Int32) (x8 : Int32) (x9 : Int32) : Sg → Option ((Int32 ⊕ Bool) × Sg) :=
  cl (f_X10_prepare) (fun _ => cl (f_X4_flyer x1) (fun u1 => gd (isFl u1 = true) (cl (f_X1_startIn u1 x8) (fun _ => cl (f_X4_flyer x2) (fun u2 => gd (isFl u2 = true) (cl (f_X1_startIn u2 x9) (fun _ => cl (f_X4_go 0 (x3 + 1)) (fun _ => cl (f_X4_flyer x1) (fun u3 => gd (isFl u3 = true) (cl (f_X1_heightIn u3 x3) (fun r4 => br (r4 = x4) (cl (f_X4_flyer x2) (fun u6 => gd (isFl u6 = true) (cl (f_X1_heightIn u6 x3) (fun r7 => br (r7 = x5) (f_X10_second_b173 k62 k72 x1 x2 x3 x4 x5 x6 (x7 + 1) x8 x9) (f_X10_second_b173 k62 k72 x1 x2 x3 x4 x5 x6 x7 x8 x9))))) (f_X10_second_b173 k62 k72 x1 x2 x3 x4 x5 x6 x7 x8 x9))))))))))))
def f_X10_second_b179 (k62 : Int32 → Int32 → Int32 → Int32 → Int32 → Int32 → Int32 → Int32 → Sg → Option ((Int32 ⊕ Bool) × Sg)) (x1 : Int32) (x2 : Int32) (x3 : Int32) (x4 : Int32) (x5 : Int32) (x6 : Int32) (x7 : Int32) (x8 : Int32) : Sg → Option ((Int32 ⊕ Bool) × Sg) :=
  k62 x1 x2 x3 x4 x5 x6 x7 (x8 + 1)
def f_X10_second_b72 (k62 : Int32 → Int32 → Int32 → Int32 → Int32 → Int32 → Int32 → Int32 → Sg → Option ((Int32 ⊕ Bool) × Sg)) : Nat → Int32 → Int32 → Int32 → Int32 → Int32 → Int32 → Int32 → Int32 → Int32 → Sg → Option ((Int32 ⊕ Bool) × Sg)
  | 0, _, _, _, _, _, _, _, _, _ => fun _ => none
  | fu + 1, x1, x2, x3, x4, x5, x6, x7, x8, x9 => br (24 ≤ x9) (f_X10_second_b179 k62 x1 x2 x3 x4 x5 x6 x7 x8) (br (x6 = 1) (br (x9 < x8) (f_X10_second_b95 k62 (f_X10_second_b72 k62 fu) x1 x2 x3 x4 x5 x6 x7 x8 x9) (f_X10_second_b173 k62 (f_X10_second_b72 k62 fu) x1 x2 x3 x4 x5 x6 x7 x8 x9)) (f_X10_second_b95 k62 (f_X10_second_b72 k62 fu) x1 x2 x3 x4 x5 x6 x7 x8 x9))
def f_X10_second_b62 : Nat → Int32 → Int32 → Int32 → Int32 → Int32 → Int32 → Int32 → Int32 → Sg → Option ((Int32 ⊕ Bool) × Sg)
  | 0, _, _, _, _, _, _, _, _ => fun _ => none
  | fu + 1, x1, x2, x3, x4, x5, x6, x7, x8 => br (24 ≤ x8) (rtX x7) (f_X10_second_b72 (f_X10_second_b62 fu) FU x1 x2 x3 x4 x5 x6 x7 x8 0)
def f_X10_second_b53 (x1 : Int32) (x2 : Int32) (x3 : Int32) (x4 : Int32) (x5 : Int32) (x6 : Int32) (xs0 : Int32) : Sg → Option ((Int32 ⊕ Bool) × Sg) :=
  clX (f_X10_demand xs0) (fun _ => f_X10_second_b62 FU x1 x2 x3 x4 x5 x6 0 0)
def f_X10_second_b40 (x1 : Int32) (x2 : Int32) (x3 : Int32) (x4 : Int32) (x5 : Int32) (x6 : Int32) (xs0 : Int32) : Sg → Option ((Int32 ⊕ Bool) × Sg) :=
  clX (f_X10_need xs0) (fun _ => br (x1 = x2) (f_X10_second_b53 x1 x2 x3 x4 x5 x6 0) (f_X10_second_b53 x1 x2 x3 x4 x5 x6 1))
def f_X10_second_b35 (x1 : Int32) (x2 : Int32) (x3 : Int32) (x4 : Int32) (x5 : Int32) (x6 : Int32) : Sg → Option ((Int32 ⊕ Bool) × Sg) :=
  f_X10_second_b40 x1 x2 x3 x4 x5 x6 1
def f_X10_second_b39 (x1 : Int32) (x2 : Int32) (x3 : Int32) (x4 : Int32) (x5 : Int32) (x6 : Int32) : Sg → Option ((Int32 ⊕ Bool) × Sg) :=
  f_X10_second_b40 x1 x2 x3 x4 x5 x6 0
def f_X10_second (x1 : Int32) (x2 : Int32) (x3 : Int32) (x4 : Int32) (x5 : Int32) (x6 : Int32) : Sg → Option ((Int32 ⊕ Bool) × Sg) :=
  cl (f_X10_isJumper x1) (fun r1 => br (r1 = 0) (f_X10_second_b39 x1 x2 x3 x4 x5 x6) (cl (f_X10_isJumper x2) (fun r3 => br (r3 = 0) (f_X10_second_b39 x1 x2 x3 x4 x5 x6) (cl (f_X10_isTick x3) (fun r5 => br (r5 = 0) (f_X10_second_b39 x1 x2 x3 x4 x5 x6) (br (x6 = 0) (f_X10_second_b35 x1 x2 x3 x4 x5 x6) (br (x6 = 1) (f_X10_second_b35 x1 x2 x3 x4 x5 x6) (f_X10_second_b39 x1 x2 x3 x4 x5 x6))))))))
def f_X10_step_b43 (x1 : Int32) (x2 : Int32) (x3 : Int32) (xs0 : Int32) : Sg → Option ((Int32 ⊕ Bool) × Sg) :=
  clX (f_X10_demand xs0) (fun _ => cl (f_X10_playAll) (fun _ => cl (f_X3_pace x1 x2) (fun _ => br (x3 = 0) (dI 28 2 (fun v2 => rtX v2)) (br (x3 = 1) (dI 28 3 (fun v4 => rtX v4)) (br (x3 = 2) (dI 28 3 (fun v6 => dI 28 2 (fun v7 => cl (f_J6_compare_7cf53 v6 v7) (fun r8 => rtX r8)))) (dI 28 4 (fun v9 => rtX v9)))))))
def f_X10_step_b30 (x1 : Int32) (x2 : Int32) (x3 : Int32) (xs0 : Int32) : Sg → Option ((Int32 ⊕ Bool) × Sg) :=
  clX (f_X10_need xs0) (fun _ => br (x1 = x2) (f_X10_step_b43 x1 x2 x3 0) (f_X10_step_b43 x1 x2 x3 1))
def f_X10_step_b29 (x1 : Int32) (x2 : Int32) (x3 : Int32) : Sg → Option ((Int32 ⊕ Bool) × Sg) :=
  f_X10_step_b30 x1 x2 x3 0
def f_X10_step (x1 : Int32) (x2 : Int32) (x3 : Int32) : Sg → Option ((Int32 ⊕ Bool) × Sg) :=
  cl (f_X10_isJumper x1) (fun r1 => br (r1 = 0) (f_X10_step_b29 x1 x2 x3) (cl (f_X10_isJumper x2) (fun r3 => br (r3 = 0) (f_X10_step_b29 x1 x2 x3) (br (x3 < 0) (f_X10_step_b29 x1 x2 x3) (br (3 < x3) (f_X10_step_b29 x1 x2 x3) (f_X10_step_b30 x1 x2 x3 1))))))
def f_X10_stop_b14 (x1 : Int32) (xs0 : Int32) : Sg → Option ((Int32 ⊕ Bool) × Sg) :=
  clX (f_X10_need xs0) (fun _ => cl (f_X10_playAll) (fun _ => br (x1 = 0) (dI 17 14 (fun v2 => rtX v2)) (dI 17 15 (fun v3 => rtX v3))))
def f_X10_stop_b9 (x1 : Int32) : Sg → Option ((Int32 ⊕ Bool) × Sg) :=
  f_X10_stop_b14 x1 1
def f_X10_stop (x1 : Int32) : Sg → Option ((Int32 ⊕ Bool) × Sg) :=
  br (x1 = 0) (f_X10_stop_b9 x1) (br (x1 = 1) (f_X10_stop_b9 x1) (f_X10_stop_b14 x1 0))
def f_X10_wanders_b42 (x1 : Int32) (x2 : Int32) (x3 : Int32) (x4 : Int32) (x5 : Int32) (x6 : Int32) (xs0 : Int32) : Sg → Option ((Int64 ⊕ Bool) × Sg) :=
  clX (f_X10_demand xs0) (fun _ => dR 0 6 (fun u1 => gd (isGd u1 = true) (cl (f_X9_go u1 x1 x2 x3 x4) (fun _ => cl (f_X9_waysAt x5) (fun r2 => dL 30 3 (fun v3 => cl (f_X10_partOf r2 v3 x6) (fun r4 => rtX r4)))))))
def f_X10_wanders_b41 (x1 : Int32) (x2 : Int32) (x3 : Int32) (x4 : Int32) (x5 : Int32) (x6 : Int32) : Sg → Option ((Int64 ⊕ Bool) × Sg) :=
  f_X10_wanders_b42 x1 x2 x3 x4 x5 x6 0
def f_X10_wanders_b16 (x1 : Int32) (x2 : Int32) (x3 : Int32) (x4 : Int32) (x5 : Int32) (x6 : Int32) (xs0 : Int32) : Sg → Option ((Int64 ⊕ Bool) × Sg) :=
  clX (f_X10_need xs0) (fun _ => cl (f_X10_mayWander x1 x2 x4) (fun r1 => br (r1 = 0) (f_X10_wanders_b41 x1 x2 x3 x4 x5 x6) (cl (f_X10_isCorrects x3) (fun r3 => br (r3 = 0) (f_X10_wanders_b41 x1 x2 x3 x4 x5 x6) (f_X10_wanders_b42 x1 x2 x3 x4 x5 x6 1)))))
def f_X10_wanders_b11 (x1 : Int32) (x2 : Int32) (x3 : Int32) (x4 : Int32) (x5 : Int32) (x6 : Int32) : Sg → Option ((Int64 ⊕ Bool) × Sg) :=
  f_X10_wanders_b16 x1 x2 x3 x4 x5 x6 1
def f_X10_wanders (x1 : Int32) (x2 : Int32) (x3 : Int32) (x4 : Int32) (x5 : Int32) (x6 : Int32) : Sg → Option ((Int64 ⊕ Bool) × Sg) :=
  br (x6 = 0) (f_X10_wanders_b11 x1 x2 x3 x4 x5 x6) (br (x6 = 1) (f_X10_wanders_b11 x1 x2 x3 x4 x5 x6) (f_X10_wanders_b16 x1 x2 x3 x4 x5 x6 0))
def f_X10_without_b34 (x1 : Int32) (x2 : Int32) (xs0 : Int32) : Sg → Option ((Int32 ⊕ Bool) × Sg) :=
  clX (f_X10_demand xs0) (fun _ => cl (f_X10_playAll) (fun _ => cl (f_X4_flyer x1) (fun u1 => gd (isFl u1 = true) (dI u1 11 (fun v2 => cl (f_X10_prepare) (fun _ => cl (f_X4_keepOnly (((1 : Int32) <<< (x2 &&& 31)) ^^^ ((-1)))) (fun _ => dI 2 3 (fun v3 => cl (f_X4_go 0 v3) (fun _ => cl (f_X4_flyer x1) (fun u4 => gd (isFl u4 = true) (dI u4 11 (fun v5 => rtX (v5 - v2)))))))))))))
def f_X10_without_b21 (x1 : Int32) (x2 : Int32) (xs0 : Int32) : Sg → Option ((Int32 ⊕ Bool) × Sg) :=
  clX (f_X10_need xs0) (fun _ => br (x1 = x2) (f_X10_without_b34 x1 x2 0) (f_X10_without_b34 x1 x2 1))
def f_X10_without_b20 (x1 : Int32) (x2 : Int32) : Sg → Option ((Int32 ⊕ Bool) × Sg) :=
  f_X10_without_b21 x1 x2 0
def f_X10_without (x1 : Int32) (x2 : Int32) : Sg → Option ((Int32 ⊕ Bool) × Sg) :=
  cl (f_X10_isJumper x1) (fun r1 => br (r1 = 0) (f_X10_without_b20 x1 x2) (cl (f_X10_isJumper x2) (fun r3 => br (r3 = 0) (f_X10_without_b20 x1 x2) (f_X10_without_b21 x1 x2 1))))
