theorem z_X10_step_b43 {Γ : Cx} (G : GG Γ RX10 cX10_step 5 (some .int) 9 1 6) (N : NX Γ 4 24) (hlt : (cLn Γ).stackTraces = false) (x1 : Int32) (x2 : Int32) (x3 : Int32) (xs0 : Int32) : Rz Γ 5 (QmX Γ encI 4 24) 1 6 43 [(0, .ref 0), (1, .int x1), (2, .int x2), (3, .int x3)] [.int xs0] (f_X10_step_b43 x1 x2 x3 xs0) := by
  unfold f_X10_step_b43
  refine rz_callX G N (st := []) (c_X10_demand (cLn Γ) hlt xs0) lkX10_82 (k' := 2) (n' := 12) ⟨rfl, rfl⟩ (by decide) rfl (Nat.le_of_ble_eq_true rfl) (Nat.le_of_ble_eq_true rfl) (dq jX10_step 23 rfl) rfl (fun _ => ?_)
  have G := G.up (k' := 2) (n' := 12) N (by decide) (by decide)
  refine rz_aload_n G 0 rfl rfl (dq jX10_step 24 rfl) ?_
  refine rz_callVv G (st := []) (c_X10_playAll (cLn Γ)) lkX10_181 sh0 rfl rfl rfl (Nat.le_of_ble_eq_true rfl) (Nat.le_of_ble_eq_true rfl) (dq jX10_step 25 rfl) rfl (fun _ => ?_)
  refine rz_aload_n G 0 rfl rfl (dq jX10_step 26 rfl) ?_
  refine rz_getC G flX10_60 sh0 (t := 17) rfl rfl (dq jX10_step 27 rfl) ?_
  refine rz_getC G flX10_244 sh17 (t := 28) rfl rfl (dq jX10_step 28 rfl) ?_
  refine rz_astore G (lv' := [(4, .ref 28), (0, .ref 0), (1, .int x1), (2, .int x2), (3, .int x3)]) (Nat.le_of_ble_eq_true rfl) rfl (dq jX10_step 29 rfl) ?_
  refine rz_aload G 0 rfl (dq jX10_step 30 rfl) ?_
  refine rz_iload_n G 2 rfl rfl (dq jX10_step 31 rfl) ?_
  refine rz_iload_n G 3 rfl rfl (dq jX10_step 32 rfl) ?_
  refine rz_callVv G (st := []) (c_X3_pace (cLn Γ) x1 x2) lkX10_263 sh28 rfl rfl rfl (Nat.le_of_ble_eq_true rfl) (Nat.le_of_ble_eq_true rfl) (dq jX10_step 33 rfl) rfl (fun _ => ?_)
  refine rz_iload_n G 4 rfl rfl (dq jX10_step 34 rfl) ?_
  refine rz_br (fun c1 => ?_) (fun c1 => ?_)
  · refine rz_tableIn G 0 (tgt := 92) swX10_step_67 (by rw [c1]; rfl) (by decide) rfl rfl ?_
    refine rz_aload G 0 rfl (dq jX10_step_s1 0 rfl) ?_
    refine rz_getI G flX10_266 sh28 rfl (dq jX10_step_s1 1 rfl) (fun v2 => ?_)
    exact rz_iretX G (by decide) (dq jX10_step_s1 2 rfl)
  · refine rz_br (fun c3 => ?_) (fun c3 => ?_)
    · refine rz_tableIn G 1 (tgt := 98) swX10_step_67 (by rw [c3]; rfl) (by decide) rfl rfl ?_
      refine rz_aload G 0 rfl (dq jX10_step_s1 3 rfl) ?_
      refine rz_getI G flX10_269 sh28 rfl (dq jX10_step_s1 4 rfl) (fun v4 => ?_)
      exact rz_iretX G (by decide) (dq jX10_step_s1 5 rfl)
    · refine rz_br (fun c5 => ?_) (fun c5 => ?_)
      · refine rz_tableIn G 2 (tgt := 104) swX10_step_67 (by rw [c5]; rfl) (by decide) rfl rfl ?_
        refine rz_aload G 0 rfl (dq jX10_step_s1 6 rfl) ?_
        refine rz_getI G flX10_269 sh28 rfl (dq jX10_step_s1 7 rfl) (fun v6 => ?_)
        refine rz_aload G 0 rfl (dq jX10_step_s1 8 rfl) ?_
        refine rz_getI G flX10_266 sh28 rfl (dq jX10_step_s1 9 rfl) (fun v7 => ?_)
        refine rz_callSi G (st := []) (c_J6_compare_7cf53 (cLn Γ) v6 v7) lkX10_272 rfl (Nat.le_of_ble_eq_true rfl) (Nat.le_of_ble_eq_true rfl) (dq jX10_step_s1 10 rfl) rfl (fun r8 => ?_)
        exact rz_iretX G (by decide) (dq jX10_step_s1 11 rfl)
      · have n_c1 := ne_toInt (z := 0) (by decide) c1; have n_c3 := ne_toInt (z := 1) (by decide) c3; have n_c5 := ne_toInt (z := 2) (by decide) c5
        refine rz_tableOut G (tgt := 118) swX10_step_67 (by omega) rfl ?_
        refine rz_aload G 0 rfl (dq jX10_step_s1 12 rfl) ?_
        refine rz_getI G flX10_277 sh28 rfl (dq jX10_step_s1 13 rfl) (fun v9 => ?_)
        exact rz_iretX G (by decide) (dq jX10_step_s1 14 rfl)
theorem z_X10_step_b30 {Γ : Cx} (G : GG Γ RX10 cX10_step 5 (some .int) 9 0 0) (N : NX Γ 4 24) (hlt : (cLn Γ).stackTraces = false) (x1 : Int32) (x2 : Int32) (x3 : Int32) (xs0 : Int32) : Rz Γ 5 (QmX Γ encI 4 24) 0 0 30 [(0, .ref 0), (1, .int x1), (2, .int x2), (3, .int x3)] [.int xs0] (f_X10_step_b30 x1 x2 x3 xs0) := by
  unfold f_X10_step_b30
  refine rz_callX G N (st := []) (c_X10_need (cLn Γ) hlt xs0) lkX10_98 (k' := 1) (n' := 6) ⟨rfl, rfl⟩ (by decide) rfl (Nat.le_of_ble_eq_true rfl) (Nat.le_of_ble_eq_true rfl) (dq jX10_step 16 rfl) rfl (fun _ => ?_)
  have G := G.up (k' := 1) (n' := 6) N (by decide) (by decide)
  refine rz_iload_n G 1 rfl rfl (dq jX10_step 17 rfl) ?_
  refine rz_iload_n G 2 rfl rfl (dq jX10_step 18 rfl) ?_
  refine rz_icmp_eq G (tgt := 42) rfl (dq jX10_step 19 rfl) (fun c1 => ?_) (fun c1 => ?_)
  · refine rz_iconst G (v := 0) (dq jX10_step 22 rfl) rfl ?_
    exact rz_lv [0, 1, 2, 3] rfl (z_X10_step_b43 G N hlt x1 x2 x3 0)
  · refine rz_iconst G (v := 1) (dq jX10_step 20 rfl) rfl ?_
    refine rz_goto G (tgt := 43) rfl (dq jX10_step 21 rfl) ?_
    exact rz_lv [0, 1, 2, 3] rfl (z_X10_step_b43 G N hlt x1 x2 x3 1)
theorem z_X10_step_b29 {Γ : Cx} (G : GG Γ RX10 cX10_step 5 (some .int) 9 0 0) (N : NX Γ 4 24) (hlt : (cLn Γ).stackTraces = false) (x1 : Int32) (x2 : Int32) (x3 : Int32) : Rz Γ 5 (QmX Γ encI 4 24) 0 0 29 [(0, .ref 0), (1, .int x1), (2, .int x2), (3, .int x3)] [] (f_X10_step_b29 x1 x2 x3) := by
  unfold f_X10_step_b29
  refine rz_iconst G (v := 0) (dq jX10_step 15 rfl) rfl ?_
  exact rz_lv [0, 1, 2, 3] rfl (z_X10_step_b30 G N hlt x1 x2 x3 0)
theorem c_X10_step (l : Launch) (hlt : l.stackTraces = false) (x1 : Int32) (x2 : Int32) (x3 : Int32) : CtX l yX10_step cX10_step 5 (some .int) 9 4 24 encI [.ref 0, .int x1, .int x2, .int x3] (f_X10_step x1 x2 x3) := by
  refine ctX_of (own := RX10) (by decide) rfl (Nat.le_of_ble_eq_true rfl) (fun Γ hl0 G N => ?_)
  subst hl0
  show Rz Γ 5 (QmX Γ encI 4 24) 0 0 0 [(0, .ref 0), (1, .int x1), (2, .int x2), (3, .int x3)] [] _
  unfold f_X10_step
  refine rz_aload_n G 0 rfl rfl (dq jX10_step 0 rfl) ?_
  refine rz_iload_n G 1 rfl rfl (dq jX10_step 1 rfl) ?_
  refine rz_callVi G (st := []) (c_X10_isJumper (cLn Γ) x1) lkX10_159 sh0 rfl rfl rfl (Nat.le_of_ble_eq_true rfl) (Nat.le_of_ble_eq_true rfl) (dq jX10_step 2 rfl) rfl (fun r1 => ?_)
  refine rz_if_eq G (tgt := 29) rfl (dq jX10_step 3 rfl) (fun c2 => ?_) (fun c2 => ?_)
  · exact rz_lv [0, 1, 2, 3] rfl (z_X10_step_b29 G N hlt x1 x2 x3)
  · refine rz_aload_n G 0 rfl rfl (dq jX10_step 4 rfl) ?_
    refine rz_iload_n G 2 rfl rfl (dq jX10_step 5 rfl) ?_
    refine rz_callVi G (st := []) (c_X10_isJumper (cLn Γ) x2) lkX10_159 sh0 rfl rfl rfl (Nat.le_of_ble_eq_true rfl) (Nat.le_of_ble_eq_true rfl) (dq jX10_step 6 rfl) rfl (fun r3 => ?_)
    refine rz_if_eq G (tgt := 29) rfl (dq jX10_step 7 rfl) (fun c4 => ?_) (fun c4 => ?_)
    · exact rz_lv [0, 1, 2, 3] rfl (z_X10_step_b29 G N hlt x1 x2 x3)
    · refine rz_iload_n G 3 rfl rfl (dq jX10_step 8 rfl) ?_
      refine rz_if_lt G (tgt := 29) rfl (dq jX10_step 9 rfl) (fun c5 => ?_) (fun c5 => ?_)
      · exact rz_lv [0, 1, 2, 3] rfl (z_X10_step_b29 G N hlt x1 x2 x3)
      · refine rz_iload_n G 3 rfl rfl (dq jX10_step 10 rfl) ?_
        refine rz_iconst G (v := 3) (dq jX10_step 11 rfl) rfl ?_
        refine rz_icmp_gt G (tgt := 29) rfl (dq jX10_step 12 rfl) (fun c6 => ?_) (fun c6 => ?_)
        · exact rz_lv [0, 1, 2, 3] rfl (z_X10_step_b29 G N hlt x1 x2 x3)
        · refine rz_iconst G (v := 1) (dq jX10_step 13 rfl) rfl ?_
          refine rz_goto G (tgt := 30) rfl (dq jX10_step 14 rfl) ?_
          exact rz_lv [0, 1, 2, 3] rfl (z_X10_step_b30 G N hlt x1 x2 x3 1)
theorem z_X10_stop_b14 {Γ : Cx} (G : GG Γ RX10 cX10_stop 2 (some .int) 9 0 0) (N : NX Γ 4 24) (hlt : (cLn Γ).stackTraces = false) (x1 : Int32) (xs0 : Int32) : Rz Γ 2 (QmX Γ encI 4 24) 0 0 14 [(0, .ref 0), (1, .int x1)] [.int xs0] (f_X10_stop_b14 x1 xs0) := by
  unfold f_X10_stop_b14
  refine rz_callX G N (st := []) (c_X10_need (cLn Γ) hlt xs0) lkX10_98 (k' := 1) (n' := 6) ⟨rfl, rfl⟩ (by decide) rfl (Nat.le_of_ble_eq_true rfl) (Nat.le_of_ble_eq_true rfl) (dq jX10_stop 8 rfl) rfl (fun _ => ?_)
  have G := G.up (k' := 1) (n' := 6) N (by decide) (by decide)
  refine rz_aload_n G 0 rfl rfl (dq jX10_stop 9 rfl) ?_
  refine rz_callVv G (st := []) (c_X10_playAll (cLn Γ)) lkX10_181 sh0 rfl rfl rfl (Nat.le_of_ble_eq_true rfl) (Nat.le_of_ble_eq_true rfl) (dq jX10_stop 10 rfl) rfl (fun _ => ?_)
  refine rz_iload_n G 1 rfl rfl (dq jX10_stop 11 rfl) ?_
  refine rz_if_ne G (tgt := 35) rfl (dq jX10_stop 12 rfl) (fun c1 => ?_) (fun c1 => ?_)
  · refine rz_aload_n G 0 rfl rfl (dq jX10_stop 13 rfl) ?_
    refine rz_getC G flX10_60 sh0 (t := 17) rfl rfl (dq jX10_stop 14 rfl) ?_
    refine rz_getI G flX10_250 sh17 rfl (dq jX10_stop 15 rfl) (fun v2 => ?_)
    refine rz_goto G (tgt := 42) rfl (dq jX10_stop 16 rfl) ?_
    exact rz_iretX G (by decide) (dq jX10_stop 20 rfl)
  · refine rz_aload_n G 0 rfl rfl (dq jX10_stop 17 rfl) ?_
    refine rz_getC G flX10_60 sh0 (t := 17) rfl rfl (dq jX10_stop 18 rfl) ?_
    refine rz_getI G flX10_253 sh17 rfl (dq jX10_stop 19 rfl) (fun v3 => ?_)
    exact rz_iretX G (by decide) (dq jX10_stop 20 rfl)
theorem z_X10_stop_b9 {Γ : Cx} (G : GG Γ RX10 cX10_stop 2 (some .int) 9 0 0) (N : NX Γ 4 24) (hlt : (cLn Γ).stackTraces = false) (x1 : Int32) : Rz Γ 2 (QmX Γ encI 4 24) 0 0 9 [(0, .ref 0), (1, .int x1)] [] (f_X10_stop_b9 x1) := by
  unfold f_X10_stop_b9
  refine rz_iconst G (v := 1) (dq jX10_stop 5 rfl) rfl ?_
  refine rz_goto G (tgt := 14) rfl (dq jX10_stop 6 rfl) ?_
  exact rz_lv [0, 1] rfl (z_X10_stop_b14 G N hlt x1 1)
theorem c_X10_stop (l : Launch) (hlt : l.stackTraces = false) (x1 : Int32) : CtX l yX10_stop cX10_stop 2 (some .int) 9 4 24 encI [.ref 0, .int x1] (f_X10_stop x1) := by
  refine ctX_of (own := RX10) (by decide) rfl (Nat.le_of_ble_eq_true rfl) (fun Γ hl0 G N => ?_)
  subst hl0
  show Rz Γ 2 (QmX Γ encI 4 24) 0 0 0 [(0, .ref 0), (1, .int x1)] [] _
  unfold f_X10_stop
  refine rz_iload_n G 1 rfl rfl (dq jX10_stop 0 rfl) ?_
  refine rz_if_eq G (tgt := 9) rfl (dq jX10_stop 1 rfl) (fun c1 => ?_) (fun c1 => ?_)
  · exact rz_lv [0, 1] rfl (z_X10_stop_b9 G N hlt x1)
  · refine rz_iload_n G 1 rfl rfl (dq jX10_stop 2 rfl) ?_
    refine rz_iconst G (v := 1) (dq jX10_stop 3 rfl) rfl ?_
    refine rz_icmp_ne G (tgt := 13) rfl (dq jX10_stop 4 rfl) (fun c2 => ?_) (fun c2 => ?_)
    · exact rz_lv [0, 1] rfl (z_X10_stop_b9 G N hlt x1)
    · refine rz_iconst G (v := 0) (dq jX10_stop 7 rfl) rfl ?_
      exact rz_lv [0, 1] rfl (z_X10_stop_b14 G N hlt x1 0)
theorem z_X10_wanders_b42 {Γ : Cx} (G : GG Γ RX10 cX10_wanders 7 (some .long) 9 1 6) (N : NX Γ 4 24) (hlt : (cLn Γ).stackTraces = false) (x1 : Int32) (x2 : Int32) (x3 : Int32) (x4 : Int32) (x5 : Int32) (x6 : Int32) (xs0 : Int32) : Rz Γ 7 (QmX Γ encL 4 24) 1 6 42 [(0, .ref 0), (1, .int x1), (2, .int x2), (3, .int x3), (4, .int x4), (5, .int x5), (6, .int x6)] [.int xs0] (f_X10_wanders_b42 x1 x2 x3 x4 x5 x6 xs0) := by
  unfold f_X10_wanders_b42
  refine rz_callX G N (st := []) (c_X10_demand (cLn Γ) hlt xs0) lkX10_82 (k' := 2) (n' := 12) ⟨rfl, rfl⟩ (by decide) rfl (Nat.le_of_ble_eq_true rfl) (Nat.le_of_ble_eq_true rfl) (dq jX10_wanders 21 rfl) rfl (fun _ => ?_)
  have G := G.up (k' := 2) (n' := 12) N (by decide) (by decide)
  refine rz_aload_n G 0 rfl rfl (dq jX10_wanders 22 rfl) ?_
  refine rz_getC G flX10_67 sh0 (t := 30) rfl rfl (dq jX10_wanders 23 rfl) ?_
  refine rz_aload_n G 0 rfl rfl (dq jX10_wanders 24 rfl) ?_
  refine rz_getR G flX10_32 sh0 rfl (dq jX10_wanders 25 rfl) (fun u1 => ?_)
  refine rz_gd (fun h_u1 => ?_)
  refine rz_iload_n G 1 rfl rfl (dq jX10_wanders 26 rfl) ?_
  refine rz_iload_n G 2 rfl rfl (dq jX10_wanders 27 rfl) ?_
  refine rz_iload_n G 3 rfl rfl (dq jX10_wanders 28 rfl) ?_
  refine rz_iload G 4 rfl (dq jX10_wanders 29 rfl) ?_
  refine rz_callVv G (st := []) (c_X9_go (cLn Γ) u1 x1 x2 x3 x4) lkX10_330 sh30 rfl rfl rfl (Nat.le_of_ble_eq_true rfl) (Nat.le_of_ble_eq_true rfl) (dq jX10_wanders 30 rfl) rfl (fun _ => ?_)
  refine rz_aload_n G 0 rfl rfl (dq jX10_wanders 31 rfl) ?_
  refine rz_getC G flX10_67 sh0 (t := 30) rfl rfl (dq jX10_wanders 32 rfl) ?_
  refine rz_iload G 5 rfl (dq jX10_wanders 33 rfl) ?_
  refine rz_callVl G (st := []) (c_X9_waysAt (cLn Γ) x5) lkX10_344 sh30 rfl rfl rfl (Nat.le_of_ble_eq_true rfl) (Nat.le_of_ble_eq_true rfl) (dq jX10_wanders 34 rfl) rfl (fun r2 => ?_)
  refine rz_aload_n G 0 rfl rfl (dq jX10_wanders 35 rfl) ?_
  refine rz_getC G flX10_67 sh0 (t := 30) rfl rfl (dq jX10_wanders 36 rfl) ?_
  refine rz_getL G flX10_337 sh30 rfl (dq jX10_wanders 37 rfl) (fun v3 => ?_)
  refine rz_iload G 6 rfl (dq jX10_wanders 38 rfl) ?_
  refine rz_callSl G (st := []) (c_X10_partOf (cLn Γ) r2 v3 x6) lkX10_340 rfl (Nat.le_of_ble_eq_true rfl) (Nat.le_of_ble_eq_true rfl) (dq jX10_wanders 39 rfl) rfl (fun r4 => ?_)
  exact rz_lretX G (by decide) (dq jX10_wanders 40 rfl)
theorem z_X10_wanders_b41 {Γ : Cx} (G : GG Γ RX10 cX10_wanders 7 (some .long) 9 1 6) (N : NX Γ 4 24) (hlt : (cLn Γ).stackTraces = false) (x1 : Int32) (x2 : Int32) (x3 : Int32) (x4 : Int32) (x5 : Int32) (x6 : Int32) : Rz Γ 7 (QmX Γ encL 4 24) 1 6 41 [(0, .ref 0), (1, .int x1), (2, .int x2), (3, .int x3), (4, .int x4), (5, .int x5), (6, .int x6)] [] (f_X10_wanders_b41 x1 x2 x3 x4 x5 x6) := by
  unfold f_X10_wanders_b41
  refine rz_iconst G (v := 0) (dq jX10_wanders 20 rfl) rfl ?_
  exact rz_lv [0, 1, 2, 3, 4, 5, 6] rfl (z_X10_wanders_b42 G N hlt x1 x2 x3 x4 x5 x6 0)
theorem z_X10_wanders_b16 {Γ : Cx} (G : GG Γ RX10 cX10_wanders 7 (some .long) 9 0 0) (N : NX Γ 4 24) (hlt : (cLn Γ).stackTraces = false) (x1 : Int32) (x2 : Int32) (x3 : Int32) (x4 : Int32) (x5 : Int32) (x6 : Int32) (xs0 : Int32) : Rz Γ 7 (QmX Γ encL 4 24) 0 0 16 [(0, .ref 0), (1, .int x1), (2, .int x2), (3, .int x3), (4, .int x4), (5, .int x5), (6, .int x6)] [.int xs0] (f_X10_wanders_b16 x1 x2 x3 x4 x5 x6 xs0) := by
  unfold f_X10_wanders_b16
  refine rz_callX G N (st := []) (c_X10_need (cLn Γ) hlt xs0) lkX10_98 (k' := 1) (n' := 6) ⟨rfl, rfl⟩ (by decide) rfl (Nat.le_of_ble_eq_true rfl) (Nat.le_of_ble_eq_true rfl) (dq jX10_wanders 8 rfl) rfl (fun _ => ?_)
  have G := G.up (k' := 1) (n' := 6) N (by decide) (by decide)
  refine rz_aload_n G 0 rfl rfl (dq jX10_wanders 9 rfl) ?_
  refine rz_iload_n G 1 rfl rfl (dq jX10_wanders 10 rfl) ?_
  refine rz_iload_n G 2 rfl rfl (dq jX10_wanders 11 rfl) ?_
  refine rz_iload G 4 rfl (dq jX10_wanders 12 rfl) ?_
  refine rz_callVi G (st := []) (c_X10_mayWander (cLn Γ) x1 x2 x4) lkX10_323 sh0 rfl rfl rfl (Nat.le_of_ble_eq_true rfl) (Nat.le_of_ble_eq_true rfl) (dq jX10_wanders 13 rfl) rfl (fun r1 => ?_)
  refine rz_if_eq G (tgt := 41) rfl (dq jX10_wanders 14 rfl) (fun c2 => ?_) (fun c2 => ?_)
  · exact rz_lv [0, 1, 2, 3, 4, 5, 6] rfl (z_X10_wanders_b41 G N hlt x1 x2 x3 x4 x5 x6)
  · refine rz_iload_n G 3 rfl rfl (dq jX10_wanders 15 rfl) ?_
    refine rz_callSi G (st := []) (c_X10_isCorrects (cLn Γ) x3) lkX10_327 rfl (Nat.le_of_ble_eq_true rfl) (Nat.le_of_ble_eq_true rfl) (dq jX10_wanders 16 rfl) rfl (fun r3 => ?_)
    refine rz_if_eq G (tgt := 41) rfl (dq jX10_wanders 17 rfl) (fun c4 => ?_) (fun c4 => ?_)
    · exact rz_lv [0, 1, 2, 3, 4, 5, 6] rfl (z_X10_wanders_b41 G N hlt x1 x2 x3 x4 x5 x6)
    · refine rz_iconst G (v := 1) (dq jX10_wanders 18 rfl) rfl ?_
      refine rz_goto G (tgt := 42) rfl (dq jX10_wanders 19 rfl) ?_
      exact rz_lv [0, 1, 2, 3, 4, 5, 6] rfl (z_X10_wanders_b42 G N hlt x1 x2 x3 x4 x5 x6 1)
theorem z_X10_wanders_b11 {Γ : Cx} (G : GG Γ RX10 cX10_wanders 7 (some .long) 9 0 0) (N : NX Γ 4 24) (hlt : (cLn Γ).stackTraces = false) (x1 : Int32) (x2 : Int32) (x3 : Int32) (x4 : Int32) (x5 : Int32) (x6 : Int32) : Rz Γ 7 (QmX Γ encL 4 24) 0 0 11 [(0, .ref 0), (1, .int x1), (2, .int x2), (3, .int x3), (4, .int x4), (5, .int x5), (6, .int x6)] [] (f_X10_wanders_b11 x1 x2 x3 x4 x5 x6) := by
  unfold f_X10_wanders_b11
  refine rz_iconst G (v := 1) (dq jX10_wanders 5 rfl) rfl ?_
  refine rz_goto G (tgt := 16) rfl (dq jX10_wanders 6 rfl) ?_
  exact rz_lv [0, 1, 2, 3, 4, 5, 6] rfl (z_X10_wanders_b16 G N hlt x1 x2 x3 x4 x5 x6 1)
theorem c_X10_wanders (l : Launch) (hlt : l.stackTraces = false) (x1 : Int32) (x2 : Int32) (x3 : Int32) (x4 : Int32) (x5 : Int32) (x6 : Int32) : CtX l yX10_wanders cX10_wanders 7 (some .long) 9 4 24 encL [.ref 0, .int x1, .int x2, .int x3, .int x4, .int x5, .int x6] (f_X10_wanders x1 x2 x3 x4 x5 x6) := by
  refine ctX_of (own := RX10) (by decide) rfl (Nat.le_of_ble_eq_true rfl) (fun Γ hl0 G N => ?_)
  subst hl0
  show Rz Γ 7 (QmX Γ encL 4 24) 0 0 0 [(0, .ref 0), (1, .int x1), (2, .int x2), (3, .int x3), (4, .int x4), (5, .int x5), (6, .int x6)] [] _
  unfold f_X10_wanders
  refine rz_iload G 6 rfl (dq jX10_wanders 0 rfl) ?_
  refine rz_if_eq G (tgt := 11) rfl (dq jX10_wanders 1 rfl) (fun c1 => ?_) (fun c1 => ?_)
  · exact rz_lv [0, 1, 2, 3, 4, 5, 6] rfl (z_X10_wanders_b11 G N hlt x1 x2 x3 x4 x5 x6)
  · refine rz_iload G 6 rfl (dq jX10_wanders 2 rfl) ?_
    refine rz_iconst G (v := 1) (dq jX10_wanders 3 rfl) rfl ?_
    refine rz_icmp_ne G (tgt := 15) rfl (dq jX10_wanders 4 rfl) (fun c2 => ?_) (fun c2 => ?_)
    · exact rz_lv [0, 1, 2, 3, 4, 5, 6] rfl (z_X10_wanders_b11 G N hlt x1 x2 x3 x4 x5 x6)
    · refine rz_iconst G (v := 0) (dq jX10_wanders 7 rfl) rfl ?_
      exact rz_lv [0, 1, 2, 3, 4, 5, 6] rfl (z_X10_wanders_b16 G N hlt x1 x2 x3 x4 x5 x6 0)
theorem z_X10_without_b34 {Γ : Cx} (G : GG Γ RX10 cX10_without 4 (some .int) 9 1 6) (N : NX Γ 4 24) (hlt : (cLn Γ).stackTraces = false) (x1 : Int32) (x2 : Int32) (xs0 : Int32) : Rz Γ 4 (QmX Γ encI 4 24) 1 6 34 [(0, .ref 0), (1, .int x1), (2, .int x2)] [.int xs0] (f_X10_without_b34 x1 x2 xs0) := by
  unfold f_X10_without_b34
  refine rz_callX G N (st := []) (c_X10_demand (cLn Γ) hlt xs0) lkX10_82 (k' := 2) (n' := 12) ⟨rfl, rfl⟩ (by decide) rfl (Nat.le_of_ble_eq_true rfl) (Nat.le_of_ble_eq_true rfl) (dq jX10_without 18 rfl) rfl (fun _ => ?_)
  have G := G.up (k' := 2) (n' := 12) N (by decide) (by decide)
  refine rz_aload_n G 0 rfl rfl (dq jX10_without 19 rfl) ?_
  refine rz_callVv G (st := []) (c_X10_playAll (cLn Γ)) lkX10_181 sh0 rfl rfl rfl (Nat.le_of_ble_eq_true rfl) (Nat.le_of_ble_eq_true rfl) (dq jX10_without 20 rfl) rfl (fun _ => ?_)
  refine rz_aload_n G 0 rfl rfl (dq jX10_without 21 rfl) ?_
  refine rz_getC G flX10_60 sh0 (t := 17) rfl rfl (dq jX10_without 22 rfl) ?_
  refine rz_iload_n G 1 rfl rfl (dq jX10_without 23 rfl) ?_
  refine rz_callVr G (st := []) (c_X4_flyer (cLn Γ) x1) lkX10_184 sh17 rfl rfl rfl (Nat.le_of_ble_eq_true rfl) (Nat.le_of_ble_eq_true rfl) (dq jX10_without 24 rfl) rfl (fun u1 => ?_)
  refine rz_gd (fun h_u1 => ?_)
  refine rz_getI G flX10_193 (fl_sh h_u1) rfl (dq jX10_without 25 rfl) (fun v2 => ?_)
  refine rz_istore_n G (lv' := [(3, .int v2), (0, .ref 0), (1, .int x1), (2, .int x2)]) rfl (Nat.le_of_ble_eq_true rfl) rfl (dq jX10_without 26 rfl) ?_
  refine rz_aload_n G 1 rfl rfl (dq jX10_without 27 rfl) ?_
  refine rz_callVv G (st := []) (c_X10_prepare (cLn Γ)) lkX10_217 sh0 rfl rfl rfl (Nat.le_of_ble_eq_true rfl) (Nat.le_of_ble_eq_true rfl) (dq jX10_without 28 rfl) rfl (fun _ => ?_)
  refine rz_aload_n G 1 rfl rfl (dq jX10_without 29 rfl) ?_
  refine rz_getC G flX10_60 sh0 (t := 17) rfl rfl (dq jX10_without 30 rfl) ?_
  refine rz_iconst G (v := 1) (dq jX10_without 31 rfl) rfl ?_
  refine rz_iload_n G 3 rfl rfl (dq jX10_without 32 rfl) ?_
  refine rz_ishl G (dq jX10_without 33 rfl) ?_
  refine rz_iconst G (v := (-1)) (dq jX10_without 34 rfl) rfl ?_
  refine rz_ixor G (dq jX10_without 35 rfl) ?_
  refine rz_callVv G (st := []) (c_X4_keepOnly (cLn Γ) (((1 : Int32) <<< (x2 &&& 31)) ^^^ ((-1)))) lkX10_290 sh17 rfl rfl rfl (Nat.le_of_ble_eq_true rfl) (Nat.le_of_ble_eq_true rfl) (dq jX10_without 36 rfl) rfl (fun _ => ?_)
  refine rz_aload_n G 1 rfl rfl (dq jX10_without 37 rfl) ?_
  refine rz_getC G flX10_60 sh0 (t := 17) rfl rfl (dq jX10_without 38 rfl) ?_
  refine rz_iconst G (v := 0) (dq jX10_without 39 rfl) rfl ?_
  refine rz_aload_n G 1 rfl rfl (dq jX10_without 40 rfl) ?_
  refine rz_getC G flX10_39 sh0 (t := 2) rfl rfl (dq jX10_without 41 rfl) ?_
  refine rz_getI G flX10_147 sh2 rfl (dq jX10_without 42 rfl) (fun v3 => ?_)
  refine rz_callVv G (st := []) (c_X4_go (cLn Γ) 0 v3) lkX10_220 sh17 rfl rfl rfl (Nat.le_of_ble_eq_true rfl) (Nat.le_of_ble_eq_true rfl) (dq jX10_without 43 rfl) rfl (fun _ => ?_)
  refine rz_aload_n G 1 rfl rfl (dq jX10_without 44 rfl) ?_
  refine rz_getC G flX10_60 sh0 (t := 17) rfl rfl (dq jX10_without 45 rfl) ?_
  refine rz_iload_n G 2 rfl rfl (dq jX10_without 46 rfl) ?_
  refine rz_callVr G (st := []) (c_X4_flyer (cLn Γ) x1) lkX10_184 sh17 rfl rfl rfl (Nat.le_of_ble_eq_true rfl) (Nat.le_of_ble_eq_true rfl) (dq jX10_without 47 rfl) rfl (fun u4 => ?_)
  refine rz_gd (fun h_u4 => ?_)
  refine rz_getI G flX10_193 (fl_sh h_u4) rfl (dq jX10_without 48 rfl) (fun v5 => ?_)
  refine rz_iload_n G 0 rfl rfl (dq jX10_without 49 rfl) ?_
  refine rz_isub G (dq jX10_without 50 rfl) ?_
  exact rz_iretX G (by decide) (dq jX10_without 51 rfl)
theorem z_X10_without_b21 {Γ : Cx} (G : GG Γ RX10 cX10_without 4 (some .int) 9 0 0) (N : NX Γ 4 24) (hlt : (cLn Γ).stackTraces = false) (x1 : Int32) (x2 : Int32) (xs0 : Int32) : Rz Γ 4 (QmX Γ encI 4 24) 0 0 21 [(0, .ref 0), (1, .int x1), (2, .int x2)] [.int xs0] (f_X10_without_b21 x1 x2 xs0) := by
  unfold f_X10_without_b21
  refine rz_callX G N (st := []) (c_X10_need (cLn Γ) hlt xs0) lkX10_98 (k' := 1) (n' := 6) ⟨rfl, rfl⟩ (by decide) rfl (Nat.le_of_ble_eq_true rfl) (Nat.le_of_ble_eq_true rfl) (dq jX10_without 11 rfl) rfl (fun _ => ?_)
  have G := G.up (k' := 1) (n' := 6) N (by decide) (by decide)
  refine rz_iload_n G 1 rfl rfl (dq jX10_without 12 rfl) ?_
  refine rz_iload_n G 2 rfl rfl (dq jX10_without 13 rfl) ?_
  refine rz_icmp_eq G (tgt := 33) rfl (dq jX10_without 14 rfl) (fun c1 => ?_) (fun c1 => ?_)
  · refine rz_iconst G (v := 0) (dq jX10_without 17 rfl) rfl ?_
    exact rz_lv [0, 1, 2] rfl (z_X10_without_b34 G N hlt x1 x2 0)
  · refine rz_iconst G (v := 1) (dq jX10_without 15 rfl) rfl ?_
    refine rz_goto G (tgt := 34) rfl (dq jX10_without 16 rfl) ?_
    exact rz_lv [0, 1, 2] rfl (z_X10_without_b34 G N hlt x1 x2 1)
theorem z_X10_without_b20 {Γ : Cx} (G : GG Γ RX10 cX10_without 4 (some .int) 9 0 0) (N : NX Γ 4 24) (hlt : (cLn Γ).stackTraces = false) (x1 : Int32) (x2 : Int32) : Rz Γ 4 (QmX Γ encI 4 24) 0 0 20 [(0, .ref 0), (1, .int x1), (2, .int x2)] [] (f_X10_without_b20 x1 x2) := by
  unfold f_X10_without_b20
  refine rz_iconst G (v := 0) (dq jX10_without 10 rfl) rfl ?_
  exact rz_lv [0, 1, 2] rfl (z_X10_without_b21 G N hlt x1 x2 0)
theorem c_X10_without (l : Launch) (hlt : l.stackTraces = false) (x1 : Int32) (x2 : Int32) : CtX l yX10_without cX10_without 4 (some .int) 9 4 24 encI [.ref 0, .int x1, .int x2] (f_X10_without x1 x2) := by
  refine ctX_of (own := RX10) (by decide) rfl (Nat.le_of_ble_eq_true rfl) (fun Γ hl0 G N => ?_)
  subst hl0
  show Rz Γ 4 (QmX Γ encI 4 24) 0 0 0 [(0, .ref 0), (1, .int x1), (2, .int x2)] [] _
  unfold f_X10_without
  refine rz_aload_n G 0 rfl rfl (dq jX10_without 0 rfl) ?_
  refine rz_iload_n G 1 rfl rfl (dq jX10_without 1 rfl) ?_
  refine rz_callVi G (st := []) (c_X10_isJumper (cLn Γ) x1) lkX10_159 sh0 rfl rfl rfl (Nat.le_of_ble_eq_true rfl) (Nat.le_of_ble_eq_true rfl) (dq jX10_without 2 rfl) rfl (fun r1 => ?_)
  refine rz_if_eq G (tgt := 20) rfl (dq jX10_without 3 rfl) (fun c2 => ?_) (fun c2 => ?_)
  · exact rz_lv [0, 1, 2] rfl (z_X10_without_b20 G N hlt x1 x2)
  · refine rz_aload_n G 0 rfl rfl (dq jX10_without 4 rfl) ?_
    refine rz_iload_n G 2 rfl rfl (dq jX10_without 5 rfl) ?_
    refine rz_callVi G (st := []) (c_X10_isJumper (cLn Γ) x2) lkX10_159 sh0 rfl rfl rfl (Nat.le_of_ble_eq_true rfl) (Nat.le_of_ble_eq_true rfl) (dq jX10_without 6 rfl) rfl (fun r3 => ?_)
    refine rz_if_eq G (tgt := 20) rfl (dq jX10_without 7 rfl) (fun c4 => ?_) (fun c4 => ?_)
    · exact rz_lv [0, 1, 2] rfl (z_X10_without_b20 G N hlt x1 x2)
    · refine rz_iconst G (v := 1) (dq jX10_without 8 rfl) rfl ?_
      refine rz_goto G (tgt := 21) rfl (dq jX10_without 9 rfl) ?_
      exact rz_lv [0, 1, 2] rfl (z_X10_without_b21 G N hlt x1 x2 1)
