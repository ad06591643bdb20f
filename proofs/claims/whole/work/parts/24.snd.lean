theorem z_X10_partOf_b17 {Γ : Cx} (G : GG Γ RX10 cX10_partOf 9 (some .long) 2 0 0) (x5 : Int64) (xs0 : Int64) : Rz Γ 9 (Qm Γ encL 0 0) 0 0 17 [(5, .long x5)] [.long xs0] (f_X10_partOf_b17 x5 xs0) := by
  unfold f_X10_partOf_b17
  refine rz_lstore G (lv' := [(7, .long xs0), (5, .long x5)]) (Nat.le_of_ble_eq_true rfl) rfl (dq jX10_partOf 9 rfl) ?_
  refine rz_lload G 1 rfl (dq jX10_partOf 10 rfl) ?_
  refine rz_lconst G (v := 0) (dq jX10_partOf 11 rfl) rfl ?_
  refine rz_lcmp G (dq jX10_partOf 12 rfl) ?_
  refine rz_if_le G (tgt := 34) rfl (dq jX10_partOf 13 rfl) (fun c1 => ?_) (fun c1 => ?_)
  · refine rz_lload G 0 rfl (dq jX10_partOf 18 rfl) ?_
    exact rz_lret G (dq jX10_partOf 19 rfl)
  · refine rz_lload G 0 rfl (dq jX10_partOf 14 rfl) ?_
    refine rz_lload G 1 rfl (dq jX10_partOf 15 rfl) ?_
    refine rz_ldiv G (dq jX10_partOf 16 rfl) ?_
    refine rz_goto G (tgt := 36) rfl (dq jX10_partOf 17 rfl) ?_
    exact rz_lret G (dq jX10_partOf 19 rfl)
theorem c_X10_partOf (l : Launch) (x0 : Int64) (x2 : Int64) (x4 : Int32) : Ct l yX10_partOf cX10_partOf 9 (some .long) 2 encL [.long x0, .long x2, .int x4] (f_X10_partOf x0 x2 x4) := by
  refine ct_of (own := RX10) (by decide) rfl (Nat.le_of_ble_eq_true rfl) (fun Γ hl G => ?_)
  show Rz Γ 9 (Qm Γ encL 0 0) 0 0 0 [(0, .long x0), (2, .long x2), (4, .int x4)] [] _
  unfold f_X10_partOf
  refine rz_lload_n G 0 rfl rfl (dq jX10_partOf 0 rfl) ?_
  refine rz_lload_n G 1 rfl rfl (dq jX10_partOf 1 rfl) ?_
  refine rz_callSl G (st := []) (c_X10_sharedDivisor (cLn Γ) x0 x2) lkX10_377 rfl (Nat.le_of_ble_eq_true rfl) (Nat.le_of_ble_eq_true rfl) (dq jX10_partOf 2 rfl) rfl (fun r1 => ?_)
  refine rz_lstore G (lv' := [(5, .long r1), (0, .long x0), (2, .long x2), (4, .int x4)]) (Nat.le_of_ble_eq_true rfl) rfl (dq jX10_partOf 3 rfl) ?_
  refine rz_iload G 3 rfl (dq jX10_partOf 4 rfl) ?_
  refine rz_if_ne G (tgt := 16) rfl (dq jX10_partOf 5 rfl) (fun c2 => ?_) (fun c2 => ?_)
  · refine rz_lload_n G 1 rfl rfl (dq jX10_partOf 6 rfl) ?_
    refine rz_goto G (tgt := 17) rfl (dq jX10_partOf 7 rfl) ?_
    exact rz_lv [0] rfl (z_X10_partOf_b17 G r1 x0)
  · refine rz_lload_n G 2 rfl rfl (dq jX10_partOf 8 rfl) ?_
    exact rz_lv [0] rfl (z_X10_partOf_b17 G r1 x2)
theorem c_X10_image (l : Launch)  : Ct l yX10_image cX10_image 1 none 2 encV [.ref 0] (f_X10_image ) := by
  refine ct_of (own := RX10) (by decide) rfl (Nat.le_of_ble_eq_true rfl) (fun Γ hl G => ?_)
  show Rz Γ 1 (Qm Γ encV 0 0) 0 0 0 [(0, .ref 0)] [] _
  unfold f_X10_image
  refine rz_aload_n G 0 rfl rfl (dq jX10_image 0 rfl) ?_
  refine rz_getC G flX10_43 sh0 (t := 8) rfl rfl (dq jX10_image 1 rfl) ?_
  refine rz_aload_n G 0 rfl rfl (dq jX10_image 2 rfl) ?_
  refine rz_getC G flX10_39 sh0 (t := 2) rfl rfl (dq jX10_image 3 rfl) ?_
  refine rz_callVv G (st := []) (c_X7_copy (cLn Γ) 8 2) lkX10_381 sh8 rfl rfl rfl (Nat.le_of_ble_eq_true rfl) (Nat.le_of_ble_eq_true rfl) (dq jX10_image 4 rfl) rfl (fun _ => ?_)
  refine rz_aload_n G 0 rfl rfl (dq jX10_image 5 rfl) ?_
  refine rz_iconst G (v := 1) (dq jX10_image 6 rfl) rfl ?_
  refine rz_putZ G (by decide) flX10_46 sh0 rfl (dq jX10_image 7 rfl) ?_
  exact rz_vret G (dq jX10_image 8 rfl)
theorem c_X10_restore (l : Launch)  : Ct l yX10_restore cX10_restore 1 (some .boolean) 2 encI [.ref 0] (f_X10_restore ) := by
  refine ct_of (own := RX10) (by decide) rfl (Nat.le_of_ble_eq_true rfl) (fun Γ hl G => ?_)
  show Rz Γ 1 (Qm Γ encI 0 0) 0 0 0 [(0, .ref 0)] [] _
  unfold f_X10_restore
  refine rz_aload_n G 0 rfl rfl (dq jX10_restore 0 rfl) ?_
  refine rz_getI G flX10_46 sh0 rfl (dq jX10_restore 1 rfl) (fun v1 => ?_)
  refine rz_if_ne G (tgt := 9) rfl (dq jX10_restore 2 rfl) (fun c2 => ?_) (fun c2 => ?_)
  · refine rz_iconst G (v := 0) (dq jX10_restore 3 rfl) rfl ?_
    exact rz_zret0 G (by decide) (dq jX10_restore 4 rfl)
  · refine rz_aload_n G 0 rfl rfl (dq jX10_restore 5 rfl) ?_
    refine rz_getC G flX10_39 sh0 (t := 2) rfl rfl (dq jX10_restore 6 rfl) ?_
    refine rz_aload_n G 0 rfl rfl (dq jX10_restore 7 rfl) ?_
    refine rz_getC G flX10_43 sh0 (t := 8) rfl rfl (dq jX10_restore 8 rfl) ?_
    refine rz_callVv G (st := []) (c_X7_copy (cLn Γ) 2 8) lkX10_381 sh2 rfl rfl rfl (Nat.le_of_ble_eq_true rfl) (Nat.le_of_ble_eq_true rfl) (dq jX10_restore 9 rfl) rfl (fun _ => ?_)
    refine rz_iconst G (v := 1) (dq jX10_restore 10 rfl) rfl ?_
    exact rz_zret0 G (by decide) (dq jX10_restore 11 rfl)
theorem c_X10_isJumper (l : Launch) (x1 : Int32) : Ct l yX10_isJumper cX10_isJumper 2 (some .boolean) 1 encI [.ref 0, .int x1] (f_X10_isJumper x1) := by
  refine ct_of (own := RX10) (by decide) rfl (Nat.le_of_ble_eq_true rfl) (fun Γ hl G => ?_)
  show Rz Γ 2 (Qm Γ encI 0 0) 0 0 0 [(0, .ref 0), (1, .int x1)] [] _
  unfold f_X10_isJumper
  refine rz_iload_n G 1 rfl rfl (dq jX10_isJumper 0 rfl) ?_
  refine rz_if_lt G (tgt := 19) rfl (dq jX10_isJumper 1 rfl) (fun c1 => ?_) (fun c1 => ?_)
  · refine rz_iconst G (v := 0) (dq jX10_isJumper 9 rfl) rfl ?_
    exact rz_zret0 G (by decide) (dq jX10_isJumper 10 rfl)
  · refine rz_iload_n G 1 rfl rfl (dq jX10_isJumper 2 rfl) ?_
    refine rz_aload_n G 0 rfl rfl (dq jX10_isJumper 3 rfl) ?_
    refine rz_getC G flX10_39 sh0 (t := 2) rfl rfl (dq jX10_isJumper 4 rfl) ?_
    refine rz_getI G flX10_283 sh2 rfl (dq jX10_isJumper 5 rfl) (fun v2 => ?_)
    refine rz_icmp_ge G (tgt := 19) rfl (dq jX10_isJumper 6 rfl) (fun c3 => ?_) (fun c3 => ?_)
    · refine rz_iconst G (v := 0) (dq jX10_isJumper 9 rfl) rfl ?_
      exact rz_zret0 G (by decide) (dq jX10_isJumper 10 rfl)
    · refine rz_iconst G (v := 1) (dq jX10_isJumper 7 rfl) rfl ?_
      refine rz_goto G (tgt := 20) rfl (dq jX10_isJumper 8 rfl) ?_
      exact rz_zret0 G (by decide) (dq jX10_isJumper 10 rfl)
theorem c_X10_isTick (l : Launch) (x1 : Int32) : Ct l yX10_isTick cX10_isTick 2 (some .boolean) 1 encI [.ref 0, .int x1] (f_X10_isTick x1) := by
  refine ct_of (own := RX10) (by decide) rfl (Nat.le_of_ble_eq_true rfl) (fun Γ hl G => ?_)
  show Rz Γ 2 (Qm Γ encI 0 0) 0 0 0 [(0, .ref 0), (1, .int x1)] [] _
  unfold f_X10_isTick
  refine rz_iload_n G 1 rfl rfl (dq jX10_isTick 0 rfl) ?_
  refine rz_if_lt G (tgt := 19) rfl (dq jX10_isTick 1 rfl) (fun c1 => ?_) (fun c1 => ?_)
  · refine rz_iconst G (v := 0) (dq jX10_isTick 9 rfl) rfl ?_
    exact rz_zret0 G (by decide) (dq jX10_isTick 10 rfl)
  · refine rz_iload_n G 1 rfl rfl (dq jX10_isTick 2 rfl) ?_
    refine rz_aload_n G 0 rfl rfl (dq jX10_isTick 3 rfl) ?_
    refine rz_getC G flX10_39 sh0 (t := 2) rfl rfl (dq jX10_isTick 4 rfl) ?_
    refine rz_getI G flX10_147 sh2 rfl (dq jX10_isTick 5 rfl) (fun v2 => ?_)
    refine rz_icmp_ge G (tgt := 19) rfl (dq jX10_isTick 6 rfl) (fun c3 => ?_) (fun c3 => ?_)
    · refine rz_iconst G (v := 0) (dq jX10_isTick 9 rfl) rfl ?_
      exact rz_zret0 G (by decide) (dq jX10_isTick 10 rfl)
    · refine rz_iconst G (v := 1) (dq jX10_isTick 7 rfl) rfl ?_
      refine rz_goto G (tgt := 20) rfl (dq jX10_isTick 8 rfl) ?_
      exact rz_zret0 G (by decide) (dq jX10_isTick 10 rfl)
theorem c_X10_isToldHeight (l : Launch) (x0 : Int32) : Ct l yX10_isToldHeight cX10_isToldHeight 1 (some .boolean) 1 encI [.int x0] (f_X10_isToldHeight x0) := by
  refine ct_of (own := RX10) (by decide) rfl (Nat.le_of_ble_eq_true rfl) (fun Γ hl G => ?_)
  show Rz Γ 1 (Qm Γ encI 0 0) 0 0 0 [(0, .int x0)] [] _
  unfold f_X10_isToldHeight
  refine rz_iload_n G 0 rfl rfl (dq jX10_isToldHeight 0 rfl) ?_
  refine rz_if_lt G (tgt := 14) rfl (dq jX10_isToldHeight 1 rfl) (fun c1 => ?_) (fun c1 => ?_)
  · refine rz_iconst G (v := 0) (dq jX10_isToldHeight 7 rfl) rfl ?_
    exact rz_zret0 G (by decide) (dq jX10_isToldHeight 8 rfl)
  · refine rz_iload_n G 0 rfl rfl (dq jX10_isToldHeight 2 rfl) ?_
    refine rz_bipush G (v := 60) (dq jX10_isToldHeight 3 rfl) (by decide) ?_
    refine rz_icmp_gt G (tgt := 14) rfl (dq jX10_isToldHeight 4 rfl) (fun c2 => ?_) (fun c2 => ?_)
    · refine rz_iconst G (v := 0) (dq jX10_isToldHeight 7 rfl) rfl ?_
      exact rz_zret0 G (by decide) (dq jX10_isToldHeight 8 rfl)
    · refine rz_iconst G (v := 1) (dq jX10_isToldHeight 5 rfl) rfl ?_
      refine rz_goto G (tgt := 15) rfl (dq jX10_isToldHeight 6 rfl) ?_
      exact rz_zret0 G (by decide) (dq jX10_isToldHeight 8 rfl)
theorem c_X10_isCorrects (l : Launch) (x0 : Int32) : Ct l yX10_isCorrects cX10_isCorrects 1 (some .boolean) 1 encI [.int x0] (f_X10_isCorrects x0) := by
  refine ct_of (own := RX10) (by decide) rfl (Nat.le_of_ble_eq_true rfl) (fun Γ hl G => ?_)
  show Rz Γ 1 (Qm Γ encI 0 0) 0 0 0 [(0, .int x0)] [] _
  unfold f_X10_isCorrects
  refine rz_iload_n G 0 rfl rfl (dq jX10_isCorrects 0 rfl) ?_
  refine rz_if_lt G (tgt := 14) rfl (dq jX10_isCorrects 1 rfl) (fun c1 => ?_) (fun c1 => ?_)
  · refine rz_iconst G (v := 0) (dq jX10_isCorrects 7 rfl) rfl ?_
    exact rz_zret0 G (by decide) (dq jX10_isCorrects 8 rfl)
  · refine rz_iload_n G 0 rfl rfl (dq jX10_isCorrects 2 rfl) ?_
    refine rz_bipush G (v := 9) (dq jX10_isCorrects 3 rfl) (by decide) ?_
    refine rz_icmp_gt G (tgt := 14) rfl (dq jX10_isCorrects 4 rfl) (fun c2 => ?_) (fun c2 => ?_)
    · refine rz_iconst G (v := 0) (dq jX10_isCorrects 7 rfl) rfl ?_
      exact rz_zret0 G (by decide) (dq jX10_isCorrects 8 rfl)
    · refine rz_iconst G (v := 1) (dq jX10_isCorrects 5 rfl) rfl ?_
      refine rz_goto G (tgt := 15) rfl (dq jX10_isCorrects 6 rfl) ?_
      exact rz_zret0 G (by decide) (dq jX10_isCorrects 8 rfl)
theorem c_X10_mayWander (l : Launch) (x1 : Int32) (x2 : Int32) (x3 : Int32) : Ct l yX10_mayWander cX10_mayWander 4 (some .boolean) 2 encI [.ref 0, .int x1, .int x2, .int x3] (f_X10_mayWander x1 x2 x3) := by
  refine ct_of (own := RX10) (by decide) rfl (Nat.le_of_ble_eq_true rfl) (fun Γ hl G => ?_)
  show Rz Γ 4 (Qm Γ encI 0 0) 0 0 0 [(0, .ref 0), (1, .int x1), (2, .int x2), (3, .int x3)] [] _
  unfold f_X10_mayWander
  refine rz_iload_n G 3 rfl rfl (dq jX10_mayWander 0 rfl) ?_
  refine rz_if_lt G (tgt := 32) rfl (dq jX10_mayWander 1 rfl) (fun c1 => ?_) (fun c1 => ?_)
  · refine rz_iconst G (v := 0) (dq jX10_mayWander 15 rfl) rfl ?_
    exact rz_zret0 G (by decide) (dq jX10_mayWander 16 rfl)
  · refine rz_iload_n G 3 rfl rfl (dq jX10_mayWander 2 rfl) ?_
    refine rz_bipush G (v := 12) (dq jX10_mayWander 3 rfl) (by decide) ?_
    refine rz_icmp_gt G (tgt := 32) rfl (dq jX10_mayWander 4 rfl) (fun c2 => ?_) (fun c2 => ?_)
    · refine rz_iconst G (v := 0) (dq jX10_mayWander 15 rfl) rfl ?_
      exact rz_zret0 G (by decide) (dq jX10_mayWander 16 rfl)
    · refine rz_iload_n G 2 rfl rfl (dq jX10_mayWander 5 rfl) ?_
      refine rz_callSi G (st := []) (c_X10_isToldHeight (cLn Γ) x2) lkX10_351 rfl (Nat.le_of_ble_eq_true rfl) (Nat.le_of_ble_eq_true rfl) (dq jX10_mayWander 6 rfl) rfl (fun r3 => ?_)
      refine rz_if_eq G (tgt := 32) rfl (dq jX10_mayWander 7 rfl) (fun c4 => ?_) (fun c4 => ?_)
      · refine rz_iconst G (v := 0) (dq jX10_mayWander 15 rfl) rfl ?_
        exact rz_zret0 G (by decide) (dq jX10_mayWander 16 rfl)
      · refine rz_aload_n G 0 rfl rfl (dq jX10_mayWander 8 rfl) ?_
        refine rz_getR G flX10_32 sh0 rfl (dq jX10_mayWander 9 rfl) (fun u5 => ?_)
        refine rz_gd (fun h_u5 => ?_)
        refine rz_iload_n G 1 rfl rfl (dq jX10_mayWander 10 rfl) ?_
        refine rz_callVi G (st := []) (c_X2_isBeyond (cLn Γ) u5 x1) lkX10_361 (gd_sh h_u5) rfl rfl rfl (Nat.le_of_ble_eq_true rfl) (Nat.le_of_ble_eq_true rfl) (dq jX10_mayWander 11 rfl) rfl (fun r6 => ?_)
        refine rz_if_ne G (tgt := 32) rfl (dq jX10_mayWander 12 rfl) (fun c7 => ?_) (fun c7 => ?_)
        · refine rz_iconst G (v := 1) (dq jX10_mayWander 13 rfl) rfl ?_
          refine rz_goto G (tgt := 33) rfl (dq jX10_mayWander 14 rfl) ?_
          exact rz_zret0 G (by decide) (dq jX10_mayWander 16 rfl)
        · refine rz_iconst G (v := 0) (dq jX10_mayWander 15 rfl) rfl ?_
          exact rz_zret0 G (by decide) (dq jX10_mayWander 16 rfl)
theorem c_X10_playAll (l : Launch)  : Ct l yX10_playAll cX10_playAll 1 none 6 encV [.ref 0] (f_X10_playAll ) := by
  refine ct_of (own := RX10) (by decide) rfl (Nat.le_of_ble_eq_true rfl) (fun Γ hl G => ?_)
  show Rz Γ 1 (Qm Γ encV 0 0) 0 0 0 [(0, .ref 0)] [] _
  unfold f_X10_playAll
  refine rz_aload_n G 0 rfl rfl (dq jX10_playAll 0 rfl) ?_
  refine rz_callVv G (st := []) (c_X10_prepare (cLn Γ)) lkX10_217 sh0 rfl rfl rfl (Nat.le_of_ble_eq_true rfl) (Nat.le_of_ble_eq_true rfl) (dq jX10_playAll 1 rfl) rfl (fun _ => ?_)
  refine rz_aload_n G 0 rfl rfl (dq jX10_playAll 2 rfl) ?_
  refine rz_getC G flX10_60 sh0 (t := 17) rfl rfl (dq jX10_playAll 3 rfl) ?_
  refine rz_iconst G (v := 0) (dq jX10_playAll 4 rfl) rfl ?_
  refine rz_aload_n G 0 rfl rfl (dq jX10_playAll 5 rfl) ?_
  refine rz_getC G flX10_39 sh0 (t := 2) rfl rfl (dq jX10_playAll 6 rfl) ?_
  refine rz_getI G flX10_147 sh2 rfl (dq jX10_playAll 7 rfl) (fun v1 => ?_)
  refine rz_callVv G (st := []) (c_X4_go (cLn Γ) 0 v1) lkX10_220 sh17 rfl rfl rfl (Nat.le_of_ble_eq_true rfl) (Nat.le_of_ble_eq_true rfl) (dq jX10_playAll 8 rfl) rfl (fun _ => ?_)
  exact rz_vret G (dq jX10_playAll 9 rfl)
theorem c_X11_thrown (l : Launch)  : Ct l yX11_thrown cX11_thrown 1 (some .int) 1 encI [.ref 56] (f_X11_thrown ) := by
  refine ct_of (own := RX11) (by decide) rfl (Nat.le_of_ble_eq_true rfl) (fun Γ hl G => ?_)
  show Rz Γ 1 (Qm Γ encI 0 0) 0 0 0 [(0, .ref 56)] [] _
  unfold f_X11_thrown
  refine rz_aload_n G 0 rfl rfl (dq jX11_thrown 0 rfl) ?_
  refine rz_getI G flX11_148 sh56 rfl (dq jX11_thrown 1 rfl) (fun v1 => ?_)
  exact rz_iret G (dq jX11_thrown 2 rfl)
theorem z_X11_right_b16 {Γ : Cx} (G : GG Γ RX11 cX11_right 3 (some .boolean) 1 0 0)  : Rz Γ 3 (Qm Γ encI 0 0) 0 0 16 [(0, .ref 56)] [] (f_X11_right_b16 ) := by
  unfold f_X11_right_b16
  refine rz_aload_n G 0 rfl rfl (dq jX11_right 8 rfl) ?_
  refine rz_getI G flX11_148 sh56 rfl (dq jX11_right 9 rfl) (fun v1 => ?_)
  refine rz_if_ne G (tgt := 27) rfl (dq jX11_right 10 rfl) (fun c2 => ?_) (fun c2 => ?_)
  · refine rz_iconst G (v := 1) (dq jX11_right 11 rfl) rfl ?_
    refine rz_goto G (tgt := 28) rfl (dq jX11_right 12 rfl) ?_
    exact rz_zret0 G (by decide) (dq jX11_right 14 rfl)
  · refine rz_iconst G (v := 0) (dq jX11_right 13 rfl) rfl ?_
    exact rz_zret0 G (by decide) (dq jX11_right 14 rfl)
theorem c_X11_right (l : Launch) (x1 : Int32) (x2 : Int32) : Ct l yX11_right cX11_right 3 (some .boolean) 1 encI [.ref 56, .int x1, .int x2] (f_X11_right x1 x2) := by
  refine ct_of (own := RX11) (by decide) rfl (Nat.le_of_ble_eq_true rfl) (fun Γ hl G => ?_)
  show Rz Γ 3 (Qm Γ encI 0 0) 0 0 0 [(0, .ref 56), (1, .int x1), (2, .int x2)] [] _
  unfold f_X11_right
  refine rz_aload_n G 0 rfl rfl (dq jX11_right 0 rfl) ?_
  refine rz_getI G flX11_148 sh56 rfl (dq jX11_right 1 rfl) (fun v1 => ?_)
  refine rz_if_ne G (tgt := 16) rfl (dq jX11_right 2 rfl) (fun c2 => ?_) (fun c2 => ?_)
  · refine rz_iload_n G 1 rfl rfl (dq jX11_right 3 rfl) ?_
    refine rz_if_ne G (tgt := 16) rfl (dq jX11_right 4 rfl) (fun c3 => ?_) (fun c3 => ?_)
    · refine rz_aload_n G 0 rfl rfl (dq jX11_right 5 rfl) ?_
      refine rz_iload_n G 2 rfl rfl (dq jX11_right 6 rfl) ?_
      refine rz_putI G flX11_148 sh56 rfl (dq jX11_right 7 rfl) ?_
      exact rz_lv [0] rfl (z_X11_right_b16 G)
    · exact rz_lv [0] rfl (z_X11_right_b16 G)
  · exact rz_lv [0] rfl (z_X11_right_b16 G)
theorem c_X11_within (l : Launch) (x0 : Int32) (x1 : Int32) (x2 : Int32) : Ct l yX11_within cX11_within 3 (some .boolean) 1 encI [.int x0, .int x1, .int x2] (f_X11_within x0 x1 x2) := by
  refine ct_of (own := RX11) (by decide) rfl (Nat.le_of_ble_eq_true rfl) (fun Γ hl G => ?_)
  show Rz Γ 3 (Qm Γ encI 0 0) 0 0 0 [(0, .int x0), (1, .int x1), (2, .int x2)] [] _
  unfold f_X11_within
  refine rz_iload_n G 0 rfl rfl (dq jX11_within 0 rfl) ?_
  refine rz_iload_n G 1 rfl rfl (dq jX11_within 1 rfl) ?_
  refine rz_icmp_lt G (tgt := 14) rfl (dq jX11_within 2 rfl) (fun c1 => ?_) (fun c1 => ?_)
  · refine rz_iconst G (v := 0) (dq jX11_within 8 rfl) rfl ?_
    exact rz_zret0 G (by decide) (dq jX11_within 9 rfl)
  · refine rz_iload_n G 0 rfl rfl (dq jX11_within 3 rfl) ?_
    refine rz_iload_n G 2 rfl rfl (dq jX11_within 4 rfl) ?_
    refine rz_icmp_gt G (tgt := 14) rfl (dq jX11_within 5 rfl) (fun c2 => ?_) (fun c2 => ?_)
    · refine rz_iconst G (v := 0) (dq jX11_within 8 rfl) rfl ?_
      exact rz_zret0 G (by decide) (dq jX11_within 9 rfl)
    · refine rz_iconst G (v := 1) (dq jX11_within 6 rfl) rfl ?_
      refine rz_goto G (tgt := 15) rfl (dq jX11_within 7 rfl) ?_
      exact rz_zret0 G (by decide) (dq jX11_within 9 rfl)
theorem c_X11_off (l : Launch) (x0 : Int32) (x1 : Int32) : Ct l yX11_off cX11_off 2 (some .int) 1 encI [.int x0, .int x1] (f_X11_off x0 x1) := by
  refine ct_of (own := RX11) (by decide) rfl (Nat.le_of_ble_eq_true rfl) (fun Γ hl G => ?_)
  show Rz Γ 2 (Qm Γ encI 0 0) 0 0 0 [(0, .int x0), (1, .int x1)] [] _
  unfold f_X11_off
  refine rz_iload_n G 0 rfl rfl (dq jX11_off 0 rfl) ?_
  refine rz_iload_n G 1 rfl rfl (dq jX11_off 1 rfl) ?_
  refine rz_icmp_ge G (tgt := 11) rfl (dq jX11_off 2 rfl) (fun c1 => ?_) (fun c1 => ?_)
  · refine rz_iload_n G 0 rfl rfl (dq jX11_off 7 rfl) ?_
    refine rz_iload_n G 1 rfl rfl (dq jX11_off 8 rfl) ?_
    refine rz_isub G (dq jX11_off 9 rfl) ?_
    exact rz_iret G (dq jX11_off 10 rfl)
  · refine rz_iload_n G 1 rfl rfl (dq jX11_off 3 rfl) ?_
    refine rz_iload_n G 0 rfl rfl (dq jX11_off 4 rfl) ?_
    refine rz_isub G (dq jX11_off 5 rfl) ?_
    refine rz_goto G (tgt := 14) rfl (dq jX11_off 6 rfl) ?_
    exact rz_iret G (dq jX11_off 10 rfl)
theorem z_X11_bits_b4 {Γ : Cx} (G : GG Γ RX11 cX11_bits 3 (some .int) 1 0 0) : ∀ (fu : Nat) (x0 : Int32) (x1 : Int32) (x2 : Int32), Rz Γ 3 (Qm Γ encI 0 0) 0 0 4 [(0, .int x0), (1, .int x1), (2, .int x2)] [] (f_X11_bits_b4 fu x0 x1 x2) := by
  intro fu
  induction fu with
  | zero => intro _ _ _; exact rz_none
  | succ fu ih =>
    intro x0 x1 x2
    rw [f_X11_bits_b4]
    refine rz_iload_n G 2 rfl rfl (dq jX11_bits 4 rfl) ?_
    refine rz_iconst G (v := 4) (dq jX11_bits 5 rfl) rfl ?_
    refine rz_icmp_ge G (tgt := 23) rfl (dq jX11_bits 6 rfl) (fun c1 => ?_) (fun c1 => ?_)
    · refine rz_iload_n G 1 rfl rfl (dq jX11_bits 17 rfl) ?_
      exact rz_iret G (dq jX11_bits 18 rfl)
    · refine rz_iload_n G 1 rfl rfl (dq jX11_bits 7 rfl) ?_
      refine rz_iload_n G 0 rfl rfl (dq jX11_bits 8 rfl) ?_
      refine rz_iload_n G 2 rfl rfl (dq jX11_bits 9 rfl) ?_
      refine rz_ishr G (dq jX11_bits 10 rfl) ?_
      refine rz_iconst G (v := 1) (dq jX11_bits 11 rfl) rfl ?_
      refine rz_iand G (dq jX11_bits 12 rfl) ?_
      refine rz_iadd G (dq jX11_bits 13 rfl) ?_
      refine rz_lti (fun w2 e_w2 => ?_)
      refine rz_istore_n G (lv' := [(1, .int w2), (0, .int x0), (2, .int x2)]) rfl (Nat.le_of_ble_eq_true rfl) rfl (dq jX11_bits 14 rfl) ?_
      refine rz_iinc G 2 (v := x2 + 1) (lv' := [(2, .int (x2 + 1)), (1, .int w2), (0, .int x0)]) rfl (congrArg (HAdd.hAdd _) (by decide)) (Nat.le_of_ble_eq_true rfl) rfl (dq jX11_bits 15 rfl) ?_
      refine rz_goto G (tgt := 4) rfl (dq jX11_bits 16 rfl) ?_
      exact rz_lv [2, 1, 0] rfl (ih x0 w2 (x2 + 1))
theorem c_X11_bits (l : Launch) (x0 : Int32) : Ct l yX11_bits cX11_bits 3 (some .int) 1 encI [.int x0] (f_X11_bits x0) := by
  refine ct_of (own := RX11) (by decide) rfl (Nat.le_of_ble_eq_true rfl) (fun Γ hl G => ?_)
  show Rz Γ 3 (Qm Γ encI 0 0) 0 0 0 [(0, .int x0)] [] _
  unfold f_X11_bits
  refine rz_iconst G (v := 0) (dq jX11_bits 0 rfl) rfl ?_
  refine rz_istore_n G (lv' := [(1, .int 0), (0, .int x0)]) rfl (Nat.le_of_ble_eq_true rfl) rfl (dq jX11_bits 1 rfl) ?_
  refine rz_iconst G (v := 0) (dq jX11_bits 2 rfl) rfl ?_
  refine rz_istore_n G (lv' := [(2, .int 0), (1, .int 0), (0, .int x0)]) rfl (Nat.le_of_ble_eq_true rfl) rfl (dq jX11_bits 3 rfl) ?_
  exact rz_lv [2, 1, 0] rfl (z_X11_bits_b4 G FU x0 0 0)
theorem z_X11_lays_b3 {Γ : Cx} (G : GG Γ RX11 cX11_lays 3 none 1 0 0) : ∀ (fu : Nat) (x1 : Int32) (x2 : Int32), Rz Γ 3 (Qm Γ encV 0 0) 0 0 3 [(0, .ref 56), (1, .int x1), (2, .int x2)] [] (f_X11_lays_b3 fu x1 x2) := by
  intro fu
  induction fu with
  | zero => intro _ _; exact rz_none
  | succ fu ih =>
    intro x1 x2
    rw [f_X11_lays_b3]
    refine rz_iload_n G 2 rfl rfl (dq jX11_lays 2 rfl) ?_
    refine rz_if_lt G (tgt := 39) rfl (dq jX11_lays 3 rfl) (fun c1 => ?_) (fun c1 => ?_)
    · exact rz_vret G (dq jX11_lays 22 rfl)
    · refine rz_aload_n G 0 rfl rfl (dq jX11_lays 4 rfl) ?_
      refine rz_getC G flX11_38 sh56 (t := 62) rfl rfl (dq jX11_lays 5 rfl) ?_
      refine rz_aload_n G 0 rfl rfl (dq jX11_lays 6 rfl) ?_
      refine rz_getI G flX11_151 sh56 rfl (dq jX11_lays 7 rfl) (fun v2 => ?_)
      refine rz_iload_n G 1 rfl rfl (dq jX11_lays 8 rfl) ?_
      refine rz_iload_n G 2 rfl rfl (dq jX11_lays 9 rfl) ?_
      refine rz_ishr G (dq jX11_lays 10 rfl) ?_
      refine rz_sipush G (v := 255) (dq jX11_lays 11 rfl) (by decide) ?_
      refine rz_iand G (dq jX11_lays 12 rfl) ?_
      refine rz_iast G sh62 (dq jX11_lays 13 rfl) ?_
      refine rz_aload_n G 0 rfl rfl (dq jX11_lays 14 rfl) ?_
      refine rz_dup G rfl (dq jX11_lays 15 rfl) ?_
      refine rz_getI G flX11_151 sh56 rfl (dq jX11_lays 16 rfl) (fun v3 => ?_)
      refine rz_iconst G (v := 1) (dq jX11_lays 17 rfl) rfl ?_
      refine rz_iadd G (dq jX11_lays 18 rfl) ?_
      refine rz_putI G flX11_151 sh56 rfl (dq jX11_lays 19 rfl) ?_
      refine rz_iinc G 2 (v := x2 + (-8)) (lv' := [(2, .int (x2 + (-8))), (0, .ref 56), (1, .int x1)]) rfl (congrArg (HAdd.hAdd _) (by decide)) (Nat.le_of_ble_eq_true rfl) rfl (dq jX11_lays 20 rfl) ?_
      refine rz_goto G (tgt := 3) rfl (dq jX11_lays 21 rfl) ?_
      exact rz_lv [1, 2, 0] rfl (ih x1 (x2 + (-8)))
theorem c_X11_lays (l : Launch) (x1 : Int32) : Ct l yX11_lays cX11_lays 3 none 1 encV [.ref 56, .int x1] (f_X11_lays x1) := by
  refine ct_of (own := RX11) (by decide) rfl (Nat.le_of_ble_eq_true rfl) (fun Γ hl G => ?_)
  show Rz Γ 3 (Qm Γ encV 0 0) 0 0 0 [(0, .ref 56), (1, .int x1)] [] _
  unfold f_X11_lays
  refine rz_bipush G (v := 24) (dq jX11_lays 0 rfl) (by decide) ?_
  refine rz_istore_n G (lv' := [(2, .int 24), (0, .ref 56), (1, .int x1)]) rfl (Nat.le_of_ble_eq_true rfl) rfl (dq jX11_lays 1 rfl) ?_
  exact rz_lv [1, 2, 0] rfl (z_X11_lays_b3 G FU x1 24)
theorem c_X11_feed (l : Launch) (x1 : Int32) (x2 : Int32) (x3 : Int32) (x4 : Int32) (x5 : Int32) : Ct l yX11_feed cX11_feed 6 (some .int) 2 encI [.ref 56, .int x1, .int x2, .int x3, .int x4, .int x5] (f_X11_feed x1 x2 x3 x4 x5) := by
  refine ct_of (own := RX11) (by decide) rfl (Nat.le_of_ble_eq_true rfl) (fun Γ hl G => ?_)
  show Rz Γ 6 (Qm Γ encI 0 0) 0 0 0 [(0, .ref 56), (1, .int x1), (2, .int x2), (3, .int x3), (4, .int x4), (5, .int x5)] [] _
  unfold f_X11_feed
  refine rz_aload_n G 0 rfl rfl (dq jX11_feed 0 rfl) ?_
  refine rz_iconst G (v := 0) (dq jX11_feed 1 rfl) rfl ?_
  refine rz_putI G flX11_148 sh56 rfl (dq jX11_feed 2 rfl) ?_
  refine rz_aload_n G 0 rfl rfl (dq jX11_feed 3 rfl) ?_
  refine rz_getI G flX11_151 sh56 rfl (dq jX11_feed 4 rfl) (fun v1 => ?_)
  refine rz_bipush G (v := 20) (dq jX11_feed 5 rfl) (by decide) ?_
  refine rz_iadd G (dq jX11_feed 6 rfl) ?_
  refine rz_sipush G (v := 600) (dq jX11_feed 7 rfl) (by decide) ?_
  refine rz_icmp_le G (tgt := 20) rfl (dq jX11_feed 8 rfl) (fun c2 => ?_) (fun c2 => ?_)
  · refine rz_aload_n G 0 rfl rfl (dq jX11_feed 11 rfl) ?_
    refine rz_iload_n G 1 rfl rfl (dq jX11_feed 12 rfl) ?_
    refine rz_callVv G (st := []) (c_X11_lays (cLn Γ) x1) lkX11_154 sh56 rfl rfl rfl (Nat.le_of_ble_eq_true rfl) (Nat.le_of_ble_eq_true rfl) (dq jX11_feed 13 rfl) rfl (fun _ => ?_)
    refine rz_aload_n G 0 rfl rfl (dq jX11_feed 14 rfl) ?_
    refine rz_iload_n G 2 rfl rfl (dq jX11_feed 15 rfl) ?_
    refine rz_callVv G (st := []) (c_X11_lays (cLn Γ) x2) lkX11_154 sh56 rfl rfl rfl (Nat.le_of_ble_eq_true rfl) (Nat.le_of_ble_eq_true rfl) (dq jX11_feed 16 rfl) rfl (fun _ => ?_)
    refine rz_aload_n G 0 rfl rfl (dq jX11_feed 17 rfl) ?_
    refine rz_iload_n G 3 rfl rfl (dq jX11_feed 18 rfl) ?_
    refine rz_callVv G (st := []) (c_X11_lays (cLn Γ) x3) lkX11_154 sh56 rfl rfl rfl (Nat.le_of_ble_eq_true rfl) (Nat.le_of_ble_eq_true rfl) (dq jX11_feed 19 rfl) rfl (fun _ => ?_)
    refine rz_aload_n G 0 rfl rfl (dq jX11_feed 20 rfl) ?_
    refine rz_iload G 4 rfl (dq jX11_feed 21 rfl) ?_
    refine rz_callVv G (st := []) (c_X11_lays (cLn Γ) x4) lkX11_154 sh56 rfl rfl rfl (Nat.le_of_ble_eq_true rfl) (Nat.le_of_ble_eq_true rfl) (dq jX11_feed 22 rfl) rfl (fun _ => ?_)
    refine rz_aload_n G 0 rfl rfl (dq jX11_feed 23 rfl) ?_
    refine rz_iload G 5 rfl (dq jX11_feed 24 rfl) ?_
    refine rz_callVv G (st := []) (c_X11_lays (cLn Γ) x5) lkX11_154 sh56 rfl rfl rfl (Nat.le_of_ble_eq_true rfl) (Nat.le_of_ble_eq_true rfl) (dq jX11_feed 25 rfl) rfl (fun _ => ?_)
    refine rz_aload_n G 0 rfl rfl (dq jX11_feed 26 rfl) ?_
    refine rz_getI G flX11_151 sh56 rfl (dq jX11_feed 27 rfl) (fun v3 => ?_)
    exact rz_iret G (dq jX11_feed 28 rfl)
  · refine rz_iconst G (v := (-1)) (dq jX11_feed 9 rfl) rfl ?_
    exact rz_iret G (dq jX11_feed 10 rfl)
theorem c_X11_byteAt (l : Launch) (x1 : Int32) : Ct l yX11_byteAt cX11_byteAt 2 (some .int) 1 encI [.ref 56, .int x1] (f_X11_byteAt x1) := by
  refine ct_of (own := RX11) (by decide) rfl (Nat.le_of_ble_eq_true rfl) (fun Γ hl G => ?_)
  show Rz Γ 2 (Qm Γ encI 0 0) 0 0 0 [(0, .ref 56), (1, .int x1)] [] _
  unfold f_X11_byteAt
  refine rz_iload_n G 1 rfl rfl (dq jX11_byteAt 0 rfl) ?_
  refine rz_aload_n G 0 rfl rfl (dq jX11_byteAt 1 rfl) ?_
  refine rz_getI G flX11_158 sh56 rfl (dq jX11_byteAt 2 rfl) (fun v1 => ?_)
  refine rz_icmp_ge G (tgt := 17) rfl (dq jX11_byteAt 3 rfl) (fun c2 => ?_) (fun c2 => ?_)
  · refine rz_iconst G (v := 0) (dq jX11_byteAt 9 rfl) rfl ?_
    exact rz_iret G (dq jX11_byteAt 10 rfl)
  · refine rz_aload_n G 0 rfl rfl (dq jX11_byteAt 4 rfl) ?_
    refine rz_getC G flX11_38 sh56 (t := 62) rfl rfl (dq jX11_byteAt 5 rfl) ?_
    refine rz_iload_n G 1 rfl rfl (dq jX11_byteAt 6 rfl) ?_
    refine rz_iald G sh62 (dq jX11_byteAt 7 rfl) (fun v3 => ?_)
    refine rz_goto G (tgt := 18) rfl (dq jX11_byteAt 8 rfl) ?_
    exact rz_iret G (dq jX11_byteAt 10 rfl)
theorem c_X11_isLetter (l : Launch) (x0 : Int32) : Ct l yX11_isLetter cX11_isLetter 1 (some .boolean) 1 encI [.int x0] (f_X11_isLetter x0) := by
  refine ct_of (own := RX11) (by decide) rfl (Nat.le_of_ble_eq_true rfl) (fun Γ hl G => ?_)
  show Rz Γ 1 (Qm Γ encI 0 0) 0 0 0 [(0, .int x0)] [] _
  unfold f_X11_isLetter
  refine rz_iload_n G 0 rfl rfl (dq jX11_isLetter 0 rfl) ?_
  refine rz_bipush G (v := 97) (dq jX11_isLetter 1 rfl) (by decide) ?_
  refine rz_icmp_lt G (tgt := 16) rfl (dq jX11_isLetter 2 rfl) (fun c1 => ?_) (fun c1 => ?_)
  · refine rz_iconst G (v := 0) (dq jX11_isLetter 8 rfl) rfl ?_
    exact rz_zret0 G (by decide) (dq jX11_isLetter 9 rfl)
  · refine rz_iload_n G 0 rfl rfl (dq jX11_isLetter 3 rfl) ?_
    refine rz_bipush G (v := 122) (dq jX11_isLetter 4 rfl) (by decide) ?_
    refine rz_icmp_gt G (tgt := 16) rfl (dq jX11_isLetter 5 rfl) (fun c2 => ?_) (fun c2 => ?_)
    · refine rz_iconst G (v := 0) (dq jX11_isLetter 8 rfl) rfl ?_
      exact rz_zret0 G (by decide) (dq jX11_isLetter 9 rfl)
    · refine rz_iconst G (v := 1) (dq jX11_isLetter 6 rfl) rfl ?_
      refine rz_goto G (tgt := 17) rfl (dq jX11_isLetter 7 rfl) ?_
      exact rz_zret0 G (by decide) (dq jX11_isLetter 9 rfl)
theorem c_X11_isDigit (l : Launch) (x0 : Int32) : Ct l yX11_isDigit cX11_isDigit 1 (some .boolean) 1 encI [.int x0] (f_X11_isDigit x0) := by
  refine ct_of (own := RX11) (by decide) rfl (Nat.le_of_ble_eq_true rfl) (fun Γ hl G => ?_)
  show Rz Γ 1 (Qm Γ encI 0 0) 0 0 0 [(0, .int x0)] [] _
  unfold f_X11_isDigit
  refine rz_iload_n G 0 rfl rfl (dq jX11_isDigit 0 rfl) ?_
  refine rz_bipush G (v := 48) (dq jX11_isDigit 1 rfl) (by decide) ?_
  refine rz_icmp_lt G (tgt := 16) rfl (dq jX11_isDigit 2 rfl) (fun c1 => ?_) (fun c1 => ?_)
  · refine rz_iconst G (v := 0) (dq jX11_isDigit 8 rfl) rfl ?_
    exact rz_zret0 G (by decide) (dq jX11_isDigit 9 rfl)
  · refine rz_iload_n G 0 rfl rfl (dq jX11_isDigit 3 rfl) ?_
    refine rz_bipush G (v := 57) (dq jX11_isDigit 4 rfl) (by decide) ?_
    refine rz_icmp_gt G (tgt := 16) rfl (dq jX11_isDigit 5 rfl) (fun c2 => ?_) (fun c2 => ?_)
    · refine rz_iconst G (v := 0) (dq jX11_isDigit 8 rfl) rfl ?_
      exact rz_zret0 G (by decide) (dq jX11_isDigit 9 rfl)
    · refine rz_iconst G (v := 1) (dq jX11_isDigit 6 rfl) rfl ?_
      refine rz_goto G (tgt := 17) rfl (dq jX11_isDigit 7 rfl) ?_
      exact rz_zret0 G (by decide) (dq jX11_isDigit 9 rfl)
theorem z_X11_goes_b37 {Γ : Cx} (G : GG Γ RX11 cX11_goes 2 none 2 0 0) (k0 : Sg → Option (Unit × Sg)) (hk0 : Rz Γ 2 (Qm Γ encV 0 0) 0 0 0 [(0, .ref 56)] [] (k0 ))  : Rz Γ 2 (Qm Γ encV 0 0) 0 0 37 [(0, .ref 56)] [] (f_X11_goes_b37 k0 ) := by
  unfold f_X11_goes_b37
  refine rz_aload_n G 0 rfl rfl (dq jX11_goes 17 rfl) ?_
  refine rz_dup G rfl (dq jX11_goes 18 rfl) ?_
  refine rz_getI G flX11_161 sh56 rfl (dq jX11_goes 19 rfl) (fun v1 => ?_)
  refine rz_iconst G (v := 1) (dq jX11_goes 20 rfl) rfl ?_
  refine rz_iadd G (dq jX11_goes 21 rfl) ?_
  refine rz_putI G flX11_161 sh56 rfl (dq jX11_goes 22 rfl) ?_
  refine rz_goto G (tgt := 0) rfl (dq jX11_goes 23 rfl) ?_
  exact rz_lv [0] rfl (hk0)
theorem z_X11_goes_b159 {Γ : Cx} (G : GG Γ RX11 cX11_goes 2 none 2 0 0) (k108 : Sg → Option (Unit × Sg)) (hk108 : Rz Γ 2 (Qm Γ encV 0 0) 0 0 108 [(0, .ref 56)] [] (k108 ))  : Rz Γ 2 (Qm Γ encV 0 0) 0 0 159 [(0, .ref 56)] [] (f_X11_goes_b159 k108 ) := by
  unfold f_X11_goes_b159
  refine rz_aload_n G 0 rfl rfl (dq jX11_goes 81 rfl) ?_
  refine rz_dup G rfl (dq jX11_goes 82 rfl) ?_
  refine rz_getI G flX11_161 sh56 rfl (dq jX11_goes 83 rfl) (fun v1 => ?_)
  refine rz_iconst G (v := 1) (dq jX11_goes 84 rfl) rfl ?_
  refine rz_iadd G (dq jX11_goes 85 rfl) ?_
  refine rz_putI G flX11_161 sh56 rfl (dq jX11_goes 86 rfl) ?_
  refine rz_goto G (tgt := 108) rfl (dq jX11_goes 87 rfl) ?_
  exact rz_lv [0] rfl (hk108)
theorem z_X11_goes_b331 {Γ : Cx} (G : GG Γ RX11 cX11_goes 2 none 2 0 0)  : Rz Γ 2 (Qm Γ encV 0 0) 0 0 331 [(0, .ref 56)] [] (f_X11_goes_b331 ) := by
  unfold f_X11_goes_b331
  refine rz_aload_n G 0 rfl rfl (dq jX11_goes_s1 20 rfl) ?_
  refine rz_aload_n G 0 rfl rfl (dq jX11_goes_s1 21 rfl) ?_
  refine rz_getI G flX11_161 sh56 rfl (dq jX11_goes_s1 22 rfl) (fun v1 => ?_)
  refine rz_aload_n G 0 rfl rfl (dq jX11_goes_s1 23 rfl) ?_
  refine rz_getI G flX11_168 sh56 rfl (dq jX11_goes_s1 24 rfl) (fun v2 => ?_)
  refine rz_isub G (dq jX11_goes_s1 25 rfl) ?_
  refine rz_putI G flX11_191 sh56 rfl (dq jX11_goes_s1 26 rfl) ?_
  exact rz_vret G (dq jX11_goes_s1 27 rfl)
theorem z_X11_goes_b172 {Γ : Cx} (G : GG Γ RX11 cX11_goes 2 none 2 0 0)  : Rz Γ 2 (Qm Γ encV 0 0) 0 0 172 [(0, .ref 56)] [] (f_X11_goes_b172 ) := by
  unfold f_X11_goes_b172
  refine rz_aload_n G 0 rfl rfl (dq jX11_goes 88 rfl) ?_
  refine rz_iconst G (v := 1) (dq jX11_goes 89 rfl) rfl ?_
  refine rz_putI G flX11_181 sh56 rfl (dq jX11_goes 90 rfl) ?_
  refine rz_goto G (tgt := 331) rfl (dq jX11_goes 91 rfl) ?_
  exact rz_lv [0] rfl (z_X11_goes_b331 G)
theorem z_X11_goes_b108 {Γ : Cx} (G : GG Γ RX11 cX11_goes 2 none 2 0 0) : ∀ (fu : Nat), Rz Γ 2 (Qm Γ encV 0 0) 0 0 108 [(0, .ref 56)] [] (f_X11_goes_b108 fu ) := by
  intro fu
  induction fu with
  | zero => exact rz_none
  | succ fu ih =>
    rw [f_X11_goes_b108]
    refine rz_aload_n G 0 rfl rfl (dq jX11_goes 54 rfl) ?_
    refine rz_aload_n G 0 rfl rfl (dq jX11_goes 55 rfl) ?_
    refine rz_getI G flX11_161 sh56 rfl (dq jX11_goes 56 rfl) (fun v1 => ?_)
    refine rz_callVi G (st := []) (c_X11_byteAt (cLn Γ) v1) lkX11_164 sh56 rfl rfl rfl (Nat.le_of_ble_eq_true rfl) (Nat.le_of_ble_eq_true rfl) (dq jX11_goes 57 rfl) rfl (fun r2 => ?_)
    refine rz_callSi G (st := []) (c_X11_isLetter (cLn Γ) r2) lkX11_184 rfl (Nat.le_of_ble_eq_true rfl) (Nat.le_of_ble_eq_true rfl) (dq jX11_goes 58 rfl) rfl (fun r3 => ?_)
    refine rz_if_eq G (tgt := 172) rfl (dq jX11_goes 59 rfl) (fun c4 => ?_) (fun c4 => ?_)
    · exact rz_lv [0] rfl (z_X11_goes_b172 G)
    · refine rz_aload_n G 0 rfl rfl (dq jX11_goes 60 rfl) ?_
      refine rz_getI G flX11_161 sh56 rfl (dq jX11_goes 61 rfl) (fun v5 => ?_)
      refine rz_aload_n G 0 rfl rfl (dq jX11_goes 62 rfl) ?_
      refine rz_getI G flX11_168 sh56 rfl (dq jX11_goes 63 rfl) (fun v6 => ?_)
      refine rz_isub G (dq jX11_goes 64 rfl) ?_
      refine rz_bipush G (v := 8) (dq jX11_goes 65 rfl) (by decide) ?_
      refine rz_icmp_ge G (tgt := 159) rfl (dq jX11_goes 66 rfl) (fun c7 => ?_) (fun c7 => ?_)
      · exact rz_lv [0] rfl (z_X11_goes_b159 G (f_X11_goes_b108 fu) ih)
      · refine rz_aload_n G 0 rfl rfl (dq jX11_goes 67 rfl) ?_
        refine rz_aload_n G 0 rfl rfl (dq jX11_goes 68 rfl) ?_
        refine rz_getL G flX11_171 sh56 rfl (dq jX11_goes 69 rfl) (fun v8 => ?_)
        refine rz_iconst G (v := 5) (dq jX11_goes 70 rfl) rfl ?_
        refine rz_lshl G (dq jX11_goes 71 rfl) ?_
        refine rz_aload_n G 0 rfl rfl (dq jX11_goes 72 rfl) ?_
        refine rz_aload_n G 0 rfl rfl (dq jX11_goes 73 rfl) ?_
        refine rz_getI G flX11_161 sh56 rfl (dq jX11_goes 74 rfl) (fun v9 => ?_)
        refine rz_callVi G (st := [.long (v8 <<< ((5 : Int32).toInt64 &&& 63)), .ref 56]) (c_X11_byteAt (cLn Γ) v9) lkX11_164 sh56 rfl rfl rfl (Nat.le_of_ble_eq_true rfl) (Nat.le_of_ble_eq_true rfl) (dq jX11_goes 75 rfl) rfl (fun r10 => ?_)
        refine rz_bipush G (v := 96) (dq jX11_goes 76 rfl) (by decide) ?_
        refine rz_isub G (dq jX11_goes 77 rfl) ?_
        refine rz_i2l G (dq jX11_goes 78 rfl) ?_
        refine rz_lor G (dq jX11_goes 79 rfl) ?_
        refine rz_putL G flX11_171 sh56 rfl (dq jX11_goes 80 rfl) ?_
        exact rz_lv [0] rfl (z_X11_goes_b159 G (f_X11_goes_b108 fu) ih)
theorem z_X11_goes_b237 {Γ : Cx} (G : GG Γ RX11 cX11_goes 2 none 2 0 0) (k187 : Sg → Option (Unit × Sg)) (hk187 : Rz Γ 2 (Qm Γ encV 0 0) 0 0 187 [(0, .ref 56)] [] (k187 ))  : Rz Γ 2 (Qm Γ encV 0 0) 0 0 237 [(0, .ref 56)] [] (f_X11_goes_b237 k187 ) := by
  unfold f_X11_goes_b237
  refine rz_aload_n G 0 rfl rfl (dq jX11_goes 121 rfl) ?_
  refine rz_dup G rfl (dq jX11_goes 122 rfl) ?_
  refine rz_getI G flX11_161 sh56 rfl (dq jX11_goes 123 rfl) (fun v1 => ?_)
  refine rz_iconst G (v := 1) (dq jX11_goes 124 rfl) rfl ?_
  refine rz_iadd G (dq jX11_goes 125 rfl) ?_
  refine rz_putI G flX11_161 sh56 rfl (dq jX11_goes 126 rfl) ?_
  refine rz_goto G (tgt := 187) rfl (dq jX11_goes 127 rfl) ?_
  exact rz_lv [0] rfl (hk187)
theorem z_X11_goes_b250 {Γ : Cx} (G : GG Γ RX11 cX11_goes 2 none 2 0 0)  : Rz Γ 2 (Qm Γ encV 0 0) 0 0 250 [(0, .ref 56)] [] (f_X11_goes_b250 ) := by
  unfold f_X11_goes_b250
  refine rz_aload_n G 0 rfl rfl (dq jX11_goes 128 rfl) ?_
  refine rz_iconst G (v := 2) (dq jX11_goes 129 rfl) rfl ?_
  refine rz_putI G flX11_181 sh56 rfl (dq jX11_goes 130 rfl) ?_
  refine rz_goto G (tgt := 331) rfl (dq jX11_goes 131 rfl) ?_
  exact rz_lv [0] rfl (z_X11_goes_b331 G)
theorem z_X11_goes_b187 {Γ : Cx} (G : GG Γ RX11 cX11_goes 2 none 2 0 0) : ∀ (fu : Nat), Rz Γ 2 (Qm Γ encV 0 0) 0 0 187 [(0, .ref 56)] [] (f_X11_goes_b187 fu ) := by
  intro fu
  induction fu with
  | zero => exact rz_none
  | succ fu ih =>
    rw [f_X11_goes_b187]
    refine rz_aload_n G 0 rfl rfl (dq jX11_goes 95 rfl) ?_
    refine rz_aload_n G 0 rfl rfl (dq jX11_goes 96 rfl) ?_
    refine rz_getI G flX11_161 sh56 rfl (dq jX11_goes 97 rfl) (fun v1 => ?_)
    refine rz_callVi G (st := []) (c_X11_byteAt (cLn Γ) v1) lkX11_164 sh56 rfl rfl rfl (Nat.le_of_ble_eq_true rfl) (Nat.le_of_ble_eq_true rfl) (dq jX11_goes 98 rfl) rfl (fun r2 => ?_)
    refine rz_callSi G (st := []) (c_X11_isDigit (cLn Γ) r2) lkX11_188 rfl (Nat.le_of_ble_eq_true rfl) (Nat.le_of_ble_eq_true rfl) (dq jX11_goes 99 rfl) rfl (fun r3 => ?_)
    refine rz_if_eq G (tgt := 250) rfl (dq jX11_goes 100 rfl) (fun c4 => ?_) (fun c4 => ?_)
    · exact rz_lv [0] rfl (z_X11_goes_b250 G)
    · refine rz_aload_n G 0 rfl rfl (dq jX11_goes 101 rfl) ?_
      refine rz_getI G flX11_161 sh56 rfl (dq jX11_goes 102 rfl) (fun v5 => ?_)
      refine rz_aload_n G 0 rfl rfl (dq jX11_goes 103 rfl) ?_
      refine rz_getI G flX11_168 sh56 rfl (dq jX11_goes 104 rfl) (fun v6 => ?_)
      refine rz_isub G (dq jX11_goes 105 rfl) ?_
      refine rz_iconst G (v := 4) (dq jX11_goes 106 rfl) rfl ?_
      refine rz_icmp_ge G (tgt := 237) rfl (dq jX11_goes 107 rfl) (fun c7 => ?_) (fun c7 => ?_)
      · exact rz_lv [0] rfl (z_X11_goes_b237 G (f_X11_goes_b187 fu) ih)
      · refine rz_aload_n G 0 rfl rfl (dq jX11_goes 108 rfl) ?_
        refine rz_bipush G (v := 10) (dq jX11_goes 109 rfl) (by decide) ?_
        refine rz_aload_n G 0 rfl rfl (dq jX11_goes 110 rfl) ?_
        refine rz_getI G flX11_175 sh56 rfl (dq jX11_goes 111 rfl) (fun v8 => ?_)
        refine rz_imul G (dq jX11_goes 112 rfl) ?_
        refine rz_aload_n G 0 rfl rfl (dq jX11_goes 113 rfl) ?_
        refine rz_aload_n G 0 rfl rfl (dq jX11_goes 114 rfl) ?_
        refine rz_getI G flX11_161 sh56 rfl (dq jX11_goes 115 rfl) (fun v9 => ?_)
        refine rz_callVi G (st := [.int (10 * v8), .ref 56]) (c_X11_byteAt (cLn Γ) v9) lkX11_164 sh56 rfl rfl rfl (Nat.le_of_ble_eq_true rfl) (Nat.le_of_ble_eq_true rfl) (dq jX11_goes 116 rfl) rfl (fun r10 => ?_)
        refine rz_iadd G (dq jX11_goes 117 rfl) ?_
        refine rz_bipush G (v := 48) (dq jX11_goes 118 rfl) (by decide) ?_
        refine rz_isub G (dq jX11_goes 119 rfl) ?_
        refine rz_putI G flX11_175 sh56 rfl (dq jX11_goes 120 rfl) ?_
        exact rz_lv [0] rfl (z_X11_goes_b237 G (f_X11_goes_b187 fu) ih)
theorem z_X11_goes_b328 {Γ : Cx} (G : GG Γ RX11 cX11_goes 2 none 2 0 0) (xs0 : Int32) : Rz Γ 2 (Qm Γ encV 0 0) 0 0 328 [(0, .ref 56)] [.int xs0, .ref 56] (f_X11_goes_b328 xs0) := by
  unfold f_X11_goes_b328
  refine rz_putI G flX11_181 sh56 rfl (dq jX11_goes_s1 19 rfl) ?_
  exact rz_lv [0] rfl (z_X11_goes_b331 G)
theorem z_X11_goes_b323 {Γ : Cx} (G : GG Γ RX11 cX11_goes 2 none 2 0 0)  : Rz Γ 2 (Qm Γ encV 0 0) 0 0 323 [(0, .ref 56)] [.ref 56] (f_X11_goes_b323 ) := by
  unfold f_X11_goes_b323
  refine rz_iconst G (v := 3) (dq jX11_goes_s1 16 rfl) rfl ?_
  refine rz_goto G (tgt := 328) rfl (dq jX11_goes_s1 17 rfl) ?_
  exact rz_lv [0] rfl (z_X11_goes_b328 G 3)
theorem z_X11_goes_b50 {Γ : Cx} (G : GG Γ RX11 cX11_goes 2 none 2 0 0)  : Rz Γ 2 (Qm Γ encV 0 0) 0 0 50 [(0, .ref 56)] [] (f_X11_goes_b50 ) := by
  unfold f_X11_goes_b50
  refine rz_aload_n G 0 rfl rfl (dq jX11_goes 24 rfl) ?_
  refine rz_aload_n G 0 rfl rfl (dq jX11_goes 25 rfl) ?_
  refine rz_getI G flX11_161 sh56 rfl (dq jX11_goes 26 rfl) (fun v1 => ?_)
  refine rz_putI G flX11_168 sh56 rfl (dq jX11_goes 27 rfl) ?_
  refine rz_aload_n G 0 rfl rfl (dq jX11_goes 28 rfl) ?_
  refine rz_lconst G (v := 0) (dq jX11_goes 29 rfl) rfl ?_
  refine rz_putL G flX11_171 sh56 rfl (dq jX11_goes 30 rfl) ?_
  refine rz_aload_n G 0 rfl rfl (dq jX11_goes 31 rfl) ?_
  refine rz_iconst G (v := 0) (dq jX11_goes 32 rfl) rfl ?_
  refine rz_putI G flX11_175 sh56 rfl (dq jX11_goes 33 rfl) ?_
  refine rz_aload_n G 0 rfl rfl (dq jX11_goes 34 rfl) ?_
  refine rz_aload_n G 0 rfl rfl (dq jX11_goes 35 rfl) ?_
  refine rz_getI G flX11_161 sh56 rfl (dq jX11_goes 36 rfl) (fun v2 => ?_)
  refine rz_callVi G (st := []) (c_X11_byteAt (cLn Γ) v2) lkX11_164 sh56 rfl rfl rfl (Nat.le_of_ble_eq_true rfl) (Nat.le_of_ble_eq_true rfl) (dq jX11_goes 37 rfl) rfl (fun r3 => ?_)
  refine rz_istore_n G (lv' := [(1, .int r3), (0, .ref 56)]) rfl (Nat.le_of_ble_eq_true rfl) rfl (dq jX11_goes 38 rfl) ?_
  refine rz_aload_n G 1 rfl rfl (dq jX11_goes 39 rfl) ?_
  refine rz_iload_n G 0 rfl rfl (dq jX11_goes 40 rfl) ?_
  refine rz_putI G flX11_178 sh56 rfl (dq jX11_goes 41 rfl) ?_
  refine rz_aload_n G 1 rfl rfl (dq jX11_goes 42 rfl) ?_
  refine rz_getI G flX11_161 sh56 rfl (dq jX11_goes 43 rfl) (fun v4 => ?_)
  refine rz_aload_n G 1 rfl rfl (dq jX11_goes 44 rfl) ?_
  refine rz_getI G flX11_158 sh56 rfl (dq jX11_goes 45 rfl) (fun v5 => ?_)
  refine rz_icmp_lt G (tgt := 101) rfl (dq jX11_goes 46 rfl) (fun c6 => ?_) (fun c6 => ?_)
  · refine rz_iload_n G 0 rfl rfl (dq jX11_goes 51 rfl) ?_
    refine rz_callSi G (st := []) (c_X11_isLetter (cLn Γ) r3) lkX11_184 rfl (Nat.le_of_ble_eq_true rfl) (Nat.le_of_ble_eq_true rfl) (dq jX11_goes 52 rfl) rfl (fun r7 => ?_)
    refine rz_if_eq G (tgt := 180) rfl (dq jX11_goes 53 rfl) (fun c8 => ?_) (fun c8 => ?_)
    · refine rz_iload_n G 0 rfl rfl (dq jX11_goes 92 rfl) ?_
      refine rz_callSi G (st := []) (c_X11_isDigit (cLn Γ) r3) lkX11_188 rfl (Nat.le_of_ble_eq_true rfl) (Nat.le_of_ble_eq_true rfl) (dq jX11_goes 93 rfl) rfl (fun r9 => ?_)
      refine rz_if_eq G (tgt := 258) rfl (dq jX11_goes 94 rfl) (fun c10 => ?_) (fun c10 => ?_)
      · refine rz_aload_n G 1 rfl rfl (dq jX11_goes 132 rfl) ?_
        refine rz_dup G rfl (dq jX11_goes 133 rfl) ?_
        refine rz_getI G flX11_161 sh56 rfl (dq jX11_goes 134 rfl) (fun v11 => ?_)
        refine rz_iconst G (v := 1) (dq jX11_goes 135 rfl) rfl ?_
        refine rz_iadd G (dq jX11_goes 136 rfl) ?_
        refine rz_putI G flX11_161 sh56 rfl (dq jX11_goes 137 rfl) ?_
        refine rz_aload_n G 1 rfl rfl (dq jX11_goes 138 rfl) ?_
        refine rz_iload_n G 0 rfl rfl (dq jX11_goes 139 rfl) ?_
        refine rz_bipush G (v := 59) (dq jX11_goes 140 rfl) (by decide) ?_
        refine rz_icmp_eq G (tgt := 323) rfl (dq jX11_goes 141 rfl) (fun c12 => ?_) (fun c12 => ?_)
        · exact rz_lv [1] rfl (z_X11_goes_b323 G)
        · refine rz_iload_n G 0 rfl rfl (dq jX11_goes 142 rfl) ?_
          refine rz_bipush G (v := 40) (dq jX11_goes 143 rfl) (by decide) ?_
          refine rz_icmp_eq G (tgt := 323) rfl (dq jX11_goes 144 rfl) (fun c13 => ?_) (fun c13 => ?_)
          · exact rz_lv [1] rfl (z_X11_goes_b323 G)
          · refine rz_iload_n G 0 rfl rfl (dq jX11_goes 145 rfl) ?_
            refine rz_bipush G (v := 41) (dq jX11_goes 146 rfl) (by decide) ?_
            refine rz_icmp_eq G (tgt := 323) rfl (dq jX11_goes 147 rfl) (fun c14 => ?_) (fun c14 => ?_)
            · exact rz_lv [1] rfl (z_X11_goes_b323 G)
            · refine rz_iload_n G 0 rfl rfl (dq jX11_goes 148 rfl) ?_
              refine rz_bipush G (v := 43) (dq jX11_goes 149 rfl) (by decide) ?_
              refine rz_icmp_eq G (tgt := 323) rfl (dq jX11_goes_s1 0 rfl) (fun c15 => ?_) (fun c15 => ?_)
              · exact rz_lv [1] rfl (z_X11_goes_b323 G)
              · refine rz_iload_n G 0 rfl rfl (dq jX11_goes_s1 1 rfl) ?_
                refine rz_bipush G (v := 45) (dq jX11_goes_s1 2 rfl) (by decide) ?_
                refine rz_icmp_eq G (tgt := 323) rfl (dq jX11_goes_s1 3 rfl) (fun c16 => ?_) (fun c16 => ?_)
                · exact rz_lv [1] rfl (z_X11_goes_b323 G)
                · refine rz_iload_n G 0 rfl rfl (dq jX11_goes_s1 4 rfl) ?_
                  refine rz_bipush G (v := 42) (dq jX11_goes_s1 5 rfl) (by decide) ?_
                  refine rz_icmp_eq G (tgt := 323) rfl (dq jX11_goes_s1 6 rfl) (fun c17 => ?_) (fun c17 => ?_)
                  · exact rz_lv [1] rfl (z_X11_goes_b323 G)
                  · refine rz_iload_n G 0 rfl rfl (dq jX11_goes_s1 7 rfl) ?_
                    refine rz_bipush G (v := 47) (dq jX11_goes_s1 8 rfl) (by decide) ?_
                    refine rz_icmp_eq G (tgt := 323) rfl (dq jX11_goes_s1 9 rfl) (fun c18 => ?_) (fun c18 => ?_)
                    · exact rz_lv [1] rfl (z_X11_goes_b323 G)
                    · refine rz_iload_n G 0 rfl rfl (dq jX11_goes_s1 10 rfl) ?_
                      refine rz_bipush G (v := 60) (dq jX11_goes_s1 11 rfl) (by decide) ?_
                      refine rz_icmp_eq G (tgt := 323) rfl (dq jX11_goes_s1 12 rfl) (fun c19 => ?_) (fun c19 => ?_)
                      · exact rz_lv [1] rfl (z_X11_goes_b323 G)
                      · refine rz_iload_n G 0 rfl rfl (dq jX11_goes_s1 13 rfl) ?_
                        refine rz_bipush G (v := 61) (dq jX11_goes_s1 14 rfl) (by decide) ?_
                        refine rz_icmp_ne G (tgt := 327) rfl (dq jX11_goes_s1 15 rfl) (fun c20 => ?_) (fun c20 => ?_)
                        · exact rz_lv [1] rfl (z_X11_goes_b323 G)
                        · refine rz_iconst G (v := 4) (dq jX11_goes_s1 18 rfl) rfl ?_
                          exact rz_lv [1] rfl (z_X11_goes_b328 G 4)
      · exact rz_lv [1] rfl (z_X11_goes_b187 G FU)
    · exact rz_lv [1] rfl (z_X11_goes_b108 G FU)
  · refine rz_aload_n G 1 rfl rfl (dq jX11_goes 47 rfl) ?_
    refine rz_iconst G (v := 0) (dq jX11_goes 48 rfl) rfl ?_
    refine rz_putI G flX11_181 sh56 rfl (dq jX11_goes 49 rfl) ?_
    refine rz_goto G (tgt := 331) rfl (dq jX11_goes 50 rfl) ?_
    exact rz_lv [1] rfl (z_X11_goes_b331 G)
theorem z_X11_goes_b0 {Γ : Cx} (G : GG Γ RX11 cX11_goes 2 none 2 0 0) : ∀ (fu : Nat), Rz Γ 2 (Qm Γ encV 0 0) 0 0 0 [(0, .ref 56)] [] (f_X11_goes_b0 fu ) := by
  intro fu
  induction fu with
  | zero => exact rz_none
  | succ fu ih =>
    rw [f_X11_goes_b0]
    refine rz_aload_n G 0 rfl rfl (dq jX11_goes 0 rfl) ?_
    refine rz_getI G flX11_161 sh56 rfl (dq jX11_goes 1 rfl) (fun v1 => ?_)
    refine rz_aload_n G 0 rfl rfl (dq jX11_goes 2 rfl) ?_
    refine rz_getI G flX11_158 sh56 rfl (dq jX11_goes 3 rfl) (fun v2 => ?_)
    refine rz_icmp_ge G (tgt := 50) rfl (dq jX11_goes 4 rfl) (fun c3 => ?_) (fun c3 => ?_)
    · exact rz_lv [0] rfl (z_X11_goes_b50 G)
    · refine rz_aload_n G 0 rfl rfl (dq jX11_goes 5 rfl) ?_
      refine rz_aload_n G 0 rfl rfl (dq jX11_goes 6 rfl) ?_
      refine rz_getI G flX11_161 sh56 rfl (dq jX11_goes 7 rfl) (fun v4 => ?_)
      refine rz_callVi G (st := []) (c_X11_byteAt (cLn Γ) v4) lkX11_164 sh56 rfl rfl rfl (Nat.le_of_ble_eq_true rfl) (Nat.le_of_ble_eq_true rfl) (dq jX11_goes 8 rfl) rfl (fun r5 => ?_)
      refine rz_bipush G (v := 32) (dq jX11_goes 9 rfl) (by decide) ?_
      refine rz_icmp_eq G (tgt := 37) rfl (dq jX11_goes 10 rfl) (fun c6 => ?_) (fun c6 => ?_)
      · exact rz_lv [0] rfl (z_X11_goes_b37 G (f_X11_goes_b0 fu) ih)
      · refine rz_aload_n G 0 rfl rfl (dq jX11_goes 11 rfl) ?_
        refine rz_aload_n G 0 rfl rfl (dq jX11_goes 12 rfl) ?_
        refine rz_getI G flX11_161 sh56 rfl (dq jX11_goes 13 rfl) (fun v7 => ?_)
        refine rz_callVi G (st := []) (c_X11_byteAt (cLn Γ) v7) lkX11_164 sh56 rfl rfl rfl (Nat.le_of_ble_eq_true rfl) (Nat.le_of_ble_eq_true rfl) (dq jX11_goes 14 rfl) rfl (fun r8 => ?_)
        refine rz_bipush G (v := 10) (dq jX11_goes 15 rfl) (by decide) ?_
        refine rz_icmp_ne G (tgt := 50) rfl (dq jX11_goes 16 rfl) (fun c9 => ?_) (fun c9 => ?_)
        · exact rz_lv [0] rfl (z_X11_goes_b37 G (f_X11_goes_b0 fu) ih)
        · exact rz_lv [0] rfl (z_X11_goes_b50 G)
theorem c_X11_goes (l : Launch)  : Ct l yX11_goes cX11_goes 2 none 2 encV [.ref 56] (f_X11_goes ) := by
  refine ct_of (own := RX11) (by decide) rfl (Nat.le_of_ble_eq_true rfl) (fun Γ hl G => ?_)
  show Rz Γ 2 (Qm Γ encV 0 0) 0 0 0 [(0, .ref 56)] [] _
  unfold f_X11_goes
  exact rz_lv [0] rfl (z_X11_goes_b0 G FU)
theorem z_X11_spelled_b102 {Γ : Cx} (G : GG Γ RX11 cX11_spelled 10 (some .long) 1 0 0) (x7 : Int32) (x8 : Int64) : Rz Γ 10 (Qm Γ encL 0 0) 0 0 102 [(7, .int x7), (8, .long x8)] [] (f_X11_spelled_b102 x7 x8) := by
  unfold f_X11_spelled_b102
  refine rz_iload G 0 rfl (dq jX11_spelled 67 rfl) ?_
  refine rz_if_eq G (tgt := 120) rfl (dq jX11_spelled 68 rfl) (fun c1 => ?_) (fun c1 => ?_)
  · refine rz_lload G 1 rfl (dq jX11_spelled 78 rfl) ?_
    exact rz_lret G (dq jX11_spelled 79 rfl)
  · refine rz_lload G 1 rfl (dq jX11_spelled 69 rfl) ?_
    refine rz_iconst G (v := 5) (dq jX11_spelled 70 rfl) rfl ?_
    refine rz_lshl G (dq jX11_spelled 71 rfl) ?_
    refine rz_iload G 0 rfl (dq jX11_spelled 72 rfl) ?_
    refine rz_bipush G (v := 96) (dq jX11_spelled 73 rfl) (by decide) ?_
    refine rz_isub G (dq jX11_spelled 74 rfl) ?_
    refine rz_i2l G (dq jX11_spelled 75 rfl) ?_
    refine rz_lor G (dq jX11_spelled 76 rfl) ?_
    refine rz_ltl (fun w2 e_w2 => ?_)
    refine rz_lstore G (lv' := [(8, .long w2), (7, .int x7)]) (Nat.le_of_ble_eq_true rfl) rfl (dq jX11_spelled 77 rfl) ?_
    refine rz_lload G 0 rfl (dq jX11_spelled 78 rfl) ?_
    exact rz_lret G (dq jX11_spelled 79 rfl)
theorem z_X11_spelled_b84 {Γ : Cx} (G : GG Γ RX11 cX11_spelled 10 (some .long) 1 0 0) (x6 : Int32) (x7 : Int32) (x8 : Int64) : Rz Γ 10 (Qm Γ encL 0 0) 0 0 84 [(6, .int x6), (7, .int x7), (8, .long x8)] [] (f_X11_spelled_b84 x6 x7 x8) := by
  unfold f_X11_spelled_b84
  refine rz_iload G 0 rfl (dq jX11_spelled 56 rfl) ?_
  refine rz_if_eq G (tgt := 102) rfl (dq jX11_spelled 57 rfl) (fun c1 => ?_) (fun c1 => ?_)
  · exact rz_lv [1, 2] rfl (z_X11_spelled_b102 G x7 x8)
  · refine rz_lload G 2 rfl (dq jX11_spelled 58 rfl) ?_
    refine rz_iconst G (v := 5) (dq jX11_spelled 59 rfl) rfl ?_
    refine rz_lshl G (dq jX11_spelled 60 rfl) ?_
    refine rz_iload G 0 rfl (dq jX11_spelled 61 rfl) ?_
    refine rz_bipush G (v := 96) (dq jX11_spelled 62 rfl) (by decide) ?_
    refine rz_isub G (dq jX11_spelled 63 rfl) ?_
    refine rz_i2l G (dq jX11_spelled 64 rfl) ?_
    refine rz_lor G (dq jX11_spelled 65 rfl) ?_
    refine rz_ltl (fun w2 e_w2 => ?_)
    refine rz_lstore G (lv' := [(8, .long w2), (6, .int x6), (7, .int x7)]) (Nat.le_of_ble_eq_true rfl) rfl (dq jX11_spelled 66 rfl) ?_
    exact rz_lv [2, 0] rfl (z_X11_spelled_b102 G x7 w2)
theorem z_X11_spelled_b66 {Γ : Cx} (G : GG Γ RX11 cX11_spelled 10 (some .long) 1 0 0) (x5 : Int32) (x6 : Int32) (x7 : Int32) (x8 : Int64) : Rz Γ 10 (Qm Γ encL 0 0) 0 0 66 [(5, .int x5), (6, .int x6), (7, .int x7), (8, .long x8)] [] (f_X11_spelled_b66 x5 x6 x7 x8) := by
  unfold f_X11_spelled_b66
  refine rz_iload G 0 rfl (dq jX11_spelled 45 rfl) ?_
  refine rz_if_eq G (tgt := 84) rfl (dq jX11_spelled 46 rfl) (fun c1 => ?_) (fun c1 => ?_)
  · exact rz_lv [1, 2, 3] rfl (z_X11_spelled_b84 G x6 x7 x8)
  · refine rz_lload G 3 rfl (dq jX11_spelled 47 rfl) ?_
    refine rz_iconst G (v := 5) (dq jX11_spelled 48 rfl) rfl ?_
    refine rz_lshl G (dq jX11_spelled 49 rfl) ?_
    refine rz_iload G 0 rfl (dq jX11_spelled 50 rfl) ?_
    refine rz_bipush G (v := 96) (dq jX11_spelled 51 rfl) (by decide) ?_
    refine rz_isub G (dq jX11_spelled 52 rfl) ?_
    refine rz_i2l G (dq jX11_spelled 53 rfl) ?_
    refine rz_lor G (dq jX11_spelled 54 rfl) ?_
    refine rz_ltl (fun w2 e_w2 => ?_)
    refine rz_lstore G (lv' := [(8, .long w2), (5, .int x5), (6, .int x6), (7, .int x7)]) (Nat.le_of_ble_eq_true rfl) rfl (dq jX11_spelled 55 rfl) ?_
    exact rz_lv [2, 3, 0] rfl (z_X11_spelled_b84 G x6 x7 w2)
theorem z_X11_spelled_b48 {Γ : Cx} (G : GG Γ RX11 cX11_spelled 10 (some .long) 1 0 0) (x4 : Int32) (x5 : Int32) (x6 : Int32) (x7 : Int32) (x8 : Int64) : Rz Γ 10 (Qm Γ encL 0 0) 0 0 48 [(4, .int x4), (5, .int x5), (6, .int x6), (7, .int x7), (8, .long x8)] [] (f_X11_spelled_b48 x4 x5 x6 x7 x8) := by
  unfold f_X11_spelled_b48
  refine rz_iload G 0 rfl (dq jX11_spelled 34 rfl) ?_
  refine rz_if_eq G (tgt := 66) rfl (dq jX11_spelled 35 rfl) (fun c1 => ?_) (fun c1 => ?_)
  · exact rz_lv [1, 2, 3, 4] rfl (z_X11_spelled_b66 G x5 x6 x7 x8)
  · refine rz_lload G 4 rfl (dq jX11_spelled 36 rfl) ?_
    refine rz_iconst G (v := 5) (dq jX11_spelled 37 rfl) rfl ?_
    refine rz_lshl G (dq jX11_spelled 38 rfl) ?_
    refine rz_iload G 0 rfl (dq jX11_spelled 39 rfl) ?_
    refine rz_bipush G (v := 96) (dq jX11_spelled 40 rfl) (by decide) ?_
    refine rz_isub G (dq jX11_spelled 41 rfl) ?_
    refine rz_i2l G (dq jX11_spelled 42 rfl) ?_
    refine rz_lor G (dq jX11_spelled 43 rfl) ?_
    refine rz_ltl (fun w2 e_w2 => ?_)
    refine rz_lstore G (lv' := [(8, .long w2), (4, .int x4), (5, .int x5), (6, .int x6), (7, .int x7)]) (Nat.le_of_ble_eq_true rfl) rfl (dq jX11_spelled 44 rfl) ?_
    exact rz_lv [2, 3, 4, 0] rfl (z_X11_spelled_b66 G x5 x6 x7 w2)
theorem z_X11_spelled_b32 {Γ : Cx} (G : GG Γ RX11 cX11_spelled 10 (some .long) 1 0 0) (x3 : Int32) (x4 : Int32) (x5 : Int32) (x6 : Int32) (x7 : Int32) (x8 : Int64) : Rz Γ 10 (Qm Γ encL 0 0) 0 0 32 [(3, .int x3), (4, .int x4), (5, .int x5), (6, .int x6), (7, .int x7), (8, .long x8)] [] (f_X11_spelled_b32 x3 x4 x5 x6 x7 x8) := by
  unfold f_X11_spelled_b32
  refine rz_iload_n G 0 rfl rfl (dq jX11_spelled 23 rfl) ?_
  refine rz_if_eq G (tgt := 48) rfl (dq jX11_spelled 24 rfl) (fun c1 => ?_) (fun c1 => ?_)
  · exact rz_lv [1, 2, 3, 4, 5] rfl (z_X11_spelled_b48 G x4 x5 x6 x7 x8)
  · refine rz_lload G 5 rfl (dq jX11_spelled 25 rfl) ?_
    refine rz_iconst G (v := 5) (dq jX11_spelled 26 rfl) rfl ?_
    refine rz_lshl G (dq jX11_spelled 27 rfl) ?_
    refine rz_iload_n G 0 rfl rfl (dq jX11_spelled 28 rfl) ?_
    refine rz_bipush G (v := 96) (dq jX11_spelled 29 rfl) (by decide) ?_
    refine rz_isub G (dq jX11_spelled 30 rfl) ?_
    refine rz_i2l G (dq jX11_spelled 31 rfl) ?_
    refine rz_lor G (dq jX11_spelled 32 rfl) ?_
    refine rz_ltl (fun w2 e_w2 => ?_)
    refine rz_lstore G (lv' := [(8, .long w2), (3, .int x3), (4, .int x4), (5, .int x5), (6, .int x6), (7, .int x7)]) (Nat.le_of_ble_eq_true rfl) rfl (dq jX11_spelled 33 rfl) ?_
    exact rz_lv [2, 3, 4, 5, 0] rfl (z_X11_spelled_b48 G x4 x5 x6 x7 w2)
theorem c_X11_spelled (l : Launch) (x0 : Int32) (x1 : Int32) (x2 : Int32) (x3 : Int32) (x4 : Int32) (x5 : Int32) (x6 : Int32) (x7 : Int32) : Ct l yX11_spelled cX11_spelled 10 (some .long) 1 encL [.int x0, .int x1, .int x2, .int x3, .int x4, .int x5, .int x6, .int x7] (f_X11_spelled x0 x1 x2 x3 x4 x5 x6 x7) := by
  refine ct_of (own := RX11) (by decide) rfl (Nat.le_of_ble_eq_true rfl) (fun Γ hl G => ?_)
  show Rz Γ 10 (Qm Γ encL 0 0) 0 0 0 [(0, .int x0), (1, .int x1), (2, .int x2), (3, .int x3), (4, .int x4), (5, .int x5), (6, .int x6), (7, .int x7)] [] _
  unfold f_X11_spelled
  refine rz_iload_n G 0 rfl rfl (dq jX11_spelled 0 rfl) ?_
  refine rz_i2l G (dq jX11_spelled 1 rfl) ?_
  refine rz_ldc2 G kX11_194 (dq jX11_spelled 2 rfl) ?_
  refine rz_lsub G (dq jX11_spelled 3 rfl) ?_
  refine rz_iconst G (v := 5) (dq jX11_spelled 4 rfl) rfl ?_
  refine rz_lshl G (dq jX11_spelled 5 rfl) ?_
  refine rz_iload_n G 1 rfl rfl (dq jX11_spelled 6 rfl) ?_
  refine rz_bipush G (v := 96) (dq jX11_spelled 7 rfl) (by decide) ?_
  refine rz_isub G (dq jX11_spelled 8 rfl) ?_
  refine rz_i2l G (dq jX11_spelled 9 rfl) ?_
  refine rz_lor G (dq jX11_spelled 10 rfl) ?_
  refine rz_ltl (fun w1 e_w1 => ?_)
  refine rz_lstore G (lv' := [(8, .long w1), (0, .int x0), (1, .int x1), (2, .int x2), (3, .int x3), (4, .int x4), (5, .int x5), (6, .int x6), (7, .int x7)]) (Nat.le_of_ble_eq_true rfl) rfl (dq jX11_spelled 11 rfl) ?_
  refine rz_iload_n G 3 rfl rfl (dq jX11_spelled 12 rfl) ?_
  refine rz_if_eq G (tgt := 32) rfl (dq jX11_spelled 13 rfl) (fun c2 => ?_) (fun c2 => ?_)
  · exact rz_lv [4, 5, 6, 7, 8, 0] rfl (z_X11_spelled_b32 G x3 x4 x5 x6 x7 w1)
  · refine rz_lload G 0 rfl (dq jX11_spelled 14 rfl) ?_
    refine rz_iconst G (v := 5) (dq jX11_spelled 15 rfl) rfl ?_
    refine rz_lshl G (dq jX11_spelled 16 rfl) ?_
    refine rz_iload_n G 3 rfl rfl (dq jX11_spelled 17 rfl) ?_
    refine rz_bipush G (v := 96) (dq jX11_spelled 18 rfl) (by decide) ?_
    refine rz_isub G (dq jX11_spelled 19 rfl) ?_
    refine rz_i2l G (dq jX11_spelled 20 rfl) ?_
    refine rz_lor G (dq jX11_spelled 21 rfl) ?_
    refine rz_ltl (fun w3 e_w3 => ?_)
    refine rz_lstore G (lv' := [(8, .long w3), (0, .int x0), (1, .int x1), (2, .int x2), (3, .int x3), (4, .int x4), (5, .int x5), (6, .int x6), (7, .int x7)]) (Nat.le_of_ble_eq_true rfl) rfl (dq jX11_spelled 22 rfl) ?_
    exact rz_lv [4, 5, 6, 7, 8, 0] rfl (z_X11_spelled_b32 G x3 x4 x5 x6 x7 w3)
theorem c_X11_letters (l : Launch) (x0 : Int32) : Ct l yX11_letters cX11_letters 1 (some .long) 2 encL [.int x0] (f_X11_letters x0) := by
  refine ct_of (own := RX11) (by decide) rfl (Nat.le_of_ble_eq_true rfl) (fun Γ hl G => ?_)
  show Rz Γ 1 (Qm Γ encL 0 0) 0 0 0 [(0, .int x0)] [] _
  unfold f_X11_letters
  refine rz_iload_n G 0 rfl rfl (dq jX11_letters 0 rfl) ?_
  refine rz_br (fun c1 => ?_) (fun c1 => ?_)
  · refine rz_tableIn G 0 (tgt := 88) swX11_letters_1 (by rw [c1]; rfl) (by decide) rfl rfl ?_
    refine rz_bipush G (v := 109) (dq jX11_letters_s1 0 rfl) (by decide) ?_
    refine rz_bipush G (v := 101) (dq jX11_letters_s1 1 rfl) (by decide) ?_
    refine rz_iconst G (v := 0) (dq jX11_letters_s1 2 rfl) rfl ?_
    refine rz_iconst G (v := 0) (dq jX11_letters_s1 3 rfl) rfl ?_
    refine rz_iconst G (v := 0) (dq jX11_letters_s1 4 rfl) rfl ?_
    refine rz_iconst G (v := 0) (dq jX11_letters_s1 5 rfl) rfl ?_
    refine rz_iconst G (v := 0) (dq jX11_letters_s1 6 rfl) rfl ?_
    refine rz_iconst G (v := 0) (dq jX11_letters_s1 7 rfl) rfl ?_
    refine rz_callSl G (st := []) (c_X11_spelled (cLn Γ) 109 101 0 0 0 0 0 0) lkX11_196 rfl (Nat.le_of_ble_eq_true rfl) (Nat.le_of_ble_eq_true rfl) (dq jX11_letters_s1 8 rfl) rfl (fun r2 => ?_)
    exact rz_lret G (dq jX11_letters_s1 9 rfl)
  · refine rz_br (fun c3 => ?_) (fun c3 => ?_)
    · refine rz_tableIn G 1 (tgt := 102) swX11_letters_1 (by rw [c3]; rfl) (by decide) rfl rfl ?_
      refine rz_bipush G (v := 119) (dq jX11_letters_s1 10 rfl) (by decide) ?_
      refine rz_bipush G (v := 101) (dq jX11_letters_s1 11 rfl) (by decide) ?_
      refine rz_bipush G (v := 105) (dq jX11_letters_s1 12 rfl) (by decide) ?_
      refine rz_bipush G (v := 103) (dq jX11_letters_s1 13 rfl) (by decide) ?_
      refine rz_bipush G (v := 104) (dq jX11_letters_s1 14 rfl) (by decide) ?_
      refine rz_bipush G (v := 116) (dq jX11_letters_s1 15 rfl) (by decide) ?_
      refine rz_iconst G (v := 0) (dq jX11_letters_s1 16 rfl) rfl ?_
      refine rz_iconst G (v := 0) (dq jX11_letters_s1 17 rfl) rfl ?_
      refine rz_callSl G (st := []) (c_X11_spelled (cLn Γ) 119 101 105 103 104 116 0 0) lkX11_196 rfl (Nat.le_of_ble_eq_true rfl) (Nat.le_of_ble_eq_true rfl) (dq jX11_letters_s1 18 rfl) rfl (fun r4 => ?_)
      exact rz_lret G (dq jX11_letters_s1 19 rfl)
    · refine rz_br (fun c5 => ?_) (fun c5 => ?_)
      · refine rz_tableIn G 2 (tgt := 120) swX11_letters_1 (by rw [c5]; rfl) (by decide) rfl rfl ?_
        refine rz_bipush G (v := 104) (dq jX11_letters_s1 20 rfl) (by decide) ?_
        refine rz_bipush G (v := 101) (dq jX11_letters_s1 21 rfl) (by decide) ?_
        refine rz_bipush G (v := 105) (dq jX11_letters_s1 22 rfl) (by decide) ?_
        refine rz_bipush G (v := 103) (dq jX11_letters_s1 23 rfl) (by decide) ?_
        refine rz_bipush G (v := 104) (dq jX11_letters_s1 24 rfl) (by decide) ?_
        refine rz_bipush G (v := 116) (dq jX11_letters_s1 25 rfl) (by decide) ?_
        refine rz_iconst G (v := 0) (dq jX11_letters_s1 26 rfl) rfl ?_
        refine rz_iconst G (v := 0) (dq jX11_letters_s1 27 rfl) rfl ?_
        refine rz_callSl G (st := []) (c_X11_spelled (cLn Γ) 104 101 105 103 104 116 0 0) lkX11_196 rfl (Nat.le_of_ble_eq_true rfl) (Nat.le_of_ble_eq_true rfl) (dq jX11_letters_s1 28 rfl) rfl (fun r6 => ?_)
        exact rz_lret G (dq jX11_letters_s1 29 rfl)
      · refine rz_br (fun c7 => ?_) (fun c7 => ?_)
        · refine rz_tableIn G 3 (tgt := 138) swX11_letters_1 (by rw [c7]; rfl) (by decide) rfl rfl ?_
          refine rz_bipush G (v := 112) (dq jX11_letters_s1 30 rfl) (by decide) ?_
          refine rz_bipush G (v := 108) (dq jX11_letters_s1 31 rfl) (by decide) ?_
          refine rz_bipush G (v := 97) (dq jX11_letters_s1 32 rfl) (by decide) ?_
          refine rz_bipush G (v := 99) (dq jX11_letters_s1 33 rfl) (by decide) ?_
          refine rz_bipush G (v := 101) (dq jX11_letters_s1 34 rfl) (by decide) ?_
          refine rz_iconst G (v := 0) (dq jX11_letters_s1 35 rfl) rfl ?_
          refine rz_iconst G (v := 0) (dq jX11_letters_s1 36 rfl) rfl ?_
          refine rz_iconst G (v := 0) (dq jX11_letters_s1 37 rfl) rfl ?_
          refine rz_callSl G (st := []) (c_X11_spelled (cLn Γ) 112 108 97 99 101 0 0 0) lkX11_196 rfl (Nat.le_of_ble_eq_true rfl) (Nat.le_of_ble_eq_true rfl) (dq jX11_letters_s1 38 rfl) rfl (fun r8 => ?_)
          exact rz_lret G (dq jX11_letters_s1 39 rfl)
        · refine rz_br (fun c9 => ?_) (fun c9 => ?_)
          · refine rz_tableIn G 4 (tgt := 155) swX11_letters_1 (by rw [c9]; rfl) (by decide) rfl rfl ?_
            refine rz_bipush G (v := 116) (dq jX11_letters_s1 40 rfl) (by decide) ?_
            refine rz_bipush G (v := 105) (dq jX11_letters_s1 41 rfl) (by decide) ?_
            refine rz_bipush G (v := 99) (dq jX11_letters_s1 42 rfl) (by decide) ?_
            refine rz_bipush G (v := 107) (dq jX11_letters_s1 43 rfl) (by decide) ?_
            refine rz_iconst G (v := 0) (dq jX11_letters_s1 44 rfl) rfl ?_
            refine rz_iconst G (v := 0) (dq jX11_letters_s1 45 rfl) rfl ?_
            refine rz_iconst G (v := 0) (dq jX11_letters_s1 46 rfl) rfl ?_
            refine rz_iconst G (v := 0) (dq jX11_letters_s1 47 rfl) rfl ?_
            refine rz_callSl G (st := []) (c_X11_spelled (cLn Γ) 116 105 99 107 0 0 0 0) lkX11_196 rfl (Nat.le_of_ble_eq_true rfl) (Nat.le_of_ble_eq_true rfl) (dq jX11_letters_s1 48 rfl) rfl (fun r10 => ?_)
            exact rz_lret G (dq jX11_letters_s1 49 rfl)
          · refine rz_br (fun c11 => ?_) (fun c11 => ?_)
            · refine rz_tableIn G 5 (tgt := 171) swX11_letters_1 (by rw [c11]; rfl) (by decide) rfl rfl ?_
              refine rz_bipush G (v := 117) (dq jX11_letters_s1 50 rfl) (by decide) ?_
              refine rz_bipush G (v := 112) (dq jX11_letters_s1 51 rfl) (by decide) ?_
              refine rz_iconst G (v := 0) (dq jX11_letters_s1 52 rfl) rfl ?_
              refine rz_iconst G (v := 0) (dq jX11_letters_s1 53 rfl) rfl ?_
              refine rz_iconst G (v := 0) (dq jX11_letters_s1 54 rfl) rfl ?_
              refine rz_iconst G (v := 0) (dq jX11_letters_s1 55 rfl) rfl ?_
              refine rz_iconst G (v := 0) (dq jX11_letters_s1 56 rfl) rfl ?_
              refine rz_iconst G (v := 0) (dq jX11_letters_s1 57 rfl) rfl ?_
              refine rz_callSl G (st := []) (c_X11_spelled (cLn Γ) 117 112 0 0 0 0 0 0) lkX11_196 rfl (Nat.le_of_ble_eq_true rfl) (Nat.le_of_ble_eq_true rfl) (dq jX11_letters_s1 58 rfl) rfl (fun r12 => ?_)
              exact rz_lret G (dq jX11_letters_s1 59 rfl)
            · refine rz_br (fun c13 => ?_) (fun c13 => ?_)
              · refine rz_tableIn G 6 (tgt := 185) swX11_letters_1 (by rw [c13]; rfl) (by decide) rfl rfl ?_
                refine rz_bipush G (v := 111) (dq jX11_letters_s1 60 rfl) (by decide) ?_
                refine rz_bipush G (v := 110) (dq jX11_letters_s1 61 rfl) (by decide) ?_
                refine rz_iconst G (v := 0) (dq jX11_letters_s1 62 rfl) rfl ?_
                refine rz_iconst G (v := 0) (dq jX11_letters_s1 63 rfl) rfl ?_
                refine rz_iconst G (v := 0) (dq jX11_letters_s1 64 rfl) rfl ?_
                refine rz_iconst G (v := 0) (dq jX11_letters_s1 65 rfl) rfl ?_
                refine rz_iconst G (v := 0) (dq jX11_letters_s1 66 rfl) rfl ?_
                refine rz_iconst G (v := 0) (dq jX11_letters_s1 67 rfl) rfl ?_
                refine rz_callSl G (st := []) (c_X11_spelled (cLn Γ) 111 110 0 0 0 0 0 0) lkX11_196 rfl (Nat.le_of_ble_eq_true rfl) (Nat.le_of_ble_eq_true rfl) (dq jX11_letters_s1 68 rfl) rfl (fun r14 => ?_)
                exact rz_lret G (dq jX11_letters_s1 69 rfl)
              · refine rz_br (fun c15 => ?_) (fun c15 => ?_)
                · refine rz_tableIn G 7 (tgt := 199) swX11_letters_1 (by rw [c15]; rfl) (by decide) rfl rfl ?_
                  refine rz_bipush G (v := 104) (dq jX11_letters_s1 70 rfl) (by decide) ?_
                  refine rz_bipush G (v := 101) (dq jX11_letters_s1 71 rfl) (by decide) ?_
                  refine rz_bipush G (v := 97) (dq jX11_letters_s1 72 rfl) (by decide) ?_
                  refine rz_bipush G (v := 118) (dq jX11_letters_s1 73 rfl) (by decide) ?_
                  refine rz_bipush G (v := 105) (dq jX11_letters_s1 74 rfl) (by decide) ?_
                  refine rz_bipush G (v := 101) (dq jX11_letters_s1 75 rfl) (by decide) ?_
                  refine rz_bipush G (v := 114) (dq jX11_letters_s1 76 rfl) (by decide) ?_
                  refine rz_iconst G (v := 0) (dq jX11_letters_s1 77 rfl) rfl ?_
                  refine rz_callSl G (st := []) (c_X11_spelled (cLn Γ) 104 101 97 118 105 101 114 0) lkX11_196 rfl (Nat.le_of_ble_eq_true rfl) (Nat.le_of_ble_eq_true rfl) (dq jX11_letters_s1 78 rfl) rfl (fun r16 => ?_)
                  exact rz_lret G (dq jX11_letters_s1 79 rfl)
                · refine rz_br (fun c17 => ?_) (fun c17 => ?_)
                  · refine rz_tableIn G 8 (tgt := 218) swX11_letters_1 (by rw [c17]; rfl) (by decide) rfl rfl ?_
                    refine rz_bipush G (v := 109) (dq jX11_letters_s1 80 rfl) (by decide) ?_
                    refine rz_bipush G (v := 97) (dq jX11_letters_s1 81 rfl) (by decide) ?_
                    refine rz_bipush G (v := 116) (dq jX11_letters_s1 82 rfl) (by decide) ?_
                    refine rz_iconst G (v := 0) (dq jX11_letters_s1 83 rfl) rfl ?_
                    refine rz_iconst G (v := 0) (dq jX11_letters_s1 84 rfl) rfl ?_
                    refine rz_iconst G (v := 0) (dq jX11_letters_s1 85 rfl) rfl ?_
                    refine rz_iconst G (v := 0) (dq jX11_letters_s1 86 rfl) rfl ?_
                    refine rz_iconst G (v := 0) (dq jX11_letters_s1 87 rfl) rfl ?_
                    refine rz_callSl G (st := []) (c_X11_spelled (cLn Γ) 109 97 116 0 0 0 0 0) lkX11_196 rfl (Nat.le_of_ble_eq_true rfl) (Nat.le_of_ble_eq_true rfl) (dq jX11_letters_s1 88 rfl) rfl (fun r18 => ?_)
                    exact rz_lret G (dq jX11_letters_s1 89 rfl)
                  · refine rz_br (fun c19 => ?_) (fun c19 => ?_)
                    · refine rz_tableIn G 9 (tgt := 233) swX11_letters_1 (by rw [c19]; rfl) (by decide) rfl rfl ?_
                      refine rz_bipush G (v := 98) (dq jX11_letters_s1 90 rfl) (by decide) ?_
                      refine rz_bipush G (v := 114) (dq jX11_letters_s1 91 rfl) (by decide) ?_
                      refine rz_bipush G (v := 111) (dq jX11_letters_s1 92 rfl) (by decide) ?_
                      refine rz_bipush G (v := 107) (dq jX11_letters_s1 93 rfl) (by decide) ?_
                      refine rz_bipush G (v := 101) (dq jX11_letters_s1 94 rfl) (by decide) ?_
                      refine rz_bipush G (v := 110) (dq jX11_letters_s1 95 rfl) (by decide) ?_
                      refine rz_iconst G (v := 0) (dq jX11_letters_s1 96 rfl) rfl ?_
                      refine rz_iconst G (v := 0) (dq jX11_letters_s1 97 rfl) rfl ?_
                      refine rz_callSl G (st := []) (c_X11_spelled (cLn Γ) 98 114 111 107 101 110 0 0) lkX11_196 rfl (Nat.le_of_ble_eq_true rfl) (Nat.le_of_ble_eq_true rfl) (dq jX11_letters_s1 98 rfl) rfl (fun r20 => ?_)
                      exact rz_lret G (dq jX11_letters_s1 99 rfl)
                    · refine rz_br (fun c21 => ?_) (fun c21 => ?_)
                      · refine rz_tableIn G 10 (tgt := 251) swX11_letters_1 (by rw [c21]; rfl) (by decide) rfl rfl ?_
                        refine rz_bipush G (v := 110) (dq jX11_letters_s1 100 rfl) (by decide) ?_
                        refine rz_bipush G (v := 101) (dq jX11_letters_s1 101 rfl) (by decide) ?_
                        refine rz_bipush G (v := 97) (dq jX11_letters_s1 102 rfl) (by decide) ?_
                        refine rz_bipush G (v := 114) (dq jX11_letters_s1 103 rfl) (by decide) ?_
                        refine rz_iconst G (v := 0) (dq jX11_letters_s1 104 rfl) rfl ?_
                        refine rz_iconst G (v := 0) (dq jX11_letters_s1 105 rfl) rfl ?_
                        refine rz_iconst G (v := 0) (dq jX11_letters_s1 106 rfl) rfl ?_
                        refine rz_iconst G (v := 0) (dq jX11_letters_s1 107 rfl) rfl ?_
                        refine rz_callSl G (st := []) (c_X11_spelled (cLn Γ) 110 101 97 114 0 0 0 0) lkX11_196 rfl (Nat.le_of_ble_eq_true rfl) (Nat.le_of_ble_eq_true rfl) (dq jX11_letters_s1 108 rfl) rfl (fun r22 => ?_)
                        exact rz_lret G (dq jX11_letters_s1 109 rfl)
                      · refine rz_br (fun c23 => ?_) (fun c23 => ?_)
                        · refine rz_tableIn G 11 (tgt := 267) swX11_letters_1 (by rw [c23]; rfl) (by decide) rfl rfl ?_
                          refine rz_bipush G (v := 115) (dq jX11_letters_s1 110 rfl) (by decide) ?_
                          refine rz_bipush G (v := 108) (dq jX11_letters_s1 111 rfl) (by decide) ?_
                          refine rz_bipush G (v := 105) (dq jX11_letters_s1 112 rfl) (by decide) ?_
                          refine rz_bipush G (v := 112) (dq jX11_letters_s1 113 rfl) (by decide) ?_
                          refine rz_bipush G (v := 115) (dq jX11_letters_s1 114 rfl) (by decide) ?_
                          refine rz_iconst G (v := 0) (dq jX11_letters_s1 115 rfl) rfl ?_
                          refine rz_iconst G (v := 0) (dq jX11_letters_s1 116 rfl) rfl ?_
                          refine rz_iconst G (v := 0) (dq jX11_letters_s1 117 rfl) rfl ?_
                          refine rz_callSl G (st := []) (c_X11_spelled (cLn Γ) 115 108 105 112 115 0 0 0) lkX11_196 rfl (Nat.le_of_ble_eq_true rfl) (Nat.le_of_ble_eq_true rfl) (dq jX11_letters_s1 118 rfl) rfl (fun r24 => ?_)
                          exact rz_lret G (dq jX11_letters_s1 119 rfl)
                        · refine rz_br (fun c25 => ?_) (fun c25 => ?_)
                          · refine rz_tableIn G 12 (tgt := 284) swX11_letters_1 (by rw [c25]; rfl) (by decide) rfl rfl ?_
                            refine rz_bipush G (v := 101) (dq jX11_letters_s1 120 rfl) (by decide) ?_
                            refine rz_bipush G (v := 103) (dq jX11_letters_s1 121 rfl) (by decide) ?_
                            refine rz_bipush G (v := 103) (dq jX11_letters_s1 122 rfl) (by decide) ?_
                            refine rz_iconst G (v := 0) (dq jX11_letters_s1 123 rfl) rfl ?_
                            refine rz_iconst G (v := 0) (dq jX11_letters_s1 124 rfl) rfl ?_
                            refine rz_iconst G (v := 0) (dq jX11_letters_s1 125 rfl) rfl ?_
                            refine rz_iconst G (v := 0) (dq jX11_letters_s1 126 rfl) rfl ?_
                            refine rz_iconst G (v := 0) (dq jX11_letters_s1 127 rfl) rfl ?_
                            refine rz_callSl G (st := []) (c_X11_spelled (cLn Γ) 101 103 103 0 0 0 0 0) lkX11_196 rfl (Nat.le_of_ble_eq_true rfl) (Nat.le_of_ble_eq_true rfl) (dq jX11_letters_s1 128 rfl) rfl (fun r26 => ?_)
                            exact rz_lret G (dq jX11_letters_s1 129 rfl)
                          · refine rz_br (fun c27 => ?_) (fun c27 => ?_)
                            · refine rz_tableIn G 13 (tgt := 299) swX11_letters_1 (by rw [c27]; rfl) (by decide) rfl rfl ?_
                              refine rz_bipush G (v := 106) (dq jX11_letters_s1 130 rfl) (by decide) ?_
                              refine rz_bipush G (v := 117) (dq jX11_letters_s1 131 rfl) (by decide) ?_
                              refine rz_bipush G (v := 109) (dq jX11_letters_s1 132 rfl) (by decide) ?_
                              refine rz_bipush G (v := 112) (dq jX11_letters_s1 133 rfl) (by decide) ?_
                              refine rz_bipush G (v := 101) (dq jX11_letters_s1 134 rfl) (by decide) ?_
                              refine rz_bipush G (v := 114) (dq jX11_letters_s1 135 rfl) (by decide) ?_
                              refine rz_iconst G (v := 0) (dq jX11_letters_s1 136 rfl) rfl ?_
                              refine rz_iconst G (v := 0) (dq jX11_letters_s1 137 rfl) rfl ?_
                              refine rz_callSl G (st := []) (c_X11_spelled (cLn Γ) 106 117 109 112 101 114 0 0) lkX11_196 rfl (Nat.le_of_ble_eq_true rfl) (Nat.le_of_ble_eq_true rfl) (dq jX11_letters_s1 138 rfl) rfl (fun r28 => ?_)
                              exact rz_lret G (dq jX11_letters_s1 139 rfl)
                            · refine rz_br (fun c29 => ?_) (fun c29 => ?_)
                              · refine rz_tableIn G 14 (tgt := 317) swX11_letters_1 (by rw [c29]; rfl) (by decide) rfl rfl ?_
                                refine rz_bipush G (v := 99) (dq jX11_letters_s1 140 rfl) (by decide) ?_
                                refine rz_bipush G (v := 111) (dq jX11_letters_s1 141 rfl) (by decide) ?_
                                refine rz_bipush G (v := 114) (dq jX11_letters_s1 142 rfl) (by decide) ?_
                                refine rz_bipush G (v := 114) (dq jX11_letters_s1 143 rfl) (by decide) ?_
                                refine rz_bipush G (v := 101) (dq jX11_letters_s1 144 rfl) (by decide) ?_
                                refine rz_bipush G (v := 99) (dq jX11_letters_s1 145 rfl) (by decide) ?_
                                refine rz_bipush G (v := 116) (dq jX11_letters_s1 146 rfl) (by decide) ?_
                                refine rz_bipush G (v := 115) (dq jX11_letters_s1 147 rfl) (by decide) ?_
                                refine rz_callSl G (st := []) (c_X11_spelled (cLn Γ) 99 111 114 114 101 99 116 115) lkX11_196 rfl (Nat.le_of_ble_eq_true rfl) (Nat.le_of_ble_eq_true rfl) (dq jX11_letters_s1 148 rfl) rfl (fun r30 => ?_)
                                exact rz_lret G (dq jX11_letters_s1 149 rfl)
                              · refine rz_br (fun c31 => ?_) (fun c31 => ?_)
                                · refine rz_tableIn G 15 (tgt := 337) swX11_letters_1 (by rw [c31]; rfl) (by decide) rfl rfl ?_
                                  refine rz_bipush G (v := 114) (dq jX11_letters_s2 0 rfl) (by decide) ?_
                                  refine rz_bipush G (v := 117) (dq jX11_letters_s2 1 rfl) (by decide) ?_
                                  refine rz_bipush G (v := 108) (dq jX11_letters_s2 2 rfl) (by decide) ?_
                                  refine rz_bipush G (v := 101) (dq jX11_letters_s2 3 rfl) (by decide) ?_
                                  refine rz_iconst G (v := 0) (dq jX11_letters_s2 4 rfl) rfl ?_
                                  refine rz_iconst G (v := 0) (dq jX11_letters_s2 5 rfl) rfl ?_
                                  refine rz_iconst G (v := 0) (dq jX11_letters_s2 6 rfl) rfl ?_
                                  refine rz_iconst G (v := 0) (dq jX11_letters_s2 7 rfl) rfl ?_
                                  refine rz_callSl G (st := []) (c_X11_spelled (cLn Γ) 114 117 108 101 0 0 0 0) lkX11_196 rfl (Nat.le_of_ble_eq_true rfl) (Nat.le_of_ble_eq_true rfl) (dq jX11_letters_s2 8 rfl) rfl (fun r32 => ?_)
                                  exact rz_lret G (dq jX11_letters_s2 9 rfl)
                                · refine rz_br (fun c33 => ?_) (fun c33 => ?_)
                                  · refine rz_tableIn G 16 (tgt := 353) swX11_letters_1 (by rw [c33]; rfl) (by decide) rfl rfl ?_
                                    refine rz_bipush G (v := 97) (dq jX11_letters_s2 10 rfl) (by decide) ?_
                                    refine rz_bipush G (v := 110) (dq jX11_letters_s2 11 rfl) (by decide) ?_
                                    refine rz_bipush G (v := 100) (dq jX11_letters_s2 12 rfl) (by decide) ?_
                                    refine rz_iconst G (v := 0) (dq jX11_letters_s2 13 rfl) rfl ?_
                                    refine rz_iconst G (v := 0) (dq jX11_letters_s2 14 rfl) rfl ?_
                                    refine rz_iconst G (v := 0) (dq jX11_letters_s2 15 rfl) rfl ?_
                                    refine rz_iconst G (v := 0) (dq jX11_letters_s2 16 rfl) rfl ?_
                                    refine rz_iconst G (v := 0) (dq jX11_letters_s2 17 rfl) rfl ?_
                                    refine rz_callSl G (st := []) (c_X11_spelled (cLn Γ) 97 110 100 0 0 0 0 0) lkX11_196 rfl (Nat.le_of_ble_eq_true rfl) (Nat.le_of_ble_eq_true rfl) (dq jX11_letters_s2 18 rfl) rfl (fun r34 => ?_)
                                    exact rz_lret G (dq jX11_letters_s2 19 rfl)
                                  · refine rz_br (fun c35 => ?_) (fun c35 => ?_)
                                    · refine rz_tableIn G 17 (tgt := 368) swX11_letters_1 (by rw [c35]; rfl) (by decide) rfl rfl ?_
                                      refine rz_bipush G (v := 111) (dq jX11_letters_s2 20 rfl) (by decide) ?_
                                      refine rz_bipush G (v := 114) (dq jX11_letters_s2 21 rfl) (by decide) ?_
                                      refine rz_iconst G (v := 0) (dq jX11_letters_s2 22 rfl) rfl ?_
                                      refine rz_iconst G (v := 0) (dq jX11_letters_s2 23 rfl) rfl ?_
                                      refine rz_iconst G (v := 0) (dq jX11_letters_s2 24 rfl) rfl ?_
                                      refine rz_iconst G (v := 0) (dq jX11_letters_s2 25 rfl) rfl ?_
                                      refine rz_iconst G (v := 0) (dq jX11_letters_s2 26 rfl) rfl ?_
                                      refine rz_iconst G (v := 0) (dq jX11_letters_s2 27 rfl) rfl ?_
                                      refine rz_callSl G (st := []) (c_X11_spelled (cLn Γ) 111 114 0 0 0 0 0 0) lkX11_196 rfl (Nat.le_of_ble_eq_true rfl) (Nat.le_of_ble_eq_true rfl) (dq jX11_letters_s2 28 rfl) rfl (fun r36 => ?_)
                                      exact rz_lret G (dq jX11_letters_s2 29 rfl)
                                    · have n_c1 := ne_toInt (z := 0) (by decide) c1; have n_c3 := ne_toInt (z := 1) (by decide) c3; have n_c5 := ne_toInt (z := 2) (by decide) c5; have n_c7 := ne_toInt (z := 3) (by decide) c7; have n_c9 := ne_toInt (z := 4) (by decide) c9; have n_c11 := ne_toInt (z := 5) (by decide) c11; have n_c13 := ne_toInt (z := 6) (by decide) c13; have n_c15 := ne_toInt (z := 7) (by decide) c15; have n_c17 := ne_toInt (z := 8) (by decide) c17; have n_c19 := ne_toInt (z := 9) (by decide) c19; have n_c21 := ne_toInt (z := 10) (by decide) c21; have n_c23 := ne_toInt (z := 11) (by decide) c23; have n_c25 := ne_toInt (z := 12) (by decide) c25; have n_c27 := ne_toInt (z := 13) (by decide) c27; have n_c29 := ne_toInt (z := 14) (by decide) c29; have n_c31 := ne_toInt (z := 15) (by decide) c31; have n_c33 := ne_toInt (z := 16) (by decide) c33; have n_c35 := ne_toInt (z := 17) (by decide) c35
                                      refine rz_tableOut G (tgt := 382) swX11_letters_1 (by omega) rfl ?_
                                      refine rz_bipush G (v := 110) (dq jX11_letters_s2 30 rfl) (by decide) ?_
                                      refine rz_bipush G (v := 111) (dq jX11_letters_s2 31 rfl) (by decide) ?_
                                      refine rz_bipush G (v := 116) (dq jX11_letters_s2 32 rfl) (by decide) ?_
                                      refine rz_iconst G (v := 0) (dq jX11_letters_s2 33 rfl) rfl ?_
                                      refine rz_iconst G (v := 0) (dq jX11_letters_s2 34 rfl) rfl ?_
                                      refine rz_iconst G (v := 0) (dq jX11_letters_s2 35 rfl) rfl ?_
                                      refine rz_iconst G (v := 0) (dq jX11_letters_s2 36 rfl) rfl ?_
                                      refine rz_iconst G (v := 0) (dq jX11_letters_s2 37 rfl) rfl ?_
                                      refine rz_callSl G (st := []) (c_X11_spelled (cLn Γ) 110 111 116 0 0 0 0 0) lkX11_196 rfl (Nat.le_of_ble_eq_true rfl) (Nat.le_of_ble_eq_true rfl) (dq jX11_letters_s2 38 rfl) rfl (fun r37 => ?_)
                                      exact rz_lret G (dq jX11_letters_s2 39 rfl)
theorem z_X11_knownWord_b21 {Γ : Cx} (G : GG Γ RX11 cX11_knownWord 2 (some .int) 3 0 0) : ∀ (fu : Nat) (x1 : Int32), Rz Γ 2 (Qm Γ encI 0 0) 0 0 21 [(0, .ref 56), (1, .int x1)] [] (f_X11_knownWord_b21 fu x1) := by
  intro fu
  induction fu with
  | zero => intro _; exact rz_none
  | succ fu ih =>
    intro x1
    rw [f_X11_knownWord_b21]
    refine rz_iload_n G 1 rfl rfl (dq jX11_knownWord 12 rfl) ?_
    refine rz_bipush G (v := 19) (dq jX11_knownWord 13 rfl) (by decide) ?_
    refine rz_icmp_ge G (tgt := 47) rfl (dq jX11_knownWord 14 rfl) (fun c1 => ?_) (fun c1 => ?_)
    · refine rz_iconst G (v := (-1)) (dq jX11_knownWord 25 rfl) rfl ?_
      exact rz_iret G (dq jX11_knownWord 26 rfl)
    · refine rz_iload_n G 1 rfl rfl (dq jX11_knownWord 15 rfl) ?_
      refine rz_callSl G (st := []) (c_X11_letters (cLn Γ) x1) lkX11_200 rfl (Nat.le_of_ble_eq_true rfl) (Nat.le_of_ble_eq_true rfl) (dq jX11_knownWord 16 rfl) rfl (fun r2 => ?_)
      refine rz_aload_n G 0 rfl rfl (dq jX11_knownWord 17 rfl) ?_
      refine rz_getL G flX11_171 sh56 rfl (dq jX11_knownWord 18 rfl) (fun v3 => ?_)
      refine rz_lcmp G (dq jX11_knownWord 19 rfl) ?_
      refine rz_if_ne G (tgt := 41) rfl (dq jX11_knownWord 20 rfl) (fun c4 => ?_) (fun c4 => ?_)
      · refine rz_iload_n G 1 rfl rfl (dq jX11_knownWord 21 rfl) ?_
        exact rz_iret G (dq jX11_knownWord 22 rfl)
      · refine rz_iinc G 1 (v := x1 + 1) (lv' := [(1, .int (x1 + 1)), (0, .ref 56)]) rfl (congrArg (HAdd.hAdd _) (by decide)) (Nat.le_of_ble_eq_true rfl) rfl (dq jX11_knownWord 23 rfl) ?_
        refine rz_goto G (tgt := 21) rfl (dq jX11_knownWord 24 rfl) ?_
        exact rz_lv [1, 0] rfl (ih (x1 + 1))
theorem c_X11_knownWord (l : Launch)  : Ct l yX11_knownWord cX11_knownWord 2 (some .int) 3 encI [.ref 56] (f_X11_knownWord ) := by
  refine ct_of (own := RX11) (by decide) rfl (Nat.le_of_ble_eq_true rfl) (fun Γ hl G => ?_)
  show Rz Γ 2 (Qm Γ encI 0 0) 0 0 0 [(0, .ref 56)] [] _
  unfold f_X11_knownWord
  refine rz_aload_n G 0 rfl rfl (dq jX11_knownWord 0 rfl) ?_
  refine rz_getI G flX11_181 sh56 rfl (dq jX11_knownWord 1 rfl) (fun v1 => ?_)
  refine rz_iconst G (v := 1) (dq jX11_knownWord 2 rfl) rfl ?_
  refine rz_icmp_ne G (tgt := 17) rfl (dq jX11_knownWord 3 rfl) (fun c2 => ?_) (fun c2 => ?_)
  · refine rz_aload_n G 0 rfl rfl (dq jX11_knownWord 4 rfl) ?_
    refine rz_getI G flX11_191 sh56 rfl (dq jX11_knownWord 5 rfl) (fun v3 => ?_)
    refine rz_bipush G (v := 8) (dq jX11_knownWord 6 rfl) (by decide) ?_
    refine rz_icmp_le G (tgt := 19) rfl (dq jX11_knownWord 7 rfl) (fun c4 => ?_) (fun c4 => ?_)
    · refine rz_iconst G (v := 0) (dq jX11_knownWord 10 rfl) rfl ?_
      refine rz_istore_n G (lv' := [(1, .int 0), (0, .ref 56)]) rfl (Nat.le_of_ble_eq_true rfl) rfl (dq jX11_knownWord 11 rfl) ?_
      exact rz_lv [1, 0] rfl (z_X11_knownWord_b21 G FU 0)
    · refine rz_iconst G (v := (-1)) (dq jX11_knownWord 8 rfl) rfl ?_
      exact rz_iret G (dq jX11_knownWord 9 rfl)
  · refine rz_iconst G (v := (-1)) (dq jX11_knownWord 8 rfl) rfl ?_
    exact rz_iret G (dq jX11_knownWord 9 rfl)
theorem c_X11_wrong (l : Launch) (x1 : Int32) : Ct l yX11_wrong cX11_wrong 2 none 1 encV [.ref 56, .int x1] (f_X11_wrong x1) := by
  refine ct_of (own := RX11) (by decide) rfl (Nat.le_of_ble_eq_true rfl) (fun Γ hl G => ?_)
  show Rz Γ 2 (Qm Γ encV 0 0) 0 0 0 [(0, .ref 56), (1, .int x1)] [] _
  unfold f_X11_wrong
  refine rz_aload_n G 0 rfl rfl (dq jX11_wrong 0 rfl) ?_
  refine rz_getI G flX11_204 sh56 rfl (dq jX11_wrong 1 rfl) (fun v1 => ?_)
  refine rz_if_eq G (tgt := 8) rfl (dq jX11_wrong 2 rfl) (fun c2 => ?_) (fun c2 => ?_)
  · refine rz_aload_n G 0 rfl rfl (dq jX11_wrong 4 rfl) ?_
    refine rz_iload_n G 1 rfl rfl (dq jX11_wrong 5 rfl) ?_
    refine rz_putI G flX11_204 sh56 rfl (dq jX11_wrong 6 rfl) ?_
    refine rz_aload_n G 0 rfl rfl (dq jX11_wrong 7 rfl) ?_
    refine rz_aload_n G 0 rfl rfl (dq jX11_wrong 8 rfl) ?_
    refine rz_getI G flX11_168 sh56 rfl (dq jX11_wrong 9 rfl) (fun v3 => ?_)
    refine rz_putI G flX11_41 sh56 rfl (dq jX11_wrong 10 rfl) ?_
    exact rz_vret G (dq jX11_wrong 11 rfl)
  · exact rz_vret G (dq jX11_wrong 3 rfl)
theorem c_X11_isGood (l : Launch)  : Ct l yX11_isGood cX11_isGood 1 (some .boolean) 1 encI [.ref 56] (f_X11_isGood ) := by
  refine ct_of (own := RX11) (by decide) rfl (Nat.le_of_ble_eq_true rfl) (fun Γ hl G => ?_)
  show Rz Γ 1 (Qm Γ encI 0 0) 0 0 0 [(0, .ref 56)] [] _
  unfold f_X11_isGood
  refine rz_aload_n G 0 rfl rfl (dq jX11_isGood 0 rfl) ?_
  refine rz_getI G flX11_204 sh56 rfl (dq jX11_isGood 1 rfl) (fun v1 => ?_)
  refine rz_if_ne G (tgt := 11) rfl (dq jX11_isGood 2 rfl) (fun c2 => ?_) (fun c2 => ?_)
  · refine rz_iconst G (v := 1) (dq jX11_isGood 3 rfl) rfl ?_
    refine rz_goto G (tgt := 12) rfl (dq jX11_isGood 4 rfl) ?_
    exact rz_zret0 G (by decide) (dq jX11_isGood 6 rfl)
  · refine rz_iconst G (v := 0) (dq jX11_isGood 5 rfl) rfl ?_
    exact rz_zret0 G (by decide) (dq jX11_isGood 6 rfl)
theorem c_X11_isSign (l : Launch) (x1 : Int32) : Ct l yX11_isSign cX11_isSign 2 (some .boolean) 1 encI [.ref 56, .int x1] (f_X11_isSign x1) := by
  refine ct_of (own := RX11) (by decide) rfl (Nat.le_of_ble_eq_true rfl) (fun Γ hl G => ?_)
  show Rz Γ 2 (Qm Γ encI 0 0) 0 0 0 [(0, .ref 56), (1, .int x1)] [] _
  unfold f_X11_isSign
  refine rz_aload_n G 0 rfl rfl (dq jX11_isSign 0 rfl) ?_
  refine rz_getI G flX11_181 sh56 rfl (dq jX11_isSign 1 rfl) (fun v1 => ?_)
  refine rz_iconst G (v := 3) (dq jX11_isSign 2 rfl) rfl ?_
  refine rz_icmp_ne G (tgt := 20) rfl (dq jX11_isSign 3 rfl) (fun c2 => ?_) (fun c2 => ?_)
  · refine rz_aload_n G 0 rfl rfl (dq jX11_isSign 4 rfl) ?_
    refine rz_getI G flX11_178 sh56 rfl (dq jX11_isSign 5 rfl) (fun v3 => ?_)
    refine rz_iload_n G 1 rfl rfl (dq jX11_isSign 6 rfl) ?_
    refine rz_icmp_ne G (tgt := 20) rfl (dq jX11_isSign 7 rfl) (fun c4 => ?_) (fun c4 => ?_)
    · refine rz_iconst G (v := 1) (dq jX11_isSign 8 rfl) rfl ?_
      refine rz_goto G (tgt := 21) rfl (dq jX11_isSign 9 rfl) ?_
      exact rz_zret0 G (by decide) (dq jX11_isSign 11 rfl)
    · refine rz_iconst G (v := 0) (dq jX11_isSign 10 rfl) rfl ?_
      exact rz_zret0 G (by decide) (dq jX11_isSign 11 rfl)
  · refine rz_iconst G (v := 0) (dq jX11_isSign 10 rfl) rfl ?_
    exact rz_zret0 G (by decide) (dq jX11_isSign 11 rfl)
theorem c_X11_need (l : Launch) (x1 : Int32) : Ct l yX11_need cX11_need 2 none 3 encV [.ref 56, .int x1] (f_X11_need x1) := by
  refine ct_of (own := RX11) (by decide) rfl (Nat.le_of_ble_eq_true rfl) (fun Γ hl G => ?_)
  show Rz Γ 2 (Qm Γ encV 0 0) 0 0 0 [(0, .ref 56), (1, .int x1)] [] _
  unfold f_X11_need
  refine rz_aload_n G 0 rfl rfl (dq jX11_need 0 rfl) ?_
  refine rz_callVi G (st := []) (c_X11_isGood (cLn Γ)) lkX11_207 sh56 rfl rfl rfl (Nat.le_of_ble_eq_true rfl) (Nat.le_of_ble_eq_true rfl) (dq jX11_need 1 rfl) rfl (fun r1 => ?_)
  refine rz_if_ne G (tgt := 8) rfl (dq jX11_need 2 rfl) (fun c2 => ?_) (fun c2 => ?_)
  · exact rz_vret G (dq jX11_need 3 rfl)
  · refine rz_iload_n G 1 rfl rfl (dq jX11_need 4 rfl) ?_
    refine rz_if_eq G (tgt := 19) rfl (dq jX11_need 5 rfl) (fun c3 => ?_) (fun c3 => ?_)
    · refine rz_aload_n G 0 rfl rfl (dq jX11_need 9 rfl) ?_
      refine rz_iconst G (v := 1) (dq jX11_need 10 rfl) rfl ?_
      refine rz_callVv G (st := []) (c_X11_wrong (cLn Γ) 1) lkX11_214 sh56 rfl rfl rfl (Nat.le_of_ble_eq_true rfl) (Nat.le_of_ble_eq_true rfl) (dq jX11_need 11 rfl) rfl (fun _ => ?_)
      exact rz_vret G (dq jX11_need 12 rfl)
    · refine rz_aload_n G 0 rfl rfl (dq jX11_need 6 rfl) ?_
      refine rz_callVv G (st := []) (c_X11_goes (cLn Γ)) lkX11_211 sh56 rfl rfl rfl (Nat.le_of_ble_eq_true rfl) (Nat.le_of_ble_eq_true rfl) (dq jX11_need 7 rfl) rfl (fun _ => ?_)
      refine rz_goto G (tgt := 24) rfl (dq jX11_need 8 rfl) ?_
      exact rz_vret G (dq jX11_need 12 rfl)
theorem z_X11_number_b54 {Γ : Cx} (G : GG Γ RX11 cX11_number 4 (some .int) 3 0 0)  : Rz Γ 4 (Qm Γ encI 0 0) 0 0 54 [(0, .ref 56)] [] (f_X11_number_b54 ) := by
  unfold f_X11_number_b54
  refine rz_aload_n G 0 rfl rfl (dq jX11_number 28 rfl) ?_
  refine rz_getI G flX11_175 sh56 rfl (dq jX11_number 29 rfl) (fun v1 => ?_)
  refine rz_istore_n G (lv' := [(3, .int v1), (0, .ref 56)]) rfl (Nat.le_of_ble_eq_true rfl) rfl (dq jX11_number 30 rfl) ?_
  refine rz_aload_n G 1 rfl rfl (dq jX11_number 31 rfl) ?_
  refine rz_callVi G (st := []) (c_X11_isGood (cLn Γ)) lkX11_207 sh56 rfl rfl rfl (Nat.le_of_ble_eq_true rfl) (Nat.le_of_ble_eq_true rfl) (dq jX11_number 32 rfl) rfl (fun r2 => ?_)
  refine rz_if_eq G (tgt := 70) rfl (dq jX11_number 33 rfl) (fun c3 => ?_) (fun c3 => ?_)
  · refine rz_iload_n G 0 rfl rfl (dq jX11_number 36 rfl) ?_
    exact rz_iret G (dq jX11_number 37 rfl)
  · refine rz_aload_n G 1 rfl rfl (dq jX11_number 34 rfl) ?_
    refine rz_callVv G (st := []) (c_X11_goes (cLn Γ)) lkX11_211 sh56 rfl rfl rfl (Nat.le_of_ble_eq_true rfl) (Nat.le_of_ble_eq_true rfl) (dq jX11_number 35 rfl) rfl (fun _ => ?_)
    refine rz_iload_n G 0 rfl rfl (dq jX11_number 36 rfl) ?_
    exact rz_iret G (dq jX11_number 37 rfl)
theorem z_X11_number_b49 {Γ : Cx} (G : GG Γ RX11 cX11_number 4 (some .int) 3 0 0)  : Rz Γ 4 (Qm Γ encI 0 0) 0 0 49 [(0, .ref 56)] [] (f_X11_number_b49 ) := by
  unfold f_X11_number_b49
  refine rz_aload_n G 0 rfl rfl (dq jX11_number 25 rfl) ?_
  refine rz_iconst G (v := 2) (dq jX11_number 26 rfl) rfl ?_
  refine rz_callVv G (st := []) (c_X11_wrong (cLn Γ) 2) lkX11_214 sh56 rfl rfl rfl (Nat.le_of_ble_eq_true rfl) (Nat.le_of_ble_eq_true rfl) (dq jX11_number 27 rfl) rfl (fun _ => ?_)
  exact rz_lv [0] rfl (z_X11_number_b54 G)
theorem c_X11_number (l : Launch) (x1 : Int32) (x2 : Int32) : Ct l yX11_number cX11_number 4 (some .int) 3 encI [.ref 56, .int x1, .int x2] (f_X11_number x1 x2) := by
  refine ct_of (own := RX11) (by decide) rfl (Nat.le_of_ble_eq_true rfl) (fun Γ hl G => ?_)
  show Rz Γ 4 (Qm Γ encI 0 0) 0 0 0 [(0, .ref 56), (1, .int x1), (2, .int x2)] [] _
  unfold f_X11_number
  refine rz_aload_n G 0 rfl rfl (dq jX11_number 0 rfl) ?_
  refine rz_callVi G (st := []) (c_X11_isGood (cLn Γ)) lkX11_207 sh56 rfl rfl rfl (Nat.le_of_ble_eq_true rfl) (Nat.le_of_ble_eq_true rfl) (dq jX11_number 1 rfl) rfl (fun r1 => ?_)
  refine rz_if_ne G (tgt := 9) rfl (dq jX11_number 2 rfl) (fun c2 => ?_) (fun c2 => ?_)
  · refine rz_iconst G (v := 0) (dq jX11_number 3 rfl) rfl ?_
    exact rz_iret G (dq jX11_number 4 rfl)
  · refine rz_aload_n G 0 rfl rfl (dq jX11_number 5 rfl) ?_
    refine rz_getI G flX11_181 sh56 rfl (dq jX11_number 6 rfl) (fun v3 => ?_)
    refine rz_iconst G (v := 2) (dq jX11_number 7 rfl) rfl ?_
    refine rz_icmp_eq G (tgt := 25) rfl (dq jX11_number 8 rfl) (fun c4 => ?_) (fun c4 => ?_)
    · refine rz_aload_n G 0 rfl rfl (dq jX11_number 13 rfl) ?_
      refine rz_getI G flX11_191 sh56 rfl (dq jX11_number 14 rfl) (fun v5 => ?_)
      refine rz_iconst G (v := 4) (dq jX11_number 15 rfl) rfl ?_
      refine rz_icmp_gt G (tgt := 49) rfl (dq jX11_number 16 rfl) (fun c6 => ?_) (fun c6 => ?_)
      · exact rz_lv [0] rfl (z_X11_number_b49 G)
      · refine rz_aload_n G 0 rfl rfl (dq jX11_number 17 rfl) ?_
        refine rz_getI G flX11_175 sh56 rfl (dq jX11_number 18 rfl) (fun v7 => ?_)
        refine rz_iload_n G 1 rfl rfl (dq jX11_number 19 rfl) ?_
        refine rz_icmp_lt G (tgt := 49) rfl (dq jX11_number 20 rfl) (fun c8 => ?_) (fun c8 => ?_)
        · exact rz_lv [0] rfl (z_X11_number_b49 G)
        · refine rz_aload_n G 0 rfl rfl (dq jX11_number 21 rfl) ?_
          refine rz_getI G flX11_175 sh56 rfl (dq jX11_number 22 rfl) (fun v9 => ?_)
          refine rz_iload_n G 2 rfl rfl (dq jX11_number 23 rfl) ?_
          refine rz_icmp_le G (tgt := 54) rfl (dq jX11_number 24 rfl) (fun c10 => ?_) (fun c10 => ?_)
          · exact rz_lv [0] rfl (z_X11_number_b54 G)
          · exact rz_lv [0] rfl (z_X11_number_b49 G)
    · refine rz_aload_n G 0 rfl rfl (dq jX11_number 9 rfl) ?_
      refine rz_iconst G (v := 1) (dq jX11_number 10 rfl) rfl ?_
      refine rz_callVv G (st := []) (c_X11_wrong (cLn Γ) 1) lkX11_214 sh56 rfl rfl rfl (Nat.le_of_ble_eq_true rfl) (Nat.le_of_ble_eq_true rfl) (dq jX11_number 11 rfl) rfl (fun _ => ?_)
      refine rz_goto G (tgt := 54) rfl (dq jX11_number 12 rfl) ?_
      exact rz_lv [0] rfl (z_X11_number_b54 G)
theorem z_X11_signed_b30 {Γ : Cx} (G : GG Γ RX11 cX11_signed 4 (some .int) 4 0 0) (x1 : Int32) (x2 : Int32) : Rz Γ 4 (Qm Γ encI 0 0) 0 0 30 [(0, .ref 56), (1, .int x1), (2, .int x2)] [] (f_X11_signed_b30 x1 x2) := by
  unfold f_X11_signed_b30
  refine rz_aload_n G 0 rfl rfl (dq jX11_signed 15 rfl) ?_
  refine rz_iconst G (v := 0) (dq jX11_signed 16 rfl) rfl ?_
  refine rz_iload_n G 1 rfl rfl (dq jX11_signed 17 rfl) ?_
  refine rz_callVi G (st := []) (c_X11_number (cLn Γ) 0 x1) lkX11_220 sh56 rfl rfl rfl (Nat.le_of_ble_eq_true rfl) (Nat.le_of_ble_eq_true rfl) (dq jX11_signed 18 rfl) rfl (fun r1 => ?_)
  refine rz_istore_n G (lv' := [(3, .int r1), (0, .ref 56), (1, .int x1), (2, .int x2)]) rfl (Nat.le_of_ble_eq_true rfl) rfl (dq jX11_signed 19 rfl) ?_
  refine rz_iload_n G 3 rfl rfl (dq jX11_signed 20 rfl) ?_
  refine rz_if_eq G (tgt := 47) rfl (dq jX11_signed 21 rfl) (fun c2 => ?_) (fun c2 => ?_)
  · refine rz_iload_n G 0 rfl rfl (dq jX11_signed 26 rfl) ?_
    exact rz_iret G (dq jX11_signed 27 rfl)
  · refine rz_iconst G (v := 0) (dq jX11_signed 22 rfl) rfl ?_
    refine rz_iload_n G 0 rfl rfl (dq jX11_signed 23 rfl) ?_
    refine rz_isub G (dq jX11_signed 24 rfl) ?_
    refine rz_goto G (tgt := 48) rfl (dq jX11_signed 25 rfl) ?_
    exact rz_iret G (dq jX11_signed 27 rfl)
theorem z_X11_signed_b21 {Γ : Cx} (G : GG Γ RX11 cX11_signed 4 (some .int) 4 0 0) (x1 : Int32) (xs0 : Int32) : Rz Γ 4 (Qm Γ encI 0 0) 0 0 21 [(0, .ref 56), (1, .int x1)] [.int xs0] (f_X11_signed_b21 x1 xs0) := by
  unfold f_X11_signed_b21
  refine rz_istore_n G (lv' := [(2, .int xs0), (0, .ref 56), (1, .int x1)]) rfl (Nat.le_of_ble_eq_true rfl) rfl (dq jX11_signed 10 rfl) ?_
  refine rz_iload_n G 0 rfl rfl (dq jX11_signed 11 rfl) ?_
  refine rz_if_eq G (tgt := 30) rfl (dq jX11_signed 12 rfl) (fun c1 => ?_) (fun c1 => ?_)
  · exact rz_lv [1, 2, 0] rfl (z_X11_signed_b30 G x1 xs0)
  · refine rz_aload_n G 1 rfl rfl (dq jX11_signed 13 rfl) ?_
    refine rz_callVv G (st := []) (c_X11_goes (cLn Γ)) lkX11_211 sh56 rfl rfl rfl (Nat.le_of_ble_eq_true rfl) (Nat.le_of_ble_eq_true rfl) (dq jX11_signed 14 rfl) rfl (fun _ => ?_)
    exact rz_lv [1, 2, 0] rfl (z_X11_signed_b30 G x1 xs0)
theorem z_X11_signed_b20 {Γ : Cx} (G : GG Γ RX11 cX11_signed 4 (some .int) 4 0 0) (x1 : Int32) : Rz Γ 4 (Qm Γ encI 0 0) 0 0 20 [(0, .ref 56), (1, .int x1)] [] (f_X11_signed_b20 x1) := by
  unfold f_X11_signed_b20
  refine rz_iconst G (v := 0) (dq jX11_signed 9 rfl) rfl ?_
  exact rz_lv [0, 1] rfl (z_X11_signed_b21 G x1 0)
theorem c_X11_signed (l : Launch) (x1 : Int32) : Ct l yX11_signed cX11_signed 4 (some .int) 4 encI [.ref 56, .int x1] (f_X11_signed x1) := by
  refine ct_of (own := RX11) (by decide) rfl (Nat.le_of_ble_eq_true rfl) (fun Γ hl G => ?_)
  show Rz Γ 4 (Qm Γ encI 0 0) 0 0 0 [(0, .ref 56), (1, .int x1)] [] _
  unfold f_X11_signed
  refine rz_aload_n G 0 rfl rfl (dq jX11_signed 0 rfl) ?_
  refine rz_callVi G (st := []) (c_X11_isGood (cLn Γ)) lkX11_207 sh56 rfl rfl rfl (Nat.le_of_ble_eq_true rfl) (Nat.le_of_ble_eq_true rfl) (dq jX11_signed 1 rfl) rfl (fun r1 => ?_)
  refine rz_if_eq G (tgt := 20) rfl (dq jX11_signed 2 rfl) (fun c2 => ?_) (fun c2 => ?_)
  · exact rz_lv [0, 1] rfl (z_X11_signed_b20 G x1)
  · refine rz_aload_n G 0 rfl rfl (dq jX11_signed 3 rfl) ?_
    refine rz_bipush G (v := 45) (dq jX11_signed 4 rfl) (by decide) ?_
    refine rz_callVi G (st := []) (c_X11_isSign (cLn Γ) 45) lkX11_217 sh56 rfl rfl rfl (Nat.le_of_ble_eq_true rfl) (Nat.le_of_ble_eq_true rfl) (dq jX11_signed 5 rfl) rfl (fun r3 => ?_)
    refine rz_if_eq G (tgt := 20) rfl (dq jX11_signed 6 rfl) (fun c4 => ?_) (fun c4 => ?_)
    · exact rz_lv [0, 1] rfl (z_X11_signed_b20 G x1)
    · refine rz_iconst G (v := 1) (dq jX11_signed 7 rfl) rfl ?_
      refine rz_goto G (tgt := 21) rfl (dq jX11_signed 8 rfl) ?_
      exact rz_lv [0, 1] rfl (z_X11_signed_b21 G x1 1)
theorem c_X11_puts (l : Launch) (x1 : Int32) : Ct l yX11_puts cX11_puts 2 none 1 encV [.ref 56, .int x1] (f_X11_puts x1) := by
  refine ct_of (own := RX11) (by decide) rfl (Nat.le_of_ble_eq_true rfl) (fun Γ hl G => ?_)
  show Rz Γ 2 (Qm Γ encV 0 0) 0 0 0 [(0, .ref 56), (1, .int x1)] [] _
  unfold f_X11_puts
  refine rz_aload_n G 0 rfl rfl (dq jX11_puts 0 rfl) ?_
  refine rz_getC G flX11_59 sh56 (t := 68) rfl rfl (dq jX11_puts 1 rfl) ?_
  refine rz_aload_n G 0 rfl rfl (dq jX11_puts 2 rfl) ?_
  refine rz_getI G flX11_224 sh56 rfl (dq jX11_puts 3 rfl) (fun v1 => ?_)
  refine rz_iload_n G 1 rfl rfl (dq jX11_puts 4 rfl) ?_
  refine rz_iast G sh68 (dq jX11_puts 5 rfl) ?_
  refine rz_aload_n G 0 rfl rfl (dq jX11_puts 6 rfl) ?_
  refine rz_dup G rfl (dq jX11_puts 7 rfl) ?_
  refine rz_getI G flX11_224 sh56 rfl (dq jX11_puts 8 rfl) (fun v2 => ?_)
  refine rz_iconst G (v := 1) (dq jX11_puts 9 rfl) rfl ?_
  refine rz_iadd G (dq jX11_puts 10 rfl) ?_
  refine rz_putI G flX11_224 sh56 rfl (dq jX11_puts 11 rfl) ?_
  exact rz_vret G (dq jX11_puts 12 rfl)
theorem c_X11_isOpen (l : Launch) (x0 : Int32) : Ct l yX11_isOpen cX11_isOpen 1 (some .boolean) 1 encI [.int x0] (f_X11_isOpen x0) := by
  refine ct_of (own := RX11) (by decide) rfl (Nat.le_of_ble_eq_true rfl) (fun Γ hl G => ?_)
  show Rz Γ 1 (Qm Γ encI 0 0) 0 0 0 [(0, .int x0)] [] _
  unfold f_X11_isOpen
  refine rz_iload_n G 0 rfl rfl (dq jX11_isOpen 0 rfl) ?_
  refine rz_bipush G (v := 14) (dq jX11_isOpen 1 rfl) (by decide) ?_
  refine rz_icmp_lt G (tgt := 10) rfl (dq jX11_isOpen 2 rfl) (fun c1 => ?_) (fun c1 => ?_)
  · refine rz_iconst G (v := 0) (dq jX11_isOpen 5 rfl) rfl ?_
    exact rz_zret0 G (by decide) (dq jX11_isOpen 6 rfl)
  · refine rz_iconst G (v := 1) (dq jX11_isOpen 3 rfl) rfl ?_
    refine rz_goto G (tgt := 11) rfl (dq jX11_isOpen 4 rfl) ?_
    exact rz_zret0 G (by decide) (dq jX11_isOpen 6 rfl)
theorem z_X11_strength_b39 {Γ : Cx} (G : GG Γ RX11 cX11_strength 1 (some .int) 1 0 0)  : Rz Γ 1 (Qm Γ encI 0 0) 0 0 39 [] [] (f_X11_strength_b39 ) := by
  unfold f_X11_strength_b39
  refine rz_iconst G (v := 4) (dq jX11_strength 21 rfl) rfl ?_
  refine rz_goto G (tgt := 61) rfl (dq jX11_strength 22 rfl) ?_
  exact rz_iret G (dq jX11_strength 32 rfl)
theorem z_X11_strength_b55 {Γ : Cx} (G : GG Γ RX11 cX11_strength 1 (some .int) 1 0 0)  : Rz Γ 1 (Qm Γ encI 0 0) 0 0 55 [] [] (f_X11_strength_b55 ) := by
  unfold f_X11_strength_b55
  refine rz_iconst G (v := 5) (dq jX11_strength 29 rfl) rfl ?_
  refine rz_goto G (tgt := 61) rfl (dq jX11_strength 30 rfl) ?_
  exact rz_iret G (dq jX11_strength 32 rfl)
theorem c_X11_strength (l : Launch) (x0 : Int32) : Ct l yX11_strength cX11_strength 1 (some .int) 1 encI [.int x0] (f_X11_strength x0) := by
  refine ct_of (own := RX11) (by decide) rfl (Nat.le_of_ble_eq_true rfl) (fun Γ hl G => ?_)
  show Rz Γ 1 (Qm Γ encI 0 0) 0 0 0 [(0, .int x0)] [] _
  unfold f_X11_strength
  refine rz_iload_n G 0 rfl rfl (dq jX11_strength 0 rfl) ?_
  refine rz_iconst G (v := 5) (dq jX11_strength 1 rfl) rfl ?_
  refine rz_icmp_ne G (tgt := 9) rfl (dq jX11_strength 2 rfl) (fun c1 => ?_) (fun c1 => ?_)
  · refine rz_iconst G (v := 1) (dq jX11_strength 3 rfl) rfl ?_
    refine rz_goto G (tgt := 61) rfl (dq jX11_strength 4 rfl) ?_
    exact rz_iret G (dq jX11_strength 32 rfl)
  · refine rz_iload_n G 0 rfl rfl (dq jX11_strength 5 rfl) ?_
    refine rz_iconst G (v := 4) (dq jX11_strength 6 rfl) rfl ?_
    refine rz_icmp_ne G (tgt := 18) rfl (dq jX11_strength 7 rfl) (fun c2 => ?_) (fun c2 => ?_)
    · refine rz_iconst G (v := 2) (dq jX11_strength 8 rfl) rfl ?_
      refine rz_goto G (tgt := 61) rfl (dq jX11_strength 9 rfl) ?_
      exact rz_iret G (dq jX11_strength 32 rfl)
    · refine rz_iload_n G 0 rfl rfl (dq jX11_strength 10 rfl) ?_
      refine rz_iconst G (v := 3) (dq jX11_strength 11 rfl) rfl ?_
      refine rz_icmp_ne G (tgt := 27) rfl (dq jX11_strength 12 rfl) (fun c3 => ?_) (fun c3 => ?_)
      · refine rz_iconst G (v := 3) (dq jX11_strength 13 rfl) rfl ?_
        refine rz_goto G (tgt := 61) rfl (dq jX11_strength 14 rfl) ?_
        exact rz_iret G (dq jX11_strength 32 rfl)
      · refine rz_iload_n G 0 rfl rfl (dq jX11_strength 15 rfl) ?_
        refine rz_bipush G (v := 6) (dq jX11_strength 16 rfl) (by decide) ?_
        refine rz_icmp_eq G (tgt := 39) rfl (dq jX11_strength 17 rfl) (fun c4 => ?_) (fun c4 => ?_)
        · exact rz_lv [] rfl (z_X11_strength_b39 G)
        · refine rz_iload_n G 0 rfl rfl (dq jX11_strength 18 rfl) ?_
          refine rz_bipush G (v := 7) (dq jX11_strength 19 rfl) (by decide) ?_
          refine rz_icmp_ne G (tgt := 43) rfl (dq jX11_strength 20 rfl) (fun c5 => ?_) (fun c5 => ?_)
          · exact rz_lv [] rfl (z_X11_strength_b39 G)
          · refine rz_iload_n G 0 rfl rfl (dq jX11_strength 23 rfl) ?_
            refine rz_bipush G (v := 8) (dq jX11_strength 24 rfl) (by decide) ?_
            refine rz_icmp_eq G (tgt := 55) rfl (dq jX11_strength 25 rfl) (fun c6 => ?_) (fun c6 => ?_)
            · exact rz_lv [] rfl (z_X11_strength_b55 G)
            · refine rz_iload_n G 0 rfl rfl (dq jX11_strength 26 rfl) ?_
              refine rz_bipush G (v := 9) (dq jX11_strength 27 rfl) (by decide) ?_
              refine rz_icmp_ne G (tgt := 59) rfl (dq jX11_strength 28 rfl) (fun c7 => ?_) (fun c7 => ?_)
              · exact rz_lv [] rfl (z_X11_strength_b55 G)
              · refine rz_bipush G (v := 6) (dq jX11_strength 31 rfl) (by decide) ?_
                exact rz_iret G (dq jX11_strength 32 rfl)
theorem z_X11_drops_b0 {Γ : Cx} (G : GG Γ RX11 cX11_drops 2 none 2 0 0) : ∀ (fu : Nat) (x1 : Int32), Rz Γ 2 (Qm Γ encV 0 0) 0 0 0 [(0, .ref 56), (1, .int x1)] [] (f_X11_drops_b0 fu x1) := by
  intro fu
  induction fu with
  | zero => intro _; exact rz_none
  | succ fu ih =>
    intro x1
    rw [f_X11_drops_b0]
    refine rz_aload_n G 0 rfl rfl (dq jX11_drops 0 rfl) ?_
    refine rz_getI G flX11_227 sh56 rfl (dq jX11_drops 1 rfl) (fun v1 => ?_)
    refine rz_if_le G (tgt := 68) rfl (dq jX11_drops 2 rfl) (fun c2 => ?_) (fun c2 => ?_)
    · exact rz_vret G (dq jX11_drops 36 rfl)
    · refine rz_aload_n G 0 rfl rfl (dq jX11_drops 3 rfl) ?_
      refine rz_getC G flX11_62 sh56 (t := 69) rfl rfl (dq jX11_drops 4 rfl) ?_
      refine rz_aload_n G 0 rfl rfl (dq jX11_drops 5 rfl) ?_
      refine rz_getI G flX11_227 sh56 rfl (dq jX11_drops 6 rfl) (fun v3 => ?_)
      refine rz_iconst G (v := 1) (dq jX11_drops 7 rfl) rfl ?_
      refine rz_isub G (dq jX11_drops 8 rfl) ?_
      refine rz_iald G sh69 (dq jX11_drops 9 rfl) (fun v4 => ?_)
      refine rz_callSi G (st := []) (c_X11_isOpen (cLn Γ) v4) lkX11_230 rfl (Nat.le_of_ble_eq_true rfl) (Nat.le_of_ble_eq_true rfl) (dq jX11_drops 10 rfl) rfl (fun r5 => ?_)
      refine rz_if_ne G (tgt := 68) rfl (dq jX11_drops 11 rfl) (fun c6 => ?_) (fun c6 => ?_)
      · refine rz_aload_n G 0 rfl rfl (dq jX11_drops 12 rfl) ?_
        refine rz_getC G flX11_62 sh56 (t := 69) rfl rfl (dq jX11_drops 13 rfl) ?_
        refine rz_aload_n G 0 rfl rfl (dq jX11_drops 14 rfl) ?_
        refine rz_getI G flX11_227 sh56 rfl (dq jX11_drops 15 rfl) (fun v7 => ?_)
        refine rz_iconst G (v := 1) (dq jX11_drops 16 rfl) rfl ?_
        refine rz_isub G (dq jX11_drops 17 rfl) ?_
        refine rz_iald G sh69 (dq jX11_drops 18 rfl) (fun v8 => ?_)
        refine rz_callSi G (st := []) (c_X11_strength (cLn Γ) v8) lkX11_233 rfl (Nat.le_of_ble_eq_true rfl) (Nat.le_of_ble_eq_true rfl) (dq jX11_drops 19 rfl) rfl (fun r9 => ?_)
        refine rz_iload_n G 1 rfl rfl (dq jX11_drops 20 rfl) ?_
        refine rz_icmp_lt G (tgt := 68) rfl (dq jX11_drops 21 rfl) (fun c10 => ?_) (fun c10 => ?_)
        · exact rz_vret G (dq jX11_drops 36 rfl)
        · refine rz_aload_n G 0 rfl rfl (dq jX11_drops 22 rfl) ?_
          refine rz_dup G rfl (dq jX11_drops 23 rfl) ?_
          refine rz_getI G flX11_227 sh56 rfl (dq jX11_drops 24 rfl) (fun v11 => ?_)
          refine rz_iconst G (v := 1) (dq jX11_drops 25 rfl) rfl ?_
          refine rz_isub G (dq jX11_drops 26 rfl) ?_
          refine rz_putI G flX11_227 sh56 rfl (dq jX11_drops 27 rfl) ?_
          refine rz_aload_n G 0 rfl rfl (dq jX11_drops 28 rfl) ?_
          refine rz_aload_n G 0 rfl rfl (dq jX11_drops 29 rfl) ?_
          refine rz_getC G flX11_62 sh56 (t := 69) rfl rfl (dq jX11_drops 30 rfl) ?_
          refine rz_aload_n G 0 rfl rfl (dq jX11_drops 31 rfl) ?_
          refine rz_getI G flX11_227 sh56 rfl (dq jX11_drops 32 rfl) (fun v12 => ?_)
          refine rz_iald G sh69 (dq jX11_drops 33 rfl) (fun v13 => ?_)
          refine rz_callVv G (st := []) (c_X11_puts (cLn Γ) v13) lkX11_236 sh56 rfl rfl rfl (Nat.le_of_ble_eq_true rfl) (Nat.le_of_ble_eq_true rfl) (dq jX11_drops 34 rfl) rfl (fun _ => ?_)
          refine rz_goto G (tgt := 0) rfl (dq jX11_drops 35 rfl) ?_
          exact rz_lv [0, 1] rfl (ih x1)
      · exact rz_vret G (dq jX11_drops 36 rfl)
theorem c_X11_drops (l : Launch) (x1 : Int32) : Ct l yX11_drops cX11_drops 2 none 2 encV [.ref 56, .int x1] (f_X11_drops x1) := by
  refine ct_of (own := RX11) (by decide) rfl (Nat.le_of_ble_eq_true rfl) (fun Γ hl G => ?_)
  show Rz Γ 2 (Qm Γ encV 0 0) 0 0 0 [(0, .ref 56), (1, .int x1)] [] _
  unfold f_X11_drops
  exact rz_lv [0, 1] rfl (z_X11_drops_b0 G FU x1)
theorem c_X11_waitsFor (l : Launch) (x1 : Int32) : Ct l yX11_waitsFor cX11_waitsFor 2 none 1 encV [.ref 56, .int x1] (f_X11_waitsFor x1) := by
  refine ct_of (own := RX11) (by decide) rfl (Nat.le_of_ble_eq_true rfl) (fun Γ hl G => ?_)
  show Rz Γ 2 (Qm Γ encV 0 0) 0 0 0 [(0, .ref 56), (1, .int x1)] [] _
  unfold f_X11_waitsFor
  refine rz_aload_n G 0 rfl rfl (dq jX11_waitsFor 0 rfl) ?_
  refine rz_getC G flX11_62 sh56 (t := 69) rfl rfl (dq jX11_waitsFor 1 rfl) ?_
  refine rz_aload_n G 0 rfl rfl (dq jX11_waitsFor 2 rfl) ?_
  refine rz_getI G flX11_227 sh56 rfl (dq jX11_waitsFor 3 rfl) (fun v1 => ?_)
  refine rz_iload_n G 1 rfl rfl (dq jX11_waitsFor 4 rfl) ?_
  refine rz_iast G sh69 (dq jX11_waitsFor 5 rfl) ?_
  refine rz_aload_n G 0 rfl rfl (dq jX11_waitsFor 6 rfl) ?_
  refine rz_dup G rfl (dq jX11_waitsFor 7 rfl) ?_
  refine rz_getI G flX11_227 sh56 rfl (dq jX11_waitsFor 8 rfl) (fun v2 => ?_)
  refine rz_iconst G (v := 1) (dq jX11_waitsFor 9 rfl) rfl ?_
  refine rz_iadd G (dq jX11_waitsFor 10 rfl) ?_
  refine rz_putI G flX11_227 sh56 rfl (dq jX11_waitsFor 11 rfl) ?_
  exact rz_vret G (dq jX11_waitsFor 12 rfl)
