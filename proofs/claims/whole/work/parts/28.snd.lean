theorem z_X11_without_b32 {Γ : Cx} (G : GG Γ RX11 cX11_without 4 (some .int) 6 0 0) (x1 : Int32) (x2 : Int32) (xs0 : Int32) : Rz Γ 4 (Qm Γ encI 0 0) 0 0 32 [(0, .ref 56), (1, .int x1), (2, .int x2)] [.int xs0, .ref 56] (f_X11_without_b32 x1 x2 xs0) := by
  unfold f_X11_without_b32
  refine rz_iconst G (v := 2) (dq jX11_without 18 rfl) rfl ?_
  refine rz_callVi G (st := []) (c_X11_right (cLn Γ) xs0 2) lkX11_313 sh56 rfl rfl rfl (Nat.le_of_ble_eq_true rfl) (Nat.le_of_ble_eq_true rfl) (dq jX11_without 19 rfl) rfl (fun r1 => ?_)
  refine rz_if_ne G (tgt := 41) rfl (dq jX11_without 20 rfl) (fun c2 => ?_) (fun c2 => ?_)
  · refine rz_iconst G (v := 0) (dq jX11_without 21 rfl) rfl ?_
    exact rz_iret G (dq jX11_without 22 rfl)
  · refine rz_aload_n G 0 rfl rfl (dq jX11_without 23 rfl) ?_
    refine rz_callVv G (st := []) (c_X11_runsAll (cLn Γ)) lkX11_440 sh56 rfl rfl rfl (Nat.le_of_ble_eq_true rfl) (Nat.le_of_ble_eq_true rfl) (dq jX11_without 24 rfl) rfl (fun _ => ?_)
    refine rz_aload_n G 0 rfl rfl (dq jX11_without 25 rfl) ?_
    refine rz_getC G flX11_99 sh56 (t := 79) rfl rfl (dq jX11_without 26 rfl) ?_
    refine rz_iload_n G 1 rfl rfl (dq jX11_without 27 rfl) ?_
    refine rz_iald G sh79 (dq jX11_without 28 rfl) (fun v3 => ?_)
    refine rz_istore_n G (lv' := [(3, .int v3), (0, .ref 56), (1, .int x1), (2, .int x2)]) rfl (Nat.le_of_ble_eq_true rfl) rfl (dq jX11_without 29 rfl) ?_
    refine rz_aload_n G 1 rfl rfl (dq jX11_without 30 rfl) ?_
    refine rz_aload_n G 1 rfl rfl (dq jX11_without 31 rfl) ?_
    refine rz_callVi G (st := [.ref 56]) (c_X11_all (cLn Γ)) lkX11_434 sh56 rfl rfl rfl (Nat.le_of_ble_eq_true rfl) (Nat.le_of_ble_eq_true rfl) (dq jX11_without 32 rfl) rfl (fun r4 => ?_)
    refine rz_iconst G (v := 1) (dq jX11_without 33 rfl) rfl ?_
    refine rz_iload_n G 3 rfl rfl (dq jX11_without 34 rfl) ?_
    refine rz_ishl G (dq jX11_without 35 rfl) ?_
    refine rz_iconst G (v := (-1)) (dq jX11_without 36 rfl) rfl ?_
    refine rz_ixor G (dq jX11_without 37 rfl) ?_
    refine rz_iand G (dq jX11_without 38 rfl) ?_
    refine rz_callVv G (st := []) (c_X11_runs (cLn Γ) (r4 &&& (((1 : Int32) <<< (x2 &&& 31)) ^^^ ((-1))))) lkX11_437 sh56 rfl rfl rfl (Nat.le_of_ble_eq_true rfl) (Nat.le_of_ble_eq_true rfl) (dq jX11_without 39 rfl) rfl (fun _ => ?_)
    refine rz_aload_n G 1 rfl rfl (dq jX11_without 40 rfl) ?_
    refine rz_getC G flX11_99 sh56 (t := 79) rfl rfl (dq jX11_without 41 rfl) ?_
    refine rz_iload_n G 2 rfl rfl (dq jX11_without 42 rfl) ?_
    refine rz_iald G sh79 (dq jX11_without 43 rfl) (fun v5 => ?_)
    refine rz_iload_n G 0 rfl rfl (dq jX11_without 44 rfl) ?_
    refine rz_isub G (dq jX11_without 45 rfl) ?_
    exact rz_iret G (dq jX11_without 46 rfl)
theorem c_X11_without (l : Launch) (x1 : Int32) (x2 : Int32) : Ct l yX11_without cX11_without 4 (some .int) 6 encI [.ref 56, .int x1, .int x2] (f_X11_without x1 x2) := by
  refine ct_of (own := RX11) (by decide) rfl (Nat.le_of_ble_eq_true rfl) (fun Γ hl G => ?_)
  show Rz Γ 4 (Qm Γ encI 0 0) 0 0 0 [(0, .ref 56), (1, .int x1), (2, .int x2)] [] _
  unfold f_X11_without
  refine rz_aload_n G 0 rfl rfl (dq jX11_without 0 rfl) ?_
  refine rz_iconst G (v := 0) (dq jX11_without 1 rfl) rfl ?_
  refine rz_putI G flX11_148 sh56 rfl (dq jX11_without 2 rfl) ?_
  refine rz_aload_n G 0 rfl rfl (dq jX11_without 3 rfl) ?_
  refine rz_iload_n G 1 rfl rfl (dq jX11_without 4 rfl) ?_
  refine rz_callVi G (st := []) (c_X11_isJumper (cLn Γ) x1) lkX11_350 sh56 rfl rfl rfl (Nat.le_of_ble_eq_true rfl) (Nat.le_of_ble_eq_true rfl) (dq jX11_without 5 rfl) rfl (fun r1 => ?_)
  refine rz_if_eq G (tgt := 39) rfl (dq jX11_without 6 rfl) (fun c2 => ?_) (fun c2 => ?_)
  · refine rz_iconst G (v := 0) (dq jX11_without 21 rfl) rfl ?_
    exact rz_iret G (dq jX11_without 22 rfl)
  · refine rz_aload_n G 0 rfl rfl (dq jX11_without 7 rfl) ?_
    refine rz_iload_n G 2 rfl rfl (dq jX11_without 8 rfl) ?_
    refine rz_callVi G (st := []) (c_X11_isJumper (cLn Γ) x2) lkX11_350 sh56 rfl rfl rfl (Nat.le_of_ble_eq_true rfl) (Nat.le_of_ble_eq_true rfl) (dq jX11_without 9 rfl) rfl (fun r3 => ?_)
    refine rz_if_eq G (tgt := 39) rfl (dq jX11_without 10 rfl) (fun c4 => ?_) (fun c4 => ?_)
    · refine rz_iconst G (v := 0) (dq jX11_without 21 rfl) rfl ?_
      exact rz_iret G (dq jX11_without 22 rfl)
    · refine rz_aload_n G 0 rfl rfl (dq jX11_without 11 rfl) ?_
      refine rz_iload_n G 1 rfl rfl (dq jX11_without 12 rfl) ?_
      refine rz_iload_n G 2 rfl rfl (dq jX11_without 13 rfl) ?_
      refine rz_icmp_eq G (tgt := 31) rfl (dq jX11_without 14 rfl) (fun c5 => ?_) (fun c5 => ?_)
      · refine rz_iconst G (v := 0) (dq jX11_without 17 rfl) rfl ?_
        exact rz_lv [0, 1, 2] rfl (z_X11_without_b32 G x1 x2 0)
      · refine rz_iconst G (v := 1) (dq jX11_without 15 rfl) rfl ?_
        refine rz_goto G (tgt := 32) rfl (dq jX11_without 16 rfl) ?_
        exact rz_lv [0, 1, 2] rfl (z_X11_without_b32 G x1 x2 1)
theorem z_X11_atOnce_b47 {Γ : Cx} (G : GG Γ RX11 cX11_atOnce 3 (some .int) 5 0 0) (k9 : Int32 → Int32 → Sg → Option (Int32 × Sg)) (hk9 : ∀ (x1 : Int32) (x2 : Int32), Rz Γ 3 (Qm Γ encI 0 0) 0 0 9 [(0, .ref 56), (1, .int x1), (2, .int x2)] [] (k9 x1 x2)) (x1 : Int32) (x2 : Int32) : Rz Γ 3 (Qm Γ encI 0 0) 0 0 47 [(0, .ref 56), (1, .int x1), (2, .int x2)] [] (f_X11_atOnce_b47 k9 x1 x2) := by
  unfold f_X11_atOnce_b47
  refine rz_iinc G 2 (v := x2 + 1) (lv' := [(2, .int (x2 + 1)), (0, .ref 56), (1, .int x1)]) rfl (congrArg (HAdd.hAdd _) (by decide)) (Nat.le_of_ble_eq_true rfl) rfl (dq jX11_atOnce 27 rfl) ?_
  refine rz_goto G (tgt := 9) rfl (dq jX11_atOnce 28 rfl) ?_
  exact rz_lv [1, 2, 0] rfl (hk9 x1 (x2 + 1))
theorem z_X11_atOnce_b9 {Γ : Cx} (G : GG Γ RX11 cX11_atOnce 3 (some .int) 5 0 0) : ∀ (fu : Nat) (x1 : Int32) (x2 : Int32), Rz Γ 3 (Qm Γ encI 0 0) 0 0 9 [(0, .ref 56), (1, .int x1), (2, .int x2)] [] (f_X11_atOnce_b9 fu x1 x2) := by
  intro fu
  induction fu with
  | zero => intro _ _; exact rz_none
  | succ fu ih =>
    intro x1 x2
    rw [f_X11_atOnce_b9]
    refine rz_iload_n G 2 rfl rfl (dq jX11_atOnce 7 rfl) ?_
    refine rz_iconst G (v := 1) (dq jX11_atOnce 8 rfl) rfl ?_
    refine rz_aload_n G 0 rfl rfl (dq jX11_atOnce 9 rfl) ?_
    refine rz_getI G flX11_323 sh56 rfl (dq jX11_atOnce 10 rfl) (fun v1 => ?_)
    refine rz_ishl G (dq jX11_atOnce 11 rfl) ?_
    refine rz_icmp_ge G (tgt := 53) rfl (dq jX11_atOnce 12 rfl) (fun c2 => ?_) (fun c2 => ?_)
    · refine rz_iload_n G 1 rfl rfl (dq jX11_atOnce 29 rfl) ?_
      exact rz_iret G (dq jX11_atOnce 30 rfl)
    · refine rz_iload_n G 2 rfl rfl (dq jX11_atOnce 13 rfl) ?_
      refine rz_callSi G (st := []) (c_X11_bits (cLn Γ) x2) lkX11_453 rfl (Nat.le_of_ble_eq_true rfl) (Nat.le_of_ble_eq_true rfl) (dq jX11_atOnce 14 rfl) rfl (fun r3 => ?_)
      refine rz_iload_n G 1 rfl rfl (dq jX11_atOnce 15 rfl) ?_
      refine rz_callSi G (st := [.int r3]) (c_X11_bits (cLn Γ) x1) lkX11_453 rfl (Nat.le_of_ble_eq_true rfl) (Nat.le_of_ble_eq_true rfl) (dq jX11_atOnce 16 rfl) rfl (fun r4 => ?_)
      refine rz_icmp_gt G (tgt := 33) rfl (dq jX11_atOnce 17 rfl) (fun c5 => ?_) (fun c5 => ?_)
      · refine rz_aload_n G 0 rfl rfl (dq jX11_atOnce 19 rfl) ?_
        refine rz_iload_n G 2 rfl rfl (dq jX11_atOnce 20 rfl) ?_
        refine rz_callVv G (st := []) (c_X11_runs (cLn Γ) x2) lkX11_437 sh56 rfl rfl rfl (Nat.le_of_ble_eq_true rfl) (Nat.le_of_ble_eq_true rfl) (dq jX11_atOnce 21 rfl) rfl (fun _ => ?_)
        refine rz_aload_n G 0 rfl rfl (dq jX11_atOnce 22 rfl) ?_
        refine rz_callVi G (st := []) (c_X11_isHurt (cLn Γ)) lkX11_447 sh56 rfl rfl rfl (Nat.le_of_ble_eq_true rfl) (Nat.le_of_ble_eq_true rfl) (dq jX11_atOnce 23 rfl) rfl (fun r6 => ?_)
        refine rz_if_ne G (tgt := 47) rfl (dq jX11_atOnce 24 rfl) (fun c7 => ?_) (fun c7 => ?_)
        · refine rz_iload_n G 2 rfl rfl (dq jX11_atOnce 25 rfl) ?_
          refine rz_istore_n G (lv' := [(1, .int x2), (0, .ref 56), (2, .int x2)]) rfl (Nat.le_of_ble_eq_true rfl) rfl (dq jX11_atOnce 26 rfl) ?_
          exact rz_lv [1, 0, 2] rfl (z_X11_atOnce_b47 G (f_X11_atOnce_b9 fu) ih x2 x2)
        · exact rz_lv [0, 1, 2] rfl (z_X11_atOnce_b47 G (f_X11_atOnce_b9 fu) ih x1 x2)
      · refine rz_goto G (tgt := 47) rfl (dq jX11_atOnce 18 rfl) ?_
        exact rz_lv [0, 1, 2] rfl (z_X11_atOnce_b47 G (f_X11_atOnce_b9 fu) ih x1 x2)
theorem c_X11_atOnce (l : Launch)  : Ct l yX11_atOnce cX11_atOnce 3 (some .int) 5 encI [.ref 56] (f_X11_atOnce ) := by
  refine ct_of (own := RX11) (by decide) rfl (Nat.le_of_ble_eq_true rfl) (fun Γ hl G => ?_)
  show Rz Γ 3 (Qm Γ encI 0 0) 0 0 0 [(0, .ref 56)] [] _
  unfold f_X11_atOnce
  refine rz_aload_n G 0 rfl rfl (dq jX11_atOnce 0 rfl) ?_
  refine rz_iconst G (v := 0) (dq jX11_atOnce 1 rfl) rfl ?_
  refine rz_putI G flX11_148 sh56 rfl (dq jX11_atOnce 2 rfl) ?_
  refine rz_iconst G (v := 0) (dq jX11_atOnce 3 rfl) rfl ?_
  refine rz_istore_n G (lv' := [(1, .int 0), (0, .ref 56)]) rfl (Nat.le_of_ble_eq_true rfl) rfl (dq jX11_atOnce 4 rfl) ?_
  refine rz_iconst G (v := 1) (dq jX11_atOnce 5 rfl) rfl ?_
  refine rz_istore_n G (lv' := [(2, .int 1), (1, .int 0), (0, .ref 56)]) rfl (Nat.le_of_ble_eq_true rfl) rfl (dq jX11_atOnce 6 rfl) ?_
  exact rz_lv [2, 1, 0] rfl (z_X11_atOnce_b9 G FU 0 1)
theorem c_X11_stop (l : Launch) (x1 : Int32) : Ct l yX11_stop cX11_stop 2 (some .int) 6 encI [.ref 56, .int x1] (f_X11_stop x1) := by
  refine ct_of (own := RX11) (by decide) rfl (Nat.le_of_ble_eq_true rfl) (fun Γ hl G => ?_)
  show Rz Γ 2 (Qm Γ encI 0 0) 0 0 0 [(0, .ref 56), (1, .int x1)] [] _
  unfold f_X11_stop
  refine rz_aload_n G 0 rfl rfl (dq jX11_stop 0 rfl) ?_
  refine rz_iconst G (v := 0) (dq jX11_stop 1 rfl) rfl ?_
  refine rz_putI G flX11_148 sh56 rfl (dq jX11_stop 2 rfl) ?_
  refine rz_aload_n G 0 rfl rfl (dq jX11_stop 3 rfl) ?_
  refine rz_iload_n G 1 rfl rfl (dq jX11_stop 4 rfl) ?_
  refine rz_iconst G (v := 1) (dq jX11_stop 5 rfl) rfl ?_
  refine rz_callVi G (st := []) (c_X11_isWhat (cLn Γ) x1 1) lkX11_353 sh56 rfl rfl rfl (Nat.le_of_ble_eq_true rfl) (Nat.le_of_ble_eq_true rfl) (dq jX11_stop 6 rfl) rfl (fun r1 => ?_)
  refine rz_if_ne G (tgt := 16) rfl (dq jX11_stop 7 rfl) (fun c2 => ?_) (fun c2 => ?_)
  · refine rz_iconst G (v := 0) (dq jX11_stop 8 rfl) rfl ?_
    exact rz_iret G (dq jX11_stop 9 rfl)
  · refine rz_aload_n G 0 rfl rfl (dq jX11_stop 10 rfl) ?_
    refine rz_callVv G (st := []) (c_X11_runsAll (cLn Γ)) lkX11_440 sh56 rfl rfl rfl (Nat.le_of_ble_eq_true rfl) (Nat.le_of_ble_eq_true rfl) (dq jX11_stop 11 rfl) rfl (fun _ => ?_)
    refine rz_iload_n G 1 rfl rfl (dq jX11_stop 12 rfl) ?_
    refine rz_if_ne G (tgt := 31) rfl (dq jX11_stop 13 rfl) (fun c3 => ?_) (fun c3 => ?_)
    · refine rz_aload_n G 0 rfl rfl (dq jX11_stop 14 rfl) ?_
      refine rz_getI G flX11_375 sh56 rfl (dq jX11_stop 15 rfl) (fun v4 => ?_)
      refine rz_goto G (tgt := 35) rfl (dq jX11_stop 16 rfl) ?_
      exact rz_iret G (dq jX11_stop 19 rfl)
    · refine rz_aload_n G 0 rfl rfl (dq jX11_stop 17 rfl) ?_
      refine rz_getI G flX11_378 sh56 rfl (dq jX11_stop 18 rfl) (fun v5 => ?_)
      exact rz_iret G (dq jX11_stop 19 rfl)
theorem z_X11_common_b6 {Γ : Cx} (G : GG Γ RX11 cX11_common 10 (some .long) 1 0 0) : ∀ (fu : Nat) (x4 : Int64) (x6 : Int64), Rz Γ 10 (Qm Γ encL 0 0) 0 0 6 [(4, .long x4), (6, .long x6)] [] (f_X11_common_b6 fu x4 x6) := by
  intro fu
  induction fu with
  | zero => intro _ _; exact rz_none
  | succ fu ih =>
    intro x4 x6
    rw [f_X11_common_b6]
    refine rz_lload G 1 rfl (dq jX11_common 4 rfl) ?_
    refine rz_lconst G (v := 0) (dq jX11_common 5 rfl) rfl ?_
    refine rz_lcmp G (dq jX11_common 6 rfl) ?_
    refine rz_if_eq G (tgt := 31) rfl (dq jX11_common 7 rfl) (fun c1 => ?_) (fun c1 => ?_)
    · refine rz_lload G 0 rfl (dq jX11_common 17 rfl) ?_
      exact rz_lret G (dq jX11_common 18 rfl)
    · refine rz_lload G 0 rfl (dq jX11_common 8 rfl) ?_
      refine rz_lload G 1 rfl (dq jX11_common 9 rfl) ?_
      refine rz_lrem G (dq jX11_common 10 rfl) ?_
      refine rz_ltl (fun w2 e_w2 => ?_)
      refine rz_lstore G (lv' := [(8, .long w2), (4, .long x4), (6, .long x6)]) (Nat.le_of_ble_eq_true rfl) rfl (dq jX11_common 11 rfl) ?_
      refine rz_lload G 2 rfl (dq jX11_common 12 rfl) ?_
      refine rz_lstore G (lv' := [(4, .long x6), (8, .long w2), (6, .long x6)]) (Nat.le_of_ble_eq_true rfl) rfl (dq jX11_common 13 rfl) ?_
      refine rz_lload G 1 rfl (dq jX11_common 14 rfl) ?_
      refine rz_lstore G (lv' := [(6, .long w2), (4, .long x6), (8, .long w2)]) (Nat.le_of_ble_eq_true rfl) rfl (dq jX11_common 15 rfl) ?_
      refine rz_goto G (tgt := 6) rfl (dq jX11_common 16 rfl) ?_
      exact rz_lv [1, 0] rfl (ih x6 w2)
theorem c_X11_common (l : Launch) (x0 : Int64) (x2 : Int64) : Ct l yX11_common cX11_common 10 (some .long) 1 encL [.long x0, .long x2] (f_X11_common x0 x2) := by
  refine ct_of (own := RX11) (by decide) rfl (Nat.le_of_ble_eq_true rfl) (fun Γ hl G => ?_)
  show Rz Γ 10 (Qm Γ encL 0 0) 0 0 0 [(0, .long x0), (2, .long x2)] [] _
  unfold f_X11_common
  refine rz_lload_n G 0 rfl rfl (dq jX11_common 0 rfl) ?_
  refine rz_lstore G (lv' := [(4, .long x0), (0, .long x0), (2, .long x2)]) (Nat.le_of_ble_eq_true rfl) rfl (dq jX11_common 1 rfl) ?_
  refine rz_lload_n G 2 rfl rfl (dq jX11_common 2 rfl) ?_
  refine rz_lstore G (lv' := [(6, .long x2), (4, .long x0), (0, .long x0), (2, .long x2)]) (Nat.le_of_ble_eq_true rfl) rfl (dq jX11_common 3 rfl) ?_
  exact rz_lv [1, 0] rfl (z_X11_common_b6 G FU x0 x2)
theorem z_X11_portion_b10 {Γ : Cx} (G : GG Γ RX11 cX11_portion 5 (some .long) 2 0 0) (x0 : Int64) (x2 : Int64) (xs0 : Int64) : Rz Γ 5 (Qm Γ encL 0 0) 0 0 10 [(0, .long x0), (2, .long x2)] [.long xs0] (f_X11_portion_b10 x0 x2 xs0) := by
  unfold f_X11_portion_b10
  refine rz_lload_n G 1 rfl rfl (dq jX11_portion 5 rfl) ?_
  refine rz_lload_n G 0 rfl rfl (dq jX11_portion 6 rfl) ?_
  refine rz_callSl G (st := [.long xs0]) (c_X11_common (cLn Γ) x2 x0) lkX11_456 rfl (Nat.le_of_ble_eq_true rfl) (Nat.le_of_ble_eq_true rfl) (dq jX11_portion 7 rfl) rfl (fun r1 => ?_)
  refine rz_ldiv G (dq jX11_portion 8 rfl) ?_
  exact rz_lret G (dq jX11_portion 9 rfl)
theorem c_X11_portion (l : Launch) (x0 : Int64) (x2 : Int64) (x4 : Int32) : Ct l yX11_portion cX11_portion 5 (some .long) 2 encL [.long x0, .long x2, .int x4] (f_X11_portion x0 x2 x4) := by
  refine ct_of (own := RX11) (by decide) rfl (Nat.le_of_ble_eq_true rfl) (fun Γ hl G => ?_)
  show Rz Γ 5 (Qm Γ encL 0 0) 0 0 0 [(0, .long x0), (2, .long x2), (4, .int x4)] [] _
  unfold f_X11_portion
  refine rz_iload G 2 rfl (dq jX11_portion 0 rfl) ?_
  refine rz_if_ne G (tgt := 9) rfl (dq jX11_portion 1 rfl) (fun c1 => ?_) (fun c1 => ?_)
  · refine rz_lload_n G 0 rfl rfl (dq jX11_portion 2 rfl) ?_
    refine rz_goto G (tgt := 10) rfl (dq jX11_portion 3 rfl) ?_
    exact rz_lv [0, 1] rfl (z_X11_portion_b10 G x0 x2 x0)
  · refine rz_lload_n G 1 rfl rfl (dq jX11_portion 4 rfl) ?_
    exact rz_lv [0, 1] rfl (z_X11_portion_b10 G x0 x2 x2)
theorem c_X11_isIn (l : Launch) (x1 : Int32) : Ct l yX11_isIn cX11_isIn 2 (some .boolean) 1 encI [.ref 56, .int x1] (f_X11_isIn x1) := by
  refine ct_of (own := RX11) (by decide) rfl (Nat.le_of_ble_eq_true rfl) (fun Γ hl G => ?_)
  show Rz Γ 2 (Qm Γ encI 0 0) 0 0 0 [(0, .ref 56), (1, .int x1)] [] _
  unfold f_X11_isIn
  refine rz_iload_n G 1 rfl rfl (dq jX11_isIn 0 rfl) ?_
  refine rz_aload_n G 0 rfl rfl (dq jX11_isIn 1 rfl) ?_
  refine rz_getI G flX11_13 sh56 rfl (dq jX11_isIn 2 rfl) (fun v1 => ?_)
  refine rz_icmp_gt G (tgt := 22) rfl (dq jX11_isIn 3 rfl) (fun c2 => ?_) (fun c2 => ?_)
  · refine rz_iconst G (v := 0) (dq jX11_isIn 12 rfl) rfl ?_
    exact rz_zret0 G (by decide) (dq jX11_isIn 13 rfl)
  · refine rz_iload_n G 1 rfl rfl (dq jX11_isIn 4 rfl) ?_
    refine rz_iconst G (v := 0) (dq jX11_isIn 5 rfl) rfl ?_
    refine rz_aload_n G 0 rfl rfl (dq jX11_isIn 6 rfl) ?_
    refine rz_getI G flX11_13 sh56 rfl (dq jX11_isIn 7 rfl) (fun v3 => ?_)
    refine rz_isub G (dq jX11_isIn 8 rfl) ?_
    refine rz_icmp_lt G (tgt := 22) rfl (dq jX11_isIn 9 rfl) (fun c4 => ?_) (fun c4 => ?_)
    · refine rz_iconst G (v := 0) (dq jX11_isIn 12 rfl) rfl ?_
      exact rz_zret0 G (by decide) (dq jX11_isIn 13 rfl)
    · refine rz_iconst G (v := 1) (dq jX11_isIn 10 rfl) rfl ?_
      refine rz_goto G (tgt := 23) rfl (dq jX11_isIn 11 rfl) ?_
      exact rz_zret0 G (by decide) (dq jX11_isIn 13 rfl)
theorem z_X11_wandersBy_b237 {Γ : Cx} (G : GG Γ RX11 cX11_wandersBy 12 none 2 0 0) (k69 : Int32 → Int32 → Int32 → Int32 → Int32 → Sg → Option (Unit × Sg)) (hk69 : ∀ (x2 : Int32) (x3 : Int32) (x4 : Int32) (x5 : Int32) (x6 : Int32), Rz Γ 12 (Qm Γ encV 0 0) 0 0 69 [(0, .ref 56), (2, .int x2), (3, .int x3), (4, .int x4), (5, .int x5), (6, .int x6)] [] (k69 x2 x3 x4 x5 x6)) (k127 : Int32 → Int32 → Int32 → Int32 → Int32 → Int32 → Sg → Option (Unit × Sg)) (hk127 : ∀ (x2 : Int32) (x3 : Int32) (x4 : Int32) (x5 : Int32) (x6 : Int32) (x7 : Int32), Rz Γ 12 (Qm Γ encV 0 0) 0 0 127 [(0, .ref 56), (2, .int x2), (3, .int x3), (4, .int x4), (5, .int x5), (6, .int x6), (7, .int x7)] [] (k127 x2 x3 x4 x5 x6 x7)) (k165 : Int32 → Int32 → Int32 → Int32 → Int32 → Int32 → Int32 → Int32 → Sg → Option (Unit × Sg)) (hk165 : ∀ (x2 : Int32) (x3 : Int32) (x4 : Int32) (x5 : Int32) (x6 : Int32) (x7 : Int32) (x8 : Int32) (x9 : Int32), Rz Γ 12 (Qm Γ encV 0 0) 0 0 165 [(0, .ref 56), (2, .int x2), (3, .int x3), (4, .int x4), (5, .int x5), (6, .int x6), (7, .int x7), (8, .int x8), (9, .int x9)] [] (k165 x2 x3 x4 x5 x6 x7 x8 x9)) (x2 : Int32) (x3 : Int32) (x4 : Int32) (x5 : Int32) (x6 : Int32) (x7 : Int32) (x8 : Int32) (x9 : Int32) : Rz Γ 12 (Qm Γ encV 0 0) 0 0 237 [(0, .ref 56), (2, .int x2), (3, .int x3), (4, .int x4), (5, .int x5), (6, .int x6), (7, .int x7), (8, .int x8), (9, .int x9)] [] (f_X11_wandersBy_b237 k69 k127 k165 x2 x3 x4 x5 x6 x7 x8 x9) := by
  unfold f_X11_wandersBy_b237
  refine rz_iinc G 8 (v := x9 + 1) (lv' := [(9, .int (x9 + 1)), (0, .ref 56), (2, .int x2), (3, .int x3), (4, .int x4), (5, .int x5), (6, .int x6), (7, .int x7), (8, .int x8)]) rfl (congrArg (HAdd.hAdd _) (by decide)) (Nat.le_of_ble_eq_true rfl) rfl (dq jX11_wandersBy 137 rfl) ?_
  refine rz_goto G (tgt := 165) rfl (dq jX11_wandersBy 138 rfl) ?_
  exact rz_lv [1, 2, 3, 4, 5, 6, 7, 8, 0] rfl (hk165 x2 x3 x4 x5 x6 x7 x8 (x9 + 1))
theorem z_X11_wandersBy_b243 {Γ : Cx} (G : GG Γ RX11 cX11_wandersBy 12 none 2 0 0) (k69 : Int32 → Int32 → Int32 → Int32 → Int32 → Sg → Option (Unit × Sg)) (hk69 : ∀ (x2 : Int32) (x3 : Int32) (x4 : Int32) (x5 : Int32) (x6 : Int32), Rz Γ 12 (Qm Γ encV 0 0) 0 0 69 [(0, .ref 56), (2, .int x2), (3, .int x3), (4, .int x4), (5, .int x5), (6, .int x6)] [] (k69 x2 x3 x4 x5 x6)) (k127 : Int32 → Int32 → Int32 → Int32 → Int32 → Int32 → Sg → Option (Unit × Sg)) (hk127 : ∀ (x2 : Int32) (x3 : Int32) (x4 : Int32) (x5 : Int32) (x6 : Int32) (x7 : Int32), Rz Γ 12 (Qm Γ encV 0 0) 0 0 127 [(0, .ref 56), (2, .int x2), (3, .int x3), (4, .int x4), (5, .int x5), (6, .int x6), (7, .int x7)] [] (k127 x2 x3 x4 x5 x6 x7)) (x2 : Int32) (x3 : Int32) (x4 : Int32) (x5 : Int32) (x6 : Int32) (x7 : Int32) : Rz Γ 12 (Qm Γ encV 0 0) 0 0 243 [(0, .ref 56), (2, .int x2), (3, .int x3), (4, .int x4), (5, .int x5), (6, .int x6), (7, .int x7)] [] (f_X11_wandersBy_b243 k69 k127 x2 x3 x4 x5 x6 x7) := by
  unfold f_X11_wandersBy_b243
  refine rz_iinc G 6 (v := x7 + 1) (lv' := [(7, .int (x7 + 1)), (0, .ref 56), (2, .int x2), (3, .int x3), (4, .int x4), (5, .int x5), (6, .int x6)]) rfl (congrArg (HAdd.hAdd _) (by decide)) (Nat.le_of_ble_eq_true rfl) rfl (dq jX11_wandersBy 139 rfl) ?_
  refine rz_goto G (tgt := 127) rfl (dq jX11_wandersBy 140 rfl) ?_
  exact rz_lv [1, 2, 3, 4, 5, 6, 0] rfl (hk127 x2 x3 x4 x5 x6 (x7 + 1))
theorem z_X11_wandersBy_b165 {Γ : Cx} (G : GG Γ RX11 cX11_wandersBy 12 none 2 0 0) (k69 : Int32 → Int32 → Int32 → Int32 → Int32 → Sg → Option (Unit × Sg)) (hk69 : ∀ (x2 : Int32) (x3 : Int32) (x4 : Int32) (x5 : Int32) (x6 : Int32), Rz Γ 12 (Qm Γ encV 0 0) 0 0 69 [(0, .ref 56), (2, .int x2), (3, .int x3), (4, .int x4), (5, .int x5), (6, .int x6)] [] (k69 x2 x3 x4 x5 x6)) (k127 : Int32 → Int32 → Int32 → Int32 → Int32 → Int32 → Sg → Option (Unit × Sg)) (hk127 : ∀ (x2 : Int32) (x3 : Int32) (x4 : Int32) (x5 : Int32) (x6 : Int32) (x7 : Int32), Rz Γ 12 (Qm Γ encV 0 0) 0 0 127 [(0, .ref 56), (2, .int x2), (3, .int x3), (4, .int x4), (5, .int x5), (6, .int x6), (7, .int x7)] [] (k127 x2 x3 x4 x5 x6 x7)) : ∀ (fu : Nat) (x2 : Int32) (x3 : Int32) (x4 : Int32) (x5 : Int32) (x6 : Int32) (x7 : Int32) (x8 : Int32) (x9 : Int32), Rz Γ 12 (Qm Γ encV 0 0) 0 0 165 [(0, .ref 56), (2, .int x2), (3, .int x3), (4, .int x4), (5, .int x5), (6, .int x6), (7, .int x7), (8, .int x8), (9, .int x9)] [] (f_X11_wandersBy_b165 k69 k127 fu x2 x3 x4 x5 x6 x7 x8 x9) := by
  intro fu
  induction fu with
  | zero => intro _ _ _ _ _ _ _ _; exact rz_none
  | succ fu ih =>
    intro x2 x3 x4 x5 x6 x7 x8 x9
    rw [f_X11_wandersBy_b165]
    refine rz_iload G 8 rfl (dq jX11_wandersBy 94 rfl) ?_
    refine rz_iconst G (v := 3) (dq jX11_wandersBy 95 rfl) rfl ?_
    refine rz_icmp_ge G (tgt := 243) rfl (dq jX11_wandersBy 96 rfl) (fun c1 => ?_) (fun c1 => ?_)
    · exact rz_lv [0, 1, 2, 3, 4, 5, 6] rfl (z_X11_wandersBy_b243 G k69 hk69 k127 hk127 x2 x3 x4 x5 x6 x7)
    · refine rz_aload_n G 0 rfl rfl (dq jX11_wandersBy 97 rfl) ?_
      refine rz_getC G flX11_126 sh56 (t := 88) rfl rfl (dq jX11_wandersBy 98 rfl) ?_
      refine rz_iload G 6 rfl (dq jX11_wandersBy 99 rfl) ?_
      refine rz_lald G sh88 (dq jX11_wandersBy 100 rfl) (fun v2 => ?_)
      refine rz_aload_n G 0 rfl rfl (dq jX11_wandersBy 101 rfl) ?_
      refine rz_getC G flX11_22 sh56 (t := 57) rfl rfl (dq jX11_wandersBy 102 rfl) ?_
      refine rz_iload G 8 rfl (dq jX11_wandersBy 103 rfl) ?_
      refine rz_iald G sh57 (dq jX11_wandersBy 104 rfl) (fun v3 => ?_)
      refine rz_i2l G (dq jX11_wandersBy 105 rfl) ?_
      refine rz_lmul G (dq jX11_wandersBy 106 rfl) ?_
      refine rz_ltl (fun w4 e_w4 => ?_)
      refine rz_lstore G (lv' := [(10, .long w4), (0, .ref 56), (2, .int x2), (3, .int x3), (4, .int x4), (5, .int x5), (6, .int x6), (7, .int x7), (8, .int x8), (9, .int x9)]) (Nat.le_of_ble_eq_true rfl) rfl (dq jX11_wandersBy 107 rfl) ?_
      refine rz_aload_n G 1 rfl rfl (dq jX11_wandersBy 108 rfl) ?_
      refine rz_iload G 8 rfl (dq jX11_wandersBy 109 rfl) ?_
      refine rz_iload G 9 rfl (dq jX11_wandersBy 110 rfl) ?_
      refine rz_iadd G (dq jX11_wandersBy 111 rfl) ?_
      refine rz_iconst G (v := 1) (dq jX11_wandersBy 112 rfl) rfl ?_
      refine rz_isub G (dq jX11_wandersBy 113 rfl) ?_
      refine rz_callVi G (st := []) (c_X11_isIn (cLn Γ) ((x8 + x9) - 1)) lkX11_466 sh56 rfl rfl rfl (Nat.le_of_ble_eq_true rfl) (Nat.le_of_ble_eq_true rfl) (dq jX11_wandersBy 114 rfl) rfl (fun r5 => ?_)
      refine rz_if_eq G (tgt := 226) rfl (dq jX11_wandersBy 115 rfl) (fun c6 => ?_) (fun c6 => ?_)
      · refine rz_aload_n G 1 rfl rfl (dq jX11_wandersBy 131 rfl) ?_
        refine rz_dup G rfl (dq jX11_wandersBy 132 rfl) ?_
        refine rz_getL G flX11_460 sh56 rfl (dq jX11_wandersBy 133 rfl) (fun v7 => ?_)
        refine rz_lload G 0 rfl (dq jX11_wandersBy 134 rfl) ?_
        refine rz_ladd G (dq jX11_wandersBy 135 rfl) ?_
        refine rz_putL G flX11_460 sh56 rfl (dq jX11_wandersBy 136 rfl) ?_
        exact rz_lv [1, 2, 3, 4, 5, 6, 7, 8, 9] rfl (z_X11_wandersBy_b237 G k69 hk69 k127 hk127 (f_X11_wandersBy_b165 k69 k127 fu) ih x2 x3 x4 x5 x6 x7 x8 x9)
      · refine rz_aload_n G 1 rfl rfl (dq jX11_wandersBy 116 rfl) ?_
        refine rz_getC G flX11_130 sh56 (t := 89) rfl rfl (dq jX11_wandersBy 117 rfl) ?_
        refine rz_bipush G (v := 20) (dq jX11_wandersBy 118 rfl) (by decide) ?_
        refine rz_iload G 8 rfl (dq jX11_wandersBy 119 rfl) ?_
        refine rz_iadd G (dq jX11_wandersBy 120 rfl) ?_
        refine rz_iload G 9 rfl (dq jX11_wandersBy 121 rfl) ?_
        refine rz_iadd G (dq jX11_wandersBy 122 rfl) ?_
        refine rz_iconst G (v := 1) (dq jX11_wandersBy 123 rfl) rfl ?_
        refine rz_isub G (dq jX11_wandersBy 124 rfl) ?_
        refine rz_lti (fun w8 e_w8 => ?_)
        refine rz_dup2 G rfl rfl (dq jX11_wandersBy 125 rfl) ?_
        refine rz_lald G sh89 (dq jX11_wandersBy 126 rfl) (fun v9 => ?_)
        refine rz_lload G 0 rfl (dq jX11_wandersBy 127 rfl) ?_
        refine rz_ladd G (dq jX11_wandersBy 128 rfl) ?_
        refine rz_last G sh89 (dq jX11_wandersBy 129 rfl) ?_
        refine rz_goto G (tgt := 237) rfl (dq jX11_wandersBy 130 rfl) ?_
        exact rz_lv [1, 2, 3, 4, 5, 6, 7, 8, 9] rfl (z_X11_wandersBy_b237 G k69 hk69 k127 hk127 (f_X11_wandersBy_b165 k69 k127 fu) ih x2 x3 x4 x5 x6 x7 x8 x9)
theorem z_X11_wandersBy_b279 {Γ : Cx} (G : GG Γ RX11 cX11_wandersBy 12 none 2 0 0) (k69 : Int32 → Int32 → Int32 → Int32 → Int32 → Sg → Option (Unit × Sg)) (hk69 : ∀ (x2 : Int32) (x3 : Int32) (x4 : Int32) (x5 : Int32) (x6 : Int32), Rz Γ 12 (Qm Γ encV 0 0) 0 0 69 [(0, .ref 56), (2, .int x2), (3, .int x3), (4, .int x4), (5, .int x5), (6, .int x6)] [] (k69 x2 x3 x4 x5 x6)) (x2 : Int32) (x3 : Int32) (x4 : Int32) (x5 : Int32) (x6 : Int32) : Rz Γ 12 (Qm Γ encV 0 0) 0 0 279 [(0, .ref 56), (2, .int x2), (3, .int x3), (4, .int x4), (5, .int x5), (6, .int x6)] [] (f_X11_wandersBy_b279 k69 x2 x3 x4 x5 x6) := by
  unfold f_X11_wandersBy_b279
  refine rz_iinc G 5 (v := x6 + 1) (lv' := [(6, .int (x6 + 1)), (0, .ref 56), (2, .int x2), (3, .int x3), (4, .int x4), (5, .int x5)]) rfl (congrArg (HAdd.hAdd _) (by decide)) (Nat.le_of_ble_eq_true rfl) rfl (dq jX11_wandersBy_s1 6 rfl) ?_
  refine rz_goto G (tgt := 69) rfl (dq jX11_wandersBy_s1 7 rfl) ?_
  exact rz_lv [1, 2, 3, 4, 5, 0] rfl (hk69 x2 x3 x4 x5 (x6 + 1))
theorem z_X11_wandersBy_b252 {Γ : Cx} (G : GG Γ RX11 cX11_wandersBy 12 none 2 0 0) (k69 : Int32 → Int32 → Int32 → Int32 → Int32 → Sg → Option (Unit × Sg)) (hk69 : ∀ (x2 : Int32) (x3 : Int32) (x4 : Int32) (x5 : Int32) (x6 : Int32), Rz Γ 12 (Qm Γ encV 0 0) 0 0 69 [(0, .ref 56), (2, .int x2), (3, .int x3), (4, .int x4), (5, .int x5), (6, .int x6)] [] (k69 x2 x3 x4 x5 x6)) : ∀ (fu : Nat) (x2 : Int32) (x3 : Int32) (x4 : Int32) (x5 : Int32) (x6 : Int32) (x7 : Int32), Rz Γ 12 (Qm Γ encV 0 0) 0 0 252 [(0, .ref 56), (2, .int x2), (3, .int x3), (4, .int x4), (5, .int x5), (6, .int x6), (7, .int x7)] [] (f_X11_wandersBy_b252 k69 fu x2 x3 x4 x5 x6 x7) := by
  intro fu
  induction fu with
  | zero => intro _ _ _ _ _ _; exact rz_none
  | succ fu ih =>
    intro x2 x3 x4 x5 x6 x7
    rw [f_X11_wandersBy_b252]
    refine rz_iload G 6 rfl (dq jX11_wandersBy 143 rfl) ?_
    refine rz_bipush G (v := 41) (dq jX11_wandersBy 144 rfl) (by decide) ?_
    refine rz_icmp_ge G (tgt := 279) rfl (dq jX11_wandersBy 145 rfl) (fun c1 => ?_) (fun c1 => ?_)
    · exact rz_lv [0, 1, 2, 3, 4, 5] rfl (z_X11_wandersBy_b279 G k69 hk69 x2 x3 x4 x5 x6)
    · refine rz_aload_n G 0 rfl rfl (dq jX11_wandersBy 146 rfl) ?_
      refine rz_getC G flX11_126 sh56 (t := 88) rfl rfl (dq jX11_wandersBy 147 rfl) ?_
      refine rz_iload G 6 rfl (dq jX11_wandersBy 148 rfl) ?_
      refine rz_aload_n G 0 rfl rfl (dq jX11_wandersBy 149 rfl) ?_
      refine rz_getC G flX11_130 sh56 (t := 89) rfl rfl (dq jX11_wandersBy_s1 0 rfl) ?_
      refine rz_iload G 6 rfl (dq jX11_wandersBy_s1 1 rfl) ?_
      refine rz_lald G sh89 (dq jX11_wandersBy_s1 2 rfl) (fun v2 => ?_)
      refine rz_last G sh88 (dq jX11_wandersBy_s1 3 rfl) ?_
      refine rz_iinc G 6 (v := x7 + 1) (lv' := [(7, .int (x7 + 1)), (0, .ref 56), (2, .int x2), (3, .int x3), (4, .int x4), (5, .int x5), (6, .int x6)]) rfl (congrArg (HAdd.hAdd _) (by decide)) (Nat.le_of_ble_eq_true rfl) rfl (dq jX11_wandersBy_s1 4 rfl) ?_
      refine rz_goto G (tgt := 252) rfl (dq jX11_wandersBy_s1 5 rfl) ?_
      exact rz_lv [1, 2, 3, 4, 5, 6, 0] rfl (ih x2 x3 x4 x5 x6 (x7 + 1))
theorem z_X11_wandersBy_b249 {Γ : Cx} (G : GG Γ RX11 cX11_wandersBy 12 none 2 0 0) (k69 : Int32 → Int32 → Int32 → Int32 → Int32 → Sg → Option (Unit × Sg)) (hk69 : ∀ (x2 : Int32) (x3 : Int32) (x4 : Int32) (x5 : Int32) (x6 : Int32), Rz Γ 12 (Qm Γ encV 0 0) 0 0 69 [(0, .ref 56), (2, .int x2), (3, .int x3), (4, .int x4), (5, .int x5), (6, .int x6)] [] (k69 x2 x3 x4 x5 x6)) (x2 : Int32) (x3 : Int32) (x4 : Int32) (x5 : Int32) (x6 : Int32) : Rz Γ 12 (Qm Γ encV 0 0) 0 0 249 [(0, .ref 56), (2, .int x2), (3, .int x3), (4, .int x4), (5, .int x5), (6, .int x6)] [] (f_X11_wandersBy_b249 k69 x2 x3 x4 x5 x6) := by
  unfold f_X11_wandersBy_b249
  refine rz_iconst G (v := 0) (dq jX11_wandersBy 141 rfl) rfl ?_
  refine rz_istore G (lv' := [(7, .int 0), (0, .ref 56), (2, .int x2), (3, .int x3), (4, .int x4), (5, .int x5), (6, .int x6)]) (Nat.le_of_ble_eq_true rfl) rfl (dq jX11_wandersBy 142 rfl) ?_
  exact rz_lv [1, 2, 3, 4, 5, 6, 0] rfl (z_X11_wandersBy_b252 G k69 hk69 FU x2 x3 x4 x5 x6 0)
theorem z_X11_wandersBy_b127 {Γ : Cx} (G : GG Γ RX11 cX11_wandersBy 12 none 2 0 0) (k69 : Int32 → Int32 → Int32 → Int32 → Int32 → Sg → Option (Unit × Sg)) (hk69 : ∀ (x2 : Int32) (x3 : Int32) (x4 : Int32) (x5 : Int32) (x6 : Int32), Rz Γ 12 (Qm Γ encV 0 0) 0 0 69 [(0, .ref 56), (2, .int x2), (3, .int x3), (4, .int x4), (5, .int x5), (6, .int x6)] [] (k69 x2 x3 x4 x5 x6)) : ∀ (fu : Nat) (x2 : Int32) (x3 : Int32) (x4 : Int32) (x5 : Int32) (x6 : Int32) (x7 : Int32), Rz Γ 12 (Qm Γ encV 0 0) 0 0 127 [(0, .ref 56), (2, .int x2), (3, .int x3), (4, .int x4), (5, .int x5), (6, .int x6), (7, .int x7)] [] (f_X11_wandersBy_b127 k69 fu x2 x3 x4 x5 x6 x7) := by
  intro fu
  induction fu with
  | zero => intro _ _ _ _ _ _; exact rz_none
  | succ fu ih =>
    intro x2 x3 x4 x5 x6 x7
    rw [f_X11_wandersBy_b127]
    refine rz_iload G 6 rfl (dq jX11_wandersBy 73 rfl) ?_
    refine rz_bipush G (v := 41) (dq jX11_wandersBy 74 rfl) (by decide) ?_
    refine rz_icmp_ge G (tgt := 249) rfl (dq jX11_wandersBy 75 rfl) (fun c1 => ?_) (fun c1 => ?_)
    · exact rz_lv [0, 1, 2, 3, 4, 5] rfl (z_X11_wandersBy_b249 G k69 hk69 x2 x3 x4 x5 x6)
    · refine rz_aload_n G 0 rfl rfl (dq jX11_wandersBy 76 rfl) ?_
      refine rz_getC G flX11_126 sh56 (t := 88) rfl rfl (dq jX11_wandersBy 77 rfl) ?_
      refine rz_iload G 6 rfl (dq jX11_wandersBy 78 rfl) ?_
      refine rz_lald G sh88 (dq jX11_wandersBy 79 rfl) (fun v2 => ?_)
      refine rz_lconst G (v := 0) (dq jX11_wandersBy 80 rfl) rfl ?_
      refine rz_lcmp G (dq jX11_wandersBy 81 rfl) ?_
      refine rz_if_ne G (tgt := 149) rfl (dq jX11_wandersBy 82 rfl) (fun c3 => ?_) (fun c3 => ?_)
      · refine rz_goto G (tgt := 243) rfl (dq jX11_wandersBy 83 rfl) ?_
        exact rz_lv [0, 1, 2, 3, 4, 5, 6] rfl (z_X11_wandersBy_b243 G k69 hk69 (f_X11_wandersBy_b127 k69 fu) ih x2 x3 x4 x5 x6 x7)
      · refine rz_aload_n G 0 rfl rfl (dq jX11_wandersBy 84 rfl) ?_
        refine rz_iload G 6 rfl (dq jX11_wandersBy 85 rfl) ?_
        refine rz_bipush G (v := 20) (dq jX11_wandersBy 86 rfl) (by decide) ?_
        refine rz_isub G (dq jX11_wandersBy 87 rfl) ?_
        refine rz_iload_n G 1 rfl rfl (dq jX11_wandersBy 88 rfl) ?_
        refine rz_iload_n G 2 rfl rfl (dq jX11_wandersBy 89 rfl) ?_
        refine rz_callVi G (st := []) (c_X11_then (cLn Γ) (x7 - 20) x2 x3) lkX11_409 sh56 rfl rfl rfl (Nat.le_of_ble_eq_true rfl) (Nat.le_of_ble_eq_true rfl) (dq jX11_wandersBy 90 rfl) rfl (fun r4 => ?_)
        refine rz_istore G (lv' := [(8, .int r4), (0, .ref 56), (2, .int x2), (3, .int x3), (4, .int x4), (5, .int x5), (6, .int x6), (7, .int x7)]) (Nat.le_of_ble_eq_true rfl) rfl (dq jX11_wandersBy 91 rfl) ?_
        refine rz_iconst G (v := 0) (dq jX11_wandersBy 92 rfl) rfl ?_
        refine rz_istore G (lv' := [(9, .int 0), (8, .int r4), (0, .ref 56), (2, .int x2), (3, .int x3), (4, .int x4), (5, .int x5), (6, .int x6), (7, .int x7)]) (Nat.le_of_ble_eq_true rfl) rfl (dq jX11_wandersBy 93 rfl) ?_
        exact rz_lv [2, 3, 4, 5, 6, 7, 8, 1, 0] rfl (z_X11_wandersBy_b165 G k69 hk69 (f_X11_wandersBy_b127 k69 fu) ih FU x2 x3 x4 x5 x6 x7 r4 0)
theorem z_X11_wandersBy_b100 {Γ : Cx} (G : GG Γ RX11 cX11_wandersBy 12 none 2 0 0) (k69 : Int32 → Int32 → Int32 → Int32 → Int32 → Sg → Option (Unit × Sg)) (hk69 : ∀ (x2 : Int32) (x3 : Int32) (x4 : Int32) (x5 : Int32) (x6 : Int32), Rz Γ 12 (Qm Γ encV 0 0) 0 0 69 [(0, .ref 56), (2, .int x2), (3, .int x3), (4, .int x4), (5, .int x5), (6, .int x6)] [] (k69 x2 x3 x4 x5 x6)) (x2 : Int32) (x3 : Int32) (x4 : Int32) (x5 : Int32) (x6 : Int32) : Rz Γ 12 (Qm Γ encV 0 0) 0 0 100 [(0, .ref 56), (2, .int x2), (3, .int x3), (4, .int x4), (5, .int x5), (6, .int x6)] [] (f_X11_wandersBy_b100 k69 x2 x3 x4 x5 x6) := by
  unfold f_X11_wandersBy_b100
  refine rz_aload_n G 0 rfl rfl (dq jX11_wandersBy 57 rfl) ?_
  refine rz_dup G rfl (dq jX11_wandersBy 58 rfl) ?_
  refine rz_getL G flX11_460 sh56 rfl (dq jX11_wandersBy 59 rfl) (fun v1 => ?_)
  refine rz_iload G 4 rfl (dq jX11_wandersBy 60 rfl) ?_
  refine rz_i2l G (dq jX11_wandersBy 61 rfl) ?_
  refine rz_lmul G (dq jX11_wandersBy 62 rfl) ?_
  refine rz_putL G flX11_460 sh56 rfl (dq jX11_wandersBy 63 rfl) ?_
  refine rz_aload_n G 0 rfl rfl (dq jX11_wandersBy 64 rfl) ?_
  refine rz_dup G rfl (dq jX11_wandersBy 65 rfl) ?_
  refine rz_getL G flX11_463 sh56 rfl (dq jX11_wandersBy 66 rfl) (fun v2 => ?_)
  refine rz_iload G 4 rfl (dq jX11_wandersBy 67 rfl) ?_
  refine rz_i2l G (dq jX11_wandersBy 68 rfl) ?_
  refine rz_lmul G (dq jX11_wandersBy 69 rfl) ?_
  refine rz_putL G flX11_463 sh56 rfl (dq jX11_wandersBy 70 rfl) ?_
  refine rz_iconst G (v := 0) (dq jX11_wandersBy 71 rfl) rfl ?_
  refine rz_istore G (lv' := [(7, .int 0), (0, .ref 56), (2, .int x2), (3, .int x3), (4, .int x4), (5, .int x5), (6, .int x6)]) (Nat.le_of_ble_eq_true rfl) rfl (dq jX11_wandersBy 72 rfl) ?_
  exact rz_lv [1, 2, 3, 4, 5, 6, 0] rfl (z_X11_wandersBy_b127 G k69 hk69 FU x2 x3 x4 x5 x6 0)
theorem z_X11_wandersBy_b79 {Γ : Cx} (G : GG Γ RX11 cX11_wandersBy 12 none 2 0 0) (k69 : Int32 → Int32 → Int32 → Int32 → Int32 → Sg → Option (Unit × Sg)) (hk69 : ∀ (x2 : Int32) (x3 : Int32) (x4 : Int32) (x5 : Int32) (x6 : Int32), Rz Γ 12 (Qm Γ encV 0 0) 0 0 69 [(0, .ref 56), (2, .int x2), (3, .int x3), (4, .int x4), (5, .int x5), (6, .int x6)] [] (k69 x2 x3 x4 x5 x6)) : ∀ (fu : Nat) (x2 : Int32) (x3 : Int32) (x4 : Int32) (x5 : Int32) (x6 : Int32) (x7 : Int32), Rz Γ 12 (Qm Γ encV 0 0) 0 0 79 [(0, .ref 56), (2, .int x2), (3, .int x3), (4, .int x4), (5, .int x5), (6, .int x6), (7, .int x7)] [] (f_X11_wandersBy_b79 k69 fu x2 x3 x4 x5 x6 x7) := by
  intro fu
  induction fu with
  | zero => intro _ _ _ _ _ _; exact rz_none
  | succ fu ih =>
    intro x2 x3 x4 x5 x6 x7
    rw [f_X11_wandersBy_b79]
    refine rz_iload G 6 rfl (dq jX11_wandersBy 47 rfl) ?_
    refine rz_bipush G (v := 41) (dq jX11_wandersBy 48 rfl) (by decide) ?_
    refine rz_icmp_ge G (tgt := 100) rfl (dq jX11_wandersBy 49 rfl) (fun c1 => ?_) (fun c1 => ?_)
    · exact rz_lv [0, 1, 2, 3, 4, 5] rfl (z_X11_wandersBy_b100 G k69 hk69 x2 x3 x4 x5 x6)
    · refine rz_aload_n G 0 rfl rfl (dq jX11_wandersBy 50 rfl) ?_
      refine rz_getC G flX11_130 sh56 (t := 89) rfl rfl (dq jX11_wandersBy 51 rfl) ?_
      refine rz_iload G 6 rfl (dq jX11_wandersBy 52 rfl) ?_
      refine rz_lconst G (v := 0) (dq jX11_wandersBy 53 rfl) rfl ?_
      refine rz_last G sh89 (dq jX11_wandersBy 54 rfl) ?_
      refine rz_iinc G 6 (v := x7 + 1) (lv' := [(7, .int (x7 + 1)), (0, .ref 56), (2, .int x2), (3, .int x3), (4, .int x4), (5, .int x5), (6, .int x6)]) rfl (congrArg (HAdd.hAdd _) (by decide)) (Nat.le_of_ble_eq_true rfl) rfl (dq jX11_wandersBy 55 rfl) ?_
      refine rz_goto G (tgt := 79) rfl (dq jX11_wandersBy 56 rfl) ?_
      exact rz_lv [1, 2, 3, 4, 5, 6, 0] rfl (ih x2 x3 x4 x5 x6 (x7 + 1))
theorem z_X11_wandersBy_b69 {Γ : Cx} (G : GG Γ RX11 cX11_wandersBy 12 none 2 0 0) : ∀ (fu : Nat) (x2 : Int32) (x3 : Int32) (x4 : Int32) (x5 : Int32) (x6 : Int32), Rz Γ 12 (Qm Γ encV 0 0) 0 0 69 [(0, .ref 56), (2, .int x2), (3, .int x3), (4, .int x4), (5, .int x5), (6, .int x6)] [] (f_X11_wandersBy_b69 fu x2 x3 x4 x5 x6) := by
  intro fu
  induction fu with
  | zero => intro _ _ _ _ _; exact rz_none
  | succ fu ih =>
    intro x2 x3 x4 x5 x6
    rw [f_X11_wandersBy_b69]
    refine rz_iload G 5 rfl (dq jX11_wandersBy 42 rfl) ?_
    refine rz_iload G 3 rfl (dq jX11_wandersBy 43 rfl) ?_
    refine rz_icmp_ge G (tgt := 285) rfl (dq jX11_wandersBy 44 rfl) (fun c1 => ?_) (fun c1 => ?_)
    · exact rz_vret G (dq jX11_wandersBy_s1 8 rfl)
    · refine rz_iconst G (v := 0) (dq jX11_wandersBy 45 rfl) rfl ?_
      refine rz_istore G (lv' := [(7, .int 0), (0, .ref 56), (2, .int x2), (3, .int x3), (4, .int x4), (5, .int x5), (6, .int x6)]) (Nat.le_of_ble_eq_true rfl) rfl (dq jX11_wandersBy 46 rfl) ?_
      exact rz_lv [1, 2, 3, 4, 5, 6, 0] rfl (z_X11_wandersBy_b79 G (f_X11_wandersBy_b69 fu) ih FU x2 x3 x4 x5 x6 0)
theorem z_X11_wandersBy_b24 {Γ : Cx} (G : GG Γ RX11 cX11_wandersBy 12 none 2 0 0) (x1 : Int32) (x2 : Int32) (x3 : Int32) (x4 : Int32) : Rz Γ 12 (Qm Γ encV 0 0) 0 0 24 [(0, .ref 56), (1, .int x1), (2, .int x2), (3, .int x3), (4, .int x4)] [] (f_X11_wandersBy_b24 x1 x2 x3 x4) := by
  unfold f_X11_wandersBy_b24
  refine rz_aload_n G 0 rfl rfl (dq jX11_wandersBy 12 rfl) ?_
  refine rz_getC G flX11_126 sh56 (t := 88) rfl rfl (dq jX11_wandersBy 13 rfl) ?_
  refine rz_bipush G (v := 20) (dq jX11_wandersBy 14 rfl) (by decide) ?_
  refine rz_iload_n G 1 rfl rfl (dq jX11_wandersBy 15 rfl) ?_
  refine rz_iadd G (dq jX11_wandersBy 16 rfl) ?_
  refine rz_lconst G (v := 1) (dq jX11_wandersBy 17 rfl) rfl ?_
  refine rz_last G sh88 (dq jX11_wandersBy 18 rfl) ?_
  refine rz_aload_n G 0 rfl rfl (dq jX11_wandersBy 19 rfl) ?_
  refine rz_lconst G (v := 0) (dq jX11_wandersBy 20 rfl) rfl ?_
  refine rz_putL G flX11_460 sh56 rfl (dq jX11_wandersBy 21 rfl) ?_
  refine rz_aload_n G 0 rfl rfl (dq jX11_wandersBy 22 rfl) ?_
  refine rz_lconst G (v := 1) (dq jX11_wandersBy 23 rfl) rfl ?_
  refine rz_putL G flX11_463 sh56 rfl (dq jX11_wandersBy 24 rfl) ?_
  refine rz_aload_n G 0 rfl rfl (dq jX11_wandersBy 25 rfl) ?_
  refine rz_getC G flX11_22 sh56 (t := 57) rfl rfl (dq jX11_wandersBy 26 rfl) ?_
  refine rz_iconst G (v := 0) (dq jX11_wandersBy 27 rfl) rfl ?_
  refine rz_ialdN G (by decide) sh57 (dq jX11_wandersBy 28 rfl) (fun v1 => ?_)
  refine rz_aload_n G 0 rfl rfl (dq jX11_wandersBy 29 rfl) ?_
  refine rz_getC G flX11_22 sh56 (t := 57) rfl rfl (dq jX11_wandersBy 30 rfl) ?_
  refine rz_iconst G (v := 1) (dq jX11_wandersBy 31 rfl) rfl ?_
  refine rz_ialdN G (by decide) sh57 (dq jX11_wandersBy 32 rfl) (fun v2 => ?_)
  refine rz_iadd G (dq jX11_wandersBy 33 rfl) ?_
  refine rz_aload_n G 0 rfl rfl (dq jX11_wandersBy 34 rfl) ?_
  refine rz_getC G flX11_22 sh56 (t := 57) rfl rfl (dq jX11_wandersBy 35 rfl) ?_
  refine rz_iconst G (v := 2) (dq jX11_wandersBy 36 rfl) rfl ?_
  refine rz_ialdN G (by decide) sh57 (dq jX11_wandersBy 37 rfl) (fun v3 => ?_)
  refine rz_iadd G (dq jX11_wandersBy 38 rfl) ?_
  refine rz_istore G (lv' := [(5, .int ((v1 + v2) + v3)), (0, .ref 56), (1, .int x1), (2, .int x2), (3, .int x3), (4, .int x4)]) (Nat.le_of_ble_eq_true rfl) rfl (dq jX11_wandersBy 39 rfl) ?_
  refine rz_iconst G (v := 0) (dq jX11_wandersBy 40 rfl) rfl ?_
  refine rz_istore G (lv' := [(6, .int 0), (5, .int ((v1 + v2) + v3)), (0, .ref 56), (1, .int x1), (2, .int x2), (3, .int x3), (4, .int x4)]) (Nat.le_of_ble_eq_true rfl) rfl (dq jX11_wandersBy 41 rfl) ?_
  exact rz_lv [2, 4, 5, 6, 1, 0] rfl (z_X11_wandersBy_b69 G FU x2 x3 x4 ((v1 + v2) + v3) 0)
theorem z_X11_wandersBy_b3 {Γ : Cx} (G : GG Γ RX11 cX11_wandersBy 12 none 2 0 0) : ∀ (fu : Nat) (x1 : Int32) (x2 : Int32) (x3 : Int32) (x4 : Int32) (x5 : Int32), Rz Γ 12 (Qm Γ encV 0 0) 0 0 3 [(0, .ref 56), (1, .int x1), (2, .int x2), (3, .int x3), (4, .int x4), (5, .int x5)] [] (f_X11_wandersBy_b3 fu x1 x2 x3 x4 x5) := by
  intro fu
  induction fu with
  | zero => intro _ _ _ _ _; exact rz_none
  | succ fu ih =>
    intro x1 x2 x3 x4 x5
    rw [f_X11_wandersBy_b3]
    refine rz_iload G 5 rfl (dq jX11_wandersBy 2 rfl) ?_
    refine rz_bipush G (v := 41) (dq jX11_wandersBy 3 rfl) (by decide) ?_
    refine rz_icmp_ge G (tgt := 24) rfl (dq jX11_wandersBy 4 rfl) (fun c1 => ?_) (fun c1 => ?_)
    · exact rz_lv [0, 1, 2, 3, 4] rfl (z_X11_wandersBy_b24 G x1 x2 x3 x4)
    · refine rz_aload_n G 0 rfl rfl (dq jX11_wandersBy 5 rfl) ?_
      refine rz_getC G flX11_126 sh56 (t := 88) rfl rfl (dq jX11_wandersBy 6 rfl) ?_
      refine rz_iload G 5 rfl (dq jX11_wandersBy 7 rfl) ?_
      refine rz_lconst G (v := 0) (dq jX11_wandersBy 8 rfl) rfl ?_
      refine rz_last G sh88 (dq jX11_wandersBy 9 rfl) ?_
      refine rz_iinc G 5 (v := x5 + 1) (lv' := [(5, .int (x5 + 1)), (0, .ref 56), (1, .int x1), (2, .int x2), (3, .int x3), (4, .int x4)]) rfl (congrArg (HAdd.hAdd _) (by decide)) (Nat.le_of_ble_eq_true rfl) rfl (dq jX11_wandersBy 10 rfl) ?_
      refine rz_goto G (tgt := 3) rfl (dq jX11_wandersBy 11 rfl) ?_
      exact rz_lv [1, 2, 3, 4, 5, 0] rfl (ih x1 x2 x3 x4 (x5 + 1))
theorem c_X11_wandersBy (l : Launch) (x1 : Int32) (x2 : Int32) (x3 : Int32) (x4 : Int32) : Ct l yX11_wandersBy cX11_wandersBy 12 none 2 encV [.ref 56, .int x1, .int x2, .int x3, .int x4] (f_X11_wandersBy x1 x2 x3 x4) := by
  refine ct_of (own := RX11) (by decide) rfl (Nat.le_of_ble_eq_true rfl) (fun Γ hl G => ?_)
  show Rz Γ 12 (Qm Γ encV 0 0) 0 0 0 [(0, .ref 56), (1, .int x1), (2, .int x2), (3, .int x3), (4, .int x4)] [] _
  unfold f_X11_wandersBy
  refine rz_iconst G (v := 0) (dq jX11_wandersBy 0 rfl) rfl ?_
  refine rz_istore G (lv' := [(5, .int 0), (0, .ref 56), (1, .int x1), (2, .int x2), (3, .int x3), (4, .int x4)]) (Nat.le_of_ble_eq_true rfl) rfl (dq jX11_wandersBy 1 rfl) ?_
  exact rz_lv [1, 2, 3, 4, 5, 0] rfl (z_X11_wandersBy_b3 G FU x1 x2 x3 x4 0)
theorem z_X11_isWander_b45 {Γ : Cx} (G : GG Γ RX11 cX11_isWander 6 (some .boolean) 2 0 0) (x5 : Int32) (xs0 : Int32) : Rz Γ 6 (Qm Γ encI 0 0) 0 0 45 [(5, .int x5)] [.int xs0, .ref 56] (f_X11_isWander_b45 x5 xs0) := by
  unfold f_X11_isWander_b45
  refine rz_iload G 0 rfl (dq jX11_isWander 23 rfl) ?_
  refine rz_callVi G (st := []) (c_X11_right (cLn Γ) xs0 x5) lkX11_313 sh56 rfl rfl rfl (Nat.le_of_ble_eq_true rfl) (Nat.le_of_ble_eq_true rfl) (dq jX11_isWander 24 rfl) rfl (fun r1 => ?_)
  exact rz_zret G (dq jX11_isWander 25 rfl)
theorem z_X11_isWander_b44 {Γ : Cx} (G : GG Γ RX11 cX11_isWander 6 (some .boolean) 2 0 0) (x5 : Int32) : Rz Γ 6 (Qm Γ encI 0 0) 0 0 44 [(5, .int x5)] [.ref 56] (f_X11_isWander_b44 x5) := by
  unfold f_X11_isWander_b44
  refine rz_iconst G (v := 0) (dq jX11_isWander 22 rfl) rfl ?_
  exact rz_lv [0] rfl (z_X11_isWander_b45 G x5 0)
theorem c_X11_isWander (l : Launch) (x1 : Int32) (x2 : Int32) (x3 : Int32) (x4 : Int32) (x5 : Int32) : Ct l yX11_isWander cX11_isWander 6 (some .boolean) 2 encI [.ref 56, .int x1, .int x2, .int x3, .int x4, .int x5] (f_X11_isWander x1 x2 x3 x4 x5) := by
  refine ct_of (own := RX11) (by decide) rfl (Nat.le_of_ble_eq_true rfl) (fun Γ hl G => ?_)
  show Rz Γ 6 (Qm Γ encI 0 0) 0 0 0 [(0, .ref 56), (1, .int x1), (2, .int x2), (3, .int x3), (4, .int x4), (5, .int x5)] [] _
  unfold f_X11_isWander
  refine rz_aload_n G 0 rfl rfl (dq jX11_isWander 0 rfl) ?_
  refine rz_iload G 4 rfl (dq jX11_isWander 1 rfl) ?_
  refine rz_iconst G (v := 0) (dq jX11_isWander 2 rfl) rfl ?_
  refine rz_bipush G (v := 12) (dq jX11_isWander 3 rfl) (by decide) ?_
  refine rz_callSi G (st := [.ref 56]) (c_X11_within (cLn Γ) x4 0 12) lkX11_346 rfl (Nat.le_of_ble_eq_true rfl) (Nat.le_of_ble_eq_true rfl) (dq jX11_isWander 4 rfl) rfl (fun r1 => ?_)
  refine rz_if_eq G (tgt := 44) rfl (dq jX11_isWander 5 rfl) (fun c2 => ?_) (fun c2 => ?_)
  · exact rz_lv [5] rfl (z_X11_isWander_b44 G x5)
  · refine rz_iload_n G 2 rfl rfl (dq jX11_isWander 6 rfl) ?_
    refine rz_iconst G (v := 0) (dq jX11_isWander 7 rfl) rfl ?_
    refine rz_bipush G (v := 60) (dq jX11_isWander 8 rfl) (by decide) ?_
    refine rz_callSi G (st := [.ref 56]) (c_X11_within (cLn Γ) x2 0 60) lkX11_346 rfl (Nat.le_of_ble_eq_true rfl) (Nat.le_of_ble_eq_true rfl) (dq jX11_isWander 9 rfl) rfl (fun r3 => ?_)
    refine rz_if_eq G (tgt := 44) rfl (dq jX11_isWander 10 rfl) (fun c4 => ?_) (fun c4 => ?_)
    · exact rz_lv [5] rfl (z_X11_isWander_b44 G x5)
    · refine rz_aload_n G 0 rfl rfl (dq jX11_isWander 11 rfl) ?_
      refine rz_iload_n G 1 rfl rfl (dq jX11_isWander 12 rfl) ?_
      refine rz_callVi G (st := [.ref 56]) (c_X11_isIn (cLn Γ) x1) lkX11_466 sh56 rfl rfl rfl (Nat.le_of_ble_eq_true rfl) (Nat.le_of_ble_eq_true rfl) (dq jX11_isWander 13 rfl) rfl (fun r5 => ?_)
      refine rz_if_eq G (tgt := 44) rfl (dq jX11_isWander 14 rfl) (fun c6 => ?_) (fun c6 => ?_)
      · exact rz_lv [5] rfl (z_X11_isWander_b44 G x5)
      · refine rz_iload_n G 3 rfl rfl (dq jX11_isWander 15 rfl) ?_
        refine rz_iconst G (v := 0) (dq jX11_isWander 16 rfl) rfl ?_
        refine rz_bipush G (v := 9) (dq jX11_isWander 17 rfl) (by decide) ?_
        refine rz_callSi G (st := [.ref 56]) (c_X11_within (cLn Γ) x3 0 9) lkX11_346 rfl (Nat.le_of_ble_eq_true rfl) (Nat.le_of_ble_eq_true rfl) (dq jX11_isWander 18 rfl) rfl (fun r7 => ?_)
        refine rz_if_eq G (tgt := 44) rfl (dq jX11_isWander 19 rfl) (fun c8 => ?_) (fun c8 => ?_)
        · exact rz_lv [5] rfl (z_X11_isWander_b44 G x5)
        · refine rz_iconst G (v := 1) (dq jX11_isWander 20 rfl) rfl ?_
          refine rz_goto G (tgt := 45) rfl (dq jX11_isWander 21 rfl) ?_
          exact rz_lv [5] rfl (z_X11_isWander_b45 G x5 1)
theorem c_X11_falls (l : Launch) (x1 : Int32) (x2 : Int32) (x3 : Int32) (x4 : Int32) (x5 : Int32) : Ct l yX11_falls cX11_falls 6 (some .long) 3 encL [.ref 56, .int x1, .int x2, .int x3, .int x4, .int x5] (f_X11_falls x1 x2 x3 x4 x5) := by
  refine ct_of (own := RX11) (by decide) rfl (Nat.le_of_ble_eq_true rfl) (fun Γ hl G => ?_)
  show Rz Γ 6 (Qm Γ encL 0 0) 0 0 0 [(0, .ref 56), (1, .int x1), (2, .int x2), (3, .int x3), (4, .int x4), (5, .int x5)] [] _
  unfold f_X11_falls
  refine rz_aload_n G 0 rfl rfl (dq jX11_falls 0 rfl) ?_
  refine rz_iconst G (v := 0) (dq jX11_falls 1 rfl) rfl ?_
  refine rz_putI G flX11_148 sh56 rfl (dq jX11_falls 2 rfl) ?_
  refine rz_aload_n G 0 rfl rfl (dq jX11_falls 3 rfl) ?_
  refine rz_iload G 5 rfl (dq jX11_falls 4 rfl) ?_
  refine rz_iconst G (v := 1) (dq jX11_falls 5 rfl) rfl ?_
  refine rz_callVi G (st := []) (c_X11_isWhat (cLn Γ) x5 1) lkX11_353 sh56 rfl rfl rfl (Nat.le_of_ble_eq_true rfl) (Nat.le_of_ble_eq_true rfl) (dq jX11_falls 6 rfl) rfl (fun r1 => ?_)
  refine rz_if_eq G (tgt := 28) rfl (dq jX11_falls 7 rfl) (fun c2 => ?_) (fun c2 => ?_)
  · refine rz_lconst G (v := 0) (dq jX11_falls 16 rfl) rfl ?_
    exact rz_lret G (dq jX11_falls 17 rfl)
  · refine rz_aload_n G 0 rfl rfl (dq jX11_falls 8 rfl) ?_
    refine rz_iload_n G 1 rfl rfl (dq jX11_falls 9 rfl) ?_
    refine rz_iload_n G 2 rfl rfl (dq jX11_falls 10 rfl) ?_
    refine rz_iload_n G 3 rfl rfl (dq jX11_falls 11 rfl) ?_
    refine rz_iload G 4 rfl (dq jX11_falls 12 rfl) ?_
    refine rz_iconst G (v := 2) (dq jX11_falls 13 rfl) rfl ?_
    refine rz_callVi G (st := []) (c_X11_isWander (cLn Γ) x1 x2 x3 x4 2) lkX11_469 sh56 rfl rfl rfl (Nat.le_of_ble_eq_true rfl) (Nat.le_of_ble_eq_true rfl) (dq jX11_falls 14 rfl) rfl (fun r3 => ?_)
    refine rz_if_ne G (tgt := 30) rfl (dq jX11_falls 15 rfl) (fun c4 => ?_) (fun c4 => ?_)
    · refine rz_lconst G (v := 0) (dq jX11_falls 16 rfl) rfl ?_
      exact rz_lret G (dq jX11_falls 17 rfl)
    · refine rz_aload_n G 0 rfl rfl (dq jX11_falls 18 rfl) ?_
      refine rz_iload_n G 1 rfl rfl (dq jX11_falls 19 rfl) ?_
      refine rz_iload_n G 2 rfl rfl (dq jX11_falls 20 rfl) ?_
      refine rz_iload_n G 3 rfl rfl (dq jX11_falls 21 rfl) ?_
      refine rz_iload G 4 rfl (dq jX11_falls 22 rfl) ?_
      refine rz_callVv G (st := []) (c_X11_wandersBy (cLn Γ) x1 x2 x3 x4) lkX11_473 sh56 rfl rfl rfl (Nat.le_of_ble_eq_true rfl) (Nat.le_of_ble_eq_true rfl) (dq jX11_falls 23 rfl) rfl (fun _ => ?_)
      refine rz_aload_n G 0 rfl rfl (dq jX11_falls 24 rfl) ?_
      refine rz_getL G flX11_460 sh56 rfl (dq jX11_falls 25 rfl) (fun v5 => ?_)
      refine rz_aload_n G 0 rfl rfl (dq jX11_falls 26 rfl) ?_
      refine rz_getL G flX11_463 sh56 rfl (dq jX11_falls 27 rfl) (fun v6 => ?_)
      refine rz_iload G 5 rfl (dq jX11_falls 28 rfl) ?_
      refine rz_callSl G (st := []) (c_X11_portion (cLn Γ) v5 v6 x5) lkX11_476 rfl (Nat.le_of_ble_eq_true rfl) (Nat.le_of_ble_eq_true rfl) (dq jX11_falls 29 rfl) rfl (fun r7 => ?_)
      exact rz_lret G (dq jX11_falls 30 rfl)
theorem z_X11_wanders_b62 {Γ : Cx} (G : GG Γ RX11 cX11_wanders 7 (some .long) 3 0 0) (x6 : Int32) (xs0 : Int64) : Rz Γ 7 (Qm Γ encL 0 0) 0 0 62 [(0, .ref 56), (6, .int x6)] [.long xs0] (f_X11_wanders_b62 x6 xs0) := by
  unfold f_X11_wanders_b62
  refine rz_aload_n G 0 rfl rfl (dq jX11_wanders 36 rfl) ?_
  refine rz_getL G flX11_463 sh56 rfl (dq jX11_wanders 37 rfl) (fun v1 => ?_)
  refine rz_iload G 1 rfl (dq jX11_wanders 38 rfl) ?_
  refine rz_callSl G (st := []) (c_X11_portion (cLn Γ) xs0 v1 x6) lkX11_476 rfl (Nat.le_of_ble_eq_true rfl) (Nat.le_of_ble_eq_true rfl) (dq jX11_wanders 39 rfl) rfl (fun r2 => ?_)
  exact rz_lret G (dq jX11_wanders 40 rfl)
theorem c_X11_wanders (l : Launch) (x1 : Int32) (x2 : Int32) (x3 : Int32) (x4 : Int32) (x5 : Int32) (x6 : Int32) : Ct l yX11_wanders cX11_wanders 7 (some .long) 3 encL [.ref 56, .int x1, .int x2, .int x3, .int x4, .int x5, .int x6] (f_X11_wanders x1 x2 x3 x4 x5 x6) := by
  refine ct_of (own := RX11) (by decide) rfl (Nat.le_of_ble_eq_true rfl) (fun Γ hl G => ?_)
  show Rz Γ 7 (Qm Γ encL 0 0) 0 0 0 [(0, .ref 56), (1, .int x1), (2, .int x2), (3, .int x3), (4, .int x4), (5, .int x5), (6, .int x6)] [] _
  unfold f_X11_wanders
  refine rz_aload_n G 0 rfl rfl (dq jX11_wanders 0 rfl) ?_
  refine rz_iconst G (v := 0) (dq jX11_wanders 1 rfl) rfl ?_
  refine rz_putI G flX11_148 sh56 rfl (dq jX11_wanders 2 rfl) ?_
  refine rz_aload_n G 0 rfl rfl (dq jX11_wanders 3 rfl) ?_
  refine rz_iload G 6 rfl (dq jX11_wanders 4 rfl) ?_
  refine rz_iconst G (v := 1) (dq jX11_wanders 5 rfl) rfl ?_
  refine rz_callVi G (st := []) (c_X11_isWhat (cLn Γ) x6 1) lkX11_353 sh56 rfl rfl rfl (Nat.le_of_ble_eq_true rfl) (Nat.le_of_ble_eq_true rfl) (dq jX11_wanders 6 rfl) rfl (fun r1 => ?_)
  refine rz_if_eq G (tgt := 28) rfl (dq jX11_wanders 7 rfl) (fun c2 => ?_) (fun c2 => ?_)
  · refine rz_lconst G (v := 0) (dq jX11_wanders 16 rfl) rfl ?_
    exact rz_lret G (dq jX11_wanders 17 rfl)
  · refine rz_aload_n G 0 rfl rfl (dq jX11_wanders 8 rfl) ?_
    refine rz_iload_n G 1 rfl rfl (dq jX11_wanders 9 rfl) ?_
    refine rz_iload_n G 2 rfl rfl (dq jX11_wanders 10 rfl) ?_
    refine rz_iload_n G 3 rfl rfl (dq jX11_wanders 11 rfl) ?_
    refine rz_iload G 4 rfl (dq jX11_wanders 12 rfl) ?_
    refine rz_iconst G (v := 2) (dq jX11_wanders 13 rfl) rfl ?_
    refine rz_callVi G (st := []) (c_X11_isWander (cLn Γ) x1 x2 x3 x4 2) lkX11_469 sh56 rfl rfl rfl (Nat.le_of_ble_eq_true rfl) (Nat.le_of_ble_eq_true rfl) (dq jX11_wanders 14 rfl) rfl (fun r3 => ?_)
    refine rz_if_ne G (tgt := 30) rfl (dq jX11_wanders 15 rfl) (fun c4 => ?_) (fun c4 => ?_)
    · refine rz_lconst G (v := 0) (dq jX11_wanders 16 rfl) rfl ?_
      exact rz_lret G (dq jX11_wanders 17 rfl)
    · refine rz_aload_n G 0 rfl rfl (dq jX11_wanders 18 rfl) ?_
      refine rz_iload_n G 1 rfl rfl (dq jX11_wanders 19 rfl) ?_
      refine rz_iload_n G 2 rfl rfl (dq jX11_wanders 20 rfl) ?_
      refine rz_iload_n G 3 rfl rfl (dq jX11_wanders 21 rfl) ?_
      refine rz_iload G 4 rfl (dq jX11_wanders 22 rfl) ?_
      refine rz_callVv G (st := []) (c_X11_wandersBy (cLn Γ) x1 x2 x3 x4) lkX11_473 sh56 rfl rfl rfl (Nat.le_of_ble_eq_true rfl) (Nat.le_of_ble_eq_true rfl) (dq jX11_wanders 23 rfl) rfl (fun _ => ?_)
      refine rz_aload_n G 0 rfl rfl (dq jX11_wanders 24 rfl) ?_
      refine rz_iload G 5 rfl (dq jX11_wanders 25 rfl) ?_
      refine rz_callVi G (st := []) (c_X11_isIn (cLn Γ) x5) lkX11_466 sh56 rfl rfl rfl (Nat.le_of_ble_eq_true rfl) (Nat.le_of_ble_eq_true rfl) (dq jX11_wanders 26 rfl) rfl (fun r5 => ?_)
      refine rz_if_eq G (tgt := 61) rfl (dq jX11_wanders 27 rfl) (fun c6 => ?_) (fun c6 => ?_)
      · refine rz_lconst G (v := 0) (dq jX11_wanders 35 rfl) rfl ?_
        exact rz_lv [0, 6] rfl (z_X11_wanders_b62 G x6 0)
      · refine rz_aload_n G 0 rfl rfl (dq jX11_wanders 28 rfl) ?_
        refine rz_getC G flX11_126 sh56 (t := 88) rfl rfl (dq jX11_wanders 29 rfl) ?_
        refine rz_bipush G (v := 20) (dq jX11_wanders 30 rfl) (by decide) ?_
        refine rz_iload G 5 rfl (dq jX11_wanders 31 rfl) ?_
        refine rz_iadd G (dq jX11_wanders 32 rfl) ?_
        refine rz_lald G sh88 (dq jX11_wanders 33 rfl) (fun v7 => ?_)
        refine rz_goto G (tgt := 62) rfl (dq jX11_wanders 34 rfl) ?_
        exact rz_lv [0, 6] rfl (z_X11_wanders_b62 G x6 v7)
theorem z_X11_correct_b73 {Γ : Cx} (G : GG Γ RX11 cX11_correct 8 (some .int) 3 0 0) (k28 : Int32 → Int32 → Int32 → Int32 → Int64 → Int32 → Sg → Option (Int32 × Sg)) (hk28 : ∀ (x1 : Int32) (x2 : Int32) (x3 : Int32) (x4 : Int32) (x5 : Int64) (x7 : Int32), Rz Γ 8 (Qm Γ encI 0 0) 0 0 28 [(0, .ref 56), (1, .int x1), (2, .int x2), (3, .int x3), (4, .int x4), (5, .long x5), (7, .int x7)] [] (k28 x1 x2 x3 x4 x5 x7)) (x1 : Int32) (x2 : Int32) (x3 : Int32) (x4 : Int32) (x5 : Int64) (x7 : Int32) : Rz Γ 8 (Qm Γ encI 0 0) 0 0 73 [(0, .ref 56), (1, .int x1), (2, .int x2), (3, .int x3), (4, .int x4), (5, .long x5), (7, .int x7)] [] (f_X11_correct_b73 k28 x1 x2 x3 x4 x5 x7) := by
  unfold f_X11_correct_b73
  refine rz_iinc G 6 (v := x7 + 1) (lv' := [(7, .int (x7 + 1)), (0, .ref 56), (1, .int x1), (2, .int x2), (3, .int x3), (4, .int x4), (5, .long x5)]) rfl (congrArg (HAdd.hAdd _) (by decide)) (Nat.le_of_ble_eq_true rfl) rfl (dq jX11_correct 42 rfl) ?_
  refine rz_goto G (tgt := 28) rfl (dq jX11_correct 43 rfl) ?_
  exact rz_lv [1, 2, 3, 4, 5, 6, 0] rfl (hk28 x1 x2 x3 x4 x5 (x7 + 1))
theorem z_X11_correct_b63 {Γ : Cx} (G : GG Γ RX11 cX11_correct 8 (some .int) 3 0 0) (k28 : Int32 → Int32 → Int32 → Int32 → Int64 → Int32 → Sg → Option (Int32 × Sg)) (hk28 : ∀ (x1 : Int32) (x2 : Int32) (x3 : Int32) (x4 : Int32) (x5 : Int64) (x7 : Int32), Rz Γ 8 (Qm Γ encI 0 0) 0 0 28 [(0, .ref 56), (1, .int x1), (2, .int x2), (3, .int x3), (4, .int x4), (5, .long x5), (7, .int x7)] [] (k28 x1 x2 x3 x4 x5 x7)) (x1 : Int32) (x2 : Int32) (x3 : Int32) (x7 : Int32) : Rz Γ 8 (Qm Γ encI 0 0) 0 0 63 [(0, .ref 56), (1, .int x1), (2, .int x2), (3, .int x3), (7, .int x7)] [] (f_X11_correct_b63 k28 x1 x2 x3 x7) := by
  unfold f_X11_correct_b63
  refine rz_iload G 4 rfl (dq jX11_correct 37 rfl) ?_
  refine rz_istore G (lv' := [(4, .int x7), (0, .ref 56), (1, .int x1), (2, .int x2), (3, .int x3), (7, .int x7)]) (Nat.le_of_ble_eq_true rfl) rfl (dq jX11_correct 38 rfl) ?_
  refine rz_aload_n G 1 rfl rfl (dq jX11_correct 39 rfl) ?_
  refine rz_getL G flX11_460 sh56 rfl (dq jX11_correct 40 rfl) (fun v1 => ?_)
  refine rz_lstore G (lv' := [(5, .long v1), (4, .int x7), (0, .ref 56), (1, .int x1), (2, .int x2), (3, .int x3), (7, .int x7)]) (Nat.le_of_ble_eq_true rfl) rfl (dq jX11_correct 41 rfl) ?_
  exact rz_lv [2, 3, 4, 5, 1, 0, 6] rfl (z_X11_correct_b73 G k28 hk28 x1 x2 x3 x7 v1 x7)
theorem z_X11_correct_b28 {Γ : Cx} (G : GG Γ RX11 cX11_correct 8 (some .int) 3 0 0) : ∀ (fu : Nat) (x1 : Int32) (x2 : Int32) (x3 : Int32) (x4 : Int32) (x5 : Int64) (x7 : Int32), Rz Γ 8 (Qm Γ encI 0 0) 0 0 28 [(0, .ref 56), (1, .int x1), (2, .int x2), (3, .int x3), (4, .int x4), (5, .long x5), (7, .int x7)] [] (f_X11_correct_b28 fu x1 x2 x3 x4 x5 x7) := by
  intro fu
  induction fu with
  | zero => intro _ _ _ _ _ _; exact rz_none
  | succ fu ih =>
    intro x1 x2 x3 x4 x5 x7
    rw [f_X11_correct_b28]
    refine rz_iload G 6 rfl (dq jX11_correct 19 rfl) ?_
    refine rz_bipush G (v := 9) (dq jX11_correct 20 rfl) (by decide) ?_
    refine rz_icmp_gt G (tgt := 79) rfl (dq jX11_correct 21 rfl) (fun c1 => ?_) (fun c1 => ?_)
    · refine rz_iload G 4 rfl (dq jX11_correct 44 rfl) ?_
      exact rz_iret G (dq jX11_correct 45 rfl)
    · refine rz_aload_n G 0 rfl rfl (dq jX11_correct 22 rfl) ?_
      refine rz_iload_n G 1 rfl rfl (dq jX11_correct 23 rfl) ?_
      refine rz_iload_n G 2 rfl rfl (dq jX11_correct 24 rfl) ?_
      refine rz_iload G 6 rfl (dq jX11_correct 25 rfl) ?_
      refine rz_iload_n G 3 rfl rfl (dq jX11_correct 26 rfl) ?_
      refine rz_callVv G (st := []) (c_X11_wandersBy (cLn Γ) x1 x2 x7 x3) lkX11_473 sh56 rfl rfl rfl (Nat.le_of_ble_eq_true rfl) (Nat.le_of_ble_eq_true rfl) (dq jX11_correct 27 rfl) rfl (fun _ => ?_)
      refine rz_iload G 4 rfl (dq jX11_correct 28 rfl) ?_
      refine rz_iconst G (v := (-1)) (dq jX11_correct 29 rfl) rfl ?_
      refine rz_icmp_eq G (tgt := 63) rfl (dq jX11_correct 30 rfl) (fun c2 => ?_) (fun c2 => ?_)
      · exact rz_lv [0, 1, 2, 3, 6] rfl (z_X11_correct_b63 G (f_X11_correct_b28 fu) ih x1 x2 x3 x7)
      · refine rz_aload_n G 0 rfl rfl (dq jX11_correct 31 rfl) ?_
        refine rz_getL G flX11_460 sh56 rfl (dq jX11_correct 32 rfl) (fun v3 => ?_)
        refine rz_lload G 5 rfl (dq jX11_correct 33 rfl) ?_
        refine rz_lcmp G (dq jX11_correct 34 rfl) ?_
        refine rz_if_lt G (tgt := 63) rfl (dq jX11_correct 35 rfl) (fun c4 => ?_) (fun c4 => ?_)
        · exact rz_lv [0, 1, 2, 3, 6] rfl (z_X11_correct_b63 G (f_X11_correct_b28 fu) ih x1 x2 x3 x7)
        · refine rz_goto G (tgt := 73) rfl (dq jX11_correct 36 rfl) ?_
          exact rz_lv [0, 1, 2, 3, 4, 5, 6] rfl (z_X11_correct_b73 G (f_X11_correct_b28 fu) ih x1 x2 x3 x4 x5 x7)
theorem c_X11_correct (l : Launch) (x1 : Int32) (x2 : Int32) (x3 : Int32) : Ct l yX11_correct cX11_correct 8 (some .int) 3 encI [.ref 56, .int x1, .int x2, .int x3] (f_X11_correct x1 x2 x3) := by
  refine ct_of (own := RX11) (by decide) rfl (Nat.le_of_ble_eq_true rfl) (fun Γ hl G => ?_)
  show Rz Γ 8 (Qm Γ encI 0 0) 0 0 0 [(0, .ref 56), (1, .int x1), (2, .int x2), (3, .int x3)] [] _
  unfold f_X11_correct
  refine rz_aload_n G 0 rfl rfl (dq jX11_correct 0 rfl) ?_
  refine rz_iconst G (v := 0) (dq jX11_correct 1 rfl) rfl ?_
  refine rz_putI G flX11_148 sh56 rfl (dq jX11_correct 2 rfl) ?_
  refine rz_aload_n G 0 rfl rfl (dq jX11_correct 3 rfl) ?_
  refine rz_iload_n G 1 rfl rfl (dq jX11_correct 4 rfl) ?_
  refine rz_iload_n G 2 rfl rfl (dq jX11_correct 5 rfl) ?_
  refine rz_iconst G (v := 0) (dq jX11_correct 6 rfl) rfl ?_
  refine rz_iload_n G 3 rfl rfl (dq jX11_correct 7 rfl) ?_
  refine rz_iconst G (v := 1) (dq jX11_correct 8 rfl) rfl ?_
  refine rz_callVi G (st := []) (c_X11_isWander (cLn Γ) x1 x2 0 x3 1) lkX11_469 sh56 rfl rfl rfl (Nat.le_of_ble_eq_true rfl) (Nat.le_of_ble_eq_true rfl) (dq jX11_correct 9 rfl) rfl (fun r1 => ?_)
  refine rz_if_ne G (tgt := 19) rfl (dq jX11_correct 10 rfl) (fun c2 => ?_) (fun c2 => ?_)
  · refine rz_iconst G (v := 0) (dq jX11_correct 11 rfl) rfl ?_
    exact rz_iret G (dq jX11_correct 12 rfl)
  · refine rz_iconst G (v := (-1)) (dq jX11_correct 13 rfl) rfl ?_
    refine rz_istore G (lv' := [(4, .int ((-1))), (0, .ref 56), (1, .int x1), (2, .int x2), (3, .int x3)]) (Nat.le_of_ble_eq_true rfl) rfl (dq jX11_correct 14 rfl) ?_
    refine rz_lconst G (v := 0) (dq jX11_correct 15 rfl) rfl ?_
    refine rz_lstore G (lv' := [(5, .long 0), (4, .int ((-1))), (0, .ref 56), (1, .int x1), (2, .int x2), (3, .int x3)]) (Nat.le_of_ble_eq_true rfl) rfl (dq jX11_correct 16 rfl) ?_
    refine rz_iconst G (v := 0) (dq jX11_correct 17 rfl) rfl ?_
    refine rz_istore G (lv' := [(7, .int 0), (5, .long 0), (4, .int ((-1))), (0, .ref 56), (1, .int x1), (2, .int x2), (3, .int x3)]) (Nat.le_of_ble_eq_true rfl) rfl (dq jX11_correct 18 rfl) ?_
    exact rz_lv [3, 4, 5, 6, 2, 1, 0] rfl (z_X11_correct_b28 G FU x1 x2 x3 ((-1)) 0 0)
theorem z_X11_safe_b130 {Γ : Cx} (G : GG Γ RX11 cX11_safe 9 (some .long) 2 0 0) (k61 : Int32 → Int32 → Int32 → Int64 → Int32 → Sg → Option (Int64 × Sg)) (hk61 : ∀ (x1 : Int32) (x2 : Int32) (x3 : Int32) (x4 : Int64) (x6 : Int32), Rz Γ 9 (Qm Γ encL 0 0) 0 0 61 [(0, .ref 56), (1, .int x1), (2, .int x2), (3, .int x3), (4, .long x4), (6, .int x6)] [] (k61 x1 x2 x3 x4 x6)) (x1 : Int32) (x2 : Int32) (x3 : Int32) (x6 : Int32) (xs0 : Int64) (xs1 : Int64) : Rz Γ 9 (Qm Γ encL 0 0) 0 0 130 [(0, .ref 56), (1, .int x1), (2, .int x2), (3, .int x3), (6, .int x6)] [.long xs0, .long xs1] (f_X11_safe_b130 k61 x1 x2 x3 x6 xs0 xs1) := by
  unfold f_X11_safe_b130
  refine rz_lor G (dq jX11_safe 69 rfl) ?_
  refine rz_lstore G (lv' := [(4, .long (xs1 ||| xs0)), (0, .ref 56), (1, .int x1), (2, .int x2), (3, .int x3), (6, .int x6)]) (Nat.le_of_ble_eq_true rfl) rfl (dq jX11_safe 70 rfl) ?_
  refine rz_iinc G 5 (v := x6 + 1) (lv' := [(6, .int (x6 + 1)), (4, .long (xs1 ||| xs0)), (0, .ref 56), (1, .int x1), (2, .int x2), (3, .int x3)]) rfl (congrArg (HAdd.hAdd _) (by decide)) (Nat.le_of_ble_eq_true rfl) rfl (dq jX11_safe 71 rfl) ?_
  refine rz_goto G (tgt := 61) rfl (dq jX11_safe 72 rfl) ?_
  exact rz_lv [2, 3, 4, 5, 1, 0] rfl (hk61 x1 x2 x3 (xs1 ||| xs0) (x6 + 1))
theorem z_X11_safe_b108 {Γ : Cx} (G : GG Γ RX11 cX11_safe 9 (some .long) 2 0 0) (k61 : Int32 → Int32 → Int32 → Int64 → Int32 → Sg → Option (Int64 × Sg)) (hk61 : ∀ (x1 : Int32) (x2 : Int32) (x3 : Int32) (x4 : Int64) (x6 : Int32), Rz Γ 9 (Qm Γ encL 0 0) 0 0 61 [(0, .ref 56), (1, .int x1), (2, .int x2), (3, .int x3), (4, .long x4), (6, .int x6)] [] (k61 x1 x2 x3 x4 x6)) (x1 : Int32) (x2 : Int32) (x3 : Int32) (x4 : Int64) (x6 : Int32) (x7 : Int32) : Rz Γ 9 (Qm Γ encL 0 0) 0 0 108 [(0, .ref 56), (1, .int x1), (2, .int x2), (3, .int x3), (4, .long x4), (6, .int x6), (7, .int x7)] [] (f_X11_safe_b108 k61 x1 x2 x3 x4 x6 x7) := by
  unfold f_X11_safe_b108
  refine rz_lload G 4 rfl (dq jX11_safe 57 rfl) ?_
  refine rz_aload_n G 0 rfl rfl (dq jX11_safe 58 rfl) ?_
  refine rz_iload G 6 rfl (dq jX11_safe 59 rfl) ?_
  refine rz_callVi G (st := [.long x4]) (c_X11_isIn (cLn Γ) x7) lkX11_466 sh56 rfl rfl rfl (Nat.le_of_ble_eq_true rfl) (Nat.le_of_ble_eq_true rfl) (dq jX11_safe 60 rfl) rfl (fun r1 => ?_)
  refine rz_if_eq G (tgt := 129) rfl (dq jX11_safe 61 rfl) (fun c2 => ?_) (fun c2 => ?_)
  · refine rz_lconst G (v := 0) (dq jX11_safe 68 rfl) rfl ?_
    exact rz_lv [0, 1, 2, 3, 5] rfl (z_X11_safe_b130 G k61 hk61 x1 x2 x3 x6 0 x4)
  · refine rz_lconst G (v := 1) (dq jX11_safe 62 rfl) rfl ?_
    refine rz_bipush G (v := 20) (dq jX11_safe 63 rfl) (by decide) ?_
    refine rz_iload G 5 rfl (dq jX11_safe 64 rfl) ?_
    refine rz_iadd G (dq jX11_safe 65 rfl) ?_
    refine rz_lshl G (dq jX11_safe 66 rfl) ?_
    refine rz_goto G (tgt := 130) rfl (dq jX11_safe 67 rfl) ?_
    exact rz_lv [0, 1, 2, 3, 5] rfl (z_X11_safe_b130 G k61 hk61 x1 x2 x3 x6 (1 <<< ((20 + x6).toInt64 &&& 63)) x4)
theorem z_X11_safe_b77 {Γ : Cx} (G : GG Γ RX11 cX11_safe 9 (some .long) 2 0 0) (k61 : Int32 → Int32 → Int32 → Int64 → Int32 → Sg → Option (Int64 × Sg)) (hk61 : ∀ (x1 : Int32) (x2 : Int32) (x3 : Int32) (x4 : Int64) (x6 : Int32), Rz Γ 9 (Qm Γ encL 0 0) 0 0 61 [(0, .ref 56), (1, .int x1), (2, .int x2), (3, .int x3), (4, .long x4), (6, .int x6)] [] (k61 x1 x2 x3 x4 x6)) : ∀ (fu : Nat) (x1 : Int32) (x2 : Int32) (x3 : Int32) (x4 : Int64) (x6 : Int32) (x7 : Int32) (x8 : Int32), Rz Γ 9 (Qm Γ encL 0 0) 0 0 77 [(0, .ref 56), (1, .int x1), (2, .int x2), (3, .int x3), (4, .long x4), (6, .int x6), (7, .int x7), (8, .int x8)] [] (f_X11_safe_b77 k61 fu x1 x2 x3 x4 x6 x7 x8) := by
  intro fu
  induction fu with
  | zero => intro _ _ _ _ _ _ _; exact rz_none
  | succ fu ih =>
    intro x1 x2 x3 x4 x6 x7 x8
    rw [f_X11_safe_b77]
    refine rz_iload G 7 rfl (dq jX11_safe 42 rfl) ?_
    refine rz_iload_n G 3 rfl rfl (dq jX11_safe 43 rfl) ?_
    refine rz_icmp_ge G (tgt := 108) rfl (dq jX11_safe 44 rfl) (fun c1 => ?_) (fun c1 => ?_)
    · exact rz_lv [0, 1, 2, 3, 4, 5, 6] rfl (z_X11_safe_b108 G k61 hk61 x1 x2 x3 x4 x6 x7)
    · refine rz_aload_n G 0 rfl rfl (dq jX11_safe 45 rfl) ?_
      refine rz_iload G 6 rfl (dq jX11_safe 46 rfl) ?_
      refine rz_callVi G (st := []) (c_X11_isIn (cLn Γ) x7) lkX11_466 sh56 rfl rfl rfl (Nat.le_of_ble_eq_true rfl) (Nat.le_of_ble_eq_true rfl) (dq jX11_safe 47 rfl) rfl (fun r2 => ?_)
      refine rz_if_eq G (tgt := 108) rfl (dq jX11_safe 48 rfl) (fun c3 => ?_) (fun c3 => ?_)
      · exact rz_lv [0, 1, 2, 3, 4, 5, 6] rfl (z_X11_safe_b108 G k61 hk61 x1 x2 x3 x4 x6 x7)
      · refine rz_aload_n G 0 rfl rfl (dq jX11_safe 49 rfl) ?_
        refine rz_iload G 6 rfl (dq jX11_safe 50 rfl) ?_
        refine rz_iload_n G 1 rfl rfl (dq jX11_safe 51 rfl) ?_
        refine rz_iload_n G 2 rfl rfl (dq jX11_safe 52 rfl) ?_
        refine rz_callVi G (st := []) (c_X11_then (cLn Γ) x7 x1 x2) lkX11_409 sh56 rfl rfl rfl (Nat.le_of_ble_eq_true rfl) (Nat.le_of_ble_eq_true rfl) (dq jX11_safe 53 rfl) rfl (fun r4 => ?_)
        refine rz_istore G (lv' := [(7, .int r4), (0, .ref 56), (1, .int x1), (2, .int x2), (3, .int x3), (4, .long x4), (6, .int x6), (8, .int x8)]) (Nat.le_of_ble_eq_true rfl) rfl (dq jX11_safe 54 rfl) ?_
        refine rz_iinc G 7 (v := x8 + 1) (lv' := [(8, .int (x8 + 1)), (7, .int r4), (0, .ref 56), (1, .int x1), (2, .int x2), (3, .int x3), (4, .long x4), (6, .int x6)]) rfl (congrArg (HAdd.hAdd _) (by decide)) (Nat.le_of_ble_eq_true rfl) rfl (dq jX11_safe 55 rfl) ?_
        refine rz_goto G (tgt := 77) rfl (dq jX11_safe 56 rfl) ?_
        exact rz_lv [2, 3, 4, 5, 6, 7, 1, 0] rfl (ih x1 x2 x3 x4 x6 r4 (x8 + 1))
theorem z_X11_safe_b61 {Γ : Cx} (G : GG Γ RX11 cX11_safe 9 (some .long) 2 0 0) : ∀ (fu : Nat) (x1 : Int32) (x2 : Int32) (x3 : Int32) (x4 : Int64) (x6 : Int32), Rz Γ 9 (Qm Γ encL 0 0) 0 0 61 [(0, .ref 56), (1, .int x1), (2, .int x2), (3, .int x3), (4, .long x4), (6, .int x6)] [] (f_X11_safe_b61 fu x1 x2 x3 x4 x6) := by
  intro fu
  induction fu with
  | zero => intro _ _ _ _ _; exact rz_none
  | succ fu ih =>
    intro x1 x2 x3 x4 x6
    rw [f_X11_safe_b61]
    refine rz_iload G 5 rfl (dq jX11_safe 34 rfl) ?_
    refine rz_aload_n G 0 rfl rfl (dq jX11_safe 35 rfl) ?_
    refine rz_getI G flX11_13 sh56 rfl (dq jX11_safe 36 rfl) (fun v1 => ?_)
    refine rz_icmp_gt G (tgt := 139) rfl (dq jX11_safe 37 rfl) (fun c2 => ?_) (fun c2 => ?_)
    · refine rz_lload G 4 rfl (dq jX11_safe 73 rfl) ?_
      exact rz_lret G (dq jX11_safe 74 rfl)
    · refine rz_iload G 5 rfl (dq jX11_safe 38 rfl) ?_
      refine rz_istore G (lv' := [(7, .int x6), (0, .ref 56), (1, .int x1), (2, .int x2), (3, .int x3), (4, .long x4), (6, .int x6)]) (Nat.le_of_ble_eq_true rfl) rfl (dq jX11_safe 39 rfl) ?_
      refine rz_iconst G (v := 0) (dq jX11_safe 40 rfl) rfl ?_
      refine rz_istore G (lv' := [(8, .int 0), (7, .int x6), (0, .ref 56), (1, .int x1), (2, .int x2), (3, .int x3), (4, .long x4), (6, .int x6)]) (Nat.le_of_ble_eq_true rfl) rfl (dq jX11_safe 41 rfl) ?_
      exact rz_lv [2, 3, 4, 5, 6, 7, 1, 0] rfl (z_X11_safe_b77 G (f_X11_safe_b61 fu) ih FU x1 x2 x3 x4 x6 x6 0)
theorem z_X11_safe_b41 {Γ : Cx} (G : GG Γ RX11 cX11_safe 9 (some .long) 2 0 0) (x1 : Int32) (x2 : Int32) (x3 : Int32) (xs0 : Int32) : Rz Γ 9 (Qm Γ encL 0 0) 0 0 41 [(0, .ref 56), (1, .int x1), (2, .int x2), (3, .int x3)] [.int xs0, .ref 56] (f_X11_safe_b41 x1 x2 x3 xs0) := by
  unfold f_X11_safe_b41
  refine rz_iconst G (v := 1) (dq jX11_safe 22 rfl) rfl ?_
  refine rz_callVi G (st := []) (c_X11_right (cLn Γ) xs0 1) lkX11_313 sh56 rfl rfl rfl (Nat.le_of_ble_eq_true rfl) (Nat.le_of_ble_eq_true rfl) (dq jX11_safe 23 rfl) rfl (fun r1 => ?_)
  refine rz_if_ne G (tgt := 50) rfl (dq jX11_safe 24 rfl) (fun c2 => ?_) (fun c2 => ?_)
  · refine rz_lconst G (v := 0) (dq jX11_safe 25 rfl) rfl ?_
    exact rz_lret G (dq jX11_safe 26 rfl)
  · refine rz_lconst G (v := 0) (dq jX11_safe 27 rfl) rfl ?_
    refine rz_lstore G (lv' := [(4, .long 0), (0, .ref 56), (1, .int x1), (2, .int x2), (3, .int x3)]) (Nat.le_of_ble_eq_true rfl) rfl (dq jX11_safe 28 rfl) ?_
    refine rz_iconst G (v := 0) (dq jX11_safe 29 rfl) rfl ?_
    refine rz_aload_n G 1 rfl rfl (dq jX11_safe 30 rfl) ?_
    refine rz_getI G flX11_13 sh56 rfl (dq jX11_safe 31 rfl) (fun v3 => ?_)
    refine rz_isub G (dq jX11_safe 32 rfl) ?_
    refine rz_istore G (lv' := [(6, .int (0 - v3)), (4, .long 0), (0, .ref 56), (1, .int x1), (2, .int x2), (3, .int x3)]) (Nat.le_of_ble_eq_true rfl) rfl (dq jX11_safe 33 rfl) ?_
    exact rz_lv [2, 3, 4, 5, 1, 0] rfl (z_X11_safe_b61 G FU x1 x2 x3 0 (0 - v3))
theorem z_X11_safe_b40 {Γ : Cx} (G : GG Γ RX11 cX11_safe 9 (some .long) 2 0 0) (x1 : Int32) (x2 : Int32) (x3 : Int32) : Rz Γ 9 (Qm Γ encL 0 0) 0 0 40 [(0, .ref 56), (1, .int x1), (2, .int x2), (3, .int x3)] [.ref 56] (f_X11_safe_b40 x1 x2 x3) := by
  unfold f_X11_safe_b40
  refine rz_iconst G (v := 0) (dq jX11_safe 21 rfl) rfl ?_
  exact rz_lv [0, 1, 2, 3] rfl (z_X11_safe_b41 G x1 x2 x3 0)
theorem c_X11_safe (l : Launch) (x1 : Int32) (x2 : Int32) (x3 : Int32) : Ct l yX11_safe cX11_safe 9 (some .long) 2 encL [.ref 56, .int x1, .int x2, .int x3] (f_X11_safe x1 x2 x3) := by
  refine ct_of (own := RX11) (by decide) rfl (Nat.le_of_ble_eq_true rfl) (fun Γ hl G => ?_)
  show Rz Γ 9 (Qm Γ encL 0 0) 0 0 0 [(0, .ref 56), (1, .int x1), (2, .int x2), (3, .int x3)] [] _
  unfold f_X11_safe
  refine rz_aload_n G 0 rfl rfl (dq jX11_safe 0 rfl) ?_
  refine rz_iconst G (v := 0) (dq jX11_safe 1 rfl) rfl ?_
  refine rz_putI G flX11_148 sh56 rfl (dq jX11_safe 2 rfl) ?_
  refine rz_aload_n G 0 rfl rfl (dq jX11_safe 3 rfl) ?_
  refine rz_iload_n G 1 rfl rfl (dq jX11_safe 4 rfl) ?_
  refine rz_iconst G (v := 0) (dq jX11_safe 5 rfl) rfl ?_
  refine rz_bipush G (v := 60) (dq jX11_safe 6 rfl) (by decide) ?_
  refine rz_callSi G (st := [.ref 56]) (c_X11_within (cLn Γ) x1 0 60) lkX11_346 rfl (Nat.le_of_ble_eq_true rfl) (Nat.le_of_ble_eq_true rfl) (dq jX11_safe 7 rfl) rfl (fun r1 => ?_)
  refine rz_if_eq G (tgt := 40) rfl (dq jX11_safe 8 rfl) (fun c2 => ?_) (fun c2 => ?_)
  · exact rz_lv [0, 1, 2, 3] rfl (z_X11_safe_b40 G x1 x2 x3)
  · refine rz_iload_n G 2 rfl rfl (dq jX11_safe 9 rfl) ?_
    refine rz_iconst G (v := 0) (dq jX11_safe 10 rfl) rfl ?_
    refine rz_bipush G (v := 9) (dq jX11_safe 11 rfl) (by decide) ?_
    refine rz_callSi G (st := [.ref 56]) (c_X11_within (cLn Γ) x2 0 9) lkX11_346 rfl (Nat.le_of_ble_eq_true rfl) (Nat.le_of_ble_eq_true rfl) (dq jX11_safe 12 rfl) rfl (fun r3 => ?_)
    refine rz_if_eq G (tgt := 40) rfl (dq jX11_safe 13 rfl) (fun c4 => ?_) (fun c4 => ?_)
    · exact rz_lv [0, 1, 2, 3] rfl (z_X11_safe_b40 G x1 x2 x3)
    · refine rz_iload_n G 3 rfl rfl (dq jX11_safe 14 rfl) ?_
      refine rz_iconst G (v := 0) (dq jX11_safe 15 rfl) rfl ?_
      refine rz_bipush G (v := 100) (dq jX11_safe 16 rfl) (by decide) ?_
      refine rz_callSi G (st := [.ref 56]) (c_X11_within (cLn Γ) x3 0 100) lkX11_346 rfl (Nat.le_of_ble_eq_true rfl) (Nat.le_of_ble_eq_true rfl) (dq jX11_safe 17 rfl) rfl (fun r5 => ?_)
      refine rz_if_eq G (tgt := 40) rfl (dq jX11_safe 18 rfl) (fun c6 => ?_) (fun c6 => ?_)
      · exact rz_lv [0, 1, 2, 3] rfl (z_X11_safe_b40 G x1 x2 x3)
      · refine rz_iconst G (v := 1) (dq jX11_safe 19 rfl) rfl ?_
        refine rz_goto G (tgt := 41) rfl (dq jX11_safe 20 rfl) ?_
        exact rz_lv [0, 1, 2, 3] rfl (z_X11_safe_b41 G x1 x2 x3 1)
theorem z_X11_find_b25 {Γ : Cx} (G : GG Γ RX11 cX11_find 2 (some .int) 2 0 0)  : Rz Γ 2 (Qm Γ encI 0 0) 0 0 25 [(0, .ref 56)] [] (f_X11_find_b25 ) := by
  unfold f_X11_find_b25
  refine rz_aload_n G 0 rfl rfl (dq jX11_find 12 rfl) ?_
  refine rz_iconst G (v := 2) (dq jX11_find 13 rfl) rfl ?_
  refine rz_callVi G (st := []) (c_X11_refuses (cLn Γ) 2) lkX11_357 sh56 rfl rfl rfl (Nat.le_of_ble_eq_true rfl) (Nat.le_of_ble_eq_true rfl) (dq jX11_find 14 rfl) rfl (fun r1 => ?_)
  exact rz_iret G (dq jX11_find 15 rfl)
theorem c_X11_find (l : Launch) (x1 : Int32) : Ct l yX11_find cX11_find 2 (some .int) 2 encI [.ref 56, .int x1] (f_X11_find x1) := by
  refine ct_of (own := RX11) (by decide) rfl (Nat.le_of_ble_eq_true rfl) (fun Γ hl G => ?_)
  show Rz Γ 2 (Qm Γ encI 0 0) 0 0 0 [(0, .ref 56), (1, .int x1)] [] _
  unfold f_X11_find
  refine rz_aload_n G 0 rfl rfl (dq jX11_find 0 rfl) ?_
  refine rz_iconst G (v := 0) (dq jX11_find 1 rfl) rfl ?_
  refine rz_putI G flX11_148 sh56 rfl (dq jX11_find 2 rfl) ?_
  refine rz_aload_n G 0 rfl rfl (dq jX11_find 3 rfl) ?_
  refine rz_getI G flX11_339 sh56 rfl (dq jX11_find 4 rfl) (fun v1 => ?_)
  refine rz_bipush G (v := 20) (dq jX11_find 5 rfl) (by decide) ?_
  refine rz_icmp_eq G (tgt := 25) rfl (dq jX11_find 6 rfl) (fun c2 => ?_) (fun c2 => ?_)
  · exact rz_lv [0] rfl (z_X11_find_b25 G)
  · refine rz_iload_n G 1 rfl rfl (dq jX11_find 7 rfl) ?_
    refine rz_bipush G (v := (-99)) (dq jX11_find 8 rfl) (by decide) ?_
    refine rz_bipush G (v := 99) (dq jX11_find 9 rfl) (by decide) ?_
    refine rz_callSi G (st := []) (c_X11_within (cLn Γ) x1 ((-99)) 99) lkX11_346 rfl (Nat.le_of_ble_eq_true rfl) (Nat.le_of_ble_eq_true rfl) (dq jX11_find 10 rfl) rfl (fun r3 => ?_)
    refine rz_if_ne G (tgt := 31) rfl (dq jX11_find 11 rfl) (fun c4 => ?_) (fun c4 => ?_)
    · exact rz_lv [0] rfl (z_X11_find_b25 G)
    · refine rz_aload_n G 0 rfl rfl (dq jX11_find 16 rfl) ?_
      refine rz_getC G flX11_133 sh56 (t := 90) rfl rfl (dq jX11_find 17 rfl) ?_
      refine rz_aload_n G 0 rfl rfl (dq jX11_find 18 rfl) ?_
      refine rz_getI G flX11_339 sh56 rfl (dq jX11_find 19 rfl) (fun v5 => ?_)
      refine rz_iload_n G 1 rfl rfl (dq jX11_find 20 rfl) ?_
      refine rz_iast G sh90 (dq jX11_find 21 rfl) ?_
      refine rz_aload_n G 0 rfl rfl (dq jX11_find 22 rfl) ?_
      refine rz_dup G rfl (dq jX11_find 23 rfl) ?_
      refine rz_getI G flX11_339 sh56 rfl (dq jX11_find 24 rfl) (fun v6 => ?_)
      refine rz_iconst G (v := 1) (dq jX11_find 25 rfl) rfl ?_
      refine rz_iadd G (dq jX11_find 26 rfl) ?_
      refine rz_putI G flX11_339 sh56 rfl (dq jX11_find 27 rfl) ?_
      refine rz_aload_n G 0 rfl rfl (dq jX11_find 28 rfl) ?_
      refine rz_getI G flX11_339 sh56 rfl (dq jX11_find 29 rfl) (fun v7 => ?_)
      exact rz_iret G (dq jX11_find 30 rfl)
theorem c_X11_forget (l : Launch)  : Ct l yX11_forget cX11_forget 1 (some .int) 1 encI [.ref 56] (f_X11_forget ) := by
  refine ct_of (own := RX11) (by decide) rfl (Nat.le_of_ble_eq_true rfl) (fun Γ hl G => ?_)
  show Rz Γ 1 (Qm Γ encI 0 0) 0 0 0 [(0, .ref 56)] [] _
  unfold f_X11_forget
  refine rz_aload_n G 0 rfl rfl (dq jX11_forget 0 rfl) ?_
  refine rz_iconst G (v := 0) (dq jX11_forget 1 rfl) rfl ?_
  refine rz_putI G flX11_148 sh56 rfl (dq jX11_forget 2 rfl) ?_
  refine rz_aload_n G 0 rfl rfl (dq jX11_forget 3 rfl) ?_
  refine rz_getI G flX11_339 sh56 rfl (dq jX11_forget 4 rfl) (fun v1 => ?_)
  refine rz_if_ne G (tgt := 14) rfl (dq jX11_forget 5 rfl) (fun c2 => ?_) (fun c2 => ?_)
  · refine rz_iconst G (v := (-1)) (dq jX11_forget 6 rfl) rfl ?_
    exact rz_iret G (dq jX11_forget 7 rfl)
  · refine rz_aload_n G 0 rfl rfl (dq jX11_forget 8 rfl) ?_
    refine rz_dup G rfl (dq jX11_forget 9 rfl) ?_
    refine rz_getI G flX11_339 sh56 rfl (dq jX11_forget 10 rfl) (fun v3 => ?_)
    refine rz_iconst G (v := 1) (dq jX11_forget 11 rfl) rfl ?_
    refine rz_isub G (dq jX11_forget 12 rfl) ?_
    refine rz_putI G flX11_339 sh56 rfl (dq jX11_forget 13 rfl) ?_
    refine rz_aload_n G 0 rfl rfl (dq jX11_forget 14 rfl) ?_
    refine rz_getI G flX11_339 sh56 rfl (dq jX11_forget 15 rfl) (fun v4 => ?_)
    exact rz_iret G (dq jX11_forget 16 rfl)
theorem z_X11_broken_b93 {Γ : Cx} (G : GG Γ RX11 cX11_broken 6 (some .int) 2 0 0) (k27 : Int32 → Int32 → Int32 → Sg → Option (Int32 × Sg)) (hk27 : ∀ (x1 : Int32) (x2 : Int32) (x3 : Int32), Rz Γ 6 (Qm Γ encI 0 0) 0 0 27 [(0, .ref 56), (1, .int x1), (2, .int x2), (3, .int x3)] [] (k27 x1 x2 x3)) (k38 : Int32 → Int32 → Int32 → Int32 → Int32 → Sg → Option (Int32 × Sg)) (hk38 : ∀ (x1 : Int32) (x2 : Int32) (x3 : Int32) (x4 : Int32) (x5 : Int32), Rz Γ 6 (Qm Γ encI 0 0) 0 0 38 [(0, .ref 56), (1, .int x1), (2, .int x2), (3, .int x3), (4, .int x4), (5, .int x5)] [] (k38 x1 x2 x3 x4 x5)) (x1 : Int32) (x2 : Int32) (x3 : Int32) (x5 : Int32) (xs0 : Int32) : Rz Γ 6 (Qm Γ encI 0 0) 0 0 93 [(0, .ref 56), (1, .int x1), (2, .int x2), (3, .int x3), (5, .int x5)] [.int xs0] (f_X11_broken_b93 k27 k38 x1 x2 x3 x5 xs0) := by
  unfold f_X11_broken_b93
  refine rz_istore G (lv' := [(4, .int xs0), (0, .ref 56), (1, .int x1), (2, .int x2), (3, .int x3), (5, .int x5)]) (Nat.le_of_ble_eq_true rfl) rfl (dq jX11_broken 57 rfl) ?_
  refine rz_iinc G 5 (v := x5 + 1) (lv' := [(5, .int (x5 + 1)), (4, .int xs0), (0, .ref 56), (1, .int x1), (2, .int x2), (3, .int x3)]) rfl (congrArg (HAdd.hAdd _) (by decide)) (Nat.le_of_ble_eq_true rfl) rfl (dq jX11_broken 58 rfl) ?_
  refine rz_goto G (tgt := 38) rfl (dq jX11_broken 59 rfl) ?_
  exact rz_lv [2, 3, 4, 5, 1, 0] rfl (hk38 x1 x2 x3 xs0 (x5 + 1))
theorem z_X11_broken_b92 {Γ : Cx} (G : GG Γ RX11 cX11_broken 6 (some .int) 2 0 0) (k27 : Int32 → Int32 → Int32 → Sg → Option (Int32 × Sg)) (hk27 : ∀ (x1 : Int32) (x2 : Int32) (x3 : Int32), Rz Γ 6 (Qm Γ encI 0 0) 0 0 27 [(0, .ref 56), (1, .int x1), (2, .int x2), (3, .int x3)] [] (k27 x1 x2 x3)) (k38 : Int32 → Int32 → Int32 → Int32 → Int32 → Sg → Option (Int32 × Sg)) (hk38 : ∀ (x1 : Int32) (x2 : Int32) (x3 : Int32) (x4 : Int32) (x5 : Int32), Rz Γ 6 (Qm Γ encI 0 0) 0 0 38 [(0, .ref 56), (1, .int x1), (2, .int x2), (3, .int x3), (4, .int x4), (5, .int x5)] [] (k38 x1 x2 x3 x4 x5)) (x1 : Int32) (x2 : Int32) (x3 : Int32) (x5 : Int32) : Rz Γ 6 (Qm Γ encI 0 0) 0 0 92 [(0, .ref 56), (1, .int x1), (2, .int x2), (3, .int x3), (5, .int x5)] [] (f_X11_broken_b92 k27 k38 x1 x2 x3 x5) := by
  unfold f_X11_broken_b92
  refine rz_iconst G (v := 0) (dq jX11_broken 56 rfl) rfl ?_
  exact rz_lv [0, 1, 2, 3, 4] rfl (z_X11_broken_b93 G k27 hk27 k38 hk38 x1 x2 x3 x5 0)
theorem z_X11_broken_b116 {Γ : Cx} (G : GG Γ RX11 cX11_broken 6 (some .int) 2 0 0) (k27 : Int32 → Int32 → Int32 → Sg → Option (Int32 × Sg)) (hk27 : ∀ (x1 : Int32) (x2 : Int32) (x3 : Int32), Rz Γ 6 (Qm Γ encI 0 0) 0 0 27 [(0, .ref 56), (1, .int x1), (2, .int x2), (3, .int x3)] [] (k27 x1 x2 x3)) (x1 : Int32) (x3 : Int32) (xs0 : Int32) (xs1 : Int32) : Rz Γ 6 (Qm Γ encI 0 0) 0 0 116 [(0, .ref 56), (1, .int x1), (3, .int x3)] [.int xs0, .int xs1] (f_X11_broken_b116 k27 x1 x3 xs0 xs1) := by
  unfold f_X11_broken_b116
  refine rz_ior G (dq jX11_broken 70 rfl) ?_
  refine rz_istore_n G (lv' := [(2, .int (xs1 ||| xs0)), (0, .ref 56), (1, .int x1), (3, .int x3)]) rfl (Nat.le_of_ble_eq_true rfl) rfl (dq jX11_broken 71 rfl) ?_
  refine rz_iinc G 3 (v := x3 + 1) (lv' := [(3, .int (x3 + 1)), (2, .int (xs1 ||| xs0)), (0, .ref 56), (1, .int x1)]) rfl (congrArg (HAdd.hAdd _) (by decide)) (Nat.le_of_ble_eq_true rfl) rfl (dq jX11_broken 72 rfl) ?_
  refine rz_goto G (tgt := 27) rfl (dq jX11_broken 73 rfl) ?_
  exact rz_lv [2, 3, 1, 0] rfl (hk27 x1 (xs1 ||| xs0) (x3 + 1))
theorem z_X11_broken_b101 {Γ : Cx} (G : GG Γ RX11 cX11_broken 6 (some .int) 2 0 0) (k27 : Int32 → Int32 → Int32 → Sg → Option (Int32 × Sg)) (hk27 : ∀ (x1 : Int32) (x2 : Int32) (x3 : Int32), Rz Γ 6 (Qm Γ encI 0 0) 0 0 27 [(0, .ref 56), (1, .int x1), (2, .int x2), (3, .int x3)] [] (k27 x1 x2 x3)) (x1 : Int32) (x2 : Int32) (x3 : Int32) (x4 : Int32) : Rz Γ 6 (Qm Γ encI 0 0) 0 0 101 [(0, .ref 56), (1, .int x1), (2, .int x2), (3, .int x3), (4, .int x4)] [] (f_X11_broken_b101 k27 x1 x2 x3 x4) := by
  unfold f_X11_broken_b101
  refine rz_iload_n G 2 rfl rfl (dq jX11_broken 60 rfl) ?_
  refine rz_iload G 4 rfl (dq jX11_broken 61 rfl) ?_
  refine rz_if_eq G (tgt := 115) rfl (dq jX11_broken 62 rfl) (fun c1 => ?_) (fun c1 => ?_)
  · refine rz_iconst G (v := 0) (dq jX11_broken 69 rfl) rfl ?_
    exact rz_lv [0, 1, 3] rfl (z_X11_broken_b116 G k27 hk27 x1 x3 0 x2)
  · refine rz_iconst G (v := 1) (dq jX11_broken 63 rfl) rfl ?_
    refine rz_iload_n G 3 rfl rfl (dq jX11_broken 64 rfl) ?_
    refine rz_iconst G (v := 3) (dq jX11_broken 65 rfl) rfl ?_
    refine rz_iadd G (dq jX11_broken 66 rfl) ?_
    refine rz_ishl G (dq jX11_broken 67 rfl) ?_
    refine rz_goto G (tgt := 116) rfl (dq jX11_broken 68 rfl) ?_
    exact rz_lv [0, 1, 3] rfl (z_X11_broken_b116 G k27 hk27 x1 x3 ((1 : Int32) <<< ((x3 + 3) &&& 31)) x2)
theorem z_X11_broken_b38 {Γ : Cx} (G : GG Γ RX11 cX11_broken 6 (some .int) 2 0 0) (k27 : Int32 → Int32 → Int32 → Sg → Option (Int32 × Sg)) (hk27 : ∀ (x1 : Int32) (x2 : Int32) (x3 : Int32), Rz Γ 6 (Qm Γ encI 0 0) 0 0 27 [(0, .ref 56), (1, .int x1), (2, .int x2), (3, .int x3)] [] (k27 x1 x2 x3)) : ∀ (fu : Nat) (x1 : Int32) (x2 : Int32) (x3 : Int32) (x4 : Int32) (x5 : Int32), Rz Γ 6 (Qm Γ encI 0 0) 0 0 38 [(0, .ref 56), (1, .int x1), (2, .int x2), (3, .int x3), (4, .int x4), (5, .int x5)] [] (f_X11_broken_b38 k27 fu x1 x2 x3 x4 x5) := by
  intro fu
  induction fu with
  | zero => intro _ _ _ _ _; exact rz_none
  | succ fu ih =>
    intro x1 x2 x3 x4 x5
    rw [f_X11_broken_b38]
    refine rz_iload G 5 rfl (dq jX11_broken 24 rfl) ?_
    refine rz_aload_n G 0 rfl rfl (dq jX11_broken 25 rfl) ?_
    refine rz_getI G flX11_339 sh56 rfl (dq jX11_broken 26 rfl) (fun v1 => ?_)
    refine rz_icmp_ge G (tgt := 101) rfl (dq jX11_broken 27 rfl) (fun c2 => ?_) (fun c2 => ?_)
    · exact rz_lv [0, 1, 2, 3, 4] rfl (z_X11_broken_b101 G k27 hk27 x1 x2 x3 x4)
    · refine rz_iload G 4 rfl (dq jX11_broken 28 rfl) ?_
      refine rz_if_eq G (tgt := 92) rfl (dq jX11_broken 29 rfl) (fun c3 => ?_) (fun c3 => ?_)
      · exact rz_lv [0, 1, 2, 3, 5] rfl (z_X11_broken_b92 G k27 hk27 (f_X11_broken_b38 k27 fu) ih x1 x2 x3 x5)
      · refine rz_aload_n G 0 rfl rfl (dq jX11_broken 30 rfl) ?_
        refine rz_getC G flX11_133 sh56 (t := 90) rfl rfl (dq jX11_broken 31 rfl) ?_
        refine rz_iload G 5 rfl (dq jX11_broken 32 rfl) ?_
        refine rz_iald G sh90 (dq jX11_broken 33 rfl) (fun v4 => ?_)
        refine rz_aload_n G 0 rfl rfl (dq jX11_broken 34 rfl) ?_
        refine rz_getC G flX11_133 sh56 (t := 90) rfl rfl (dq jX11_broken 35 rfl) ?_
        refine rz_iload G 5 rfl (dq jX11_broken 36 rfl) ?_
        refine rz_iconst G (v := 1) (dq jX11_broken 37 rfl) rfl ?_
        refine rz_isub G (dq jX11_broken 38 rfl) ?_
        refine rz_iald G sh90 (dq jX11_broken 39 rfl) (fun v5 => ?_)
        refine rz_aload_n G 0 rfl rfl (dq jX11_broken 40 rfl) ?_
        refine rz_getC G flX11_133 sh56 (t := 90) rfl rfl (dq jX11_broken 41 rfl) ?_
        refine rz_iload G 5 rfl (dq jX11_broken 42 rfl) ?_
        refine rz_iconst G (v := 1) (dq jX11_broken 43 rfl) rfl ?_
        refine rz_isub G (dq jX11_broken 44 rfl) ?_
        refine rz_iald G sh90 (dq jX11_broken 45 rfl) (fun v6 => ?_)
        refine rz_iload_n G 1 rfl rfl (dq jX11_broken 46 rfl) ?_
        refine rz_imul G (dq jX11_broken 47 rfl) ?_
        refine rz_bipush G (v := 40) (dq jX11_broken 48 rfl) (by decide) ?_
        refine rz_idivN G (by decide) (dq jX11_broken 49 rfl) ?_
        refine rz_iadd G (dq jX11_broken 50 rfl) ?_
        refine rz_iload_n G 3 rfl rfl (dq jX11_broken 51 rfl) ?_
        refine rz_iadd G (dq jX11_broken 52 rfl) ?_
        refine rz_icmp_ne G (tgt := 92) rfl (dq jX11_broken 53 rfl) (fun c7 => ?_) (fun c7 => ?_)
        · refine rz_iconst G (v := 1) (dq jX11_broken 54 rfl) rfl ?_
          refine rz_goto G (tgt := 93) rfl (dq jX11_broken 55 rfl) ?_
          exact rz_lv [0, 1, 2, 3, 5] rfl (z_X11_broken_b93 G k27 hk27 (f_X11_broken_b38 k27 fu) ih x1 x2 x3 x5 1)
        · exact rz_lv [0, 1, 2, 3, 5] rfl (z_X11_broken_b92 G k27 hk27 (f_X11_broken_b38 k27 fu) ih x1 x2 x3 x5)
theorem z_X11_broken_b27 {Γ : Cx} (G : GG Γ RX11 cX11_broken 6 (some .int) 2 0 0) : ∀ (fu : Nat) (x1 : Int32) (x2 : Int32) (x3 : Int32), Rz Γ 6 (Qm Γ encI 0 0) 0 0 27 [(0, .ref 56), (1, .int x1), (2, .int x2), (3, .int x3)] [] (f_X11_broken_b27 fu x1 x2 x3) := by
  intro fu
  induction fu with
  | zero => intro _ _ _; exact rz_none
  | succ fu ih =>
    intro x1 x2 x3
    rw [f_X11_broken_b27]
    refine rz_iload_n G 3 rfl rfl (dq jX11_broken 17 rfl) ?_
    refine rz_iconst G (v := 3) (dq jX11_broken 18 rfl) rfl ?_
    refine rz_icmp_gt G (tgt := 124) rfl (dq jX11_broken 19 rfl) (fun c1 => ?_) (fun c1 => ?_)
    · refine rz_iload_n G 2 rfl rfl (dq jX11_broken 74 rfl) ?_
      exact rz_iret G (dq jX11_broken 75 rfl)
    · refine rz_iconst G (v := 1) (dq jX11_broken 20 rfl) rfl ?_
      refine rz_istore G (lv' := [(4, .int 1), (0, .ref 56), (1, .int x1), (2, .int x2), (3, .int x3)]) (Nat.le_of_ble_eq_true rfl) rfl (dq jX11_broken 21 rfl) ?_
      refine rz_iconst G (v := 1) (dq jX11_broken 22 rfl) rfl ?_
      refine rz_istore G (lv' := [(5, .int 1), (4, .int 1), (0, .ref 56), (1, .int x1), (2, .int x2), (3, .int x3)]) (Nat.le_of_ble_eq_true rfl) rfl (dq jX11_broken 23 rfl) ?_
      exact rz_lv [2, 3, 4, 5, 1, 0] rfl (z_X11_broken_b38 G (f_X11_broken_b27 fu) ih FU x1 x2 x3 1 1)
theorem c_X11_broken (l : Launch) (x1 : Int32) : Ct l yX11_broken cX11_broken 6 (some .int) 2 encI [.ref 56, .int x1] (f_X11_broken x1) := by
  refine ct_of (own := RX11) (by decide) rfl (Nat.le_of_ble_eq_true rfl) (fun Γ hl G => ?_)
  show Rz Γ 6 (Qm Γ encI 0 0) 0 0 0 [(0, .ref 56), (1, .int x1)] [] _
  unfold f_X11_broken
  refine rz_aload_n G 0 rfl rfl (dq jX11_broken 0 rfl) ?_
  refine rz_iconst G (v := 0) (dq jX11_broken 1 rfl) rfl ?_
  refine rz_putI G flX11_148 sh56 rfl (dq jX11_broken 2 rfl) ?_
  refine rz_aload_n G 0 rfl rfl (dq jX11_broken 3 rfl) ?_
  refine rz_iload_n G 1 rfl rfl (dq jX11_broken 4 rfl) ?_
  refine rz_iconst G (v := 0) (dq jX11_broken 5 rfl) rfl ?_
  refine rz_bipush G (v := 60) (dq jX11_broken 6 rfl) (by decide) ?_
  refine rz_callSi G (st := [.ref 56]) (c_X11_within (cLn Γ) x1 0 60) lkX11_346 rfl (Nat.le_of_ble_eq_true rfl) (Nat.le_of_ble_eq_true rfl) (dq jX11_broken 7 rfl) rfl (fun r1 => ?_)
  refine rz_iconst G (v := 1) (dq jX11_broken 8 rfl) rfl ?_
  refine rz_callVi G (st := []) (c_X11_right (cLn Γ) r1 1) lkX11_313 sh56 rfl rfl rfl (Nat.le_of_ble_eq_true rfl) (Nat.le_of_ble_eq_true rfl) (dq jX11_broken 9 rfl) rfl (fun r2 => ?_)
  refine rz_if_ne G (tgt := 22) rfl (dq jX11_broken 10 rfl) (fun c3 => ?_) (fun c3 => ?_)
  · refine rz_iconst G (v := 0) (dq jX11_broken 11 rfl) rfl ?_
    exact rz_iret G (dq jX11_broken 12 rfl)
  · refine rz_iconst G (v := 0) (dq jX11_broken 13 rfl) rfl ?_
    refine rz_istore_n G (lv' := [(2, .int 0), (0, .ref 56), (1, .int x1)]) rfl (Nat.le_of_ble_eq_true rfl) rfl (dq jX11_broken 14 rfl) ?_
    refine rz_bipush G (v := (-3)) (dq jX11_broken 15 rfl) (by decide) ?_
    refine rz_istore_n G (lv' := [(3, .int ((-3))), (2, .int 0), (0, .ref 56), (1, .int x1)]) rfl (Nat.le_of_ble_eq_true rfl) rfl (dq jX11_broken 16 rfl) ?_
    exact rz_lv [2, 3, 1, 0] rfl (z_X11_broken_b27 G FU x1 0 ((-3)))
theorem z_X11_second_b218 {Γ : Cx} (G : GG Γ RX11 cX11_second 12 (some .int) 6 0 0) (k111 : Int32 → Int32 → Int32 → Int32 → Int32 → Int32 → Int32 → Int32 → Int32 → Int32 → Int32 → Sg → Option (Int32 × Sg)) (hk111 : ∀ (x1 : Int32) (x2 : Int32) (x3 : Int32) (x4 : Int32) (x5 : Int32) (x6 : Int32) (x7 : Int32) (x8 : Int32) (x9 : Int32) (x10 : Int32) (x11 : Int32), Rz Γ 12 (Qm Γ encI 0 0) 0 0 111 [(0, .ref 56), (1, .int x1), (2, .int x2), (3, .int x3), (4, .int x4), (5, .int x5), (6, .int x6), (7, .int x7), (8, .int x8), (9, .int x9), (10, .int x10), (11, .int x11)] [] (k111 x1 x2 x3 x4 x5 x6 x7 x8 x9 x10 x11)) (x1 : Int32) (x2 : Int32) (x3 : Int32) (x4 : Int32) (x5 : Int32) (x6 : Int32) (x7 : Int32) (x8 : Int32) (x9 : Int32) (x10 : Int32) (x11 : Int32) : Rz Γ 12 (Qm Γ encI 0 0) 0 0 218 [(0, .ref 56), (1, .int x1), (2, .int x2), (3, .int x3), (4, .int x4), (5, .int x5), (6, .int x6), (7, .int x7), (8, .int x8), (9, .int x9), (10, .int x10), (11, .int x11)] [] (f_X11_second_b218 k111 x1 x2 x3 x4 x5 x6 x7 x8 x9 x10 x11) := by
  unfold f_X11_second_b218
  refine rz_iinc G 11 (v := x11 + 1) (lv' := [(11, .int (x11 + 1)), (0, .ref 56), (1, .int x1), (2, .int x2), (3, .int x3), (4, .int x4), (5, .int x5), (6, .int x6), (7, .int x7), (8, .int x8), (9, .int x9), (10, .int x10)]) rfl (congrArg (HAdd.hAdd _) (by decide)) (Nat.le_of_ble_eq_true rfl) rfl (dq jX11_second 127 rfl) ?_
  refine rz_goto G (tgt := 111) rfl (dq jX11_second 128 rfl) ?_
  exact rz_lv [1, 2, 3, 4, 5, 6, 7, 8, 9, 10, 11, 0] rfl (hk111 x1 x2 x3 x4 x5 x6 x7 x8 x9 x10 (x11 + 1))
theorem z_X11_second_b215 {Γ : Cx} (G : GG Γ RX11 cX11_second 12 (some .int) 6 0 0) (k111 : Int32 → Int32 → Int32 → Int32 → Int32 → Int32 → Int32 → Int32 → Int32 → Int32 → Int32 → Sg → Option (Int32 × Sg)) (hk111 : ∀ (x1 : Int32) (x2 : Int32) (x3 : Int32) (x4 : Int32) (x5 : Int32) (x6 : Int32) (x7 : Int32) (x8 : Int32) (x9 : Int32) (x10 : Int32) (x11 : Int32), Rz Γ 12 (Qm Γ encI 0 0) 0 0 111 [(0, .ref 56), (1, .int x1), (2, .int x2), (3, .int x3), (4, .int x4), (5, .int x5), (6, .int x6), (7, .int x7), (8, .int x8), (9, .int x9), (10, .int x10), (11, .int x11)] [] (k111 x1 x2 x3 x4 x5 x6 x7 x8 x9 x10 x11)) (x1 : Int32) (x2 : Int32) (x3 : Int32) (x4 : Int32) (x5 : Int32) (x6 : Int32) (x7 : Int32) (x8 : Int32) (x9 : Int32) (x11 : Int32) (xs0 : Int32) (xs1 : Int32) : Rz Γ 12 (Qm Γ encI 0 0) 0 0 215 [(0, .ref 56), (1, .int x1), (2, .int x2), (3, .int x3), (4, .int x4), (5, .int x5), (6, .int x6), (7, .int x7), (8, .int x8), (9, .int x9), (11, .int x11)] [.int xs0, .int xs1] (f_X11_second_b215 k111 x1 x2 x3 x4 x5 x6 x7 x8 x9 x11 xs0 xs1) := by
  unfold f_X11_second_b215
  refine rz_iadd G (dq jX11_second 125 rfl) ?_
  refine rz_istore G (lv' := [(10, .int (xs1 + xs0)), (0, .ref 56), (1, .int x1), (2, .int x2), (3, .int x3), (4, .int x4), (5, .int x5), (6, .int x6), (7, .int x7), (8, .int x8), (9, .int x9), (11, .int x11)]) (Nat.le_of_ble_eq_true rfl) rfl (dq jX11_second 126 rfl) ?_
  exact rz_lv [1, 2, 3, 4, 5, 6, 7, 8, 9, 10, 0, 11] rfl (z_X11_second_b218 G k111 hk111 x1 x2 x3 x4 x5 x6 x7 x8 x9 (xs1 + xs0) x11)
theorem z_X11_second_b224 {Γ : Cx} (G : GG Γ RX11 cX11_second 12 (some .int) 6 0 0) (x1 : Int32) (x2 : Int32) (x6 : Int32) (x7 : Int32) (x8 : Int32) (x9 : Int32) (x10 : Int32) : Rz Γ 12 (Qm Γ encI 0 0) 0 0 224 [(0, .ref 56), (1, .int x1), (2, .int x2), (6, .int x6), (7, .int x7), (8, .int x8), (9, .int x9), (10, .int x10)] [] (f_X11_second_b224 x1 x2 x6 x7 x8 x9 x10) := by
  unfold f_X11_second_b224
  refine rz_aload_n G 0 rfl rfl (dq jX11_second 129 rfl) ?_
  refine rz_getC G flX11_26 sh56 (t := 58) rfl rfl (dq jX11_second 130 rfl) ?_
  refine rz_bipush G (v := 6) (dq jX11_second 131 rfl) (by decide) ?_
  refine rz_iload_n G 1 rfl rfl (dq jX11_second 132 rfl) ?_
  refine rz_imul G (dq jX11_second 133 rfl) ?_
  refine rz_iconst G (v := 3) (dq jX11_second 134 rfl) rfl ?_
  refine rz_iadd G (dq jX11_second 135 rfl) ?_
  refine rz_iload G 4 rfl (dq jX11_second 136 rfl) ?_
  refine rz_iast G sh58 (dq jX11_second 137 rfl) ?_
  refine rz_aload_n G 0 rfl rfl (dq jX11_second 138 rfl) ?_
  refine rz_getC G flX11_26 sh56 (t := 58) rfl rfl (dq jX11_second 139 rfl) ?_
  refine rz_bipush G (v := 6) (dq jX11_second 140 rfl) (by decide) ?_
  refine rz_iload_n G 2 rfl rfl (dq jX11_second 141 rfl) ?_
  refine rz_imul G (dq jX11_second 142 rfl) ?_
  refine rz_iconst G (v := 3) (dq jX11_second 143 rfl) rfl ?_
  refine rz_iadd G (dq jX11_second 144 rfl) ?_
  refine rz_iload G 5 rfl (dq jX11_second 145 rfl) ?_
  refine rz_iast G sh58 (dq jX11_second 146 rfl) ?_
  refine rz_iload G 3 rfl (dq jX11_second 147 rfl) ?_
  refine rz_if_ne G (tgt := 260) rfl (dq jX11_second 148 rfl) (fun c1 => ?_) (fun c1 => ?_)
  · refine rz_iload G 6 rfl (dq jX11_second 149 rfl) ?_
    refine rz_goto G (tgt := 262) rfl (dq jX11_second_s1 0 rfl) ?_
    exact rz_iret G (dq jX11_second_s1 2 rfl)
  · refine rz_iload G 7 rfl (dq jX11_second_s1 1 rfl) ?_
    exact rz_iret G (dq jX11_second_s1 2 rfl)
theorem z_X11_second_b111 {Γ : Cx} (G : GG Γ RX11 cX11_second 12 (some .int) 6 0 0) : ∀ (fu : Nat) (x1 : Int32) (x2 : Int32) (x3 : Int32) (x4 : Int32) (x5 : Int32) (x6 : Int32) (x7 : Int32) (x8 : Int32) (x9 : Int32) (x10 : Int32) (x11 : Int32), Rz Γ 12 (Qm Γ encI 0 0) 0 0 111 [(0, .ref 56), (1, .int x1), (2, .int x2), (3, .int x3), (4, .int x4), (5, .int x5), (6, .int x6), (7, .int x7), (8, .int x8), (9, .int x9), (10, .int x10), (11, .int x11)] [] (f_X11_second_b111 fu x1 x2 x3 x4 x5 x6 x7 x8 x9 x10 x11) := by
  intro fu
  induction fu with
  | zero => intro _ _ _ _ _ _ _ _ _ _ _; exact rz_none
  | succ fu ih =>
    intro x1 x2 x3 x4 x5 x6 x7 x8 x9 x10 x11
    rw [f_X11_second_b111]
    refine rz_iload G 11 rfl (dq jX11_second 65 rfl) ?_
    refine rz_sipush G (v := 576) (dq jX11_second 66 rfl) (by decide) ?_
    refine rz_icmp_ge G (tgt := 224) rfl (dq jX11_second 67 rfl) (fun c1 => ?_) (fun c1 => ?_)
    · exact rz_lv [0, 1, 2, 6, 7, 8, 9, 10] rfl (z_X11_second_b224 G x1 x2 x6 x7 x8 x9 x10)
    · refine rz_aload_n G 0 rfl rfl (dq jX11_second 68 rfl) ?_
      refine rz_getC G flX11_26 sh56 (t := 58) rfl rfl (dq jX11_second 69 rfl) ?_
      refine rz_bipush G (v := 6) (dq jX11_second 70 rfl) (by decide) ?_
      refine rz_iload_n G 1 rfl rfl (dq jX11_second 71 rfl) ?_
      refine rz_imul G (dq jX11_second 72 rfl) ?_
      refine rz_iconst G (v := 3) (dq jX11_second 73 rfl) rfl ?_
      refine rz_iadd G (dq jX11_second 74 rfl) ?_
      refine rz_iload G 11 rfl (dq jX11_second 75 rfl) ?_
      refine rz_bipush G (v := 24) (dq jX11_second 76 rfl) (by decide) ?_
      refine rz_idivN G (by decide) (dq jX11_second 77 rfl) ?_
      refine rz_iast G sh58 (dq jX11_second 78 rfl) ?_
      refine rz_aload_n G 0 rfl rfl (dq jX11_second 79 rfl) ?_
      refine rz_getC G flX11_26 sh56 (t := 58) rfl rfl (dq jX11_second 80 rfl) ?_
      refine rz_bipush G (v := 6) (dq jX11_second 81 rfl) (by decide) ?_
      refine rz_iload_n G 2 rfl rfl (dq jX11_second 82 rfl) ?_
      refine rz_imul G (dq jX11_second 83 rfl) ?_
      refine rz_iconst G (v := 3) (dq jX11_second 84 rfl) rfl ?_
      refine rz_iadd G (dq jX11_second 85 rfl) ?_
      refine rz_iload G 11 rfl (dq jX11_second 86 rfl) ?_
      refine rz_bipush G (v := 24) (dq jX11_second 87 rfl) (by decide) ?_
      refine rz_iremN G (by decide) (dq jX11_second 88 rfl) ?_
      refine rz_iast G sh58 (dq jX11_second 89 rfl) ?_
      refine rz_aload_n G 0 rfl rfl (dq jX11_second 90 rfl) ?_
      refine rz_callVv G (st := []) (c_X11_runsAll (cLn Γ)) lkX11_440 sh56 rfl rfl rfl (Nat.le_of_ble_eq_true rfl) (Nat.le_of_ble_eq_true rfl) (dq jX11_second 91 rfl) rfl (fun _ => ?_)
      refine rz_aload_n G 0 rfl rfl (dq jX11_second 92 rfl) ?_
      refine rz_getC G flX11_114 sh56 (t := 84) rfl rfl (dq jX11_second 93 rfl) ?_
      refine rz_sipush G (v := 600) (dq jX11_second 94 rfl) (by decide) ?_
      refine rz_iload_n G 1 rfl rfl (dq jX11_second 95 rfl) ?_
      refine rz_imul G (dq jX11_second 96 rfl) ?_
      refine rz_iload_n G 3 rfl rfl (dq jX11_second 97 rfl) ?_
      refine rz_iadd G (dq jX11_second 98 rfl) ?_
      refine rz_iald G sh84 (dq jX11_second 99 rfl) (fun v2 => ?_)
      refine rz_iload G 4 rfl (dq jX11_second 100 rfl) ?_
      refine rz_icmp_ne G (tgt := 218) rfl (dq jX11_second 101 rfl) (fun c3 => ?_) (fun c3 => ?_)
      · refine rz_aload_n G 0 rfl rfl (dq jX11_second 102 rfl) ?_
        refine rz_getC G flX11_114 sh56 (t := 84) rfl rfl (dq jX11_second 103 rfl) ?_
        refine rz_sipush G (v := 600) (dq jX11_second 104 rfl) (by decide) ?_
        refine rz_iload_n G 2 rfl rfl (dq jX11_second 105 rfl) ?_
        refine rz_imul G (dq jX11_second 106 rfl) ?_
        refine rz_iload_n G 3 rfl rfl (dq jX11_second 107 rfl) ?_
        refine rz_iadd G (dq jX11_second 108 rfl) ?_
        refine rz_iald G sh84 (dq jX11_second 109 rfl) (fun v4 => ?_)
        refine rz_iload G 5 rfl (dq jX11_second 110 rfl) ?_
        refine rz_icmp_eq G (tgt := 192) rfl (dq jX11_second 111 rfl) (fun c5 => ?_) (fun c5 => ?_)
        · refine rz_iinc G 9 (v := x9 + 1) (lv' := [(9, .int (x9 + 1)), (0, .ref 56), (1, .int x1), (2, .int x2), (3, .int x3), (4, .int x4), (5, .int x5), (6, .int x6), (7, .int x7), (8, .int x8), (10, .int x10), (11, .int x11)]) rfl (congrArg (HAdd.hAdd _) (by decide)) (Nat.le_of_ble_eq_true rfl) rfl (dq jX11_second 113 rfl) ?_
          refine rz_iload G 10 rfl (dq jX11_second 114 rfl) ?_
          refine rz_iload G 11 rfl (dq jX11_second 115 rfl) ?_
          refine rz_bipush G (v := 24) (dq jX11_second 116 rfl) (by decide) ?_
          refine rz_idivN G (by decide) (dq jX11_second 117 rfl) ?_
          refine rz_iload G 11 rfl (dq jX11_second 118 rfl) ?_
          refine rz_bipush G (v := 24) (dq jX11_second 119 rfl) (by decide) ?_
          refine rz_iremN G (by decide) (dq jX11_second 120 rfl) ?_
          refine rz_icmp_le G (tgt := 214) rfl (dq jX11_second 121 rfl) (fun c6 => ?_) (fun c6 => ?_)
          · refine rz_iconst G (v := 0) (dq jX11_second 124 rfl) rfl ?_
            exact rz_lv [1, 2, 3, 4, 5, 6, 7, 8, 9, 0, 11] rfl (z_X11_second_b215 G (f_X11_second_b111 fu) ih x1 x2 x3 x4 x5 x6 x7 x8 (x9 + 1) x11 0 x10)
          · refine rz_iconst G (v := 1) (dq jX11_second 122 rfl) rfl ?_
            refine rz_goto G (tgt := 215) rfl (dq jX11_second 123 rfl) ?_
            exact rz_lv [1, 2, 3, 4, 5, 6, 7, 8, 9, 0, 11] rfl (z_X11_second_b215 G (f_X11_second_b111 fu) ih x1 x2 x3 x4 x5 x6 x7 x8 (x9 + 1) x11 1 x10)
        · refine rz_goto G (tgt := 218) rfl (dq jX11_second 112 rfl) ?_
          exact rz_lv [0, 1, 2, 3, 4, 5, 6, 7, 8, 9, 10, 11] rfl (z_X11_second_b218 G (f_X11_second_b111 fu) ih x1 x2 x3 x4 x5 x6 x7 x8 x9 x10 x11)
      · exact rz_lv [0, 1, 2, 3, 4, 5, 6, 7, 8, 9, 10, 11] rfl (z_X11_second_b218 G (f_X11_second_b111 fu) ih x1 x2 x3 x4 x5 x6 x7 x8 x9 x10 x11)
theorem z_X11_second_b67 {Γ : Cx} (G : GG Γ RX11 cX11_second 12 (some .int) 6 0 0) (x1 : Int32) (x2 : Int32) (x3 : Int32) (x4 : Int32) (x5 : Int32) (x6 : Int32) (xs0 : Int32) : Rz Γ 12 (Qm Γ encI 0 0) 0 0 67 [(0, .ref 56), (1, .int x1), (2, .int x2), (3, .int x3), (4, .int x4), (5, .int x5), (6, .int x6)] [.int xs0, .ref 56] (f_X11_second_b67 x1 x2 x3 x4 x5 x6 xs0) := by
  unfold f_X11_second_b67
  refine rz_iconst G (v := 2) (dq jX11_second 36 rfl) rfl ?_
  refine rz_callVi G (st := []) (c_X11_right (cLn Γ) xs0 2) lkX11_313 sh56 rfl rfl rfl (Nat.le_of_ble_eq_true rfl) (Nat.le_of_ble_eq_true rfl) (dq jX11_second 37 rfl) rfl (fun r1 => ?_)
  refine rz_if_ne G (tgt := 76) rfl (dq jX11_second 38 rfl) (fun c2 => ?_) (fun c2 => ?_)
  · refine rz_iconst G (v := 0) (dq jX11_second 39 rfl) rfl ?_
    exact rz_iret G (dq jX11_second 40 rfl)
  · refine rz_aload_n G 0 rfl rfl (dq jX11_second 41 rfl) ?_
    refine rz_getC G flX11_26 sh56 (t := 58) rfl rfl (dq jX11_second 42 rfl) ?_
    refine rz_bipush G (v := 6) (dq jX11_second 43 rfl) (by decide) ?_
    refine rz_iload_n G 1 rfl rfl (dq jX11_second 44 rfl) ?_
    refine rz_imul G (dq jX11_second 45 rfl) ?_
    refine rz_iconst G (v := 3) (dq jX11_second 46 rfl) rfl ?_
    refine rz_iadd G (dq jX11_second 47 rfl) ?_
    refine rz_iald G sh58 (dq jX11_second 48 rfl) (fun v3 => ?_)
    refine rz_istore G (lv' := [(7, .int v3), (0, .ref 56), (1, .int x1), (2, .int x2), (3, .int x3), (4, .int x4), (5, .int x5), (6, .int x6)]) (Nat.le_of_ble_eq_true rfl) rfl (dq jX11_second 49 rfl) ?_
    refine rz_aload_n G 1 rfl rfl (dq jX11_second 50 rfl) ?_
    refine rz_getC G flX11_26 sh56 (t := 58) rfl rfl (dq jX11_second 51 rfl) ?_
    refine rz_bipush G (v := 6) (dq jX11_second 52 rfl) (by decide) ?_
    refine rz_iload_n G 3 rfl rfl (dq jX11_second 53 rfl) ?_
    refine rz_imul G (dq jX11_second 54 rfl) ?_
    refine rz_iconst G (v := 3) (dq jX11_second 55 rfl) rfl ?_
    refine rz_iadd G (dq jX11_second 56 rfl) ?_
    refine rz_iald G sh58 (dq jX11_second 57 rfl) (fun v4 => ?_)
    refine rz_istore G (lv' := [(8, .int v4), (7, .int v3), (0, .ref 56), (1, .int x1), (2, .int x2), (3, .int x3), (4, .int x4), (5, .int x5), (6, .int x6)]) (Nat.le_of_ble_eq_true rfl) rfl (dq jX11_second 58 rfl) ?_
    refine rz_iconst G (v := 0) (dq jX11_second 59 rfl) rfl ?_
    refine rz_istore G (lv' := [(9, .int 0), (8, .int v4), (7, .int v3), (0, .ref 56), (1, .int x1), (2, .int x2), (3, .int x3), (4, .int x4), (5, .int x5), (6, .int x6)]) (Nat.le_of_ble_eq_true rfl) rfl (dq jX11_second 60 rfl) ?_
    refine rz_iconst G (v := 0) (dq jX11_second 61 rfl) rfl ?_
    refine rz_istore G (lv' := [(10, .int 0), (9, .int 0), (8, .int v4), (7, .int v3), (0, .ref 56), (1, .int x1), (2, .int x2), (3, .int x3), (4, .int x4), (5, .int x5), (6, .int x6)]) (Nat.le_of_ble_eq_true rfl) rfl (dq jX11_second 62 rfl) ?_
    refine rz_iconst G (v := 0) (dq jX11_second 63 rfl) rfl ?_
    refine rz_istore G (lv' := [(11, .int 0), (10, .int 0), (9, .int 0), (8, .int v4), (7, .int v3), (0, .ref 56), (1, .int x1), (2, .int x2), (3, .int x3), (4, .int x4), (5, .int x5), (6, .int x6)]) (Nat.le_of_ble_eq_true rfl) rfl (dq jX11_second 64 rfl) ?_
    exact rz_lv [5, 6, 7, 8, 9, 10, 11, 4, 3, 2, 1, 0] rfl (z_X11_second_b111 G FU x1 x2 x3 x4 x5 x6 v3 v4 0 0 0)
theorem z_X11_second_b39 {Γ : Cx} (G : GG Γ RX11 cX11_second 12 (some .int) 6 0 0) (x1 : Int32) (x2 : Int32) (x3 : Int32) (x4 : Int32) (x5 : Int32) (x6 : Int32) (xs0 : Int32) : Rz Γ 12 (Qm Γ encI 0 0) 0 0 39 [(0, .ref 56), (1, .int x1), (2, .int x2), (3, .int x3), (4, .int x4), (5, .int x5), (6, .int x6)] [.int xs0, .ref 56] (f_X11_second_b39 x1 x2 x3 x4 x5 x6 xs0) := by
  unfold f_X11_second_b39
  refine rz_iconst G (v := 1) (dq jX11_second 21 rfl) rfl ?_
  refine rz_callVi G (st := []) (c_X11_right (cLn Γ) xs0 1) lkX11_313 sh56 rfl rfl rfl (Nat.le_of_ble_eq_true rfl) (Nat.le_of_ble_eq_true rfl) (dq jX11_second 22 rfl) rfl (fun r1 => ?_)
  refine rz_if_eq G (tgt := 74) rfl (dq jX11_second 23 rfl) (fun c2 => ?_) (fun c2 => ?_)
  · refine rz_iconst G (v := 0) (dq jX11_second 39 rfl) rfl ?_
    exact rz_iret G (dq jX11_second 40 rfl)
  · refine rz_aload_n G 0 rfl rfl (dq jX11_second 24 rfl) ?_
    refine rz_iload G 6 rfl (dq jX11_second 25 rfl) ?_
    refine rz_iconst G (v := 1) (dq jX11_second 26 rfl) rfl ?_
    refine rz_callVi G (st := []) (c_X11_isWhat (cLn Γ) x6 1) lkX11_353 sh56 rfl rfl rfl (Nat.le_of_ble_eq_true rfl) (Nat.le_of_ble_eq_true rfl) (dq jX11_second 27 rfl) rfl (fun r3 => ?_)
    refine rz_if_eq G (tgt := 74) rfl (dq jX11_second 28 rfl) (fun c4 => ?_) (fun c4 => ?_)
    · refine rz_iconst G (v := 0) (dq jX11_second 39 rfl) rfl ?_
      exact rz_iret G (dq jX11_second 40 rfl)
    · refine rz_aload_n G 0 rfl rfl (dq jX11_second 29 rfl) ?_
      refine rz_iload_n G 1 rfl rfl (dq jX11_second 30 rfl) ?_
      refine rz_iload_n G 2 rfl rfl (dq jX11_second 31 rfl) ?_
      refine rz_icmp_eq G (tgt := 66) rfl (dq jX11_second 32 rfl) (fun c5 => ?_) (fun c5 => ?_)
      · refine rz_iconst G (v := 0) (dq jX11_second 35 rfl) rfl ?_
        exact rz_lv [0, 1, 2, 3, 4, 5, 6] rfl (z_X11_second_b67 G x1 x2 x3 x4 x5 x6 0)
      · refine rz_iconst G (v := 1) (dq jX11_second 33 rfl) rfl ?_
        refine rz_goto G (tgt := 67) rfl (dq jX11_second 34 rfl) ?_
        exact rz_lv [0, 1, 2, 3, 4, 5, 6] rfl (z_X11_second_b67 G x1 x2 x3 x4 x5 x6 1)
theorem z_X11_second_b38 {Γ : Cx} (G : GG Γ RX11 cX11_second 12 (some .int) 6 0 0) (x1 : Int32) (x2 : Int32) (x3 : Int32) (x4 : Int32) (x5 : Int32) (x6 : Int32) : Rz Γ 12 (Qm Γ encI 0 0) 0 0 38 [(0, .ref 56), (1, .int x1), (2, .int x2), (3, .int x3), (4, .int x4), (5, .int x5), (6, .int x6)] [.ref 56] (f_X11_second_b38 x1 x2 x3 x4 x5 x6) := by
  unfold f_X11_second_b38
  refine rz_iconst G (v := 0) (dq jX11_second 20 rfl) rfl ?_
  exact rz_lv [0, 1, 2, 3, 4, 5, 6] rfl (z_X11_second_b39 G x1 x2 x3 x4 x5 x6 0)
theorem c_X11_second (l : Launch) (x1 : Int32) (x2 : Int32) (x3 : Int32) (x4 : Int32) (x5 : Int32) (x6 : Int32) : Ct l yX11_second cX11_second 12 (some .int) 6 encI [.ref 56, .int x1, .int x2, .int x3, .int x4, .int x5, .int x6] (f_X11_second x1 x2 x3 x4 x5 x6) := by
  refine ct_of (own := RX11) (by decide) rfl (Nat.le_of_ble_eq_true rfl) (fun Γ hl G => ?_)
  show Rz Γ 12 (Qm Γ encI 0 0) 0 0 0 [(0, .ref 56), (1, .int x1), (2, .int x2), (3, .int x3), (4, .int x4), (5, .int x5), (6, .int x6)] [] _
  unfold f_X11_second
  refine rz_aload_n G 0 rfl rfl (dq jX11_second 0 rfl) ?_
  refine rz_iconst G (v := 0) (dq jX11_second 1 rfl) rfl ?_
  refine rz_putI G flX11_148 sh56 rfl (dq jX11_second 2 rfl) ?_
  refine rz_aload_n G 0 rfl rfl (dq jX11_second 3 rfl) ?_
  refine rz_iload_n G 1 rfl rfl (dq jX11_second 4 rfl) ?_
  refine rz_callVi G (st := []) (c_X11_isJumper (cLn Γ) x1) lkX11_350 sh56 rfl rfl rfl (Nat.le_of_ble_eq_true rfl) (Nat.le_of_ble_eq_true rfl) (dq jX11_second 5 rfl) rfl (fun r1 => ?_)
  refine rz_if_eq G (tgt := 74) rfl (dq jX11_second 6 rfl) (fun c2 => ?_) (fun c2 => ?_)
  · refine rz_iconst G (v := 0) (dq jX11_second 39 rfl) rfl ?_
    exact rz_iret G (dq jX11_second 40 rfl)
  · refine rz_aload_n G 0 rfl rfl (dq jX11_second 7 rfl) ?_
    refine rz_iload_n G 2 rfl rfl (dq jX11_second 8 rfl) ?_
    refine rz_callVi G (st := []) (c_X11_isJumper (cLn Γ) x2) lkX11_350 sh56 rfl rfl rfl (Nat.le_of_ble_eq_true rfl) (Nat.le_of_ble_eq_true rfl) (dq jX11_second 9 rfl) rfl (fun r3 => ?_)
    refine rz_if_eq G (tgt := 74) rfl (dq jX11_second 10 rfl) (fun c4 => ?_) (fun c4 => ?_)
    · refine rz_iconst G (v := 0) (dq jX11_second 39 rfl) rfl ?_
      exact rz_iret G (dq jX11_second 40 rfl)
    · refine rz_aload_n G 0 rfl rfl (dq jX11_second 11 rfl) ?_
      refine rz_iload_n G 3 rfl rfl (dq jX11_second 12 rfl) ?_
      refine rz_if_lt G (tgt := 38) rfl (dq jX11_second 13 rfl) (fun c5 => ?_) (fun c5 => ?_)
      · exact rz_lv [0, 1, 2, 3, 4, 5, 6] rfl (z_X11_second_b38 G x1 x2 x3 x4 x5 x6)
      · refine rz_iload_n G 3 rfl rfl (dq jX11_second 14 rfl) ?_
        refine rz_aload_n G 0 rfl rfl (dq jX11_second 15 rfl) ?_
        refine rz_getI G flX11_72 sh56 rfl (dq jX11_second 16 rfl) (fun v6 => ?_)
        refine rz_icmp_ge G (tgt := 38) rfl (dq jX11_second 17 rfl) (fun c7 => ?_) (fun c7 => ?_)
        · exact rz_lv [0, 1, 2, 3, 4, 5, 6] rfl (z_X11_second_b38 G x1 x2 x3 x4 x5 x6)
        · refine rz_iconst G (v := 1) (dq jX11_second 18 rfl) rfl ?_
          refine rz_goto G (tgt := 39) rfl (dq jX11_second 19 rfl) ?_
          exact rz_lv [0, 1, 2, 3, 4, 5, 6] rfl (z_X11_second_b39 G x1 x2 x3 x4 x5 x6 1)
theorem z_X11_hurtsAll_b4 {Γ : Cx} (G : GG Γ RX11 cX11_hurtsAll 3 (some .int) 1 0 0) : ∀ (fu : Nat) (x1 : Int32) (x2 : Int32), Rz Γ 3 (Qm Γ encI 0 0) 0 0 4 [(0, .ref 56), (1, .int x1), (2, .int x2)] [] (f_X11_hurtsAll_b4 fu x1 x2) := by
  intro fu
  induction fu with
  | zero => intro _ _; exact rz_none
  | succ fu ih =>
    intro x1 x2
    rw [f_X11_hurtsAll_b4]
    refine rz_iload_n G 2 rfl rfl (dq jX11_hurtsAll 4 rfl) ?_
    refine rz_aload_n G 0 rfl rfl (dq jX11_hurtsAll 5 rfl) ?_
    refine rz_getI G flX11_323 sh56 rfl (dq jX11_hurtsAll 6 rfl) (fun v1 => ?_)
    refine rz_icmp_ge G (tgt := 27) rfl (dq jX11_hurtsAll 7 rfl) (fun c2 => ?_) (fun c2 => ?_)
    · refine rz_iload_n G 1 rfl rfl (dq jX11_hurtsAll 17 rfl) ?_
      exact rz_iret G (dq jX11_hurtsAll 18 rfl)
    · refine rz_iload_n G 1 rfl rfl (dq jX11_hurtsAll 8 rfl) ?_
      refine rz_aload_n G 0 rfl rfl (dq jX11_hurtsAll 9 rfl) ?_
      refine rz_getC G flX11_105 sh56 (t := 81) rfl rfl (dq jX11_hurtsAll 10 rfl) ?_
      refine rz_iload_n G 2 rfl rfl (dq jX11_hurtsAll 11 rfl) ?_
      refine rz_iald G sh81 (dq jX11_hurtsAll 12 rfl) (fun v3 => ?_)
      refine rz_iadd G (dq jX11_hurtsAll 13 rfl) ?_
      refine rz_istore_n G (lv' := [(1, .int (x1 + v3)), (0, .ref 56), (2, .int x2)]) rfl (Nat.le_of_ble_eq_true rfl) rfl (dq jX11_hurtsAll 14 rfl) ?_
      refine rz_iinc G 2 (v := x2 + 1) (lv' := [(2, .int (x2 + 1)), (1, .int (x1 + v3)), (0, .ref 56)]) rfl (congrArg (HAdd.hAdd _) (by decide)) (Nat.le_of_ble_eq_true rfl) rfl (dq jX11_hurtsAll 15 rfl) ?_
      refine rz_goto G (tgt := 4) rfl (dq jX11_hurtsAll 16 rfl) ?_
      exact rz_lv [2, 1, 0] rfl (ih (x1 + v3) (x2 + 1))
theorem c_X11_hurtsAll (l : Launch)  : Ct l yX11_hurtsAll cX11_hurtsAll 3 (some .int) 1 encI [.ref 56] (f_X11_hurtsAll ) := by
  refine ct_of (own := RX11) (by decide) rfl (Nat.le_of_ble_eq_true rfl) (fun Γ hl G => ?_)
  show Rz Γ 3 (Qm Γ encI 0 0) 0 0 0 [(0, .ref 56)] [] _
  unfold f_X11_hurtsAll
  refine rz_iconst G (v := 0) (dq jX11_hurtsAll 0 rfl) rfl ?_
  refine rz_istore_n G (lv' := [(1, .int 0), (0, .ref 56)]) rfl (Nat.le_of_ble_eq_true rfl) rfl (dq jX11_hurtsAll 1 rfl) ?_
  refine rz_iconst G (v := 0) (dq jX11_hurtsAll 2 rfl) rfl ?_
  refine rz_istore_n G (lv' := [(2, .int 0), (1, .int 0), (0, .ref 56)]) rfl (Nat.le_of_ble_eq_true rfl) rfl (dq jX11_hurtsAll 3 rfl) ?_
  exact rz_lv [2, 1, 0] rfl (z_X11_hurtsAll_b4 G FU 0 0)
theorem z_X11_funAll_b4 {Γ : Cx} (G : GG Γ RX11 cX11_funAll 3 (some .int) 1 0 0) : ∀ (fu : Nat) (x1 : Int32) (x2 : Int32), Rz Γ 3 (Qm Γ encI 0 0) 0 0 4 [(0, .ref 56), (1, .int x1), (2, .int x2)] [] (f_X11_funAll_b4 fu x1 x2) := by
  intro fu
  induction fu with
  | zero => intro _ _; exact rz_none
  | succ fu ih =>
    intro x1 x2
    rw [f_X11_funAll_b4]
    refine rz_iload_n G 2 rfl rfl (dq jX11_funAll 4 rfl) ?_
    refine rz_aload_n G 0 rfl rfl (dq jX11_funAll 5 rfl) ?_
    refine rz_getI G flX11_323 sh56 rfl (dq jX11_funAll 6 rfl) (fun v1 => ?_)
    refine rz_icmp_ge G (tgt := 27) rfl (dq jX11_funAll 7 rfl) (fun c2 => ?_) (fun c2 => ?_)
    · refine rz_iload_n G 1 rfl rfl (dq jX11_funAll 17 rfl) ?_
      exact rz_iret G (dq jX11_funAll 18 rfl)
    · refine rz_iload_n G 1 rfl rfl (dq jX11_funAll 8 rfl) ?_
      refine rz_aload_n G 0 rfl rfl (dq jX11_funAll 9 rfl) ?_
      refine rz_getC G flX11_102 sh56 (t := 80) rfl rfl (dq jX11_funAll 10 rfl) ?_
      refine rz_iload_n G 2 rfl rfl (dq jX11_funAll 11 rfl) ?_
      refine rz_iald G sh80 (dq jX11_funAll 12 rfl) (fun v3 => ?_)
      refine rz_iadd G (dq jX11_funAll 13 rfl) ?_
      refine rz_istore_n G (lv' := [(1, .int (x1 + v3)), (0, .ref 56), (2, .int x2)]) rfl (Nat.le_of_ble_eq_true rfl) rfl (dq jX11_funAll 14 rfl) ?_
      refine rz_iinc G 2 (v := x2 + 1) (lv' := [(2, .int (x2 + 1)), (1, .int (x1 + v3)), (0, .ref 56)]) rfl (congrArg (HAdd.hAdd _) (by decide)) (Nat.le_of_ble_eq_true rfl) rfl (dq jX11_funAll 15 rfl) ?_
      refine rz_goto G (tgt := 4) rfl (dq jX11_funAll 16 rfl) ?_
      exact rz_lv [2, 1, 0] rfl (ih (x1 + v3) (x2 + 1))
theorem c_X11_funAll (l : Launch)  : Ct l yX11_funAll cX11_funAll 3 (some .int) 1 encI [.ref 56] (f_X11_funAll ) := by
  refine ct_of (own := RX11) (by decide) rfl (Nat.le_of_ble_eq_true rfl) (fun Γ hl G => ?_)
  show Rz Γ 3 (Qm Γ encI 0 0) 0 0 0 [(0, .ref 56)] [] _
  unfold f_X11_funAll
  refine rz_iconst G (v := 0) (dq jX11_funAll 0 rfl) rfl ?_
  refine rz_istore_n G (lv' := [(1, .int 0), (0, .ref 56)]) rfl (Nat.le_of_ble_eq_true rfl) rfl (dq jX11_funAll 1 rfl) ?_
  refine rz_iconst G (v := 0) (dq jX11_funAll 2 rfl) rfl ?_
  refine rz_istore_n G (lv' := [(2, .int 0), (1, .int 0), (0, .ref 56)]) rfl (Nat.le_of_ble_eq_true rfl) rfl (dq jX11_funAll 3 rfl) ?_
  exact rz_lv [2, 1, 0] rfl (z_X11_funAll_b4 G FU 0 0)
theorem c_X11_runsBy (l : Launch) (x1 : Int32) : Ct l yX11_runsBy cX11_runsBy 3 none 6 encV [.ref 56, .int x1] (f_X11_runsBy x1) := by
  refine ct_of (own := RX11) (by decide) rfl (Nat.le_of_ble_eq_true rfl) (fun Γ hl G => ?_)
  show Rz Γ 3 (Qm Γ encV 0 0) 0 0 0 [(0, .ref 56), (1, .int x1)] [] _
  unfold f_X11_runsBy
  refine rz_aload_n G 0 rfl rfl (dq jX11_runsBy 0 rfl) ?_
  refine rz_getI G flX11_69 sh56 rfl (dq jX11_runsBy 1 rfl) (fun v1 => ?_)
  refine rz_istore_n G (lv' := [(2, .int v1), (0, .ref 56), (1, .int x1)]) rfl (Nat.le_of_ble_eq_true rfl) rfl (dq jX11_runsBy 2 rfl) ?_
  refine rz_aload_n G 1 rfl rfl (dq jX11_runsBy 3 rfl) ?_
  refine rz_iload_n G 2 rfl rfl (dq jX11_runsBy 4 rfl) ?_
  refine rz_putI G flX11_69 sh56 rfl (dq jX11_runsBy 5 rfl) ?_
  refine rz_aload_n G 1 rfl rfl (dq jX11_runsBy 6 rfl) ?_
  refine rz_callVv G (st := []) (c_X11_runsAll (cLn Γ)) lkX11_440 sh56 rfl rfl rfl (Nat.le_of_ble_eq_true rfl) (Nat.le_of_ble_eq_true rfl) (dq jX11_runsBy 7 rfl) rfl (fun _ => ?_)
  refine rz_aload_n G 1 rfl rfl (dq jX11_runsBy 8 rfl) ?_
  refine rz_iload_n G 0 rfl rfl (dq jX11_runsBy 9 rfl) ?_
  refine rz_putI G flX11_69 sh56 rfl (dq jX11_runsBy 10 rfl) ?_
  exact rz_vret G (dq jX11_runsBy 11 rfl)
theorem z_X11_compare_b24 {Γ : Cx} (G : GG Γ RX11 cX11_compare 3 (some .int) 7 0 0) (x1 : Int32) (x2 : Int32) (xs0 : Int32) : Rz Γ 3 (Qm Γ encI 0 0) 0 0 24 [(0, .ref 56), (1, .int x1), (2, .int x2)] [.int xs0, .ref 56] (f_X11_compare_b24 x1 x2 xs0) := by
  unfold f_X11_compare_b24
  refine rz_iconst G (v := 1) (dq jX11_compare 14 rfl) rfl ?_
  refine rz_callVi G (st := []) (c_X11_right (cLn Γ) xs0 1) lkX11_313 sh56 rfl rfl rfl (Nat.le_of_ble_eq_true rfl) (Nat.le_of_ble_eq_true rfl) (dq jX11_compare 15 rfl) rfl (fun r1 => ?_)
  refine rz_if_eq G (tgt := 40) rfl (dq jX11_compare 16 rfl) (fun c2 => ?_) (fun c2 => ?_)
  · refine rz_iconst G (v := 0) (dq jX11_compare 22 rfl) rfl ?_
    exact rz_iret G (dq jX11_compare 23 rfl)
  · refine rz_aload_n G 0 rfl rfl (dq jX11_compare 17 rfl) ?_
    refine rz_iload_n G 2 rfl rfl (dq jX11_compare 18 rfl) ?_
    refine rz_iconst G (v := 1) (dq jX11_compare 19 rfl) rfl ?_
    refine rz_callVi G (st := []) (c_X11_isWhat (cLn Γ) x2 1) lkX11_353 sh56 rfl rfl rfl (Nat.le_of_ble_eq_true rfl) (Nat.le_of_ble_eq_true rfl) (dq jX11_compare 20 rfl) rfl (fun r3 => ?_)
    refine rz_if_ne G (tgt := 42) rfl (dq jX11_compare 21 rfl) (fun c4 => ?_) (fun c4 => ?_)
    · refine rz_iconst G (v := 0) (dq jX11_compare 22 rfl) rfl ?_
      exact rz_iret G (dq jX11_compare 23 rfl)
    · refine rz_aload_n G 0 rfl rfl (dq jX11_compare 24 rfl) ?_
      refine rz_iload_n G 1 rfl rfl (dq jX11_compare 25 rfl) ?_
      refine rz_callVv G (st := []) (c_X11_runsBy (cLn Γ) x1) lkX11_480 sh56 rfl rfl rfl (Nat.le_of_ble_eq_true rfl) (Nat.le_of_ble_eq_true rfl) (dq jX11_compare 26 rfl) rfl (fun _ => ?_)
      refine rz_iload_n G 2 rfl rfl (dq jX11_compare 27 rfl) ?_
      refine rz_if_ne G (tgt := 58) rfl (dq jX11_compare 28 rfl) (fun c5 => ?_) (fun c5 => ?_)
      · refine rz_aload_n G 0 rfl rfl (dq jX11_compare 29 rfl) ?_
        refine rz_callVi G (st := []) (c_X11_hurtsAll (cLn Γ)) lkX11_483 sh56 rfl rfl rfl (Nat.le_of_ble_eq_true rfl) (Nat.le_of_ble_eq_true rfl) (dq jX11_compare 30 rfl) rfl (fun r6 => ?_)
        refine rz_goto G (tgt := 62) rfl (dq jX11_compare 31 rfl) ?_
        exact rz_iret G (dq jX11_compare 34 rfl)
      · refine rz_aload_n G 0 rfl rfl (dq jX11_compare 32 rfl) ?_
        refine rz_callVi G (st := []) (c_X11_funAll (cLn Γ)) lkX11_486 sh56 rfl rfl rfl (Nat.le_of_ble_eq_true rfl) (Nat.le_of_ble_eq_true rfl) (dq jX11_compare 33 rfl) rfl (fun r7 => ?_)
        exact rz_iret G (dq jX11_compare 34 rfl)
theorem z_X11_compare_b23 {Γ : Cx} (G : GG Γ RX11 cX11_compare 3 (some .int) 7 0 0) (x1 : Int32) (x2 : Int32) : Rz Γ 3 (Qm Γ encI 0 0) 0 0 23 [(0, .ref 56), (1, .int x1), (2, .int x2)] [.ref 56] (f_X11_compare_b23 x1 x2) := by
  unfold f_X11_compare_b23
  refine rz_iconst G (v := 0) (dq jX11_compare 13 rfl) rfl ?_
  exact rz_lv [0, 1, 2] rfl (z_X11_compare_b24 G x1 x2 0)
theorem c_X11_compare (l : Launch) (x1 : Int32) (x2 : Int32) : Ct l yX11_compare cX11_compare 3 (some .int) 7 encI [.ref 56, .int x1, .int x2] (f_X11_compare x1 x2) := by
  refine ct_of (own := RX11) (by decide) rfl (Nat.le_of_ble_eq_true rfl) (fun Γ hl G => ?_)
  show Rz Γ 3 (Qm Γ encI 0 0) 0 0 0 [(0, .ref 56), (1, .int x1), (2, .int x2)] [] _
  unfold f_X11_compare
  refine rz_aload_n G 0 rfl rfl (dq jX11_compare 0 rfl) ?_
  refine rz_iconst G (v := 0) (dq jX11_compare 1 rfl) rfl ?_
  refine rz_putI G flX11_148 sh56 rfl (dq jX11_compare 2 rfl) ?_
  refine rz_aload_n G 0 rfl rfl (dq jX11_compare 3 rfl) ?_
  refine rz_iload_n G 1 rfl rfl (dq jX11_compare 4 rfl) ?_
  refine rz_iconst G (v := (-1)) (dq jX11_compare 5 rfl) rfl ?_
  refine rz_icmp_lt G (tgt := 23) rfl (dq jX11_compare 6 rfl) (fun c1 => ?_) (fun c1 => ?_)
  · exact rz_lv [0, 1, 2] rfl (z_X11_compare_b23 G x1 x2)
  · refine rz_iload_n G 1 rfl rfl (dq jX11_compare 7 rfl) ?_
    refine rz_aload_n G 0 rfl rfl (dq jX11_compare 8 rfl) ?_
    refine rz_getI G flX11_326 sh56 rfl (dq jX11_compare 9 rfl) (fun v2 => ?_)
    refine rz_icmp_ge G (tgt := 23) rfl (dq jX11_compare 10 rfl) (fun c3 => ?_) (fun c3 => ?_)
    · exact rz_lv [0, 1, 2] rfl (z_X11_compare_b23 G x1 x2)
    · refine rz_iconst G (v := 1) (dq jX11_compare 11 rfl) rfl ?_
      refine rz_goto G (tgt := 24) rfl (dq jX11_compare 12 rfl) ?_
      exact rz_lv [0, 1, 2] rfl (z_X11_compare_b24 G x1 x2 1)
theorem z_X11_best_b80 {Γ : Cx} (G : GG Γ RX11 cX11_best 5 (some .int) 7 0 0) (k25 : Int32 → Int32 → Int32 → Int32 → Sg → Option (Int32 × Sg)) (hk25 : ∀ (x1 : Int32) (x2 : Int32) (x3 : Int32) (x4 : Int32), Rz Γ 5 (Qm Γ encI 0 0) 0 0 25 [(0, .ref 56), (1, .int x1), (2, .int x2), (3, .int x3), (4, .int x4)] [] (k25 x1 x2 x3 x4)) (x1 : Int32) (x2 : Int32) (x3 : Int32) (x4 : Int32) : Rz Γ 5 (Qm Γ encI 0 0) 0 0 80 [(0, .ref 56), (1, .int x1), (2, .int x2), (3, .int x3), (4, .int x4)] [] (f_X11_best_b80 k25 x1 x2 x3 x4) := by
  unfold f_X11_best_b80
  refine rz_iinc G 4 (v := x4 + 1) (lv' := [(4, .int (x4 + 1)), (0, .ref 56), (1, .int x1), (2, .int x2), (3, .int x3)]) rfl (congrArg (HAdd.hAdd _) (by decide)) (Nat.le_of_ble_eq_true rfl) rfl (dq jX11_best 44 rfl) ?_
  refine rz_goto G (tgt := 25) rfl (dq jX11_best 45 rfl) ?_
  exact rz_lv [1, 2, 3, 4, 0] rfl (hk25 x1 x2 x3 (x4 + 1))
theorem z_X11_best_b67 {Γ : Cx} (G : GG Γ RX11 cX11_best 5 (some .int) 7 0 0) (k25 : Int32 → Int32 → Int32 → Int32 → Sg → Option (Int32 × Sg)) (hk25 : ∀ (x1 : Int32) (x2 : Int32) (x3 : Int32) (x4 : Int32), Rz Γ 5 (Qm Γ encI 0 0) 0 0 25 [(0, .ref 56), (1, .int x1), (2, .int x2), (3, .int x3), (4, .int x4)] [] (k25 x1 x2 x3 x4)) (x4 : Int32) : Rz Γ 5 (Qm Γ encI 0 0) 0 0 67 [(0, .ref 56), (4, .int x4)] [] (f_X11_best_b67 k25 x4) := by
  unfold f_X11_best_b67
  refine rz_iload G 1 rfl (dq jX11_best 36 rfl) ?_
  refine rz_istore_n G (lv' := [(1, .int x4), (0, .ref 56), (4, .int x4)]) rfl (Nat.le_of_ble_eq_true rfl) rfl (dq jX11_best 37 rfl) ?_
  refine rz_aload_n G 1 rfl rfl (dq jX11_best 38 rfl) ?_
  refine rz_callVi G (st := []) (c_X11_hurtsAll (cLn Γ)) lkX11_483 sh56 rfl rfl rfl (Nat.le_of_ble_eq_true rfl) (Nat.le_of_ble_eq_true rfl) (dq jX11_best 39 rfl) rfl (fun r1 => ?_)
  refine rz_istore_n G (lv' := [(2, .int r1), (1, .int x4), (0, .ref 56), (4, .int x4)]) rfl (Nat.le_of_ble_eq_true rfl) rfl (dq jX11_best 40 rfl) ?_
  refine rz_aload_n G 2 rfl rfl (dq jX11_best 41 rfl) ?_
  refine rz_callVi G (st := []) (c_X11_funAll (cLn Γ)) lkX11_486 sh56 rfl rfl rfl (Nat.le_of_ble_eq_true rfl) (Nat.le_of_ble_eq_true rfl) (dq jX11_best 42 rfl) rfl (fun r2 => ?_)
  refine rz_istore_n G (lv' := [(3, .int r2), (2, .int r1), (1, .int x4), (0, .ref 56), (4, .int x4)]) rfl (Nat.le_of_ble_eq_true rfl) rfl (dq jX11_best 43 rfl) ?_
  exact rz_lv [3, 2, 1, 0, 4] rfl (z_X11_best_b80 G k25 hk25 x4 r1 r2 x4)
theorem z_X11_best_b25 {Γ : Cx} (G : GG Γ RX11 cX11_best 5 (some .int) 7 0 0) : ∀ (fu : Nat) (x1 : Int32) (x2 : Int32) (x3 : Int32) (x4 : Int32), Rz Γ 5 (Qm Γ encI 0 0) 0 0 25 [(0, .ref 56), (1, .int x1), (2, .int x2), (3, .int x3), (4, .int x4)] [] (f_X11_best_b25 fu x1 x2 x3 x4) := by
  intro fu
  induction fu with
  | zero => intro _ _ _ _; exact rz_none
  | succ fu ih =>
    intro x1 x2 x3 x4
    rw [f_X11_best_b25]
    refine rz_iload G 4 rfl (dq jX11_best 16 rfl) ?_
    refine rz_aload_n G 0 rfl rfl (dq jX11_best 17 rfl) ?_
    refine rz_getI G flX11_326 sh56 rfl (dq jX11_best 18 rfl) (fun v1 => ?_)
    refine rz_icmp_ge G (tgt := 86) rfl (dq jX11_best 19 rfl) (fun c2 => ?_) (fun c2 => ?_)
    · refine rz_iload_n G 1 rfl rfl (dq jX11_best 46 rfl) ?_
      exact rz_iret G (dq jX11_best 47 rfl)
    · refine rz_aload_n G 0 rfl rfl (dq jX11_best 20 rfl) ?_
      refine rz_iload G 4 rfl (dq jX11_best 21 rfl) ?_
      refine rz_callVv G (st := []) (c_X11_runsBy (cLn Γ) x4) lkX11_480 sh56 rfl rfl rfl (Nat.le_of_ble_eq_true rfl) (Nat.le_of_ble_eq_true rfl) (dq jX11_best 22 rfl) rfl (fun _ => ?_)
      refine rz_aload_n G 0 rfl rfl (dq jX11_best 23 rfl) ?_
      refine rz_callVi G (st := []) (c_X11_hurtsAll (cLn Γ)) lkX11_483 sh56 rfl rfl rfl (Nat.le_of_ble_eq_true rfl) (Nat.le_of_ble_eq_true rfl) (dq jX11_best 24 rfl) rfl (fun r3 => ?_)
      refine rz_iload_n G 2 rfl rfl (dq jX11_best 25 rfl) ?_
      refine rz_icmp_gt G (tgt := 80) rfl (dq jX11_best 26 rfl) (fun c4 => ?_) (fun c4 => ?_)
      · exact rz_lv [0, 1, 2, 3, 4] rfl (z_X11_best_b80 G (f_X11_best_b25 fu) ih x1 x2 x3 x4)
      · refine rz_aload_n G 0 rfl rfl (dq jX11_best 27 rfl) ?_
        refine rz_callVi G (st := []) (c_X11_hurtsAll (cLn Γ)) lkX11_483 sh56 rfl rfl rfl (Nat.le_of_ble_eq_true rfl) (Nat.le_of_ble_eq_true rfl) (dq jX11_best 28 rfl) rfl (fun r5 => ?_)
        refine rz_iload_n G 2 rfl rfl (dq jX11_best 29 rfl) ?_
        refine rz_icmp_ne G (tgt := 67) rfl (dq jX11_best 30 rfl) (fun c6 => ?_) (fun c6 => ?_)
        · refine rz_aload_n G 0 rfl rfl (dq jX11_best 31 rfl) ?_
          refine rz_callVi G (st := []) (c_X11_funAll (cLn Γ)) lkX11_486 sh56 rfl rfl rfl (Nat.le_of_ble_eq_true rfl) (Nat.le_of_ble_eq_true rfl) (dq jX11_best 32 rfl) rfl (fun r7 => ?_)
          refine rz_iload_n G 3 rfl rfl (dq jX11_best 33 rfl) ?_
          refine rz_icmp_gt G (tgt := 67) rfl (dq jX11_best 34 rfl) (fun c8 => ?_) (fun c8 => ?_)
          · exact rz_lv [0, 4] rfl (z_X11_best_b67 G (f_X11_best_b25 fu) ih x4)
          · refine rz_goto G (tgt := 80) rfl (dq jX11_best 35 rfl) ?_
            exact rz_lv [0, 1, 2, 3, 4] rfl (z_X11_best_b80 G (f_X11_best_b25 fu) ih x1 x2 x3 x4)
        · exact rz_lv [0, 4] rfl (z_X11_best_b67 G (f_X11_best_b25 fu) ih x4)
theorem c_X11_best (l : Launch)  : Ct l yX11_best cX11_best 5 (some .int) 7 encI [.ref 56] (f_X11_best ) := by
  refine ct_of (own := RX11) (by decide) rfl (Nat.le_of_ble_eq_true rfl) (fun Γ hl G => ?_)
  show Rz Γ 5 (Qm Γ encI 0 0) 0 0 0 [(0, .ref 56)] [] _
  unfold f_X11_best
  refine rz_aload_n G 0 rfl rfl (dq jX11_best 0 rfl) ?_
  refine rz_iconst G (v := 0) (dq jX11_best 1 rfl) rfl ?_
  refine rz_putI G flX11_148 sh56 rfl (dq jX11_best 2 rfl) ?_
  refine rz_aload_n G 0 rfl rfl (dq jX11_best 3 rfl) ?_
  refine rz_iconst G (v := (-1)) (dq jX11_best 4 rfl) rfl ?_
  refine rz_callVv G (st := []) (c_X11_runsBy (cLn Γ) ((-1))) lkX11_480 sh56 rfl rfl rfl (Nat.le_of_ble_eq_true rfl) (Nat.le_of_ble_eq_true rfl) (dq jX11_best 5 rfl) rfl (fun _ => ?_)
  refine rz_iconst G (v := (-1)) (dq jX11_best 6 rfl) rfl ?_
  refine rz_istore_n G (lv' := [(1, .int ((-1))), (0, .ref 56)]) rfl (Nat.le_of_ble_eq_true rfl) rfl (dq jX11_best 7 rfl) ?_
  refine rz_aload_n G 1 rfl rfl (dq jX11_best 8 rfl) ?_
  refine rz_callVi G (st := []) (c_X11_hurtsAll (cLn Γ)) lkX11_483 sh56 rfl rfl rfl (Nat.le_of_ble_eq_true rfl) (Nat.le_of_ble_eq_true rfl) (dq jX11_best 9 rfl) rfl (fun r1 => ?_)
  refine rz_istore_n G (lv' := [(2, .int r1), (1, .int ((-1))), (0, .ref 56)]) rfl (Nat.le_of_ble_eq_true rfl) rfl (dq jX11_best 10 rfl) ?_
  refine rz_aload_n G 2 rfl rfl (dq jX11_best 11 rfl) ?_
  refine rz_callVi G (st := []) (c_X11_funAll (cLn Γ)) lkX11_486 sh56 rfl rfl rfl (Nat.le_of_ble_eq_true rfl) (Nat.le_of_ble_eq_true rfl) (dq jX11_best 12 rfl) rfl (fun r2 => ?_)
  refine rz_istore_n G (lv' := [(3, .int r2), (2, .int r1), (1, .int ((-1))), (0, .ref 56)]) rfl (Nat.le_of_ble_eq_true rfl) rfl (dq jX11_best 13 rfl) ?_
  refine rz_iconst G (v := 0) (dq jX11_best 14 rfl) rfl ?_
  refine rz_istore G (lv' := [(4, .int 0), (3, .int r2), (2, .int r1), (1, .int ((-1))), (0, .ref 56)]) (Nat.le_of_ble_eq_true rfl) rfl (dq jX11_best 15 rfl) ?_
  exact rz_lv [4, 3, 2, 1, 0] rfl (z_X11_best_b25 G FU ((-1)) r1 r2 0)
