theorem z_X11_isJumper_b18 {Γ : Cx} (G : GG Γ RX11 cX11_isJumper 2 (some .boolean) 2 0 0) (xs0 : Int32) : Rz Γ 2 (Qm Γ encI 0 0) 0 0 18 [] [.int xs0, .ref 56] (f_X11_isJumper_b18 xs0) := by
  unfold f_X11_isJumper_b18
  refine rz_iconst G (v := 1) (dq jX11_isJumper 10 rfl) rfl ?_
  refine rz_callVi G (st := []) (c_X11_right (cLn Γ) xs0 1) lkX11_313 sh56 rfl rfl rfl (Nat.le_of_ble_eq_true rfl) (Nat.le_of_ble_eq_true rfl) (dq jX11_isJumper 11 rfl) rfl (fun r1 => ?_)
  exact rz_zret G (dq jX11_isJumper 12 rfl)
theorem z_X11_isJumper_b17 {Γ : Cx} (G : GG Γ RX11 cX11_isJumper 2 (some .boolean) 2 0 0)  : Rz Γ 2 (Qm Γ encI 0 0) 0 0 17 [] [.ref 56] (f_X11_isJumper_b17 ) := by
  unfold f_X11_isJumper_b17
  refine rz_iconst G (v := 0) (dq jX11_isJumper 9 rfl) rfl ?_
  exact rz_lv [] rfl (z_X11_isJumper_b18 G 0)
theorem c_X11_isJumper (l : Launch) (x1 : Int32) : Ct l yX11_isJumper cX11_isJumper 2 (some .boolean) 2 encI [.ref 56, .int x1] (f_X11_isJumper x1) := by
  refine ct_of (own := RX11) (by decide) rfl (Nat.le_of_ble_eq_true rfl) (fun Γ hl G => ?_)
  show Rz Γ 2 (Qm Γ encI 0 0) 0 0 0 [(0, .ref 56), (1, .int x1)] [] _
  unfold f_X11_isJumper
  refine rz_aload_n G 0 rfl rfl (dq jX11_isJumper 0 rfl) ?_
  refine rz_iload_n G 1 rfl rfl (dq jX11_isJumper 1 rfl) ?_
  refine rz_if_lt G (tgt := 17) rfl (dq jX11_isJumper 2 rfl) (fun c1 => ?_) (fun c1 => ?_)
  · exact rz_lv [] rfl (z_X11_isJumper_b17 G)
  · refine rz_iload_n G 1 rfl rfl (dq jX11_isJumper 3 rfl) ?_
    refine rz_aload_n G 0 rfl rfl (dq jX11_isJumper 4 rfl) ?_
    refine rz_getI G flX11_323 sh56 rfl (dq jX11_isJumper 5 rfl) (fun v2 => ?_)
    refine rz_icmp_ge G (tgt := 17) rfl (dq jX11_isJumper 6 rfl) (fun c3 => ?_) (fun c3 => ?_)
    · exact rz_lv [] rfl (z_X11_isJumper_b17 G)
    · refine rz_iconst G (v := 1) (dq jX11_isJumper 7 rfl) rfl ?_
      refine rz_goto G (tgt := 18) rfl (dq jX11_isJumper 8 rfl) ?_
      exact rz_lv [] rfl (z_X11_isJumper_b18 G 1)
theorem c_X11_isWhat (l : Launch) (x1 : Int32) (x2 : Int32) : Ct l yX11_isWhat cX11_isWhat 3 (some .boolean) 2 encI [.ref 56, .int x1, .int x2] (f_X11_isWhat x1 x2) := by
  refine ct_of (own := RX11) (by decide) rfl (Nat.le_of_ble_eq_true rfl) (fun Γ hl G => ?_)
  show Rz Γ 3 (Qm Γ encI 0 0) 0 0 0 [(0, .ref 56), (1, .int x1), (2, .int x2)] [] _
  unfold f_X11_isWhat
  refine rz_aload_n G 0 rfl rfl (dq jX11_isWhat 0 rfl) ?_
  refine rz_iload_n G 1 rfl rfl (dq jX11_isWhat 1 rfl) ?_
  refine rz_iconst G (v := 0) (dq jX11_isWhat 2 rfl) rfl ?_
  refine rz_iload_n G 2 rfl rfl (dq jX11_isWhat 3 rfl) ?_
  refine rz_callSi G (st := [.ref 56]) (c_X11_within (cLn Γ) x1 0 x2) lkX11_346 rfl (Nat.le_of_ble_eq_true rfl) (Nat.le_of_ble_eq_true rfl) (dq jX11_isWhat 4 rfl) rfl (fun r1 => ?_)
  refine rz_iconst G (v := 1) (dq jX11_isWhat 5 rfl) rfl ?_
  refine rz_callVi G (st := []) (c_X11_right (cLn Γ) r1 1) lkX11_313 sh56 rfl rfl rfl (Nat.le_of_ble_eq_true rfl) (Nat.le_of_ble_eq_true rfl) (dq jX11_isWhat 6 rfl) rfl (fun r2 => ?_)
  exact rz_zret G (dq jX11_isWhat 7 rfl)
theorem c_X11_weight (l : Launch) (x1 : Int32) : Ct l yX11_weight cX11_weight 2 (some .int) 1 encI [.ref 56, .int x1] (f_X11_weight x1) := by
  refine ct_of (own := RX11) (by decide) rfl (Nat.le_of_ble_eq_true rfl) (fun Γ hl G => ?_)
  show Rz Γ 2 (Qm Γ encI 0 0) 0 0 0 [(0, .ref 56), (1, .int x1)] [] _
  unfold f_X11_weight
  refine rz_aload_n G 0 rfl rfl (dq jX11_weight 0 rfl) ?_
  refine rz_getC G flX11_26 sh56 (t := 58) rfl rfl (dq jX11_weight 1 rfl) ?_
  refine rz_bipush G (v := 6) (dq jX11_weight 2 rfl) (by decide) ?_
  refine rz_iload_n G 1 rfl rfl (dq jX11_weight 3 rfl) ?_
  refine rz_imul G (dq jX11_weight 4 rfl) ?_
  refine rz_iald G sh58 (dq jX11_weight 5 rfl) (fun v1 => ?_)
  exact rz_iret G (dq jX11_weight 6 rfl)
theorem c_X11_jumper (l : Launch) (x1 : Int32) (x2 : Int32) : Ct l yX11_jumper cX11_jumper 3 (some .int) 3 encI [.ref 56, .int x1, .int x2] (f_X11_jumper x1 x2) := by
  refine ct_of (own := RX11) (by decide) rfl (Nat.le_of_ble_eq_true rfl) (fun Γ hl G => ?_)
  show Rz Γ 3 (Qm Γ encI 0 0) 0 0 0 [(0, .ref 56), (1, .int x1), (2, .int x2)] [] _
  unfold f_X11_jumper
  refine rz_aload_n G 0 rfl rfl (dq jX11_jumper 0 rfl) ?_
  refine rz_iconst G (v := 0) (dq jX11_jumper 1 rfl) rfl ?_
  refine rz_putI G flX11_148 sh56 rfl (dq jX11_jumper 2 rfl) ?_
  refine rz_aload_n G 0 rfl rfl (dq jX11_jumper 3 rfl) ?_
  refine rz_iload_n G 1 rfl rfl (dq jX11_jumper 4 rfl) ?_
  refine rz_callVi G (st := []) (c_X11_isJumper (cLn Γ) x1) lkX11_350 sh56 rfl rfl rfl (Nat.le_of_ble_eq_true rfl) (Nat.le_of_ble_eq_true rfl) (dq jX11_jumper 5 rfl) rfl (fun r1 => ?_)
  refine rz_if_eq G (tgt := 36) rfl (dq jX11_jumper 6 rfl) (fun c2 => ?_) (fun c2 => ?_)
  · refine rz_iconst G (v := 0) (dq jX11_jumper 21 rfl) rfl ?_
    exact rz_iret G (dq jX11_jumper 22 rfl)
  · refine rz_aload_n G 0 rfl rfl (dq jX11_jumper 7 rfl) ?_
    refine rz_iload_n G 2 rfl rfl (dq jX11_jumper 8 rfl) ?_
    refine rz_iconst G (v := 5) (dq jX11_jumper 9 rfl) rfl ?_
    refine rz_callVi G (st := []) (c_X11_isWhat (cLn Γ) x2 5) lkX11_353 sh56 rfl rfl rfl (Nat.le_of_ble_eq_true rfl) (Nat.le_of_ble_eq_true rfl) (dq jX11_jumper 10 rfl) rfl (fun r3 => ?_)
    refine rz_if_eq G (tgt := 36) rfl (dq jX11_jumper 11 rfl) (fun c4 => ?_) (fun c4 => ?_)
    · refine rz_iconst G (v := 0) (dq jX11_jumper 21 rfl) rfl ?_
      exact rz_iret G (dq jX11_jumper 22 rfl)
    · refine rz_aload_n G 0 rfl rfl (dq jX11_jumper 12 rfl) ?_
      refine rz_getC G flX11_26 sh56 (t := 58) rfl rfl (dq jX11_jumper 13 rfl) ?_
      refine rz_bipush G (v := 6) (dq jX11_jumper 14 rfl) (by decide) ?_
      refine rz_iload_n G 1 rfl rfl (dq jX11_jumper 15 rfl) ?_
      refine rz_imul G (dq jX11_jumper 16 rfl) ?_
      refine rz_iload_n G 2 rfl rfl (dq jX11_jumper 17 rfl) ?_
      refine rz_iadd G (dq jX11_jumper 18 rfl) ?_
      refine rz_iald G sh58 (dq jX11_jumper 19 rfl) (fun v5 => ?_)
      refine rz_goto G (tgt := 37) rfl (dq jX11_jumper 20 rfl) ?_
      exact rz_iret G (dq jX11_jumper 22 rfl)
theorem z_X11_keeps_b47 {Γ : Cx} (G : GG Γ RX11 cX11_keeps 4 none 1 0 0) (x1 : Int32) (x2 : Int32) : Rz Γ 4 (Qm Γ encV 0 0) 0 0 47 [(0, .ref 56), (1, .int x1), (2, .int x2)] [] (f_X11_keeps_b47 x1 x2) := by
  unfold f_X11_keeps_b47
  refine rz_aload_n G 0 rfl rfl (dq jX11_keeps 27 rfl) ?_
  refine rz_getC G flX11_75 sh56 (t := 71) rfl rfl (dq jX11_keeps 28 rfl) ?_
  refine rz_iconst G (v := 2) (dq jX11_keeps 29 rfl) rfl ?_
  refine rz_aload_n G 0 rfl rfl (dq jX11_keeps 30 rfl) ?_
  refine rz_getI G flX11_336 sh56 rfl (dq jX11_keeps 31 rfl) (fun v1 => ?_)
  refine rz_imul G (dq jX11_keeps 32 rfl) ?_
  refine rz_iload_n G 1 rfl rfl (dq jX11_keeps 33 rfl) ?_
  refine rz_iast G sh71 (dq jX11_keeps 34 rfl) ?_
  refine rz_aload_n G 0 rfl rfl (dq jX11_keeps 35 rfl) ?_
  refine rz_getC G flX11_75 sh56 (t := 71) rfl rfl (dq jX11_keeps 36 rfl) ?_
  refine rz_iconst G (v := 2) (dq jX11_keeps 37 rfl) rfl ?_
  refine rz_aload_n G 0 rfl rfl (dq jX11_keeps 38 rfl) ?_
  refine rz_getI G flX11_336 sh56 rfl (dq jX11_keeps 39 rfl) (fun v2 => ?_)
  refine rz_imul G (dq jX11_keeps 40 rfl) ?_
  refine rz_iconst G (v := 1) (dq jX11_keeps 41 rfl) rfl ?_
  refine rz_iadd G (dq jX11_keeps 42 rfl) ?_
  refine rz_iload_n G 2 rfl rfl (dq jX11_keeps 43 rfl) ?_
  refine rz_iast G sh71 (dq jX11_keeps 44 rfl) ?_
  refine rz_aload_n G 0 rfl rfl (dq jX11_keeps 45 rfl) ?_
  refine rz_dup G rfl (dq jX11_keeps 46 rfl) ?_
  refine rz_getI G flX11_336 sh56 rfl (dq jX11_keeps 47 rfl) (fun v3 => ?_)
  refine rz_iconst G (v := 1) (dq jX11_keeps 48 rfl) rfl ?_
  refine rz_iadd G (dq jX11_keeps 49 rfl) ?_
  refine rz_putI G flX11_336 sh56 rfl (dq jX11_keeps 50 rfl) ?_
  exact rz_vret G (dq jX11_keeps 51 rfl)
theorem z_X11_keeps_b37 {Γ : Cx} (G : GG Γ RX11 cX11_keeps 4 none 1 0 0) (x1 : Int32) (x2 : Int32) : Rz Γ 4 (Qm Γ encV 0 0) 0 0 37 [(0, .ref 56), (1, .int x1), (2, .int x2)] [] (f_X11_keeps_b37 x1 x2) := by
  unfold f_X11_keeps_b37
  refine rz_aload_n G 0 rfl rfl (dq jX11_keeps 21 rfl) ?_
  refine rz_dup G rfl (dq jX11_keeps 22 rfl) ?_
  refine rz_getI G flX11_336 sh56 rfl (dq jX11_keeps 23 rfl) (fun v1 => ?_)
  refine rz_iconst G (v := 1) (dq jX11_keeps 24 rfl) rfl ?_
  refine rz_isub G (dq jX11_keeps 25 rfl) ?_
  refine rz_putI G flX11_336 sh56 rfl (dq jX11_keeps 26 rfl) ?_
  exact rz_lv [0, 1, 2] rfl (z_X11_keeps_b47 G x1 x2)
theorem z_X11_keeps_b11 {Γ : Cx} (G : GG Γ RX11 cX11_keeps 4 none 1 0 0) : ∀ (fu : Nat) (x1 : Int32) (x2 : Int32) (x3 : Int32), Rz Γ 4 (Qm Γ encV 0 0) 0 0 11 [(0, .ref 56), (1, .int x1), (2, .int x2), (3, .int x3)] [] (f_X11_keeps_b11 fu x1 x2 x3) := by
  intro fu
  induction fu with
  | zero => intro _ _ _; exact rz_none
  | succ fu ih =>
    intro x1 x2 x3
    rw [f_X11_keeps_b11]
    refine rz_iload_n G 3 rfl rfl (dq jX11_keeps 6 rfl) ?_
    refine rz_bipush G (v := 80) (dq jX11_keeps 7 rfl) (by decide) ?_
    refine rz_icmp_ge G (tgt := 37) rfl (dq jX11_keeps 8 rfl) (fun c1 => ?_) (fun c1 => ?_)
    · exact rz_lv [0, 1, 2] rfl (z_X11_keeps_b37 G x1 x2)
    · refine rz_aload_n G 0 rfl rfl (dq jX11_keeps 9 rfl) ?_
      refine rz_getC G flX11_75 sh56 (t := 71) rfl rfl (dq jX11_keeps 10 rfl) ?_
      refine rz_iload_n G 3 rfl rfl (dq jX11_keeps 11 rfl) ?_
      refine rz_iconst G (v := 2) (dq jX11_keeps 12 rfl) rfl ?_
      refine rz_isub G (dq jX11_keeps 13 rfl) ?_
      refine rz_aload_n G 0 rfl rfl (dq jX11_keeps 14 rfl) ?_
      refine rz_getC G flX11_75 sh56 (t := 71) rfl rfl (dq jX11_keeps 15 rfl) ?_
      refine rz_iload_n G 3 rfl rfl (dq jX11_keeps 16 rfl) ?_
      refine rz_iald G sh71 (dq jX11_keeps 17 rfl) (fun v2 => ?_)
      refine rz_iast G sh71 (dq jX11_keeps 18 rfl) ?_
      refine rz_iinc G 3 (v := x3 + 1) (lv' := [(3, .int (x3 + 1)), (0, .ref 56), (1, .int x1), (2, .int x2)]) rfl (congrArg (HAdd.hAdd _) (by decide)) (Nat.le_of_ble_eq_true rfl) rfl (dq jX11_keeps 19 rfl) ?_
      refine rz_goto G (tgt := 11) rfl (dq jX11_keeps 20 rfl) ?_
      exact rz_lv [1, 2, 3, 0] rfl (ih x1 x2 (x3 + 1))
theorem c_X11_keeps (l : Launch) (x1 : Int32) (x2 : Int32) : Ct l yX11_keeps cX11_keeps 4 none 1 encV [.ref 56, .int x1, .int x2] (f_X11_keeps x1 x2) := by
  refine ct_of (own := RX11) (by decide) rfl (Nat.le_of_ble_eq_true rfl) (fun Γ hl G => ?_)
  show Rz Γ 4 (Qm Γ encV 0 0) 0 0 0 [(0, .ref 56), (1, .int x1), (2, .int x2)] [] _
  unfold f_X11_keeps
  refine rz_aload_n G 0 rfl rfl (dq jX11_keeps 0 rfl) ?_
  refine rz_getI G flX11_336 sh56 rfl (dq jX11_keeps 1 rfl) (fun v1 => ?_)
  refine rz_bipush G (v := 40) (dq jX11_keeps 2 rfl) (by decide) ?_
  refine rz_icmp_ne G (tgt := 47) rfl (dq jX11_keeps 3 rfl) (fun c2 => ?_) (fun c2 => ?_)
  · refine rz_iconst G (v := 2) (dq jX11_keeps 4 rfl) rfl ?_
    refine rz_istore_n G (lv' := [(3, .int 2), (0, .ref 56), (1, .int x1), (2, .int x2)]) rfl (Nat.le_of_ble_eq_true rfl) rfl (dq jX11_keeps 5 rfl) ?_
    exact rz_lv [1, 2, 3, 0] rfl (z_X11_keeps_b11 G FU x1 x2 2)
  · exact rz_lv [0, 1, 2] rfl (z_X11_keeps_b47 G x1 x2)
theorem c_X11_refuses (l : Launch) (x1 : Int32) : Ct l yX11_refuses cX11_refuses 2 (some .int) 1 encI [.ref 56, .int x1] (f_X11_refuses x1) := by
  refine ct_of (own := RX11) (by decide) rfl (Nat.le_of_ble_eq_true rfl) (fun Γ hl G => ?_)
  show Rz Γ 2 (Qm Γ encI 0 0) 0 0 0 [(0, .ref 56), (1, .int x1)] [] _
  unfold f_X11_refuses
  refine rz_aload_n G 0 rfl rfl (dq jX11_refuses 0 rfl) ?_
  refine rz_getC G flX11_44 sh56 (t := 63) rfl rfl (dq jX11_refuses 1 rfl) ?_
  refine rz_iload_n G 1 rfl rfl (dq jX11_refuses 2 rfl) ?_
  refine rz_dup2 G rfl rfl (dq jX11_refuses 3 rfl) ?_
  refine rz_iald G sh63 (dq jX11_refuses 4 rfl) (fun v1 => ?_)
  refine rz_iconst G (v := 1) (dq jX11_refuses 5 rfl) rfl ?_
  refine rz_iadd G (dq jX11_refuses 6 rfl) ?_
  refine rz_iast G sh63 (dq jX11_refuses 7 rfl) ?_
  refine rz_iconst G (v := (-1)) (dq jX11_refuses 8 rfl) rfl ?_
  exact rz_iret G (dq jX11_refuses 9 rfl)
theorem z_X11_become_b47 {Γ : Cx} (G : GG Γ RX11 cX11_become 6 (some .int) 3 0 0) (x1 : Int32) (x2 : Int32) (x3 : Int32) (xs0 : Int32) (xs1 : Int32) (xs2 : Int32) : Rz Γ 6 (Qm Γ encI 0 0) 0 0 47 [(0, .ref 56), (1, .int x1), (2, .int x2), (3, .int x3)] [.int xs0, .int xs1, .int xs2] (f_X11_become_b47 x1 x2 x3 xs0 xs1 xs2) := by
  unfold f_X11_become_b47
  refine rz_callSi G (st := []) (c_X11_within (cLn Γ) xs2 xs1 xs0) lkX11_346 rfl (Nat.le_of_ble_eq_true rfl) (Nat.le_of_ble_eq_true rfl) (dq jX11_become 26 rfl) rfl (fun r1 => ?_)
  refine rz_if_ne G (tgt := 59) rfl (dq jX11_become 27 rfl) (fun c2 => ?_) (fun c2 => ?_)
  · refine rz_aload_n G 0 rfl rfl (dq jX11_become 28 rfl) ?_
    refine rz_iconst G (v := 1) (dq jX11_become 29 rfl) rfl ?_
    refine rz_callVi G (st := []) (c_X11_refuses (cLn Γ) 1) lkX11_357 sh56 rfl rfl rfl (Nat.le_of_ble_eq_true rfl) (Nat.le_of_ble_eq_true rfl) (dq jX11_become 30 rfl) rfl (fun r3 => ?_)
    exact rz_iret G (dq jX11_become 31 rfl)
  · refine rz_bipush G (v := 6) (dq jX11_become 32 rfl) (by decide) ?_
    refine rz_iload_n G 1 rfl rfl (dq jX11_become 33 rfl) ?_
    refine rz_imul G (dq jX11_become 34 rfl) ?_
    refine rz_iconst G (v := 3) (dq jX11_become 35 rfl) rfl ?_
    refine rz_iadd G (dq jX11_become 36 rfl) ?_
    refine rz_iload_n G 2 rfl rfl (dq jX11_become 37 rfl) ?_
    refine rz_iadd G (dq jX11_become 38 rfl) ?_
    refine rz_lti (fun w4 e_w4 => ?_)
    refine rz_istore G (lv' := [(4, .int w4), (0, .ref 56), (1, .int x1), (2, .int x2), (3, .int x3)]) (Nat.le_of_ble_eq_true rfl) rfl (dq jX11_become 39 rfl) ?_
    refine rz_aload_n G 1 rfl rfl (dq jX11_become 40 rfl) ?_
    refine rz_getC G flX11_26 sh56 (t := 58) rfl rfl (dq jX11_become 41 rfl) ?_
    refine rz_iload G 0 rfl (dq jX11_become 42 rfl) ?_
    refine rz_iald G sh58 (dq jX11_become 43 rfl) (fun v5 => ?_)
    refine rz_istore G (lv' := [(5, .int v5), (4, .int w4), (0, .ref 56), (1, .int x1), (2, .int x2), (3, .int x3)]) (Nat.le_of_ble_eq_true rfl) rfl (dq jX11_become 44 rfl) ?_
    refine rz_aload_n G 2 rfl rfl (dq jX11_become 45 rfl) ?_
    refine rz_iload G 1 rfl (dq jX11_become 46 rfl) ?_
    refine rz_iload G 0 rfl (dq jX11_become 47 rfl) ?_
    refine rz_callVv G (st := []) (c_X11_keeps (cLn Γ) w4 v5) lkX11_360 sh56 rfl rfl rfl (Nat.le_of_ble_eq_true rfl) (Nat.le_of_ble_eq_true rfl) (dq jX11_become 48 rfl) rfl (fun _ => ?_)
    refine rz_aload_n G 2 rfl rfl (dq jX11_become 49 rfl) ?_
    refine rz_getC G flX11_26 sh56 (t := 58) rfl rfl (dq jX11_become 50 rfl) ?_
    refine rz_iload G 1 rfl (dq jX11_become 51 rfl) ?_
    refine rz_iload_n G 5 rfl rfl (dq jX11_become 52 rfl) ?_
    refine rz_iast G sh58 (dq jX11_become 53 rfl) ?_
    refine rz_iload G 0 rfl (dq jX11_become 54 rfl) ?_
    exact rz_iret G (dq jX11_become 55 rfl)
theorem c_X11_become (l : Launch) (x1 : Int32) (x2 : Int32) (x3 : Int32) : Ct l yX11_become cX11_become 6 (some .int) 3 encI [.ref 56, .int x1, .int x2, .int x3] (f_X11_become x1 x2 x3) := by
  refine ct_of (own := RX11) (by decide) rfl (Nat.le_of_ble_eq_true rfl) (fun Γ hl G => ?_)
  show Rz Γ 6 (Qm Γ encI 0 0) 0 0 0 [(0, .ref 56), (1, .int x1), (2, .int x2), (3, .int x3)] [] _
  unfold f_X11_become
  refine rz_aload_n G 0 rfl rfl (dq jX11_become 0 rfl) ?_
  refine rz_iconst G (v := 0) (dq jX11_become 1 rfl) rfl ?_
  refine rz_putI G flX11_148 sh56 rfl (dq jX11_become 2 rfl) ?_
  refine rz_aload_n G 0 rfl rfl (dq jX11_become 3 rfl) ?_
  refine rz_iload_n G 1 rfl rfl (dq jX11_become 4 rfl) ?_
  refine rz_callVi G (st := []) (c_X11_isJumper (cLn Γ) x1) lkX11_350 sh56 rfl rfl rfl (Nat.le_of_ble_eq_true rfl) (Nat.le_of_ble_eq_true rfl) (dq jX11_become 5 rfl) rfl (fun r1 => ?_)
  refine rz_if_eq G (tgt := 22) rfl (dq jX11_become 6 rfl) (fun c2 => ?_) (fun c2 => ?_)
  · refine rz_iconst G (v := 0) (dq jX11_become 12 rfl) rfl ?_
    exact rz_iret G (dq jX11_become 13 rfl)
  · refine rz_aload_n G 0 rfl rfl (dq jX11_become 7 rfl) ?_
    refine rz_iload_n G 2 rfl rfl (dq jX11_become 8 rfl) ?_
    refine rz_iconst G (v := 2) (dq jX11_become 9 rfl) rfl ?_
    refine rz_callVi G (st := []) (c_X11_isWhat (cLn Γ) x2 2) lkX11_353 sh56 rfl rfl rfl (Nat.le_of_ble_eq_true rfl) (Nat.le_of_ble_eq_true rfl) (dq jX11_become 10 rfl) rfl (fun r3 => ?_)
    refine rz_if_ne G (tgt := 24) rfl (dq jX11_become 11 rfl) (fun c4 => ?_) (fun c4 => ?_)
    · refine rz_iconst G (v := 0) (dq jX11_become 12 rfl) rfl ?_
      exact rz_iret G (dq jX11_become 13 rfl)
    · refine rz_iload_n G 3 rfl rfl (dq jX11_become 14 rfl) ?_
      refine rz_iconst G (v := 0) (dq jX11_become 15 rfl) rfl ?_
      refine rz_iload_n G 2 rfl rfl (dq jX11_become 16 rfl) ?_
      refine rz_if_ne G (tgt := 35) rfl (dq jX11_become 17 rfl) (fun c5 => ?_) (fun c5 => ?_)
      · refine rz_bipush G (v := 99) (dq jX11_become 18 rfl) (by decide) ?_
        refine rz_goto G (tgt := 47) rfl (dq jX11_become 19 rfl) ?_
        exact rz_lv [0, 1, 2, 3] rfl (z_X11_become_b47 G x1 x2 x3 99 0 x3)
      · refine rz_iload_n G 2 rfl rfl (dq jX11_become 20 rfl) ?_
        refine rz_iconst G (v := 1) (dq jX11_become 21 rfl) rfl ?_
        refine rz_icmp_ne G (tgt := 45) rfl (dq jX11_become 22 rfl) (fun c6 => ?_) (fun c6 => ?_)
        · refine rz_bipush G (v := 60) (dq jX11_become 23 rfl) (by decide) ?_
          refine rz_goto G (tgt := 47) rfl (dq jX11_become 24 rfl) ?_
          exact rz_lv [0, 1, 2, 3] rfl (z_X11_become_b47 G x1 x2 x3 60 0 x3)
        · refine rz_bipush G (v := 9) (dq jX11_become 25 rfl) (by decide) ?_
          exact rz_lv [0, 1, 2, 3] rfl (z_X11_become_b47 G x1 x2 x3 9 0 x3)
theorem z_X11_obey_b18 {Γ : Cx} (G : GG Γ RX11 cX11_obey 2 (some .boolean) 2 0 0)  : Rz Γ 2 (Qm Γ encI 0 0) 0 0 18 [(0, .ref 56)] [] (f_X11_obey_b18 ) := by
  unfold f_X11_obey_b18
  refine rz_aload_n G 0 rfl rfl (dq jX11_obey 10 rfl) ?_
  refine rz_iconst G (v := 1) (dq jX11_obey 11 rfl) rfl ?_
  refine rz_callVi G (st := []) (c_X11_refuses (cLn Γ) 1) lkX11_357 sh56 rfl rfl rfl (Nat.le_of_ble_eq_true rfl) (Nat.le_of_ble_eq_true rfl) (dq jX11_obey 12 rfl) rfl (fun r1 => ?_)
  refine rz_if_le G (tgt := 30) rfl (dq jX11_obey 13 rfl) (fun c2 => ?_) (fun c2 => ?_)
  · refine rz_iconst G (v := 0) (dq jX11_obey 16 rfl) rfl ?_
    exact rz_zret0 G (by decide) (dq jX11_obey 17 rfl)
  · refine rz_iconst G (v := 1) (dq jX11_obey 14 rfl) rfl ?_
    refine rz_goto G (tgt := 31) rfl (dq jX11_obey 15 rfl) ?_
    exact rz_zret0 G (by decide) (dq jX11_obey 17 rfl)
theorem c_X11_obey (l : Launch) (x1 : Int32) : Ct l yX11_obey cX11_obey 2 (some .boolean) 2 encI [.ref 56, .int x1] (f_X11_obey x1) := by
  refine ct_of (own := RX11) (by decide) rfl (Nat.le_of_ble_eq_true rfl) (fun Γ hl G => ?_)
  show Rz Γ 2 (Qm Γ encI 0 0) 0 0 0 [(0, .ref 56), (1, .int x1)] [] _
  unfold f_X11_obey
  refine rz_aload_n G 0 rfl rfl (dq jX11_obey 0 rfl) ?_
  refine rz_iconst G (v := 0) (dq jX11_obey 1 rfl) rfl ?_
  refine rz_putI G flX11_148 sh56 rfl (dq jX11_obey 2 rfl) ?_
  refine rz_iload_n G 1 rfl rfl (dq jX11_obey 3 rfl) ?_
  refine rz_iconst G (v := (-1)) (dq jX11_obey 4 rfl) rfl ?_
  refine rz_icmp_lt G (tgt := 18) rfl (dq jX11_obey 5 rfl) (fun c1 => ?_) (fun c1 => ?_)
  · exact rz_lv [0] rfl (z_X11_obey_b18 G)
  · refine rz_iload_n G 1 rfl rfl (dq jX11_obey 6 rfl) ?_
    refine rz_aload_n G 0 rfl rfl (dq jX11_obey 7 rfl) ?_
    refine rz_getI G flX11_326 sh56 rfl (dq jX11_obey 8 rfl) (fun v2 => ?_)
    refine rz_icmp_lt G (tgt := 32) rfl (dq jX11_obey 9 rfl) (fun c3 => ?_) (fun c3 => ?_)
    · refine rz_aload_n G 0 rfl rfl (dq jX11_obey 18 rfl) ?_
      refine rz_bipush G (v := 24) (dq jX11_obey 19 rfl) (by decide) ?_
      refine rz_aload_n G 0 rfl rfl (dq jX11_obey 20 rfl) ?_
      refine rz_getI G flX11_69 sh56 rfl (dq jX11_obey 21 rfl) (fun v4 => ?_)
      refine rz_callVv G (st := []) (c_X11_keeps (cLn Γ) 24 v4) lkX11_360 sh56 rfl rfl rfl (Nat.le_of_ble_eq_true rfl) (Nat.le_of_ble_eq_true rfl) (dq jX11_obey 22 rfl) rfl (fun _ => ?_)
      refine rz_aload_n G 0 rfl rfl (dq jX11_obey 23 rfl) ?_
      refine rz_iload_n G 1 rfl rfl (dq jX11_obey 24 rfl) ?_
      refine rz_putI G flX11_69 sh56 rfl (dq jX11_obey 25 rfl) ?_
      refine rz_iconst G (v := 1) (dq jX11_obey 26 rfl) rfl ?_
      exact rz_zret0 G (by decide) (dq jX11_obey 27 rfl)
    · exact rz_lv [0] rfl (z_X11_obey_b18 G)
theorem c_X11_last (l : Launch) (x1 : Int32) : Ct l yX11_last cX11_last 2 (some .boolean) 2 encI [.ref 56, .int x1] (f_X11_last x1) := by
  refine ct_of (own := RX11) (by decide) rfl (Nat.le_of_ble_eq_true rfl) (fun Γ hl G => ?_)
  show Rz Γ 2 (Qm Γ encI 0 0) 0 0 0 [(0, .ref 56), (1, .int x1)] [] _
  unfold f_X11_last
  refine rz_aload_n G 0 rfl rfl (dq jX11_last 0 rfl) ?_
  refine rz_iconst G (v := 0) (dq jX11_last 1 rfl) rfl ?_
  refine rz_putI G flX11_148 sh56 rfl (dq jX11_last 2 rfl) ?_
  refine rz_iload_n G 1 rfl rfl (dq jX11_last 3 rfl) ?_
  refine rz_iconst G (v := 1) (dq jX11_last 4 rfl) rfl ?_
  refine rz_sipush G (v := 600) (dq jX11_last 5 rfl) (by decide) ?_
  refine rz_callSi G (st := []) (c_X11_within (cLn Γ) x1 1 600) lkX11_346 rfl (Nat.le_of_ble_eq_true rfl) (Nat.le_of_ble_eq_true rfl) (dq jX11_last 6 rfl) rfl (fun r1 => ?_)
  refine rz_if_ne G (tgt := 30) rfl (dq jX11_last 7 rfl) (fun c2 => ?_) (fun c2 => ?_)
  · refine rz_aload_n G 0 rfl rfl (dq jX11_last 8 rfl) ?_
    refine rz_iconst G (v := 1) (dq jX11_last 9 rfl) rfl ?_
    refine rz_callVi G (st := []) (c_X11_refuses (cLn Γ) 1) lkX11_357 sh56 rfl rfl rfl (Nat.le_of_ble_eq_true rfl) (Nat.le_of_ble_eq_true rfl) (dq jX11_last 10 rfl) rfl (fun r3 => ?_)
    refine rz_if_le G (tgt := 28) rfl (dq jX11_last 11 rfl) (fun c4 => ?_) (fun c4 => ?_)
    · refine rz_iconst G (v := 0) (dq jX11_last 14 rfl) rfl ?_
      exact rz_zret0 G (by decide) (dq jX11_last 15 rfl)
    · refine rz_iconst G (v := 1) (dq jX11_last 12 rfl) rfl ?_
      refine rz_goto G (tgt := 29) rfl (dq jX11_last 13 rfl) ?_
      exact rz_zret0 G (by decide) (dq jX11_last 15 rfl)
  · refine rz_aload_n G 0 rfl rfl (dq jX11_last 16 rfl) ?_
    refine rz_bipush G (v := 25) (dq jX11_last 17 rfl) (by decide) ?_
    refine rz_aload_n G 0 rfl rfl (dq jX11_last 18 rfl) ?_
    refine rz_getI G flX11_72 sh56 rfl (dq jX11_last 19 rfl) (fun v5 => ?_)
    refine rz_callVv G (st := []) (c_X11_keeps (cLn Γ) 25 v5) lkX11_360 sh56 rfl rfl rfl (Nat.le_of_ble_eq_true rfl) (Nat.le_of_ble_eq_true rfl) (dq jX11_last 20 rfl) rfl (fun _ => ?_)
    refine rz_aload_n G 0 rfl rfl (dq jX11_last 21 rfl) ?_
    refine rz_iload_n G 1 rfl rfl (dq jX11_last 22 rfl) ?_
    refine rz_putI G flX11_72 sh56 rfl (dq jX11_last 23 rfl) ?_
    refine rz_iconst G (v := 1) (dq jX11_last 24 rfl) rfl ?_
    exact rz_zret0 G (by decide) (dq jX11_last 25 rfl)
theorem c_X11_undo (l : Launch)  : Ct l yX11_undo cX11_undo 3 (some .int) 1 encI [.ref 56] (f_X11_undo ) := by
  refine ct_of (own := RX11) (by decide) rfl (Nat.le_of_ble_eq_true rfl) (fun Γ hl G => ?_)
  show Rz Γ 3 (Qm Γ encI 0 0) 0 0 0 [(0, .ref 56)] [] _
  unfold f_X11_undo
  refine rz_aload_n G 0 rfl rfl (dq jX11_undo 0 rfl) ?_
  refine rz_iconst G (v := 0) (dq jX11_undo 1 rfl) rfl ?_
  refine rz_putI G flX11_148 sh56 rfl (dq jX11_undo 2 rfl) ?_
  refine rz_aload_n G 0 rfl rfl (dq jX11_undo 3 rfl) ?_
  refine rz_getI G flX11_336 sh56 rfl (dq jX11_undo 4 rfl) (fun v1 => ?_)
  refine rz_if_ne G (tgt := 14) rfl (dq jX11_undo 5 rfl) (fun c2 => ?_) (fun c2 => ?_)
  · refine rz_iconst G (v := (-1)) (dq jX11_undo 6 rfl) rfl ?_
    exact rz_iret G (dq jX11_undo 7 rfl)
  · refine rz_aload_n G 0 rfl rfl (dq jX11_undo 8 rfl) ?_
    refine rz_dup G rfl (dq jX11_undo 9 rfl) ?_
    refine rz_getI G flX11_336 sh56 rfl (dq jX11_undo 10 rfl) (fun v3 => ?_)
    refine rz_iconst G (v := 1) (dq jX11_undo 11 rfl) rfl ?_
    refine rz_isub G (dq jX11_undo 12 rfl) ?_
    refine rz_putI G flX11_336 sh56 rfl (dq jX11_undo 13 rfl) ?_
    refine rz_aload_n G 0 rfl rfl (dq jX11_undo 14 rfl) ?_
    refine rz_getC G flX11_75 sh56 (t := 71) rfl rfl (dq jX11_undo 15 rfl) ?_
    refine rz_iconst G (v := 2) (dq jX11_undo 16 rfl) rfl ?_
    refine rz_aload_n G 0 rfl rfl (dq jX11_undo 17 rfl) ?_
    refine rz_getI G flX11_336 sh56 rfl (dq jX11_undo 18 rfl) (fun v4 => ?_)
    refine rz_imul G (dq jX11_undo 19 rfl) ?_
    refine rz_iald G sh71 (dq jX11_undo 20 rfl) (fun v5 => ?_)
    refine rz_istore_n G (lv' := [(1, .int v5), (0, .ref 56)]) rfl (Nat.le_of_ble_eq_true rfl) rfl (dq jX11_undo 21 rfl) ?_
    refine rz_aload_n G 1 rfl rfl (dq jX11_undo 22 rfl) ?_
    refine rz_getC G flX11_75 sh56 (t := 71) rfl rfl (dq jX11_undo 23 rfl) ?_
    refine rz_iconst G (v := 2) (dq jX11_undo 24 rfl) rfl ?_
    refine rz_aload_n G 1 rfl rfl (dq jX11_undo 25 rfl) ?_
    refine rz_getI G flX11_336 sh56 rfl (dq jX11_undo 26 rfl) (fun v6 => ?_)
    refine rz_imul G (dq jX11_undo 27 rfl) ?_
    refine rz_iconst G (v := 1) (dq jX11_undo 28 rfl) rfl ?_
    refine rz_iadd G (dq jX11_undo 29 rfl) ?_
    refine rz_iald G sh71 (dq jX11_undo 30 rfl) (fun v7 => ?_)
    refine rz_istore_n G (lv' := [(2, .int v7), (1, .int v5), (0, .ref 56)]) rfl (Nat.le_of_ble_eq_true rfl) rfl (dq jX11_undo 31 rfl) ?_
    refine rz_iload_n G 1 rfl rfl (dq jX11_undo 32 rfl) ?_
    refine rz_bipush G (v := 24) (dq jX11_undo 33 rfl) (by decide) ?_
    refine rz_icmp_ne G (tgt := 64) rfl (dq jX11_undo 34 rfl) (fun c8 => ?_) (fun c8 => ?_)
    · refine rz_aload_n G 2 rfl rfl (dq jX11_undo 35 rfl) ?_
      refine rz_iload_n G 0 rfl rfl (dq jX11_undo 36 rfl) ?_
      refine rz_putI G flX11_69 sh56 rfl (dq jX11_undo 37 rfl) ?_
      refine rz_goto G (tgt := 85) rfl (dq jX11_undo 38 rfl) ?_
      refine rz_aload_n G 2 rfl rfl (dq jX11_undo 51 rfl) ?_
      refine rz_getI G flX11_336 sh56 rfl (dq jX11_undo 52 rfl) (fun v9 => ?_)
      exact rz_iret G (dq jX11_undo 53 rfl)
    · refine rz_iload_n G 1 rfl rfl (dq jX11_undo 39 rfl) ?_
      refine rz_bipush G (v := 25) (dq jX11_undo 40 rfl) (by decide) ?_
      refine rz_icmp_ne G (tgt := 78) rfl (dq jX11_undo 41 rfl) (fun c10 => ?_) (fun c10 => ?_)
      · refine rz_aload_n G 2 rfl rfl (dq jX11_undo 42 rfl) ?_
        refine rz_iload_n G 0 rfl rfl (dq jX11_undo 43 rfl) ?_
        refine rz_putI G flX11_72 sh56 rfl (dq jX11_undo 44 rfl) ?_
        refine rz_goto G (tgt := 85) rfl (dq jX11_undo 45 rfl) ?_
        refine rz_aload_n G 2 rfl rfl (dq jX11_undo 51 rfl) ?_
        refine rz_getI G flX11_336 sh56 rfl (dq jX11_undo 52 rfl) (fun v11 => ?_)
        exact rz_iret G (dq jX11_undo 53 rfl)
      · refine rz_aload_n G 2 rfl rfl (dq jX11_undo 46 rfl) ?_
        refine rz_getC G flX11_26 sh56 (t := 58) rfl rfl (dq jX11_undo 47 rfl) ?_
        refine rz_iload_n G 1 rfl rfl (dq jX11_undo 48 rfl) ?_
        refine rz_iload_n G 0 rfl rfl (dq jX11_undo 49 rfl) ?_
        refine rz_iast G sh58 (dq jX11_undo 50 rfl) ?_
        refine rz_aload_n G 2 rfl rfl (dq jX11_undo 51 rfl) ?_
        refine rz_getI G flX11_336 sh56 rfl (dq jX11_undo 52 rfl) (fun v12 => ?_)
        exact rz_iret G (dq jX11_undo 53 rfl)
theorem z_X11_works_b66 {Γ : Cx} (G : GG Γ RX11 cX11_works 3 (some .int) 1 0 0)  : Rz Γ 3 (Qm Γ encI 0 0) 0 0 66 [] [] (f_X11_works_b66 ) := by
  unfold f_X11_works_b66
  refine rz_iconst G (v := 1) (dq jX11_works_s1 12 rfl) rfl ?_
  refine rz_goto G (tgt := 71) rfl (dq jX11_works_s1 13 rfl) ?_
  exact rz_iret G (dq jX11_works_s1 15 rfl)
theorem c_X11_works (l : Launch) (x0 : Int32) (x1 : Int32) (x2 : Int32) : Ct l yX11_works cX11_works 3 (some .int) 1 encI [.int x0, .int x1, .int x2] (f_X11_works x0 x1 x2) := by
  refine ct_of (own := RX11) (by decide) rfl (Nat.le_of_ble_eq_true rfl) (fun Γ hl G => ?_)
  show Rz Γ 3 (Qm Γ encI 0 0) 0 0 0 [(0, .int x0), (1, .int x1), (2, .int x2)] [] _
  unfold f_X11_works
  refine rz_iload_n G 0 rfl rfl (dq jX11_works 0 rfl) ?_
  refine rz_br (fun c1 => ?_) (fun c1 => ?_)
  · refine rz_tableIn G 0 (tgt := 44) swX11_works_1 (by rw [c1]; rfl) (by decide) rfl rfl ?_
    refine rz_iload_n G 1 rfl rfl (dq jX11_works_s1 0 rfl) ?_
    refine rz_if_eq G (tgt := 56) rfl (dq jX11_works_s1 1 rfl) (fun c2 => ?_) (fun c2 => ?_)
    · refine rz_iconst G (v := 0) (dq jX11_works_s1 6 rfl) rfl ?_
      exact rz_iret G (dq jX11_works_s1 7 rfl)
    · refine rz_iload_n G 2 rfl rfl (dq jX11_works_s1 2 rfl) ?_
      refine rz_if_eq G (tgt := 56) rfl (dq jX11_works_s1 3 rfl) (fun c3 => ?_) (fun c3 => ?_)
      · refine rz_iconst G (v := 0) (dq jX11_works_s1 6 rfl) rfl ?_
        exact rz_iret G (dq jX11_works_s1 7 rfl)
      · refine rz_iconst G (v := 1) (dq jX11_works_s1 4 rfl) rfl ?_
        refine rz_goto G (tgt := 57) rfl (dq jX11_works_s1 5 rfl) ?_
        exact rz_iret G (dq jX11_works_s1 7 rfl)
  · refine rz_br (fun c4 => ?_) (fun c4 => ?_)
    · refine rz_tableIn G 1 (tgt := 58) swX11_works_1 (by rw [c4]; rfl) (by decide) rfl rfl ?_
      refine rz_iload_n G 1 rfl rfl (dq jX11_works_s1 8 rfl) ?_
      refine rz_if_ne G (tgt := 66) rfl (dq jX11_works_s1 9 rfl) (fun c5 => ?_) (fun c5 => ?_)
      · refine rz_iload_n G 2 rfl rfl (dq jX11_works_s1 10 rfl) ?_
        refine rz_if_eq G (tgt := 70) rfl (dq jX11_works_s1 11 rfl) (fun c6 => ?_) (fun c6 => ?_)
        · refine rz_iconst G (v := 0) (dq jX11_works_s1 14 rfl) rfl ?_
          exact rz_iret G (dq jX11_works_s1 15 rfl)
        · exact rz_lv [] rfl (z_X11_works_b66 G)
      · exact rz_lv [] rfl (z_X11_works_b66 G)
    · refine rz_br (fun c7 => ?_) (fun c7 => ?_)
      · refine rz_tableIn G 2 (tgt := 72) swX11_works_1 (by rw [c7]; rfl) (by decide) rfl rfl ?_
        refine rz_iload_n G 1 rfl rfl (dq jX11_works_s1 16 rfl) ?_
        refine rz_iload_n G 2 rfl rfl (dq jX11_works_s1 17 rfl) ?_
        refine rz_icmp_ge G (tgt := 81) rfl (dq jX11_works_s1 18 rfl) (fun c8 => ?_) (fun c8 => ?_)
        · refine rz_iconst G (v := 0) (dq jX11_works_s1 21 rfl) rfl ?_
          exact rz_iret G (dq jX11_works_s1 22 rfl)
        · refine rz_iconst G (v := 1) (dq jX11_works_s1 19 rfl) rfl ?_
          refine rz_goto G (tgt := 82) rfl (dq jX11_works_s1 20 rfl) ?_
          exact rz_iret G (dq jX11_works_s1 22 rfl)
      · refine rz_br (fun c9 => ?_) (fun c9 => ?_)
        · refine rz_tableIn G 3 (tgt := 83) swX11_works_1 (by rw [c9]; rfl) (by decide) rfl rfl ?_
          refine rz_iload_n G 1 rfl rfl (dq jX11_works_s1 23 rfl) ?_
          refine rz_iload_n G 2 rfl rfl (dq jX11_works_s1 24 rfl) ?_
          refine rz_icmp_ne G (tgt := 92) rfl (dq jX11_works_s1 25 rfl) (fun c10 => ?_) (fun c10 => ?_)
          · refine rz_iconst G (v := 1) (dq jX11_works_s1 26 rfl) rfl ?_
            refine rz_goto G (tgt := 93) rfl (dq jX11_works_s1 27 rfl) ?_
            exact rz_iret G (dq jX11_works_s1 29 rfl)
          · refine rz_iconst G (v := 0) (dq jX11_works_s1 28 rfl) rfl ?_
            exact rz_iret G (dq jX11_works_s1 29 rfl)
        · refine rz_br (fun c11 => ?_) (fun c11 => ?_)
          · refine rz_tableIn G 4 (tgt := 94) swX11_works_1 (by rw [c11]; rfl) (by decide) rfl rfl ?_
            refine rz_iload_n G 1 rfl rfl (dq jX11_works_s1 30 rfl) ?_
            refine rz_iload_n G 2 rfl rfl (dq jX11_works_s1 31 rfl) ?_
            refine rz_iadd G (dq jX11_works_s1 32 rfl) ?_
            exact rz_iret G (dq jX11_works_s1 33 rfl)
          · refine rz_br (fun c12 => ?_) (fun c12 => ?_)
            · refine rz_tableIn G 5 (tgt := 98) swX11_works_1 (by rw [c12]; rfl) (by decide) rfl rfl ?_
              refine rz_iload_n G 1 rfl rfl (dq jX11_works_s1 34 rfl) ?_
              refine rz_iload_n G 2 rfl rfl (dq jX11_works_s1 35 rfl) ?_
              refine rz_isub G (dq jX11_works_s1 36 rfl) ?_
              exact rz_iret G (dq jX11_works_s1 37 rfl)
            · refine rz_br (fun c13 => ?_) (fun c13 => ?_)
              · refine rz_tableIn G 6 (tgt := 102) swX11_works_1 (by rw [c13]; rfl) (by decide) rfl rfl ?_
                refine rz_iload_n G 1 rfl rfl (dq jX11_works_s1 38 rfl) ?_
                refine rz_iload_n G 2 rfl rfl (dq jX11_works_s1 39 rfl) ?_
                refine rz_imul G (dq jX11_works_s1 40 rfl) ?_
                exact rz_iret G (dq jX11_works_s1 41 rfl)
              · have n_c1 := ne_toInt (z := 4) (by decide) c1; have n_c4 := ne_toInt (z := 5) (by decide) c4; have n_c7 := ne_toInt (z := 6) (by decide) c7; have n_c9 := ne_toInt (z := 7) (by decide) c9; have n_c11 := ne_toInt (z := 8) (by decide) c11; have n_c12 := ne_toInt (z := 9) (by decide) c12; have n_c13 := ne_toInt (z := 10) (by decide) c13
                refine rz_tableOut G (tgt := 106) swX11_works_1 (by omega) rfl ?_
                refine rz_iload_n G 2 rfl rfl (dq jX11_works_s1 42 rfl) ?_
                refine rz_if_ne G (tgt := 114) rfl (dq jX11_works_s1 43 rfl) (fun c14 => ?_) (fun c14 => ?_)
                · refine rz_iconst G (v := 0) (dq jX11_works_s1 44 rfl) rfl ?_
                  refine rz_goto G (tgt := 117) rfl (dq jX11_works_s1 45 rfl) ?_
                  exact rz_iret G (dq jX11_works_s1 49 rfl)
                · refine rz_iload_n G 1 rfl rfl (dq jX11_works_s1 46 rfl) ?_
                  refine rz_iload_n G 2 rfl rfl (dq jX11_works_s1 47 rfl) ?_
                  refine rz_idiv G (dq jX11_works_s1 48 rfl) ?_
                  exact rz_iret G (dq jX11_works_s1 49 rfl)
theorem z_X11_valueOf_b118 {Γ : Cx} (G : GG Γ RX11 cX11_valueOf 7 (some .int) 2 0 0) (k50 : Int32 → Int32 → Int32 → Int32 → Sg → Option (Int32 × Sg)) (hk50 : ∀ (x1 : Int32) (x2 : Int32) (x5 : Int32) (x6 : Int32), Rz Γ 7 (Qm Γ encI 0 0) 0 0 50 [(0, .ref 56), (1, .int x1), (2, .int x2), (5, .int x5), (6, .int x6)] [] (k50 x1 x2 x5 x6)) (x1 : Int32) (x2 : Int32) (x5 : Int32) (x6 : Int32) : Rz Γ 7 (Qm Γ encI 0 0) 0 0 118 [(0, .ref 56), (1, .int x1), (2, .int x2), (5, .int x5), (6, .int x6)] [] (f_X11_valueOf_b118 k50 x1 x2 x5 x6) := by
  unfold f_X11_valueOf_b118
  refine rz_iinc G 4 (v := x6 + 1) (lv' := [(6, .int (x6 + 1)), (0, .ref 56), (1, .int x1), (2, .int x2), (5, .int x5)]) rfl (congrArg (HAdd.hAdd _) (by decide)) (Nat.le_of_ble_eq_true rfl) rfl (dq jX11_valueOf 68 rfl) ?_
  refine rz_goto G (tgt := 50) rfl (dq jX11_valueOf 69 rfl) ?_
  exact rz_lv [1, 2, 3, 4, 0] rfl (hk50 x1 x2 x5 (x6 + 1))
theorem z_X11_valueOf_b115 {Γ : Cx} (G : GG Γ RX11 cX11_valueOf 7 (some .int) 2 0 0) (k50 : Int32 → Int32 → Int32 → Int32 → Sg → Option (Int32 × Sg)) (hk50 : ∀ (x1 : Int32) (x2 : Int32) (x5 : Int32) (x6 : Int32), Rz Γ 7 (Qm Γ encI 0 0) 0 0 50 [(0, .ref 56), (1, .int x1), (2, .int x2), (5, .int x5), (6, .int x6)] [] (k50 x1 x2 x5 x6)) (x1 : Int32) (x2 : Int32) (x6 : Int32) (xs0 : Int32) (xs1 : Int32) : Rz Γ 7 (Qm Γ encI 0 0) 0 0 115 [(0, .ref 56), (1, .int x1), (2, .int x2), (6, .int x6)] [.int xs0, .int xs1] (f_X11_valueOf_b115 k50 x1 x2 x6 xs0 xs1) := by
  unfold f_X11_valueOf_b115
  refine rz_iadd G (dq jX11_valueOf 66 rfl) ?_
  refine rz_istore G (lv' := [(5, .int (xs1 + xs0)), (0, .ref 56), (1, .int x1), (2, .int x2), (6, .int x6)]) (Nat.le_of_ble_eq_true rfl) rfl (dq jX11_valueOf 67 rfl) ?_
  exact rz_lv [1, 2, 3, 0, 4] rfl (z_X11_valueOf_b118 G k50 hk50 x1 x2 (xs1 + xs0) x6)
theorem z_X11_valueOf_b110 {Γ : Cx} (G : GG Γ RX11 cX11_valueOf 7 (some .int) 2 0 0) (k50 : Int32 → Int32 → Int32 → Int32 → Sg → Option (Int32 × Sg)) (hk50 : ∀ (x1 : Int32) (x2 : Int32) (x5 : Int32) (x6 : Int32), Rz Γ 7 (Qm Γ encI 0 0) 0 0 50 [(0, .ref 56), (1, .int x1), (2, .int x2), (5, .int x5), (6, .int x6)] [] (k50 x1 x2 x5 x6)) (x1 : Int32) (x2 : Int32) (x6 : Int32) (xs0 : Int32) : Rz Γ 7 (Qm Γ encI 0 0) 0 0 110 [(0, .ref 56), (1, .int x1), (2, .int x2), (6, .int x6)] [.int xs0] (f_X11_valueOf_b110 k50 x1 x2 x6 xs0) := by
  unfold f_X11_valueOf_b110
  refine rz_iconst G (v := 1) (dq jX11_valueOf 63 rfl) rfl ?_
  refine rz_goto G (tgt := 115) rfl (dq jX11_valueOf 64 rfl) ?_
  exact rz_lv [0, 1, 2, 3] rfl (z_X11_valueOf_b115 G k50 hk50 x1 x2 x6 1 xs0)
theorem z_X11_valueOf_b82 {Γ : Cx} (G : GG Γ RX11 cX11_valueOf 7 (some .int) 2 0 0) (k50 : Int32 → Int32 → Int32 → Int32 → Sg → Option (Int32 × Sg)) (hk50 : ∀ (x1 : Int32) (x2 : Int32) (x5 : Int32) (x6 : Int32), Rz Γ 7 (Qm Γ encI 0 0) 0 0 50 [(0, .ref 56), (1, .int x1), (2, .int x2), (5, .int x5), (6, .int x6)] [] (k50 x1 x2 x5 x6)) (x1 : Int32) (x2 : Int32) (x5 : Int32) (x6 : Int32) (xs0 : Int32) (xs1 : Int32) : Rz Γ 7 (Qm Γ encI 0 0) 0 0 82 [(0, .ref 56), (1, .int x1), (2, .int x2), (5, .int x5), (6, .int x6)] [.int xs0, .int xs1] (f_X11_valueOf_b82 k50 x1 x2 x5 x6 xs0 xs1) := by
  unfold f_X11_valueOf_b82
  refine rz_icmp_eq G (tgt := 88) rfl (dq jX11_valueOf 50 rfl) (fun c1 => ?_) (fun c1 => ?_)
  · refine rz_iload G 3 rfl (dq jX11_valueOf 52 rfl) ?_
    refine rz_iload_n G 1 rfl rfl (dq jX11_valueOf 53 rfl) ?_
    refine rz_bipush G (v := 7) (dq jX11_valueOf 54 rfl) (by decide) ?_
    refine rz_icmp_ne G (tgt := 110) rfl (dq jX11_valueOf 55 rfl) (fun c2 => ?_) (fun c2 => ?_)
    · refine rz_aload_n G 0 rfl rfl (dq jX11_valueOf 56 rfl) ?_
      refine rz_iload G 4 rfl (dq jX11_valueOf 57 rfl) ?_
      refine rz_callVi G (st := [.int x5]) (c_X11_weight (cLn Γ) x6) lkX11_364 sh56 rfl rfl rfl (Nat.le_of_ble_eq_true rfl) (Nat.le_of_ble_eq_true rfl) (dq jX11_valueOf 58 rfl) rfl (fun r3 => ?_)
      refine rz_aload_n G 0 rfl rfl (dq jX11_valueOf 59 rfl) ?_
      refine rz_iload_n G 2 rfl rfl (dq jX11_valueOf 60 rfl) ?_
      refine rz_callVi G (st := [.int r3, .int x5]) (c_X11_weight (cLn Γ) x2) lkX11_364 sh56 rfl rfl rfl (Nat.le_of_ble_eq_true rfl) (Nat.le_of_ble_eq_true rfl) (dq jX11_valueOf 61 rfl) rfl (fun r4 => ?_)
      refine rz_icmp_le G (tgt := 114) rfl (dq jX11_valueOf 62 rfl) (fun c5 => ?_) (fun c5 => ?_)
      · refine rz_iconst G (v := 0) (dq jX11_valueOf 65 rfl) rfl ?_
        exact rz_lv [0, 1, 2, 4] rfl (z_X11_valueOf_b115 G k50 hk50 x1 x2 x6 0 x5)
      · exact rz_lv [0, 1, 2, 4] rfl (z_X11_valueOf_b110 G k50 hk50 x1 x2 x6 x5)
    · exact rz_lv [0, 1, 2, 4] rfl (z_X11_valueOf_b110 G k50 hk50 x1 x2 x6 x5)
  · refine rz_goto G (tgt := 118) rfl (dq jX11_valueOf 51 rfl) ?_
    exact rz_lv [0, 1, 2, 3, 4] rfl (z_X11_valueOf_b118 G k50 hk50 x1 x2 x5 x6)
theorem z_X11_valueOf_b50 {Γ : Cx} (G : GG Γ RX11 cX11_valueOf 7 (some .int) 2 0 0) : ∀ (fu : Nat) (x1 : Int32) (x2 : Int32) (x5 : Int32) (x6 : Int32), Rz Γ 7 (Qm Γ encI 0 0) 0 0 50 [(0, .ref 56), (1, .int x1), (2, .int x2), (5, .int x5), (6, .int x6)] [] (f_X11_valueOf_b50 fu x1 x2 x5 x6) := by
  intro fu
  induction fu with
  | zero => intro _ _ _ _; exact rz_none
  | succ fu ih =>
    intro x1 x2 x5 x6
    rw [f_X11_valueOf_b50]
    refine rz_iload G 4 rfl (dq jX11_valueOf 33 rfl) ?_
    refine rz_aload_n G 0 rfl rfl (dq jX11_valueOf 34 rfl) ?_
    refine rz_getI G flX11_323 sh56 rfl (dq jX11_valueOf 35 rfl) (fun v1 => ?_)
    refine rz_icmp_ge G (tgt := 124) rfl (dq jX11_valueOf 36 rfl) (fun c2 => ?_) (fun c2 => ?_)
    · refine rz_iload G 3 rfl (dq jX11_valueOf 70 rfl) ?_
      exact rz_iret G (dq jX11_valueOf 71 rfl)
    · refine rz_iload G 4 rfl (dq jX11_valueOf 37 rfl) ?_
      refine rz_iload_n G 2 rfl rfl (dq jX11_valueOf 38 rfl) ?_
      refine rz_icmp_eq G (tgt := 118) rfl (dq jX11_valueOf 39 rfl) (fun c3 => ?_) (fun c3 => ?_)
      · exact rz_lv [0, 1, 2, 3, 4] rfl (z_X11_valueOf_b118 G (f_X11_valueOf_b50 fu) ih x1 x2 x5 x6)
      · refine rz_aload_n G 0 rfl rfl (dq jX11_valueOf 40 rfl) ?_
        refine rz_getC G flX11_81 sh56 (t := 73) rfl rfl (dq jX11_valueOf 41 rfl) ?_
        refine rz_iload G 4 rfl (dq jX11_valueOf 42 rfl) ?_
        refine rz_iald G sh73 (dq jX11_valueOf 43 rfl) (fun v4 => ?_)
        refine rz_iload_n G 1 rfl rfl (dq jX11_valueOf 44 rfl) ?_
        refine rz_iconst G (v := 5) (dq jX11_valueOf 45 rfl) rfl ?_
        refine rz_icmp_ne G (tgt := 81) rfl (dq jX11_valueOf 46 rfl) (fun c5 => ?_) (fun c5 => ?_)
        · refine rz_iconst G (v := 1) (dq jX11_valueOf 47 rfl) rfl ?_
          refine rz_goto G (tgt := 82) rfl (dq jX11_valueOf 48 rfl) ?_
          exact rz_lv [0, 1, 2, 3, 4] rfl (z_X11_valueOf_b82 G (f_X11_valueOf_b50 fu) ih x1 x2 x5 x6 1 v4)
        · refine rz_iconst G (v := 2) (dq jX11_valueOf 49 rfl) rfl ?_
          exact rz_lv [0, 1, 2, 3, 4] rfl (z_X11_valueOf_b82 G (f_X11_valueOf_b50 fu) ih x1 x2 x5 x6 2 v4)
theorem c_X11_valueOf (l : Launch) (x1 : Int32) (x2 : Int32) (x3 : Int32) (x4 : Int32) : Ct l yX11_valueOf cX11_valueOf 7 (some .int) 2 encI [.ref 56, .int x1, .int x2, .int x3, .int x4] (f_X11_valueOf x1 x2 x3 x4) := by
  refine ct_of (own := RX11) (by decide) rfl (Nat.le_of_ble_eq_true rfl) (fun Γ hl G => ?_)
  show Rz Γ 7 (Qm Γ encI 0 0) 0 0 0 [(0, .ref 56), (1, .int x1), (2, .int x2), (3, .int x3), (4, .int x4)] [] _
  unfold f_X11_valueOf
  refine rz_iload_n G 1 rfl rfl (dq jX11_valueOf 0 rfl) ?_
  refine rz_if_ne G (tgt := 6) rfl (dq jX11_valueOf 1 rfl) (fun c1 => ?_) (fun c1 => ?_)
  · refine rz_iload_n G 2 rfl rfl (dq jX11_valueOf 2 rfl) ?_
    exact rz_iret G (dq jX11_valueOf 3 rfl)
  · refine rz_iload_n G 1 rfl rfl (dq jX11_valueOf 4 rfl) ?_
    refine rz_iconst G (v := 1) (dq jX11_valueOf 5 rfl) rfl ?_
    refine rz_icmp_ne G (tgt := 17) rfl (dq jX11_valueOf 6 rfl) (fun c2 => ?_) (fun c2 => ?_)
    · refine rz_aload_n G 0 rfl rfl (dq jX11_valueOf 7 rfl) ?_
      refine rz_iload_n G 2 rfl rfl (dq jX11_valueOf 8 rfl) ?_
      refine rz_callVi G (st := []) (c_X11_weight (cLn Γ) x2) lkX11_364 sh56 rfl rfl rfl (Nat.le_of_ble_eq_true rfl) (Nat.le_of_ble_eq_true rfl) (dq jX11_valueOf 9 rfl) rfl (fun r3 => ?_)
      exact rz_iret G (dq jX11_valueOf 10 rfl)
    · refine rz_iload_n G 1 rfl rfl (dq jX11_valueOf 11 rfl) ?_
      refine rz_iconst G (v := 2) (dq jX11_valueOf 12 rfl) rfl ?_
      refine rz_icmp_ne G (tgt := 24) rfl (dq jX11_valueOf 13 rfl) (fun c4 => ?_) (fun c4 => ?_)
      · refine rz_iload_n G 3 rfl rfl (dq jX11_valueOf 14 rfl) ?_
        exact rz_iret G (dq jX11_valueOf 15 rfl)
      · refine rz_iload_n G 1 rfl rfl (dq jX11_valueOf 16 rfl) ?_
        refine rz_iconst G (v := 3) (dq jX11_valueOf 17 rfl) rfl ?_
        refine rz_icmp_ne G (tgt := 36) rfl (dq jX11_valueOf 18 rfl) (fun c5 => ?_) (fun c5 => ?_)
        · refine rz_aload_n G 0 rfl rfl (dq jX11_valueOf 19 rfl) ?_
          refine rz_getC G flX11_84 sh56 (t := 74) rfl rfl (dq jX11_valueOf 20 rfl) ?_
          refine rz_iload_n G 2 rfl rfl (dq jX11_valueOf 21 rfl) ?_
          refine rz_iald G sh74 (dq jX11_valueOf 22 rfl) (fun v6 => ?_)
          exact rz_iret G (dq jX11_valueOf 23 rfl)
        · refine rz_iload_n G 1 rfl rfl (dq jX11_valueOf 24 rfl) ?_
          refine rz_iconst G (v := 4) (dq jX11_valueOf 25 rfl) rfl ?_
          refine rz_icmp_ne G (tgt := 44) rfl (dq jX11_valueOf 26 rfl) (fun c7 => ?_) (fun c7 => ?_)
          · refine rz_iload G 4 rfl (dq jX11_valueOf 27 rfl) ?_
            exact rz_iret G (dq jX11_valueOf 28 rfl)
          · refine rz_iconst G (v := 0) (dq jX11_valueOf 29 rfl) rfl ?_
            refine rz_istore G (lv' := [(5, .int 0), (0, .ref 56), (1, .int x1), (2, .int x2), (3, .int x3), (4, .int x4)]) (Nat.le_of_ble_eq_true rfl) rfl (dq jX11_valueOf 30 rfl) ?_
            refine rz_iconst G (v := 0) (dq jX11_valueOf 31 rfl) rfl ?_
            refine rz_istore G (lv' := [(6, .int 0), (5, .int 0), (0, .ref 56), (1, .int x1), (2, .int x2), (3, .int x3), (4, .int x4)]) (Nat.le_of_ble_eq_true rfl) rfl (dq jX11_valueOf 32 rfl) ?_
            exact rz_lv [2, 3, 4, 1, 0] rfl (z_X11_valueOf_b50 G FU x1 x2 0 0)
theorem z_X11_mayGo_b94 {Γ : Cx} (G : GG Γ RX11 cX11_mayGo 7 (some .boolean) 3 0 0) (k24 : Int32 → Int32 → Int32 → Int32 → Int32 → Sg → Option (Int32 × Sg)) (hk24 : ∀ (x1 : Int32) (x2 : Int32) (x3 : Int32) (x4 : Int32) (x5 : Int32), Rz Γ 7 (Qm Γ encI 0 0) 0 0 24 [(0, .ref 56), (1, .int x1), (2, .int x2), (3, .int x3), (4, .int x4), (5, .int x5)] [] (k24 x1 x2 x3 x4 x5)) (x1 : Int32) (x2 : Int32) (x3 : Int32) (x4 : Int32) (x5 : Int32) (xs0 : Int32) (xs1 : Int32) : Rz Γ 7 (Qm Γ encI 0 0) 0 0 94 [(0, .ref 56), (1, .int x1), (2, .int x2), (3, .int x3), (4, .int x4), (5, .int x5)] [.int xs0, .int xs1, .ref 72] (f_X11_mayGo_b94 k24 x1 x2 x3 x4 x5 xs0 xs1) := by
  unfold f_X11_mayGo_b94
  refine rz_iast G sh72 (dq jX11_mayGo 51 rfl) ?_
  refine rz_iinc G 5 (v := x5 + 1) (lv' := [(5, .int (x5 + 1)), (0, .ref 56), (1, .int x1), (2, .int x2), (3, .int x3), (4, .int x4)]) rfl (congrArg (HAdd.hAdd _) (by decide)) (Nat.le_of_ble_eq_true rfl) rfl (dq jX11_mayGo 52 rfl) ?_
  refine rz_iinc G 5 (v := x4 + 1) (lv' := [(4, .int (x4 + 1)), (5, .int (x5 + 1)), (0, .ref 56), (1, .int x1), (2, .int x2), (3, .int x3)]) rfl (congrArg (HAdd.hAdd _) (by decide)) (Nat.le_of_ble_eq_true rfl) rfl (dq jX11_mayGo 53 rfl) ?_
  refine rz_goto G (tgt := 172) rfl (dq jX11_mayGo 54 rfl) ?_
  refine rz_goto G (tgt := 24) rfl (dq jX11_mayGo 94 rfl) ?_
  exact rz_lv [2, 3, 4, 5, 0, 1] rfl (hk24 x1 x2 x3 (x4 + 1) (x5 + 1))
theorem z_X11_mayGo_b58 {Γ : Cx} (G : GG Γ RX11 cX11_mayGo 7 (some .boolean) 3 0 0) (k24 : Int32 → Int32 → Int32 → Int32 → Int32 → Sg → Option (Int32 × Sg)) (hk24 : ∀ (x1 : Int32) (x2 : Int32) (x3 : Int32) (x4 : Int32) (x5 : Int32), Rz Γ 7 (Qm Γ encI 0 0) 0 0 24 [(0, .ref 56), (1, .int x1), (2, .int x2), (3, .int x3), (4, .int x4), (5, .int x5)] [] (k24 x1 x2 x3 x4 x5)) (x1 : Int32) (x2 : Int32) (x3 : Int32) (x4 : Int32) (x5 : Int32) (x6 : Int32) : Rz Γ 7 (Qm Γ encI 0 0) 0 0 58 [(0, .ref 56), (1, .int x1), (2, .int x2), (3, .int x3), (4, .int x4), (5, .int x5), (6, .int x6)] [] (f_X11_mayGo_b58 k24 x1 x2 x3 x4 x5 x6) := by
  unfold f_X11_mayGo_b58
  refine rz_aload_n G 0 rfl rfl (dq jX11_mayGo 31 rfl) ?_
  refine rz_getC G flX11_78 sh56 (t := 72) rfl rfl (dq jX11_mayGo 32 rfl) ?_
  refine rz_iload G 4 rfl (dq jX11_mayGo 33 rfl) ?_
  refine rz_iload G 6 rfl (dq jX11_mayGo 34 rfl) ?_
  refine rz_iconst G (v := 1) (dq jX11_mayGo 35 rfl) rfl ?_
  refine rz_icmp_ne G (tgt := 80) rfl (dq jX11_mayGo 36 rfl) (fun c1 => ?_) (fun c1 => ?_)
  · refine rz_aload_n G 0 rfl rfl (dq jX11_mayGo 37 rfl) ?_
    refine rz_getC G flX11_35 sh56 (t := 61) rfl rfl (dq jX11_mayGo 38 rfl) ?_
    refine rz_iload G 5 rfl (dq jX11_mayGo 39 rfl) ?_
    refine rz_iald G sh61 (dq jX11_mayGo 40 rfl) (fun v2 => ?_)
    refine rz_goto G (tgt := 94) rfl (dq jX11_mayGo 41 rfl) ?_
    exact rz_lv [0, 1, 2, 3, 4, 5] rfl (z_X11_mayGo_b94 G k24 hk24 x1 x2 x3 x4 x5 v2 x4)
  · refine rz_aload_n G 0 rfl rfl (dq jX11_mayGo 42 rfl) ?_
    refine rz_aload_n G 0 rfl rfl (dq jX11_mayGo 43 rfl) ?_
    refine rz_getC G flX11_35 sh56 (t := 61) rfl rfl (dq jX11_mayGo 44 rfl) ?_
    refine rz_iload G 5 rfl (dq jX11_mayGo 45 rfl) ?_
    refine rz_iald G sh61 (dq jX11_mayGo 46 rfl) (fun v3 => ?_)
    refine rz_iload_n G 1 rfl rfl (dq jX11_mayGo 47 rfl) ?_
    refine rz_iload_n G 2 rfl rfl (dq jX11_mayGo 48 rfl) ?_
    refine rz_iload_n G 3 rfl rfl (dq jX11_mayGo 49 rfl) ?_
    refine rz_callVi G (st := [.int x4, .ref 72]) (c_X11_valueOf (cLn Γ) v3 x1 x2 x3) lkX11_367 sh56 rfl rfl rfl (Nat.le_of_ble_eq_true rfl) (Nat.le_of_ble_eq_true rfl) (dq jX11_mayGo 50 rfl) rfl (fun r4 => ?_)
    exact rz_lv [0, 1, 2, 3, 4, 5] rfl (z_X11_mayGo_b94 G k24 hk24 x1 x2 x3 x4 x5 r4 x4)
theorem z_X11_mayGo_b135 {Γ : Cx} (G : GG Γ RX11 cX11_mayGo 7 (some .boolean) 3 0 0) (k24 : Int32 → Int32 → Int32 → Int32 → Int32 → Sg → Option (Int32 × Sg)) (hk24 : ∀ (x1 : Int32) (x2 : Int32) (x3 : Int32) (x4 : Int32) (x5 : Int32), Rz Γ 7 (Qm Γ encI 0 0) 0 0 24 [(0, .ref 56), (1, .int x1), (2, .int x2), (3, .int x3), (4, .int x4), (5, .int x5)] [] (k24 x1 x2 x3 x4 x5)) (x1 : Int32) (x2 : Int32) (x3 : Int32) (x4 : Int32) (x5 : Int32) (xs0 : Int32) (xs1 : Int32) : Rz Γ 7 (Qm Γ encI 0 0) 0 0 135 [(0, .ref 56), (1, .int x1), (2, .int x2), (3, .int x3), (4, .int x4), (5, .int x5)] [.int xs0, .int xs1, .ref 72] (f_X11_mayGo_b135 k24 x1 x2 x3 x4 x5 xs0 xs1) := by
  unfold f_X11_mayGo_b135
  refine rz_iast G sh72 (dq jX11_mayGo 73 rfl) ?_
  refine rz_goto G (tgt := 172) rfl (dq jX11_mayGo 74 rfl) ?_
  refine rz_goto G (tgt := 24) rfl (dq jX11_mayGo 94 rfl) ?_
  exact rz_lv [0, 1, 2, 3, 4, 5] rfl (hk24 x1 x2 x3 x4 x5)
theorem z_X11_mayGo_b175 {Γ : Cx} (G : GG Γ RX11 cX11_mayGo 7 (some .boolean) 3 0 0)  : Rz Γ 7 (Qm Γ encI 0 0) 0 0 175 [(0, .ref 56)] [] (f_X11_mayGo_b175 ) := by
  unfold f_X11_mayGo_b175
  refine rz_aload_n G 0 rfl rfl (dq jX11_mayGo 95 rfl) ?_
  refine rz_getC G flX11_78 sh56 (t := 72) rfl rfl (dq jX11_mayGo 96 rfl) ?_
  refine rz_iconst G (v := 0) (dq jX11_mayGo 97 rfl) rfl ?_
  refine rz_ialdN G (by decide) sh72 (dq jX11_mayGo 98 rfl) (fun v1 => ?_)
  refine rz_if_eq G (tgt := 188) rfl (dq jX11_mayGo 99 rfl) (fun c2 => ?_) (fun c2 => ?_)
  · refine rz_iconst G (v := 0) (dq jX11_mayGo 102 rfl) rfl ?_
    exact rz_zret0 G (by decide) (dq jX11_mayGo 103 rfl)
  · refine rz_iconst G (v := 1) (dq jX11_mayGo 100 rfl) rfl ?_
    refine rz_goto G (tgt := 189) rfl (dq jX11_mayGo 101 rfl) ?_
    exact rz_zret0 G (by decide) (dq jX11_mayGo 103 rfl)
theorem z_X11_mayGo_b24 {Γ : Cx} (G : GG Γ RX11 cX11_mayGo 7 (some .boolean) 3 0 0) : ∀ (fu : Nat) (x1 : Int32) (x2 : Int32) (x3 : Int32) (x4 : Int32) (x5 : Int32), Rz Γ 7 (Qm Γ encI 0 0) 0 0 24 [(0, .ref 56), (1, .int x1), (2, .int x2), (3, .int x3), (4, .int x4), (5, .int x5)] [] (f_X11_mayGo_b24 fu x1 x2 x3 x4 x5) := by
  intro fu
  induction fu with
  | zero => intro _ _ _ _ _; exact rz_none
  | succ fu ih =>
    intro x1 x2 x3 x4 x5
    rw [f_X11_mayGo_b24]
    refine rz_aload_n G 0 rfl rfl (dq jX11_mayGo 14 rfl) ?_
    refine rz_getC G flX11_35 sh56 (t := 61) rfl rfl (dq jX11_mayGo 15 rfl) ?_
    refine rz_iload G 5 rfl (dq jX11_mayGo 16 rfl) ?_
    refine rz_iald G sh61 (dq jX11_mayGo 17 rfl) (fun v1 => ?_)
    refine rz_if_eq G (tgt := 175) rfl (dq jX11_mayGo 18 rfl) (fun c2 => ?_) (fun c2 => ?_)
    · exact rz_lv [0] rfl (z_X11_mayGo_b175 G)
    · refine rz_aload_n G 0 rfl rfl (dq jX11_mayGo 19 rfl) ?_
      refine rz_getC G flX11_35 sh56 (t := 61) rfl rfl (dq jX11_mayGo 20 rfl) ?_
      refine rz_iload G 5 rfl (dq jX11_mayGo 21 rfl) ?_
      refine rz_iald G sh61 (dq jX11_mayGo 22 rfl) (fun v3 => ?_)
      refine rz_istore G (lv' := [(6, .int v3), (0, .ref 56), (1, .int x1), (2, .int x2), (3, .int x3), (4, .int x4), (5, .int x5)]) (Nat.le_of_ble_eq_true rfl) rfl (dq jX11_mayGo 23 rfl) ?_
      refine rz_iinc G 6 (v := x5 + 1) (lv' := [(5, .int (x5 + 1)), (6, .int v3), (0, .ref 56), (1, .int x1), (2, .int x2), (3, .int x3), (4, .int x4)]) rfl (congrArg (HAdd.hAdd _) (by decide)) (Nat.le_of_ble_eq_true rfl) rfl (dq jX11_mayGo 24 rfl) ?_
      refine rz_iload G 1 rfl (dq jX11_mayGo 25 rfl) ?_
      refine rz_iconst G (v := 1) (dq jX11_mayGo 26 rfl) rfl ?_
      refine rz_icmp_eq G (tgt := 58) rfl (dq jX11_mayGo 27 rfl) (fun c4 => ?_) (fun c4 => ?_)
      · exact rz_lv [2, 3, 4, 5, 6, 0, 1] rfl (z_X11_mayGo_b58 G (f_X11_mayGo_b24 fu) ih x1 x2 x3 x4 (x5 + 1) v3)
      · refine rz_iload G 1 rfl (dq jX11_mayGo 28 rfl) ?_
        refine rz_iconst G (v := 2) (dq jX11_mayGo 29 rfl) rfl ?_
        refine rz_icmp_ne G (tgt := 104) rfl (dq jX11_mayGo 30 rfl) (fun c5 => ?_) (fun c5 => ?_)
        · exact rz_lv [2, 3, 4, 5, 6, 0, 1] rfl (z_X11_mayGo_b58 G (f_X11_mayGo_b24 fu) ih x1 x2 x3 x4 (x5 + 1) v3)
        · refine rz_iload G 1 rfl (dq jX11_mayGo 55 rfl) ?_
          refine rz_iconst G (v := 3) (dq jX11_mayGo 56 rfl) rfl ?_
          refine rz_icmp_ne G (tgt := 139) rfl (dq jX11_mayGo 57 rfl) (fun c6 => ?_) (fun c6 => ?_)
          · refine rz_aload_n G 2 rfl rfl (dq jX11_mayGo 58 rfl) ?_
            refine rz_getC G flX11_78 sh56 (t := 72) rfl rfl (dq jX11_mayGo 59 rfl) ?_
            refine rz_iload G 6 rfl (dq jX11_mayGo 60 rfl) ?_
            refine rz_iconst G (v := 1) (dq jX11_mayGo 61 rfl) rfl ?_
            refine rz_isub G (dq jX11_mayGo 62 rfl) ?_
            refine rz_aload_n G 2 rfl rfl (dq jX11_mayGo 63 rfl) ?_
            refine rz_getC G flX11_78 sh56 (t := 72) rfl rfl (dq jX11_mayGo 64 rfl) ?_
            refine rz_iload G 6 rfl (dq jX11_mayGo 65 rfl) ?_
            refine rz_iconst G (v := 1) (dq jX11_mayGo 66 rfl) rfl ?_
            refine rz_isub G (dq jX11_mayGo 67 rfl) ?_
            refine rz_iald G sh72 (dq jX11_mayGo 68 rfl) (fun v7 => ?_)
            refine rz_if_ne G (tgt := 134) rfl (dq jX11_mayGo 69 rfl) (fun c8 => ?_) (fun c8 => ?_)
            · refine rz_iconst G (v := 1) (dq jX11_mayGo 70 rfl) rfl ?_
              refine rz_goto G (tgt := 135) rfl (dq jX11_mayGo 71 rfl) ?_
              exact rz_lv [2, 3, 4, 5, 6, 0] rfl (z_X11_mayGo_b135 G (f_X11_mayGo_b24 fu) ih x1 x2 x3 x4 (x5 + 1) 1 (x4 - 1))
            · refine rz_iconst G (v := 0) (dq jX11_mayGo 72 rfl) rfl ?_
              exact rz_lv [2, 3, 4, 5, 6, 0] rfl (z_X11_mayGo_b135 G (f_X11_mayGo_b24 fu) ih x1 x2 x3 x4 (x5 + 1) 0 (x4 - 1))
          · refine rz_iinc G 6 (v := x4 + (-1)) (lv' := [(4, .int (x4 + (-1))), (5, .int (x5 + 1)), (6, .int v3), (0, .ref 56), (1, .int x1), (2, .int x2), (3, .int x3)]) rfl (congrArg (HAdd.hAdd _) (by decide)) (Nat.le_of_ble_eq_true rfl) rfl (dq jX11_mayGo 75 rfl) ?_
            refine rz_aload_n G 3 rfl rfl (dq jX11_mayGo 76 rfl) ?_
            refine rz_getC G flX11_78 sh56 (t := 72) rfl rfl (dq jX11_mayGo 77 rfl) ?_
            refine rz_iload G 0 rfl (dq jX11_mayGo 78 rfl) ?_
            refine rz_iconst G (v := 1) (dq jX11_mayGo 79 rfl) rfl ?_
            refine rz_isub G (dq jX11_mayGo 80 rfl) ?_
            refine rz_iload G 2 rfl (dq jX11_mayGo 81 rfl) ?_
            refine rz_aload_n G 3 rfl rfl (dq jX11_mayGo 82 rfl) ?_
            refine rz_getC G flX11_78 sh56 (t := 72) rfl rfl (dq jX11_mayGo 83 rfl) ?_
            refine rz_iload G 0 rfl (dq jX11_mayGo 84 rfl) ?_
            refine rz_iconst G (v := 1) (dq jX11_mayGo 85 rfl) rfl ?_
            refine rz_isub G (dq jX11_mayGo 86 rfl) ?_
            refine rz_iald G sh72 (dq jX11_mayGo 87 rfl) (fun v9 => ?_)
            refine rz_aload_n G 3 rfl rfl (dq jX11_mayGo 88 rfl) ?_
            refine rz_getC G flX11_78 sh56 (t := 72) rfl rfl (dq jX11_mayGo 89 rfl) ?_
            refine rz_iload G 0 rfl (dq jX11_mayGo 90 rfl) ?_
            refine rz_iald G sh72 (dq jX11_mayGo 91 rfl) (fun v10 => ?_)
            refine rz_callSi G (st := [.int ((x4 + (-1)) - 1), .ref 72]) (c_X11_works (cLn Γ) v3 v9 v10) lkX11_371 rfl (Nat.le_of_ble_eq_true rfl) (Nat.le_of_ble_eq_true rfl) (dq jX11_mayGo 92 rfl) rfl (fun r11 => ?_)
            refine rz_iast G sh72 (dq jX11_mayGo 93 rfl) ?_
            refine rz_goto G (tgt := 24) rfl (dq jX11_mayGo 94 rfl) ?_
            exact rz_lv [3, 4, 5, 6, 0, 1] rfl (ih x1 x2 x3 (x4 + (-1)) (x5 + 1))
theorem c_X11_mayGo (l : Launch) (x1 : Int32) (x2 : Int32) (x3 : Int32) : Ct l yX11_mayGo cX11_mayGo 7 (some .boolean) 3 encI [.ref 56, .int x1, .int x2, .int x3] (f_X11_mayGo x1 x2 x3) := by
  refine ct_of (own := RX11) (by decide) rfl (Nat.le_of_ble_eq_true rfl) (fun Γ hl G => ?_)
  show Rz Γ 7 (Qm Γ encI 0 0) 0 0 0 [(0, .ref 56), (1, .int x1), (2, .int x2), (3, .int x3)] [] _
  unfold f_X11_mayGo
  refine rz_aload_n G 0 rfl rfl (dq jX11_mayGo 0 rfl) ?_
  refine rz_getI G flX11_69 sh56 rfl (dq jX11_mayGo 1 rfl) (fun v1 => ?_)
  refine rz_iconst G (v := (-1)) (dq jX11_mayGo 2 rfl) rfl ?_
  refine rz_icmp_ne G (tgt := 10) rfl (dq jX11_mayGo 3 rfl) (fun c2 => ?_) (fun c2 => ?_)
  · refine rz_iconst G (v := 1) (dq jX11_mayGo 4 rfl) rfl ?_
    exact rz_zret0 G (by decide) (dq jX11_mayGo 5 rfl)
  · refine rz_iconst G (v := 0) (dq jX11_mayGo 6 rfl) rfl ?_
    refine rz_istore G (lv' := [(4, .int 0), (0, .ref 56), (1, .int x1), (2, .int x2), (3, .int x3)]) (Nat.le_of_ble_eq_true rfl) rfl (dq jX11_mayGo 7 rfl) ?_
    refine rz_aload_n G 1 rfl rfl (dq jX11_mayGo 8 rfl) ?_
    refine rz_getC G flX11_29 sh56 (t := 59) rfl rfl (dq jX11_mayGo 9 rfl) ?_
    refine rz_aload_n G 1 rfl rfl (dq jX11_mayGo 10 rfl) ?_
    refine rz_getI G flX11_69 sh56 rfl (dq jX11_mayGo 11 rfl) (fun v3 => ?_)
    refine rz_iald G sh59 (dq jX11_mayGo 12 rfl) (fun v4 => ?_)
    refine rz_istore G (lv' := [(5, .int v4), (4, .int 0), (0, .ref 56), (1, .int x1), (2, .int x2), (3, .int x3)]) (Nat.le_of_ble_eq_true rfl) rfl (dq jX11_mayGo 13 rfl) ?_
    exact rz_lv [2, 3, 4, 5, 1, 0] rfl (z_X11_mayGo_b24 G FU x1 x2 x3 0 v4)
theorem z_X11_hurts_b23 {Γ : Cx} (G : GG Γ RX11 cX11_hurts 3 none 1 0 0) (x1 : Int32) (x2 : Int32) : Rz Γ 3 (Qm Γ encV 0 0) 0 0 23 [(0, .ref 56), (1, .int x1), (2, .int x2)] [] (f_X11_hurts_b23 x1 x2) := by
  unfold f_X11_hurts_b23
  refine rz_aload_n G 0 rfl rfl (dq jX11_hurts 15 rfl) ?_
  refine rz_getI G flX11_375 sh56 rfl (dq jX11_hurts 16 rfl) (fun v1 => ?_)
  refine rz_iload_n G 2 rfl rfl (dq jX11_hurts 17 rfl) ?_
  refine rz_icmp_ne G (tgt := 43) rfl (dq jX11_hurts 18 rfl) (fun c2 => ?_) (fun c2 => ?_)
  · refine rz_aload_n G 0 rfl rfl (dq jX11_hurts 19 rfl) ?_
    refine rz_dup G rfl (dq jX11_hurts 20 rfl) ?_
    refine rz_getI G flX11_378 sh56 rfl (dq jX11_hurts 21 rfl) (fun v3 => ?_)
    refine rz_iconst G (v := 1) (dq jX11_hurts 22 rfl) rfl ?_
    refine rz_iload_n G 1 rfl rfl (dq jX11_hurts 23 rfl) ?_
    refine rz_ishl G (dq jX11_hurts 24 rfl) ?_
    refine rz_ior G (dq jX11_hurts 25 rfl) ?_
    refine rz_putI G flX11_378 sh56 rfl (dq jX11_hurts 26 rfl) ?_
    exact rz_vret G (dq jX11_hurts 27 rfl)
  · exact rz_vret G (dq jX11_hurts 27 rfl)
theorem c_X11_hurts (l : Launch) (x1 : Int32) (x2 : Int32) : Ct l yX11_hurts cX11_hurts 3 none 1 encV [.ref 56, .int x1, .int x2] (f_X11_hurts x1 x2) := by
  refine ct_of (own := RX11) (by decide) rfl (Nat.le_of_ble_eq_true rfl) (fun Γ hl G => ?_)
  show Rz Γ 3 (Qm Γ encV 0 0) 0 0 0 [(0, .ref 56), (1, .int x1), (2, .int x2)] [] _
  unfold f_X11_hurts
  refine rz_aload_n G 0 rfl rfl (dq jX11_hurts 0 rfl) ?_
  refine rz_getC G flX11_105 sh56 (t := 81) rfl rfl (dq jX11_hurts 1 rfl) ?_
  refine rz_iload_n G 1 rfl rfl (dq jX11_hurts 2 rfl) ?_
  refine rz_dup2 G rfl rfl (dq jX11_hurts 3 rfl) ?_
  refine rz_iald G sh81 (dq jX11_hurts 4 rfl) (fun v1 => ?_)
  refine rz_iconst G (v := 1) (dq jX11_hurts 5 rfl) rfl ?_
  refine rz_iadd G (dq jX11_hurts 6 rfl) ?_
  refine rz_iast G sh81 (dq jX11_hurts 7 rfl) ?_
  refine rz_aload_n G 0 rfl rfl (dq jX11_hurts 8 rfl) ?_
  refine rz_getI G flX11_375 sh56 rfl (dq jX11_hurts 9 rfl) (fun v2 => ?_)
  refine rz_iconst G (v := (-1)) (dq jX11_hurts 10 rfl) rfl ?_
  refine rz_icmp_ne G (tgt := 23) rfl (dq jX11_hurts 11 rfl) (fun c3 => ?_) (fun c3 => ?_)
  · refine rz_aload_n G 0 rfl rfl (dq jX11_hurts 12 rfl) ?_
    refine rz_iload_n G 2 rfl rfl (dq jX11_hurts 13 rfl) ?_
    refine rz_putI G flX11_375 sh56 rfl (dq jX11_hurts 14 rfl) ?_
    exact rz_lv [0, 1, 2] rfl (z_X11_hurts_b23 G x1 x2)
  · exact rz_lv [0, 1, 2] rfl (z_X11_hurts_b23 G x1 x2)
theorem c_X11_landed (l : Launch) (x1 : Int32) (x2 : Int32) (x3 : Int32) (x4 : Int32) : Ct l yX11_landed cX11_landed 6 none 1 encV [.ref 56, .int x1, .int x2, .int x3, .int x4] (f_X11_landed x1 x2 x3 x4) := by
  refine ct_of (own := RX11) (by decide) rfl (Nat.le_of_ble_eq_true rfl) (fun Γ hl G => ?_)
  show Rz Γ 6 (Qm Γ encV 0 0) 0 0 0 [(0, .ref 56), (1, .int x1), (2, .int x2), (3, .int x3), (4, .int x4)] [] _
  unfold f_X11_landed
  refine rz_iconst G (v := 5) (dq jX11_landed 0 rfl) rfl ?_
  refine rz_aload_n G 0 rfl rfl (dq jX11_landed 1 rfl) ?_
  refine rz_getI G flX11_381 sh56 rfl (dq jX11_landed 2 rfl) (fun v1 => ?_)
  refine rz_imul G (dq jX11_landed 3 rfl) ?_
  refine rz_istore G (lv' := [(5, .int (5 * v1)), (0, .ref 56), (1, .int x1), (2, .int x2), (3, .int x3), (4, .int x4)]) (Nat.le_of_ble_eq_true rfl) rfl (dq jX11_landed 4 rfl) ?_
  refine rz_aload_n G 1 rfl rfl (dq jX11_landed 5 rfl) ?_
  refine rz_getC G flX11_117 sh56 (t := 85) rfl rfl (dq jX11_landed 6 rfl) ?_
  refine rz_iload G 0 rfl (dq jX11_landed 7 rfl) ?_
  refine rz_iload_n G 2 rfl rfl (dq jX11_landed 8 rfl) ?_
  refine rz_iast G sh85 (dq jX11_landed 9 rfl) ?_
  refine rz_aload_n G 1 rfl rfl (dq jX11_landed 10 rfl) ?_
  refine rz_getC G flX11_117 sh56 (t := 85) rfl rfl (dq jX11_landed 11 rfl) ?_
  refine rz_iload G 0 rfl (dq jX11_landed 12 rfl) ?_
  refine rz_iconst G (v := 1) (dq jX11_landed 13 rfl) rfl ?_
  refine rz_iadd G (dq jX11_landed 14 rfl) ?_
  refine rz_iload_n G 3 rfl rfl (dq jX11_landed 15 rfl) ?_
  refine rz_iast G sh85 (dq jX11_landed 16 rfl) ?_
  refine rz_aload_n G 1 rfl rfl (dq jX11_landed 17 rfl) ?_
  refine rz_getC G flX11_117 sh56 (t := 85) rfl rfl (dq jX11_landed 18 rfl) ?_
  refine rz_iload G 0 rfl (dq jX11_landed 19 rfl) ?_
  refine rz_iconst G (v := 2) (dq jX11_landed 20 rfl) rfl ?_
  refine rz_iadd G (dq jX11_landed 21 rfl) ?_
  refine rz_iload_n G 4 rfl rfl (dq jX11_landed 22 rfl) ?_
  refine rz_iast G sh85 (dq jX11_landed 23 rfl) ?_
  refine rz_aload_n G 1 rfl rfl (dq jX11_landed 24 rfl) ?_
  refine rz_getC G flX11_117 sh56 (t := 85) rfl rfl (dq jX11_landed 25 rfl) ?_
  refine rz_iload G 0 rfl (dq jX11_landed 26 rfl) ?_
  refine rz_iconst G (v := 3) (dq jX11_landed 27 rfl) rfl ?_
  refine rz_iadd G (dq jX11_landed 28 rfl) ?_
  refine rz_aload_n G 1 rfl rfl (dq jX11_landed 29 rfl) ?_
  refine rz_getC G flX11_84 sh56 (t := 74) rfl rfl (dq jX11_landed 30 rfl) ?_
  refine rz_iload_n G 3 rfl rfl (dq jX11_landed 31 rfl) ?_
  refine rz_iald G sh74 (dq jX11_landed 32 rfl) (fun v2 => ?_)
  refine rz_iast G sh85 (dq jX11_landed 33 rfl) ?_
  refine rz_aload_n G 1 rfl rfl (dq jX11_landed 34 rfl) ?_
  refine rz_getC G flX11_117 sh56 (t := 85) rfl rfl (dq jX11_landed 35 rfl) ?_
  refine rz_iload G 0 rfl (dq jX11_landed 36 rfl) ?_
  refine rz_iconst G (v := 4) (dq jX11_landed 37 rfl) rfl ?_
  refine rz_iadd G (dq jX11_landed 38 rfl) ?_
  refine rz_iload G 5 rfl (dq jX11_landed 39 rfl) ?_
  refine rz_iast G sh85 (dq jX11_landed 40 rfl) ?_
  refine rz_aload_n G 1 rfl rfl (dq jX11_landed 41 rfl) ?_
  refine rz_dup G rfl (dq jX11_landed 42 rfl) ?_
  refine rz_getI G flX11_381 sh56 rfl (dq jX11_landed 43 rfl) (fun v3 => ?_)
  refine rz_iconst G (v := 1) (dq jX11_landed 44 rfl) rfl ?_
  refine rz_iadd G (dq jX11_landed 45 rfl) ?_
  refine rz_putI G flX11_381 sh56 rfl (dq jX11_landed 46 rfl) ?_
  refine rz_aload_n G 1 rfl rfl (dq jX11_landed 47 rfl) ?_
  refine rz_getC G flX11_111 sh56 (t := 83) rfl rfl (dq jX11_landed 48 rfl) ?_
  refine rz_bipush G (v := 6) (dq jX11_landed 49 rfl) (by decide) ?_
  refine rz_iload_n G 3 rfl rfl (dq jX11_landed 50 rfl) ?_
  refine rz_imul G (dq jX11_landed 51 rfl) ?_
  refine rz_iload_n G 4 rfl rfl (dq jX11_landed 52 rfl) ?_
  refine rz_iadd G (dq jX11_landed 53 rfl) ?_
  refine rz_lti (fun w4 e_w4 => ?_)
  refine rz_dup2 G rfl rfl (dq jX11_landed 54 rfl) ?_
  refine rz_iald G sh83 (dq jX11_landed 55 rfl) (fun v5 => ?_)
  refine rz_iconst G (v := 1) (dq jX11_landed 56 rfl) rfl ?_
  refine rz_iadd G (dq jX11_landed 57 rfl) ?_
  refine rz_iast G sh83 (dq jX11_landed 58 rfl) ?_
  exact rz_vret G (dq jX11_landed 59 rfl)
theorem z_X11_comesDown_b41 {Γ : Cx} (G : GG Γ RX11 cX11_comesDown 6 none 2 0 0) (x1 : Int32) (x2 : Int32) (x3 : Int32) : Rz Γ 6 (Qm Γ encV 0 0) 0 0 41 [(0, .ref 56), (1, .int x1), (2, .int x2), (3, .int x3)] [] (f_X11_comesDown_b41 x1 x2 x3) := by
  unfold f_X11_comesDown_b41
  refine rz_aload_n G 0 rfl rfl (dq jX11_comesDown 25 rfl) ?_
  refine rz_getC G flX11_81 sh56 (t := 73) rfl rfl (dq jX11_comesDown 26 rfl) ?_
  refine rz_iload_n G 1 rfl rfl (dq jX11_comesDown 27 rfl) ?_
  refine rz_iconst G (v := 3) (dq jX11_comesDown 28 rfl) rfl ?_
  refine rz_iast G sh73 (dq jX11_comesDown 29 rfl) ?_
  refine rz_aload_n G 0 rfl rfl (dq jX11_comesDown 30 rfl) ?_
  refine rz_iload_n G 1 rfl rfl (dq jX11_comesDown 31 rfl) ?_
  refine rz_iload_n G 2 rfl rfl (dq jX11_comesDown 32 rfl) ?_
  refine rz_callVv G (st := []) (c_X11_hurts (cLn Γ) x1 x2) lkX11_384 sh56 rfl rfl rfl (Nat.le_of_ble_eq_true rfl) (Nat.le_of_ble_eq_true rfl) (dq jX11_comesDown 33 rfl) rfl (fun _ => ?_)
  refine rz_aload_n G 0 rfl rfl (dq jX11_comesDown 34 rfl) ?_
  refine rz_iload_n G 2 rfl rfl (dq jX11_comesDown 35 rfl) ?_
  refine rz_iload_n G 1 rfl rfl (dq jX11_comesDown 36 rfl) ?_
  refine rz_iconst G (v := 4) (dq jX11_comesDown 37 rfl) rfl ?_
  refine rz_iload_n G 3 rfl rfl (dq jX11_comesDown 38 rfl) ?_
  refine rz_callVv G (st := []) (c_X11_landed (cLn Γ) x2 x1 4 x3) lkX11_387 sh56 rfl rfl rfl (Nat.le_of_ble_eq_true rfl) (Nat.le_of_ble_eq_true rfl) (dq jX11_comesDown 39 rfl) rfl (fun _ => ?_)
  exact rz_vret G (dq jX11_comesDown 40 rfl)
theorem z_X11_comesDown_b147 {Γ : Cx} (G : GG Γ RX11 cX11_comesDown 6 none 2 0 0) (k69 : Int32 → Int32 → Int32 → Int32 → Int32 → Sg → Option (Unit × Sg)) (hk69 : ∀ (x1 : Int32) (x2 : Int32) (x3 : Int32) (x4 : Int32) (x5 : Int32), Rz Γ 6 (Qm Γ encV 0 0) 0 0 69 [(0, .ref 56), (1, .int x1), (2, .int x2), (3, .int x3), (4, .int x4), (5, .int x5)] [] (k69 x1 x2 x3 x4 x5)) (x1 : Int32) (x2 : Int32) (x3 : Int32) (x4 : Int32) (x5 : Int32) : Rz Γ 6 (Qm Γ encV 0 0) 0 0 147 [(0, .ref 56), (1, .int x1), (2, .int x2), (3, .int x3), (4, .int x4), (5, .int x5)] [] (f_X11_comesDown_b147 k69 x1 x2 x3 x4 x5) := by
  unfold f_X11_comesDown_b147
  refine rz_iinc G 5 (v := x5 + 1) (lv' := [(5, .int (x5 + 1)), (0, .ref 56), (1, .int x1), (2, .int x2), (3, .int x3), (4, .int x4)]) rfl (congrArg (HAdd.hAdd _) (by decide)) (Nat.le_of_ble_eq_true rfl) rfl (dq jX11_comesDown 89 rfl) ?_
  refine rz_goto G (tgt := 69) rfl (dq jX11_comesDown 90 rfl) ?_
  exact rz_lv [1, 2, 3, 4, 5, 0] rfl (hk69 x1 x2 x3 x4 (x5 + 1))
theorem z_X11_comesDown_b298 {Γ : Cx} (G : GG Γ RX11 cX11_comesDown 6 none 2 0 0) (x3 : Int32) (xs0 : Int32) (xs1 : Int32) (xs2 : Int32) : Rz Γ 6 (Qm Γ encV 0 0) 0 0 298 [(3, .int x3)] [.int xs0, .int xs1, .int xs2, .ref 56] (f_X11_comesDown_b298 x3 xs0 xs1 xs2) := by
  unfold f_X11_comesDown_b298
  refine rz_iload_n G 0 rfl rfl (dq jX11_comesDown_s1 30 rfl) ?_
  refine rz_callVv G (st := []) (c_X11_landed (cLn Γ) xs2 xs1 xs0 x3) lkX11_387 sh56 rfl rfl rfl (Nat.le_of_ble_eq_true rfl) (Nat.le_of_ble_eq_true rfl) (dq jX11_comesDown_s1 31 rfl) rfl (fun _ => ?_)
  refine rz_goto G (tgt := 333) rfl (dq jX11_comesDown_s1 32 rfl) ?_
  exact rz_vret G (dq jX11_comesDown_s1 53 rfl)
theorem z_X11_comesDown_b260 {Γ : Cx} (G : GG Γ RX11 cX11_comesDown 6 none 2 0 0) (x1 : Int32) (x2 : Int32) (x3 : Int32) (x5 : Int32) : Rz Γ 6 (Qm Γ encV 0 0) 0 0 260 [(0, .ref 56), (1, .int x1), (2, .int x2), (3, .int x3), (5, .int x5)] [] (f_X11_comesDown_b260 x1 x2 x3 x5) := by
  unfold f_X11_comesDown_b260
  refine rz_aload_n G 0 rfl rfl (dq jX11_comesDown_s1 7 rfl) ?_
  refine rz_dup G rfl (dq jX11_comesDown_s1 8 rfl) ?_
  refine rz_getI G flX11_400 sh56 rfl (dq jX11_comesDown_s1 9 rfl) (fun v1 => ?_)
  refine rz_iload_n G 3 rfl rfl (dq jX11_comesDown_s1 10 rfl) ?_
  refine rz_iadd G (dq jX11_comesDown_s1 11 rfl) ?_
  refine rz_putI G flX11_400 sh56 rfl (dq jX11_comesDown_s1 12 rfl) ?_
  refine rz_aload_n G 0 rfl rfl (dq jX11_comesDown_s1 13 rfl) ?_
  refine rz_dup G rfl (dq jX11_comesDown_s1 14 rfl) ?_
  refine rz_getI G flX11_403 sh56 rfl (dq jX11_comesDown_s1 15 rfl) (fun v2 => ?_)
  refine rz_iload_n G 3 rfl rfl (dq jX11_comesDown_s1 16 rfl) ?_
  refine rz_iadd G (dq jX11_comesDown_s1 17 rfl) ?_
  refine rz_putI G flX11_403 sh56 rfl (dq jX11_comesDown_s1 18 rfl) ?_
  refine rz_aload_n G 0 rfl rfl (dq jX11_comesDown_s1 19 rfl) ?_
  refine rz_iload_n G 1 rfl rfl (dq jX11_comesDown_s1 20 rfl) ?_
  refine rz_putI G flX11_397 sh56 rfl (dq jX11_comesDown_s1 21 rfl) ?_
  refine rz_aload_n G 0 rfl rfl (dq jX11_comesDown_s1 22 rfl) ?_
  refine rz_iload_n G 2 rfl rfl (dq jX11_comesDown_s1 23 rfl) ?_
  refine rz_iload_n G 1 rfl rfl (dq jX11_comesDown_s1 24 rfl) ?_
  refine rz_iload G 4 rfl (dq jX11_comesDown_s1 25 rfl) ?_
  refine rz_if_eq G (tgt := 297) rfl (dq jX11_comesDown_s1 26 rfl) (fun c3 => ?_) (fun c3 => ?_)
  · refine rz_iconst G (v := 1) (dq jX11_comesDown_s1 29 rfl) rfl ?_
    exact rz_lv [3] rfl (z_X11_comesDown_b298 G x3 1 x1 x2)
  · refine rz_iconst G (v := 0) (dq jX11_comesDown_s1 27 rfl) rfl ?_
    refine rz_goto G (tgt := 298) rfl (dq jX11_comesDown_s1 28 rfl) ?_
    exact rz_lv [3] rfl (z_X11_comesDown_b298 G x3 0 x1 x2)
theorem z_X11_comesDown_b227 {Γ : Cx} (G : GG Γ RX11 cX11_comesDown 6 none 2 0 0) (x1 : Int32) (x2 : Int32) (x3 : Int32) (xs0 : Int32) : Rz Γ 6 (Qm Γ encV 0 0) 0 0 227 [(0, .ref 56), (1, .int x1), (2, .int x2), (3, .int x3)] [.int xs0] (f_X11_comesDown_b227 x1 x2 x3 xs0) := by
  unfold f_X11_comesDown_b227
  refine rz_istore G (lv' := [(5, .int xs0), (0, .ref 56), (1, .int x1), (2, .int x2), (3, .int x3)]) (Nat.le_of_ble_eq_true rfl) rfl (dq jX11_comesDown 137 rfl) ?_
  refine rz_iload G 0 rfl (dq jX11_comesDown 138 rfl) ?_
  refine rz_if_eq G (tgt := 242) rfl (dq jX11_comesDown 139 rfl) (fun c1 => ?_) (fun c1 => ?_)
  · refine rz_aload_n G 1 rfl rfl (dq jX11_comesDown 144 rfl) ?_
    refine rz_getC G flX11_111 sh56 (t := 83) rfl rfl (dq jX11_comesDown 145 rfl) ?_
    refine rz_bipush G (v := 6) (dq jX11_comesDown 146 rfl) (by decide) ?_
    refine rz_aload_n G 1 rfl rfl (dq jX11_comesDown 147 rfl) ?_
    refine rz_getI G flX11_397 sh56 rfl (dq jX11_comesDown 148 rfl) (fun v2 => ?_)
    refine rz_imul G (dq jX11_comesDown 149 rfl) ?_
    refine rz_iconst G (v := 2) (dq jX11_comesDown_s1 0 rfl) rfl ?_
    refine rz_iadd G (dq jX11_comesDown_s1 1 rfl) ?_
    refine rz_lti (fun w3 e_w3 => ?_)
    refine rz_dup2 G rfl rfl (dq jX11_comesDown_s1 2 rfl) ?_
    refine rz_iald G sh83 (dq jX11_comesDown_s1 3 rfl) (fun v4 => ?_)
    refine rz_iconst G (v := 1) (dq jX11_comesDown_s1 4 rfl) rfl ?_
    refine rz_iadd G (dq jX11_comesDown_s1 5 rfl) ?_
    refine rz_iast G sh83 (dq jX11_comesDown_s1 6 rfl) ?_
    exact rz_lv [1, 2, 3, 4, 0] rfl (z_X11_comesDown_b260 G x1 x2 x3 xs0)
  · refine rz_aload_n G 1 rfl rfl (dq jX11_comesDown 140 rfl) ?_
    refine rz_iload_n G 3 rfl rfl (dq jX11_comesDown 141 rfl) ?_
    refine rz_putI G flX11_394 sh56 rfl (dq jX11_comesDown 142 rfl) ?_
    refine rz_goto G (tgt := 260) rfl (dq jX11_comesDown 143 rfl) ?_
    exact rz_lv [1, 2, 3, 4, 0] rfl (z_X11_comesDown_b260 G x1 x2 x3 xs0)
theorem z_X11_comesDown_b214 {Γ : Cx} (G : GG Γ RX11 cX11_comesDown 6 none 2 0 0) (x1 : Int32) (x2 : Int32) (x3 : Int32) : Rz Γ 6 (Qm Γ encV 0 0) 0 0 214 [(0, .ref 56), (1, .int x1), (2, .int x2), (3, .int x3)] [] (f_X11_comesDown_b214 x1 x2 x3) := by
  unfold f_X11_comesDown_b214
  refine rz_aload_n G 0 rfl rfl (dq jX11_comesDown 130 rfl) ?_
  refine rz_getI G flX11_394 sh56 rfl (dq jX11_comesDown 131 rfl) (fun v1 => ?_)
  refine rz_iconst G (v := (-1)) (dq jX11_comesDown 132 rfl) rfl ?_
  refine rz_icmp_ne G (tgt := 226) rfl (dq jX11_comesDown 133 rfl) (fun c2 => ?_) (fun c2 => ?_)
  · refine rz_iconst G (v := 1) (dq jX11_comesDown 134 rfl) rfl ?_
    refine rz_goto G (tgt := 227) rfl (dq jX11_comesDown 135 rfl) ?_
    exact rz_lv [0, 1, 2, 3] rfl (z_X11_comesDown_b227 G x1 x2 x3 1)
  · refine rz_iconst G (v := 0) (dq jX11_comesDown 136 rfl) rfl ?_
    exact rz_lv [0, 1, 2, 3] rfl (z_X11_comesDown_b227 G x1 x2 x3 0)
theorem z_X11_comesDown_b179 {Γ : Cx} (G : GG Γ RX11 cX11_comesDown 6 none 2 0 0) (x1 : Int32) (x2 : Int32) (x3 : Int32) : Rz Γ 6 (Qm Γ encV 0 0) 0 0 179 [(0, .ref 56), (1, .int x1), (2, .int x2), (3, .int x3)] [] (f_X11_comesDown_b179 x1 x2 x3) := by
  unfold f_X11_comesDown_b179
  refine rz_aload_n G 0 rfl rfl (dq jX11_comesDown 109 rfl) ?_
  refine rz_getC G flX11_81 sh56 (t := 73) rfl rfl (dq jX11_comesDown 110 rfl) ?_
  refine rz_iload_n G 1 rfl rfl (dq jX11_comesDown 111 rfl) ?_
  refine rz_iconst G (v := 2) (dq jX11_comesDown 112 rfl) rfl ?_
  refine rz_iast G sh73 (dq jX11_comesDown 113 rfl) ?_
  refine rz_aload_n G 0 rfl rfl (dq jX11_comesDown 114 rfl) ?_
  refine rz_getC G flX11_93 sh56 (t := 77) rfl rfl (dq jX11_comesDown 115 rfl) ?_
  refine rz_iload_n G 1 rfl rfl (dq jX11_comesDown 116 rfl) ?_
  refine rz_iload_n G 2 rfl rfl (dq jX11_comesDown 117 rfl) ?_
  refine rz_iast G sh77 (dq jX11_comesDown 118 rfl) ?_
  refine rz_aload_n G 0 rfl rfl (dq jX11_comesDown 119 rfl) ?_
  refine rz_getI G flX11_394 sh56 rfl (dq jX11_comesDown 120 rfl) (fun v1 => ?_)
  refine rz_iconst G (v := (-1)) (dq jX11_comesDown 121 rfl) rfl ?_
  refine rz_icmp_eq G (tgt := 214) rfl (dq jX11_comesDown 122 rfl) (fun c2 => ?_) (fun c2 => ?_)
  · exact rz_lv [0, 1, 2, 3] rfl (z_X11_comesDown_b214 G x1 x2 x3)
  · refine rz_iload_n G 2 rfl rfl (dq jX11_comesDown 123 rfl) ?_
    refine rz_aload_n G 0 rfl rfl (dq jX11_comesDown 124 rfl) ?_
    refine rz_getI G flX11_394 sh56 rfl (dq jX11_comesDown 125 rfl) (fun v3 => ?_)
    refine rz_isub G (dq jX11_comesDown 126 rfl) ?_
    refine rz_aload_n G 0 rfl rfl (dq jX11_comesDown 127 rfl) ?_
    refine rz_getI G flX11_7 sh56 rfl (dq jX11_comesDown 128 rfl) (fun v4 => ?_)
    refine rz_icmp_ge G (tgt := 305) rfl (dq jX11_comesDown 129 rfl) (fun c5 => ?_) (fun c5 => ?_)
    · refine rz_aload_n G 0 rfl rfl (dq jX11_comesDown_s1 33 rfl) ?_
      refine rz_getC G flX11_108 sh56 (t := 82) rfl rfl (dq jX11_comesDown_s1 34 rfl) ?_
      refine rz_iload_n G 1 rfl rfl (dq jX11_comesDown_s1 35 rfl) ?_
      refine rz_dup2 G rfl rfl (dq jX11_comesDown_s1 36 rfl) ?_
      refine rz_iald G sh82 (dq jX11_comesDown_s1 37 rfl) (fun v6 => ?_)
      refine rz_iload_n G 3 rfl rfl (dq jX11_comesDown_s1 38 rfl) ?_
      refine rz_iadd G (dq jX11_comesDown_s1 39 rfl) ?_
      refine rz_iast G sh82 (dq jX11_comesDown_s1 40 rfl) ?_
      refine rz_aload_n G 0 rfl rfl (dq jX11_comesDown_s1 41 rfl) ?_
      refine rz_dup G rfl (dq jX11_comesDown_s1 42 rfl) ?_
      refine rz_getI G flX11_406 sh56 rfl (dq jX11_comesDown_s1 43 rfl) (fun v7 => ?_)
      refine rz_iload_n G 3 rfl rfl (dq jX11_comesDown_s1 44 rfl) ?_
      refine rz_iadd G (dq jX11_comesDown_s1 45 rfl) ?_
      refine rz_putI G flX11_406 sh56 rfl (dq jX11_comesDown_s1 46 rfl) ?_
      refine rz_aload_n G 0 rfl rfl (dq jX11_comesDown_s1 47 rfl) ?_
      refine rz_iload_n G 2 rfl rfl (dq jX11_comesDown_s1 48 rfl) ?_
      refine rz_iload_n G 1 rfl rfl (dq jX11_comesDown_s1 49 rfl) ?_
      refine rz_iconst G (v := 3) (dq jX11_comesDown_s1 50 rfl) rfl ?_
      refine rz_iload_n G 3 rfl rfl (dq jX11_comesDown_s1 51 rfl) ?_
      refine rz_callVv G (st := []) (c_X11_landed (cLn Γ) x2 x1 3 x3) lkX11_387 sh56 rfl rfl rfl (Nat.le_of_ble_eq_true rfl) (Nat.le_of_ble_eq_true rfl) (dq jX11_comesDown_s1 52 rfl) rfl (fun _ => ?_)
      exact rz_vret G (dq jX11_comesDown_s1 53 rfl)
    · exact rz_lv [0, 1, 2, 3] rfl (z_X11_comesDown_b214 G x1 x2 x3)
theorem z_X11_comesDown_b153 {Γ : Cx} (G : GG Γ RX11 cX11_comesDown 6 none 2 0 0) (x1 : Int32) (x2 : Int32) (x3 : Int32) (x4 : Int32) : Rz Γ 6 (Qm Γ encV 0 0) 0 0 153 [(0, .ref 56), (1, .int x1), (2, .int x2), (3, .int x3), (4, .int x4)] [] (f_X11_comesDown_b153 x1 x2 x3 x4) := by
  unfold f_X11_comesDown_b153
  refine rz_iload G 4 rfl (dq jX11_comesDown 91 rfl) ?_
  refine rz_if_eq G (tgt := 179) rfl (dq jX11_comesDown 92 rfl) (fun c1 => ?_) (fun c1 => ?_)
  · exact rz_lv [0, 1, 2, 3] rfl (z_X11_comesDown_b179 G x1 x2 x3)
  · refine rz_aload_n G 0 rfl rfl (dq jX11_comesDown 93 rfl) ?_
    refine rz_iload_n G 1 rfl rfl (dq jX11_comesDown 94 rfl) ?_
    refine rz_iload_n G 2 rfl rfl (dq jX11_comesDown 95 rfl) ?_
    refine rz_callVv G (st := []) (c_X11_hurts (cLn Γ) x1 x2) lkX11_384 sh56 rfl rfl rfl (Nat.le_of_ble_eq_true rfl) (Nat.le_of_ble_eq_true rfl) (dq jX11_comesDown 96 rfl) rfl (fun _ => ?_)
    refine rz_aload_n G 0 rfl rfl (dq jX11_comesDown 97 rfl) ?_
    refine rz_getC G flX11_111 sh56 (t := 83) rfl rfl (dq jX11_comesDown 98 rfl) ?_
    refine rz_bipush G (v := 6) (dq jX11_comesDown 99 rfl) (by decide) ?_
    refine rz_iload_n G 1 rfl rfl (dq jX11_comesDown 100 rfl) ?_
    refine rz_imul G (dq jX11_comesDown 101 rfl) ?_
    refine rz_iconst G (v := 5) (dq jX11_comesDown 102 rfl) rfl ?_
    refine rz_iadd G (dq jX11_comesDown 103 rfl) ?_
    refine rz_lti (fun w2 e_w2 => ?_)
    refine rz_dup2 G rfl rfl (dq jX11_comesDown 104 rfl) ?_
    refine rz_iald G sh83 (dq jX11_comesDown 105 rfl) (fun v3 => ?_)
    refine rz_iconst G (v := 1) (dq jX11_comesDown 106 rfl) rfl ?_
    refine rz_iadd G (dq jX11_comesDown 107 rfl) ?_
    refine rz_iast G sh83 (dq jX11_comesDown 108 rfl) ?_
    exact rz_lv [0, 1, 2, 3] rfl (z_X11_comesDown_b179 G x1 x2 x3)
theorem z_X11_comesDown_b69 {Γ : Cx} (G : GG Γ RX11 cX11_comesDown 6 none 2 0 0) : ∀ (fu : Nat) (x1 : Int32) (x2 : Int32) (x3 : Int32) (x4 : Int32) (x5 : Int32), Rz Γ 6 (Qm Γ encV 0 0) 0 0 69 [(0, .ref 56), (1, .int x1), (2, .int x2), (3, .int x3), (4, .int x4), (5, .int x5)] [] (f_X11_comesDown_b69 fu x1 x2 x3 x4 x5) := by
  intro fu
  induction fu with
  | zero => intro _ _ _ _ _; exact rz_none
  | succ fu ih =>
    intro x1 x2 x3 x4 x5
    rw [f_X11_comesDown_b69]
    refine rz_iload G 5 rfl (dq jX11_comesDown 45 rfl) ?_
    refine rz_aload_n G 0 rfl rfl (dq jX11_comesDown 46 rfl) ?_
    refine rz_getI G flX11_323 sh56 rfl (dq jX11_comesDown 47 rfl) (fun v1 => ?_)
    refine rz_icmp_ge G (tgt := 153) rfl (dq jX11_comesDown 48 rfl) (fun c2 => ?_) (fun c2 => ?_)
    · exact rz_lv [0, 1, 2, 3, 4] rfl (z_X11_comesDown_b153 G x1 x2 x3 x4)
    · refine rz_iload G 5 rfl (dq jX11_comesDown 49 rfl) ?_
      refine rz_iload_n G 1 rfl rfl (dq jX11_comesDown 50 rfl) ?_
      refine rz_icmp_eq G (tgt := 147) rfl (dq jX11_comesDown 51 rfl) (fun c3 => ?_) (fun c3 => ?_)
      · exact rz_lv [0, 1, 2, 3, 4, 5] rfl (z_X11_comesDown_b147 G (f_X11_comesDown_b69 fu) ih x1 x2 x3 x4 x5)
      · refine rz_aload_n G 0 rfl rfl (dq jX11_comesDown 52 rfl) ?_
        refine rz_getC G flX11_81 sh56 (t := 73) rfl rfl (dq jX11_comesDown 53 rfl) ?_
        refine rz_iload G 5 rfl (dq jX11_comesDown 54 rfl) ?_
        refine rz_iald G sh73 (dq jX11_comesDown 55 rfl) (fun v4 => ?_)
        refine rz_iconst G (v := 2) (dq jX11_comesDown 56 rfl) rfl ?_
        refine rz_icmp_ne G (tgt := 147) rfl (dq jX11_comesDown 57 rfl) (fun c5 => ?_) (fun c5 => ?_)
        · refine rz_aload_n G 0 rfl rfl (dq jX11_comesDown 58 rfl) ?_
          refine rz_getC G flX11_84 sh56 (t := 74) rfl rfl (dq jX11_comesDown 59 rfl) ?_
          refine rz_iload G 5 rfl (dq jX11_comesDown 60 rfl) ?_
          refine rz_iald G sh74 (dq jX11_comesDown 61 rfl) (fun v6 => ?_)
          refine rz_aload_n G 0 rfl rfl (dq jX11_comesDown 62 rfl) ?_
          refine rz_getC G flX11_84 sh56 (t := 74) rfl rfl (dq jX11_comesDown 63 rfl) ?_
          refine rz_iload_n G 1 rfl rfl (dq jX11_comesDown 64 rfl) ?_
          refine rz_iald G sh74 (dq jX11_comesDown 65 rfl) (fun v7 => ?_)
          refine rz_callSi G (st := []) (c_X11_off (cLn Γ) v6 v7) lkX11_391 rfl (Nat.le_of_ble_eq_true rfl) (Nat.le_of_ble_eq_true rfl) (dq jX11_comesDown 66 rfl) rfl (fun r8 => ?_)
          refine rz_aload_n G 0 rfl rfl (dq jX11_comesDown 67 rfl) ?_
          refine rz_getI G flX11_19 sh56 rfl (dq jX11_comesDown 68 rfl) (fun v9 => ?_)
          refine rz_icmp_le G (tgt := 121) rfl (dq jX11_comesDown 69 rfl) (fun c10 => ?_) (fun c10 => ?_)
          · refine rz_iconst G (v := 1) (dq jX11_comesDown 71 rfl) rfl ?_
            refine rz_istore G (lv' := [(4, .int 1), (0, .ref 56), (1, .int x1), (2, .int x2), (3, .int x3), (5, .int x5)]) (Nat.le_of_ble_eq_true rfl) rfl (dq jX11_comesDown 72 rfl) ?_
            refine rz_aload_n G 1 rfl rfl (dq jX11_comesDown 73 rfl) ?_
            refine rz_iload G 5 rfl (dq jX11_comesDown 74 rfl) ?_
            refine rz_iload_n G 3 rfl rfl (dq jX11_comesDown 75 rfl) ?_
            refine rz_callVv G (st := []) (c_X11_hurts (cLn Γ) x5 x2) lkX11_384 sh56 rfl rfl rfl (Nat.le_of_ble_eq_true rfl) (Nat.le_of_ble_eq_true rfl) (dq jX11_comesDown 76 rfl) rfl (fun _ => ?_)
            refine rz_aload_n G 1 rfl rfl (dq jX11_comesDown 77 rfl) ?_
            refine rz_getC G flX11_111 sh56 (t := 83) rfl rfl (dq jX11_comesDown 78 rfl) ?_
            refine rz_bipush G (v := 6) (dq jX11_comesDown 79 rfl) (by decide) ?_
            refine rz_iload G 5 rfl (dq jX11_comesDown 80 rfl) ?_
            refine rz_imul G (dq jX11_comesDown 81 rfl) ?_
            refine rz_iconst G (v := 5) (dq jX11_comesDown 82 rfl) rfl ?_
            refine rz_iadd G (dq jX11_comesDown 83 rfl) ?_
            refine rz_lti (fun w11 e_w11 => ?_)
            refine rz_dup2 G rfl rfl (dq jX11_comesDown 84 rfl) ?_
            refine rz_iald G sh83 (dq jX11_comesDown 85 rfl) (fun v12 => ?_)
            refine rz_iconst G (v := 1) (dq jX11_comesDown 86 rfl) rfl ?_
            refine rz_iadd G (dq jX11_comesDown 87 rfl) ?_
            refine rz_iast G sh83 (dq jX11_comesDown 88 rfl) ?_
            exact rz_lv [1, 2, 3, 4, 0, 5] rfl (z_X11_comesDown_b147 G (f_X11_comesDown_b69 fu) ih x1 x2 x3 1 x5)
          · refine rz_goto G (tgt := 147) rfl (dq jX11_comesDown 70 rfl) ?_
            exact rz_lv [0, 1, 2, 3, 4, 5] rfl (z_X11_comesDown_b147 G (f_X11_comesDown_b69 fu) ih x1 x2 x3 x4 x5)
        · exact rz_lv [0, 1, 2, 3, 4, 5] rfl (z_X11_comesDown_b147 G (f_X11_comesDown_b69 fu) ih x1 x2 x3 x4 x5)
theorem c_X11_comesDown (l : Launch) (x1 : Int32) (x2 : Int32) : Ct l yX11_comesDown cX11_comesDown 6 none 2 encV [.ref 56, .int x1, .int x2] (f_X11_comesDown x1 x2) := by
  refine ct_of (own := RX11) (by decide) rfl (Nat.le_of_ble_eq_true rfl) (fun Γ hl G => ?_)
  show Rz Γ 6 (Qm Γ encV 0 0) 0 0 0 [(0, .ref 56), (1, .int x1), (2, .int x2)] [] _
  unfold f_X11_comesDown
  refine rz_aload_n G 0 rfl rfl (dq jX11_comesDown 0 rfl) ?_
  refine rz_iload_n G 1 rfl rfl (dq jX11_comesDown 1 rfl) ?_
  refine rz_callVi G (st := []) (c_X11_weight (cLn Γ) x1) lkX11_364 sh56 rfl rfl rfl (Nat.le_of_ble_eq_true rfl) (Nat.le_of_ble_eq_true rfl) (dq jX11_comesDown 2 rfl) rfl (fun r1 => ?_)
  refine rz_aload_n G 0 rfl rfl (dq jX11_comesDown 3 rfl) ?_
  refine rz_getC G flX11_90 sh56 (t := 76) rfl rfl (dq jX11_comesDown 4 rfl) ?_
  refine rz_iload_n G 1 rfl rfl (dq jX11_comesDown 5 rfl) ?_
  refine rz_iald G sh76 (dq jX11_comesDown 6 rfl) (fun v2 => ?_)
  refine rz_imul G (dq jX11_comesDown 7 rfl) ?_
  refine rz_istore_n G (lv' := [(3, .int (r1 * v2)), (0, .ref 56), (1, .int x1), (2, .int x2)]) rfl (Nat.le_of_ble_eq_true rfl) rfl (dq jX11_comesDown 8 rfl) ?_
  refine rz_aload_n G 1 rfl rfl (dq jX11_comesDown 9 rfl) ?_
  refine rz_getC G flX11_84 sh56 (t := 74) rfl rfl (dq jX11_comesDown 10 rfl) ?_
  refine rz_iload_n G 2 rfl rfl (dq jX11_comesDown 11 rfl) ?_
  refine rz_iald G sh74 (dq jX11_comesDown 12 rfl) (fun v3 => ?_)
  refine rz_aload_n G 1 rfl rfl (dq jX11_comesDown 13 rfl) ?_
  refine rz_getI G flX11_13 sh56 rfl (dq jX11_comesDown 14 rfl) (fun v4 => ?_)
  refine rz_icmp_gt G (tgt := 41) rfl (dq jX11_comesDown 15 rfl) (fun c5 => ?_) (fun c5 => ?_)
  · exact rz_lv [1, 2, 3, 0] rfl (z_X11_comesDown_b41 G x1 x2 (r1 * v2))
  · refine rz_aload_n G 1 rfl rfl (dq jX11_comesDown 16 rfl) ?_
    refine rz_getC G flX11_84 sh56 (t := 74) rfl rfl (dq jX11_comesDown 17 rfl) ?_
    refine rz_iload_n G 2 rfl rfl (dq jX11_comesDown 18 rfl) ?_
    refine rz_iald G sh74 (dq jX11_comesDown 19 rfl) (fun v6 => ?_)
    refine rz_iconst G (v := 0) (dq jX11_comesDown 20 rfl) rfl ?_
    refine rz_aload_n G 1 rfl rfl (dq jX11_comesDown 21 rfl) ?_
    refine rz_getI G flX11_13 sh56 rfl (dq jX11_comesDown 22 rfl) (fun v7 => ?_)
    refine rz_isub G (dq jX11_comesDown 23 rfl) ?_
    refine rz_icmp_ge G (tgt := 63) rfl (dq jX11_comesDown 24 rfl) (fun c8 => ?_) (fun c8 => ?_)
    · refine rz_iconst G (v := 0) (dq jX11_comesDown 41 rfl) rfl ?_
      refine rz_istore G (lv' := [(4, .int 0), (3, .int (r1 * v2)), (0, .ref 56), (1, .int x1), (2, .int x2)]) (Nat.le_of_ble_eq_true rfl) rfl (dq jX11_comesDown 42 rfl) ?_
      refine rz_iconst G (v := 0) (dq jX11_comesDown 43 rfl) rfl ?_
      refine rz_istore G (lv' := [(5, .int 0), (4, .int 0), (3, .int (r1 * v2)), (0, .ref 56), (1, .int x1), (2, .int x2)]) (Nat.le_of_ble_eq_true rfl) rfl (dq jX11_comesDown 44 rfl) ?_
      exact rz_lv [3, 4, 5, 2, 1, 0] rfl (z_X11_comesDown_b69 G FU x1 x2 (r1 * v2) 0 0)
    · exact rz_lv [1, 2, 3, 0] rfl (z_X11_comesDown_b41 G x1 x2 (r1 * v2))
theorem c_X11_then (l : Launch) (x1 : Int32) (x2 : Int32) (x3 : Int32) : Ct l yX11_then cX11_then 5 (some .int) 1 encI [.ref 56, .int x1, .int x2, .int x3] (f_X11_then x1 x2 x3) := by
  refine ct_of (own := RX11) (by decide) rfl (Nat.le_of_ble_eq_true rfl) (fun Γ hl G => ?_)
  show Rz Γ 5 (Qm Γ encI 0 0) 0 0 0 [(0, .ref 56), (1, .int x1), (2, .int x2), (3, .int x3)] [] _
  unfold f_X11_then
  refine rz_iload_n G 1 rfl rfl (dq jX11_then 0 rfl) ?_
  refine rz_iload_n G 1 rfl rfl (dq jX11_then 1 rfl) ?_
  refine rz_iload_n G 2 rfl rfl (dq jX11_then 2 rfl) ?_
  refine rz_imul G (dq jX11_then 3 rfl) ?_
  refine rz_bipush G (v := 40) (dq jX11_then 4 rfl) (by decide) ?_
  refine rz_idivN G (by decide) (dq jX11_then 5 rfl) ?_
  refine rz_iadd G (dq jX11_then 6 rfl) ?_
  refine rz_aload_n G 0 rfl rfl (dq jX11_then 7 rfl) ?_
  refine rz_getI G flX11_320 sh56 rfl (dq jX11_then 8 rfl) (fun v1 => ?_)
  refine rz_iadd G (dq jX11_then 9 rfl) ?_
  refine rz_lti (fun w2 e_w2 => ?_)
  refine rz_istore G (lv' := [(4, .int w2), (0, .ref 56), (1, .int x1), (2, .int x2), (3, .int x3)]) (Nat.le_of_ble_eq_true rfl) rfl (dq jX11_then 10 rfl) ?_
  refine rz_iload G 0 rfl (dq jX11_then 11 rfl) ?_
  refine rz_if_le G (tgt := 35) rfl (dq jX11_then 12 rfl) (fun c3 => ?_) (fun c3 => ?_)
  · refine rz_iconst G (v := 0) (dq jX11_then 22 rfl) rfl ?_
    refine rz_iload G 0 rfl (dq jX11_then 23 rfl) ?_
    refine rz_isub G (dq jX11_then 24 rfl) ?_
    refine rz_iload_n G 4 rfl rfl (dq jX11_then 25 rfl) ?_
    refine rz_icmp_le G (tgt := 50) rfl (dq jX11_then 26 rfl) (fun c4 => ?_) (fun c4 => ?_)
    · refine rz_iconst G (v := 0) (dq jX11_then 31 rfl) rfl ?_
      exact rz_iret G (dq jX11_then 32 rfl)
    · refine rz_iload G 0 rfl (dq jX11_then 27 rfl) ?_
      refine rz_iload_n G 4 rfl rfl (dq jX11_then 28 rfl) ?_
      refine rz_iadd G (dq jX11_then 29 rfl) ?_
      refine rz_goto G (tgt := 51) rfl (dq jX11_then 30 rfl) ?_
      exact rz_iret G (dq jX11_then 32 rfl)
  · refine rz_iload G 0 rfl (dq jX11_then 13 rfl) ?_
    refine rz_iload_n G 4 rfl rfl (dq jX11_then 14 rfl) ?_
    refine rz_icmp_le G (tgt := 33) rfl (dq jX11_then 15 rfl) (fun c5 => ?_) (fun c5 => ?_)
    · refine rz_iconst G (v := 0) (dq jX11_then 20 rfl) rfl ?_
      exact rz_iret G (dq jX11_then 21 rfl)
    · refine rz_iload G 0 rfl (dq jX11_then 16 rfl) ?_
      refine rz_iload_n G 4 rfl rfl (dq jX11_then 17 rfl) ?_
      refine rz_isub G (dq jX11_then 18 rfl) ?_
      refine rz_goto G (tgt := 34) rfl (dq jX11_then 19 rfl) ?_
      exact rz_iret G (dq jX11_then 21 rfl)
theorem z_X11_goesUp_b35 {Γ : Cx} (G : GG Γ RX11 cX11_goesUp 4 none 2 0 0) (x1 : Int32) (x2 : Int32) (x3 : Int32) (xs0 : Int32) (xs1 : Int32) : Rz Γ 4 (Qm Γ encV 0 0) 0 0 35 [(0, .ref 56), (1, .int x1), (2, .int x2), (3, .int x3)] [.int xs0, .int xs1, .ref 79] (f_X11_goesUp_b35 x1 x2 x3 xs0 xs1) := by
  unfold f_X11_goesUp_b35
  refine rz_iast G sh79 (dq jX11_goesUp 23 rfl) ?_
  refine rz_aload_n G 0 rfl rfl (dq jX11_goesUp 24 rfl) ?_
  refine rz_getC G flX11_102 sh56 (t := 80) rfl rfl (dq jX11_goesUp 25 rfl) ?_
  refine rz_iload_n G 1 rfl rfl (dq jX11_goesUp 26 rfl) ?_
  refine rz_dup2 G rfl rfl (dq jX11_goesUp 27 rfl) ?_
  refine rz_iald G sh80 (dq jX11_goesUp 28 rfl) (fun v1 => ?_)
  refine rz_iload_n G 2 rfl rfl (dq jX11_goesUp 29 rfl) ?_
  refine rz_iadd G (dq jX11_goesUp 30 rfl) ?_
  refine rz_iast G sh80 (dq jX11_goesUp 31 rfl) ?_
  refine rz_aload_n G 0 rfl rfl (dq jX11_goesUp 32 rfl) ?_
  refine rz_getC G flX11_81 sh56 (t := 73) rfl rfl (dq jX11_goesUp 33 rfl) ?_
  refine rz_iload_n G 1 rfl rfl (dq jX11_goesUp 34 rfl) ?_
  refine rz_iconst G (v := 1) (dq jX11_goesUp 35 rfl) rfl ?_
  refine rz_iast G sh73 (dq jX11_goesUp 36 rfl) ?_
  refine rz_aload_n G 0 rfl rfl (dq jX11_goesUp 37 rfl) ?_
  refine rz_getC G flX11_93 sh56 (t := 77) rfl rfl (dq jX11_goesUp 38 rfl) ?_
  refine rz_iload_n G 1 rfl rfl (dq jX11_goesUp 39 rfl) ?_
  refine rz_iload_n G 3 rfl rfl (dq jX11_goesUp 40 rfl) ?_
  refine rz_iast G sh77 (dq jX11_goesUp 41 rfl) ?_
  refine rz_aload_n G 0 rfl rfl (dq jX11_goesUp 42 rfl) ?_
  refine rz_getC G flX11_90 sh56 (t := 76) rfl rfl (dq jX11_goesUp 43 rfl) ?_
  refine rz_iload_n G 1 rfl rfl (dq jX11_goesUp 44 rfl) ?_
  refine rz_iload_n G 2 rfl rfl (dq jX11_goesUp 45 rfl) ?_
  refine rz_iast G sh76 (dq jX11_goesUp 46 rfl) ?_
  refine rz_aload_n G 0 rfl rfl (dq jX11_goesUp 47 rfl) ?_
  refine rz_getC G flX11_87 sh56 (t := 75) rfl rfl (dq jX11_goesUp 48 rfl) ?_
  refine rz_iload_n G 1 rfl rfl (dq jX11_goesUp 49 rfl) ?_
  refine rz_iload_n G 3 rfl rfl (dq jX11_goesUp 50 rfl) ?_
  refine rz_iconst G (v := 2) (dq jX11_goesUp 51 rfl) rfl ?_
  refine rz_iadd G (dq jX11_goesUp 52 rfl) ?_
  refine rz_iload_n G 2 rfl rfl (dq jX11_goesUp 53 rfl) ?_
  refine rz_iconst G (v := 2) (dq jX11_goesUp 54 rfl) rfl ?_
  refine rz_idivN G (by decide) (dq jX11_goesUp 55 rfl) ?_
  refine rz_iadd G (dq jX11_goesUp 56 rfl) ?_
  refine rz_iast G sh75 (dq jX11_goesUp 57 rfl) ?_
  refine rz_aload_n G 0 rfl rfl (dq jX11_goesUp 58 rfl) ?_
  refine rz_getC G flX11_84 sh56 (t := 74) rfl rfl (dq jX11_goesUp 59 rfl) ?_
  refine rz_iload_n G 1 rfl rfl (dq jX11_goesUp 60 rfl) ?_
  refine rz_aload_n G 0 rfl rfl (dq jX11_goesUp 61 rfl) ?_
  refine rz_aload_n G 0 rfl rfl (dq jX11_goesUp 62 rfl) ?_
  refine rz_getC G flX11_84 sh56 (t := 74) rfl rfl (dq jX11_goesUp 63 rfl) ?_
  refine rz_iload_n G 1 rfl rfl (dq jX11_goesUp 64 rfl) ?_
  refine rz_iald G sh74 (dq jX11_goesUp 65 rfl) (fun v2 => ?_)
  refine rz_iload_n G 2 rfl rfl (dq jX11_goesUp 66 rfl) ?_
  refine rz_aload_n G 0 rfl rfl (dq jX11_goesUp 67 rfl) ?_
  refine rz_getC G flX11_26 sh56 (t := 58) rfl rfl (dq jX11_goesUp 68 rfl) ?_
  refine rz_bipush G (v := 6) (dq jX11_goesUp 69 rfl) (by decide) ?_
  refine rz_iload_n G 1 rfl rfl (dq jX11_goesUp 70 rfl) ?_
  refine rz_imul G (dq jX11_goesUp 71 rfl) ?_
  refine rz_iconst G (v := 5) (dq jX11_goesUp 72 rfl) rfl ?_
  refine rz_iadd G (dq jX11_goesUp 73 rfl) ?_
  refine rz_iald G sh58 (dq jX11_goesUp 74 rfl) (fun v3 => ?_)
  refine rz_callVi G (st := [.int x1, .ref 74]) (c_X11_then (cLn Γ) v2 x2 v3) lkX11_409 sh56 rfl rfl rfl (Nat.le_of_ble_eq_true rfl) (Nat.le_of_ble_eq_true rfl) (dq jX11_goesUp 75 rfl) rfl (fun r4 => ?_)
  refine rz_iast G sh74 (dq jX11_goesUp 76 rfl) ?_
  exact rz_vret G (dq jX11_goesUp 77 rfl)
theorem c_X11_goesUp (l : Launch) (x1 : Int32) (x2 : Int32) (x3 : Int32) : Ct l yX11_goesUp cX11_goesUp 4 none 2 encV [.ref 56, .int x1, .int x2, .int x3] (f_X11_goesUp x1 x2 x3) := by
  refine ct_of (own := RX11) (by decide) rfl (Nat.le_of_ble_eq_true rfl) (fun Γ hl G => ?_)
  show Rz Γ 4 (Qm Γ encV 0 0) 0 0 0 [(0, .ref 56), (1, .int x1), (2, .int x2), (3, .int x3)] [] _
  unfold f_X11_goesUp
  refine rz_aload_n G 0 rfl rfl (dq jX11_goesUp 0 rfl) ?_
  refine rz_getC G flX11_96 sh56 (t := 78) rfl rfl (dq jX11_goesUp 1 rfl) ?_
  refine rz_iload_n G 1 rfl rfl (dq jX11_goesUp 2 rfl) ?_
  refine rz_dup2 G rfl rfl (dq jX11_goesUp 3 rfl) ?_
  refine rz_iald G sh78 (dq jX11_goesUp 4 rfl) (fun v1 => ?_)
  refine rz_iconst G (v := 1) (dq jX11_goesUp 5 rfl) rfl ?_
  refine rz_iadd G (dq jX11_goesUp 6 rfl) ?_
  refine rz_iast G sh78 (dq jX11_goesUp 7 rfl) ?_
  refine rz_aload_n G 0 rfl rfl (dq jX11_goesUp 8 rfl) ?_
  refine rz_getC G flX11_99 sh56 (t := 79) rfl rfl (dq jX11_goesUp 9 rfl) ?_
  refine rz_iload_n G 1 rfl rfl (dq jX11_goesUp 10 rfl) ?_
  refine rz_iload_n G 2 rfl rfl (dq jX11_goesUp 11 rfl) ?_
  refine rz_aload_n G 0 rfl rfl (dq jX11_goesUp 12 rfl) ?_
  refine rz_getC G flX11_99 sh56 (t := 79) rfl rfl (dq jX11_goesUp 13 rfl) ?_
  refine rz_iload_n G 1 rfl rfl (dq jX11_goesUp 14 rfl) ?_
  refine rz_iald G sh79 (dq jX11_goesUp 15 rfl) (fun v2 => ?_)
  refine rz_icmp_le G (tgt := 29) rfl (dq jX11_goesUp 16 rfl) (fun c3 => ?_) (fun c3 => ?_)
  · refine rz_aload_n G 0 rfl rfl (dq jX11_goesUp 19 rfl) ?_
    refine rz_getC G flX11_99 sh56 (t := 79) rfl rfl (dq jX11_goesUp 20 rfl) ?_
    refine rz_iload_n G 1 rfl rfl (dq jX11_goesUp 21 rfl) ?_
    refine rz_iald G sh79 (dq jX11_goesUp 22 rfl) (fun v4 => ?_)
    exact rz_lv [0, 1, 2, 3] rfl (z_X11_goesUp_b35 G x1 x2 x3 v4 x1)
  · refine rz_iload_n G 2 rfl rfl (dq jX11_goesUp 17 rfl) ?_
    refine rz_goto G (tgt := 35) rfl (dq jX11_goesUp 18 rfl) ?_
    exact rz_lv [0, 1, 2, 3] rfl (z_X11_goesUp_b35 G x1 x2 x3 x2 x1)
theorem z_X11_clears_b86 {Γ : Cx} (G : GG Γ RX11 cX11_clears 4 none 1 0 0) (k2 : Int32 → Int32 → Sg → Option (Unit × Sg)) (hk2 : ∀ (x1 : Int32) (x2 : Int32), Rz Γ 4 (Qm Γ encV 0 0) 0 0 2 [(0, .ref 56), (1, .int x1), (2, .int x2)] [] (k2 x1 x2)) (x1 : Int32) (x2 : Int32) (xs0 : Int32) (xs1 : Int32) : Rz Γ 4 (Qm Γ encV 0 0) 0 0 86 [(0, .ref 56), (1, .int x1), (2, .int x2)] [.int xs0, .int xs1, .ref 75] (f_X11_clears_b86 k2 x1 x2 xs0 xs1) := by
  unfold f_X11_clears_b86
  refine rz_iast G sh75 (dq jX11_clears 56 rfl) ?_
  refine rz_aload_n G 0 rfl rfl (dq jX11_clears 57 rfl) ?_
  refine rz_getC G flX11_90 sh56 (t := 76) rfl rfl (dq jX11_clears 58 rfl) ?_
  refine rz_iload_n G 2 rfl rfl (dq jX11_clears 59 rfl) ?_
  refine rz_aload_n G 0 rfl rfl (dq jX11_clears 60 rfl) ?_
  refine rz_getC G flX11_26 sh56 (t := 58) rfl rfl (dq jX11_clears 61 rfl) ?_
  refine rz_bipush G (v := 6) (dq jX11_clears 62 rfl) (by decide) ?_
  refine rz_iload_n G 2 rfl rfl (dq jX11_clears 63 rfl) ?_
  refine rz_imul G (dq jX11_clears 64 rfl) ?_
  refine rz_iconst G (v := 4) (dq jX11_clears 65 rfl) rfl ?_
  refine rz_iadd G (dq jX11_clears 66 rfl) ?_
  refine rz_iald G sh58 (dq jX11_clears 67 rfl) (fun v1 => ?_)
  refine rz_iast G sh76 (dq jX11_clears 68 rfl) ?_
  refine rz_aload_n G 0 rfl rfl (dq jX11_clears 69 rfl) ?_
  refine rz_getC G flX11_93 sh56 (t := 77) rfl rfl (dq jX11_clears 70 rfl) ?_
  refine rz_iload_n G 2 rfl rfl (dq jX11_clears 71 rfl) ?_
  refine rz_iconst G (v := 0) (dq jX11_clears 72 rfl) rfl ?_
  refine rz_iast G sh77 (dq jX11_clears 73 rfl) ?_
  refine rz_aload_n G 0 rfl rfl (dq jX11_clears 74 rfl) ?_
  refine rz_getC G flX11_96 sh56 (t := 78) rfl rfl (dq jX11_clears 75 rfl) ?_
  refine rz_iload_n G 2 rfl rfl (dq jX11_clears 76 rfl) ?_
  refine rz_iconst G (v := 0) (dq jX11_clears 77 rfl) rfl ?_
  refine rz_iast G sh78 (dq jX11_clears 78 rfl) ?_
  refine rz_aload_n G 0 rfl rfl (dq jX11_clears 79 rfl) ?_
  refine rz_getC G flX11_99 sh56 (t := 79) rfl rfl (dq jX11_clears 80 rfl) ?_
  refine rz_iload_n G 2 rfl rfl (dq jX11_clears 81 rfl) ?_
  refine rz_iconst G (v := 0) (dq jX11_clears 82 rfl) rfl ?_
  refine rz_iast G sh79 (dq jX11_clears 83 rfl) ?_
  refine rz_aload_n G 0 rfl rfl (dq jX11_clears 84 rfl) ?_
  refine rz_getC G flX11_102 sh56 (t := 80) rfl rfl (dq jX11_clears 85 rfl) ?_
  refine rz_iload_n G 2 rfl rfl (dq jX11_clears 86 rfl) ?_
  refine rz_iconst G (v := 0) (dq jX11_clears 87 rfl) rfl ?_
  refine rz_iast G sh80 (dq jX11_clears 88 rfl) ?_
  refine rz_aload_n G 0 rfl rfl (dq jX11_clears 89 rfl) ?_
  refine rz_getC G flX11_105 sh56 (t := 81) rfl rfl (dq jX11_clears 90 rfl) ?_
  refine rz_iload_n G 2 rfl rfl (dq jX11_clears 91 rfl) ?_
  refine rz_iconst G (v := 0) (dq jX11_clears 92 rfl) rfl ?_
  refine rz_iast G sh81 (dq jX11_clears 93 rfl) ?_
  refine rz_aload_n G 0 rfl rfl (dq jX11_clears 94 rfl) ?_
  refine rz_getC G flX11_108 sh56 (t := 82) rfl rfl (dq jX11_clears 95 rfl) ?_
  refine rz_iload_n G 2 rfl rfl (dq jX11_clears 96 rfl) ?_
  refine rz_iconst G (v := 0) (dq jX11_clears 97 rfl) rfl ?_
  refine rz_iast G sh82 (dq jX11_clears 98 rfl) ?_
  refine rz_iinc G 2 (v := x2 + 1) (lv' := [(2, .int (x2 + 1)), (0, .ref 56), (1, .int x1)]) rfl (congrArg (HAdd.hAdd _) (by decide)) (Nat.le_of_ble_eq_true rfl) rfl (dq jX11_clears 99 rfl) ?_
  refine rz_goto G (tgt := 2) rfl (dq jX11_clears 100 rfl) ?_
  exact rz_lv [1, 2, 0] rfl (hk2 x1 (x2 + 1))
theorem z_X11_clears_b44 {Γ : Cx} (G : GG Γ RX11 cX11_clears 4 none 1 0 0) (k2 : Int32 → Int32 → Sg → Option (Unit × Sg)) (hk2 : ∀ (x1 : Int32) (x2 : Int32), Rz Γ 4 (Qm Γ encV 0 0) 0 0 2 [(0, .ref 56), (1, .int x1), (2, .int x2)] [] (k2 x1 x2)) (x1 : Int32) (x2 : Int32) (x3 : Int32) (xs0 : Int32) (xs1 : Int32) : Rz Γ 4 (Qm Γ encV 0 0) 0 0 44 [(0, .ref 56), (1, .int x1), (2, .int x2), (3, .int x3)] [.int xs0, .int xs1, .ref 73] (f_X11_clears_b44 k2 x1 x2 x3 xs0 xs1) := by
  unfold f_X11_clears_b44
  refine rz_iast G sh73 (dq jX11_clears 28 rfl) ?_
  refine rz_aload_n G 0 rfl rfl (dq jX11_clears 29 rfl) ?_
  refine rz_getC G flX11_84 sh56 (t := 74) rfl rfl (dq jX11_clears 30 rfl) ?_
  refine rz_iload_n G 2 rfl rfl (dq jX11_clears 31 rfl) ?_
  refine rz_aload_n G 0 rfl rfl (dq jX11_clears 32 rfl) ?_
  refine rz_getC G flX11_26 sh56 (t := 58) rfl rfl (dq jX11_clears 33 rfl) ?_
  refine rz_bipush G (v := 6) (dq jX11_clears 34 rfl) (by decide) ?_
  refine rz_iload_n G 2 rfl rfl (dq jX11_clears 35 rfl) ?_
  refine rz_imul G (dq jX11_clears 36 rfl) ?_
  refine rz_iconst G (v := 2) (dq jX11_clears 37 rfl) rfl ?_
  refine rz_iadd G (dq jX11_clears 38 rfl) ?_
  refine rz_iald G sh58 (dq jX11_clears 39 rfl) (fun v1 => ?_)
  refine rz_iast G sh74 (dq jX11_clears 40 rfl) ?_
  refine rz_aload_n G 0 rfl rfl (dq jX11_clears 41 rfl) ?_
  refine rz_getC G flX11_87 sh56 (t := 75) rfl rfl (dq jX11_clears 42 rfl) ?_
  refine rz_iload_n G 2 rfl rfl (dq jX11_clears 43 rfl) ?_
  refine rz_iload_n G 3 rfl rfl (dq jX11_clears 44 rfl) ?_
  refine rz_if_eq G (tgt := 85) rfl (dq jX11_clears 45 rfl) (fun c2 => ?_) (fun c2 => ?_)
  · refine rz_iconst G (v := (-1)) (dq jX11_clears 55 rfl) rfl ?_
    exact rz_lv [0, 1, 2] rfl (z_X11_clears_b86 G k2 hk2 x1 x2 ((-1)) x2)
  · refine rz_aload_n G 0 rfl rfl (dq jX11_clears 46 rfl) ?_
    refine rz_getC G flX11_26 sh56 (t := 58) rfl rfl (dq jX11_clears 47 rfl) ?_
    refine rz_bipush G (v := 6) (dq jX11_clears 48 rfl) (by decide) ?_
    refine rz_iload_n G 2 rfl rfl (dq jX11_clears 49 rfl) ?_
    refine rz_imul G (dq jX11_clears 50 rfl) ?_
    refine rz_iconst G (v := 3) (dq jX11_clears 51 rfl) rfl ?_
    refine rz_iadd G (dq jX11_clears 52 rfl) ?_
    refine rz_iald G sh58 (dq jX11_clears 53 rfl) (fun v3 => ?_)
    refine rz_goto G (tgt := 86) rfl (dq jX11_clears 54 rfl) ?_
    exact rz_lv [0, 1, 2] rfl (z_X11_clears_b86 G k2 hk2 x1 x2 v3 x2)
theorem z_X11_clears_b29 {Γ : Cx} (G : GG Γ RX11 cX11_clears 4 none 1 0 0) (k2 : Int32 → Int32 → Sg → Option (Unit × Sg)) (hk2 : ∀ (x1 : Int32) (x2 : Int32), Rz Γ 4 (Qm Γ encV 0 0) 0 0 2 [(0, .ref 56), (1, .int x1), (2, .int x2)] [] (k2 x1 x2)) (x1 : Int32) (x2 : Int32) (xs0 : Int32) : Rz Γ 4 (Qm Γ encV 0 0) 0 0 29 [(0, .ref 56), (1, .int x1), (2, .int x2)] [.int xs0] (f_X11_clears_b29 k2 x1 x2 xs0) := by
  unfold f_X11_clears_b29
  refine rz_istore_n G (lv' := [(3, .int xs0), (0, .ref 56), (1, .int x1), (2, .int x2)]) rfl (Nat.le_of_ble_eq_true rfl) rfl (dq jX11_clears 19 rfl) ?_
  refine rz_aload_n G 1 rfl rfl (dq jX11_clears 20 rfl) ?_
  refine rz_getC G flX11_81 sh56 (t := 73) rfl rfl (dq jX11_clears 21 rfl) ?_
  refine rz_iload_n G 3 rfl rfl (dq jX11_clears 22 rfl) ?_
  refine rz_iload_n G 0 rfl rfl (dq jX11_clears 23 rfl) ?_
  refine rz_if_eq G (tgt := 43) rfl (dq jX11_clears 24 rfl) (fun c1 => ?_) (fun c1 => ?_)
  · refine rz_iconst G (v := 3) (dq jX11_clears 27 rfl) rfl ?_
    exact rz_lv [1, 2, 3, 0] rfl (z_X11_clears_b44 G k2 hk2 x1 x2 xs0 3 x2)
  · refine rz_iconst G (v := 0) (dq jX11_clears 25 rfl) rfl ?_
    refine rz_goto G (tgt := 44) rfl (dq jX11_clears 26 rfl) ?_
    exact rz_lv [1, 2, 3, 0] rfl (z_X11_clears_b44 G k2 hk2 x1 x2 xs0 0 x2)
theorem z_X11_clears_b28 {Γ : Cx} (G : GG Γ RX11 cX11_clears 4 none 1 0 0) (k2 : Int32 → Int32 → Sg → Option (Unit × Sg)) (hk2 : ∀ (x1 : Int32) (x2 : Int32), Rz Γ 4 (Qm Γ encV 0 0) 0 0 2 [(0, .ref 56), (1, .int x1), (2, .int x2)] [] (k2 x1 x2)) (x1 : Int32) (x2 : Int32) : Rz Γ 4 (Qm Γ encV 0 0) 0 0 28 [(0, .ref 56), (1, .int x1), (2, .int x2)] [] (f_X11_clears_b28 k2 x1 x2) := by
  unfold f_X11_clears_b28
  refine rz_iconst G (v := 0) (dq jX11_clears 18 rfl) rfl ?_
  exact rz_lv [0, 1, 2] rfl (z_X11_clears_b29 G k2 hk2 x1 x2 0)
theorem z_X11_clears_b173 {Γ : Cx} (G : GG Γ RX11 cX11_clears 4 none 1 0 0)  : Rz Γ 4 (Qm Γ encV 0 0) 0 0 173 [(0, .ref 56)] [] (f_X11_clears_b173 ) := by
  unfold f_X11_clears_b173
  refine rz_aload_n G 0 rfl rfl (dq jX11_clears 113 rfl) ?_
  refine rz_iconst G (v := 0) (dq jX11_clears 114 rfl) rfl ?_
  refine rz_putI G flX11_381 sh56 rfl (dq jX11_clears 115 rfl) ?_
  refine rz_aload_n G 0 rfl rfl (dq jX11_clears 116 rfl) ?_
  refine rz_iconst G (v := (-1)) (dq jX11_clears 117 rfl) rfl ?_
  refine rz_putI G flX11_394 sh56 rfl (dq jX11_clears 118 rfl) ?_
  refine rz_aload_n G 0 rfl rfl (dq jX11_clears 119 rfl) ?_
  refine rz_iconst G (v := 0) (dq jX11_clears 120 rfl) rfl ?_
  refine rz_putI G flX11_400 sh56 rfl (dq jX11_clears 121 rfl) ?_
  refine rz_aload_n G 0 rfl rfl (dq jX11_clears 122 rfl) ?_
  refine rz_iconst G (v := (-1)) (dq jX11_clears 123 rfl) rfl ?_
  refine rz_putI G flX11_397 sh56 rfl (dq jX11_clears 124 rfl) ?_
  refine rz_aload_n G 0 rfl rfl (dq jX11_clears 125 rfl) ?_
  refine rz_iconst G (v := 0) (dq jX11_clears 126 rfl) rfl ?_
  refine rz_putI G flX11_403 sh56 rfl (dq jX11_clears 127 rfl) ?_
  refine rz_aload_n G 0 rfl rfl (dq jX11_clears 128 rfl) ?_
  refine rz_iconst G (v := 0) (dq jX11_clears 129 rfl) rfl ?_
  refine rz_putI G flX11_406 sh56 rfl (dq jX11_clears 130 rfl) ?_
  refine rz_aload_n G 0 rfl rfl (dq jX11_clears 131 rfl) ?_
  refine rz_iconst G (v := 0) (dq jX11_clears 132 rfl) rfl ?_
  refine rz_putI G flX11_412 sh56 rfl (dq jX11_clears 133 rfl) ?_
  refine rz_aload_n G 0 rfl rfl (dq jX11_clears 134 rfl) ?_
  refine rz_iconst G (v := 0) (dq jX11_clears 135 rfl) rfl ?_
  refine rz_putI G flX11_415 sh56 rfl (dq jX11_clears 136 rfl) ?_
  refine rz_aload_n G 0 rfl rfl (dq jX11_clears 137 rfl) ?_
  refine rz_iconst G (v := (-1)) (dq jX11_clears 138 rfl) rfl ?_
  refine rz_putI G flX11_375 sh56 rfl (dq jX11_clears 139 rfl) ?_
  refine rz_aload_n G 0 rfl rfl (dq jX11_clears 140 rfl) ?_
  refine rz_iconst G (v := 0) (dq jX11_clears 141 rfl) rfl ?_
  refine rz_putI G flX11_378 sh56 rfl (dq jX11_clears 142 rfl) ?_
  exact rz_vret G (dq jX11_clears 143 rfl)
theorem z_X11_clears_b154 {Γ : Cx} (G : GG Γ RX11 cX11_clears 4 none 1 0 0) : ∀ (fu : Nat) (x2 : Int32), Rz Γ 4 (Qm Γ encV 0 0) 0 0 154 [(0, .ref 56), (2, .int x2)] [] (f_X11_clears_b154 fu x2) := by
  intro fu
  induction fu with
  | zero => intro _; exact rz_none
  | succ fu ih =>
    intro x2
    rw [f_X11_clears_b154]
    refine rz_iload_n G 1 rfl rfl (dq jX11_clears 103 rfl) ?_
    refine rz_bipush G (v := 24) (dq jX11_clears 104 rfl) (by decide) ?_
    refine rz_icmp_ge G (tgt := 173) rfl (dq jX11_clears 105 rfl) (fun c1 => ?_) (fun c1 => ?_)
    · exact rz_lv [0] rfl (z_X11_clears_b173 G)
    · refine rz_aload_n G 0 rfl rfl (dq jX11_clears 106 rfl) ?_
      refine rz_getC G flX11_111 sh56 (t := 83) rfl rfl (dq jX11_clears 107 rfl) ?_
      refine rz_iload_n G 1 rfl rfl (dq jX11_clears 108 rfl) ?_
      refine rz_iconst G (v := 0) (dq jX11_clears 109 rfl) rfl ?_
      refine rz_iast G sh83 (dq jX11_clears 110 rfl) ?_
      refine rz_iinc G 1 (v := x2 + 1) (lv' := [(2, .int (x2 + 1)), (0, .ref 56)]) rfl (congrArg (HAdd.hAdd _) (by decide)) (Nat.le_of_ble_eq_true rfl) rfl (dq jX11_clears 111 rfl) ?_
      refine rz_goto G (tgt := 154) rfl (dq jX11_clears 112 rfl) ?_
      exact rz_lv [1, 0] rfl (ih (x2 + 1))
theorem z_X11_clears_b152 {Γ : Cx} (G : GG Γ RX11 cX11_clears 4 none 1 0 0)  : Rz Γ 4 (Qm Γ encV 0 0) 0 0 152 [(0, .ref 56)] [] (f_X11_clears_b152 ) := by
  unfold f_X11_clears_b152
  refine rz_iconst G (v := 0) (dq jX11_clears 101 rfl) rfl ?_
  refine rz_istore_n G (lv' := [(2, .int 0), (0, .ref 56)]) rfl (Nat.le_of_ble_eq_true rfl) rfl (dq jX11_clears 102 rfl) ?_
  exact rz_lv [1, 0] rfl (z_X11_clears_b154 G FU 0)
theorem z_X11_clears_b2 {Γ : Cx} (G : GG Γ RX11 cX11_clears 4 none 1 0 0) : ∀ (fu : Nat) (x1 : Int32) (x2 : Int32), Rz Γ 4 (Qm Γ encV 0 0) 0 0 2 [(0, .ref 56), (1, .int x1), (2, .int x2)] [] (f_X11_clears_b2 fu x1 x2) := by
  intro fu
  induction fu with
  | zero => intro _ _; exact rz_none
  | succ fu ih =>
    intro x1 x2
    rw [f_X11_clears_b2]
    refine rz_iload_n G 2 rfl rfl (dq jX11_clears 2 rfl) ?_
    refine rz_iconst G (v := 4) (dq jX11_clears 3 rfl) rfl ?_
    refine rz_icmp_ge G (tgt := 152) rfl (dq jX11_clears 4 rfl) (fun c1 => ?_) (fun c1 => ?_)
    · exact rz_lv [0] rfl (z_X11_clears_b152 G)
    · refine rz_iload_n G 2 rfl rfl (dq jX11_clears 5 rfl) ?_
      refine rz_aload_n G 0 rfl rfl (dq jX11_clears 6 rfl) ?_
      refine rz_getI G flX11_323 sh56 rfl (dq jX11_clears 7 rfl) (fun v2 => ?_)
      refine rz_icmp_ge G (tgt := 28) rfl (dq jX11_clears 8 rfl) (fun c3 => ?_) (fun c3 => ?_)
      · exact rz_lv [0, 1, 2] rfl (z_X11_clears_b28 G (f_X11_clears_b2 fu) ih x1 x2)
      · refine rz_iload_n G 1 rfl rfl (dq jX11_clears 9 rfl) ?_
        refine rz_iload_n G 2 rfl rfl (dq jX11_clears 10 rfl) ?_
        refine rz_ishr G (dq jX11_clears 11 rfl) ?_
        refine rz_iconst G (v := 1) (dq jX11_clears 12 rfl) rfl ?_
        refine rz_iand G (dq jX11_clears 13 rfl) ?_
        refine rz_iconst G (v := 1) (dq jX11_clears 14 rfl) rfl ?_
        refine rz_icmp_ne G (tgt := 28) rfl (dq jX11_clears 15 rfl) (fun c4 => ?_) (fun c4 => ?_)
        · refine rz_iconst G (v := 1) (dq jX11_clears 16 rfl) rfl ?_
          refine rz_goto G (tgt := 29) rfl (dq jX11_clears 17 rfl) ?_
          exact rz_lv [0, 1, 2] rfl (z_X11_clears_b29 G (f_X11_clears_b2 fu) ih x1 x2 1)
        · exact rz_lv [0, 1, 2] rfl (z_X11_clears_b28 G (f_X11_clears_b2 fu) ih x1 x2)
theorem c_X11_clears (l : Launch) (x1 : Int32) : Ct l yX11_clears cX11_clears 4 none 1 encV [.ref 56, .int x1] (f_X11_clears x1) := by
  refine ct_of (own := RX11) (by decide) rfl (Nat.le_of_ble_eq_true rfl) (fun Γ hl G => ?_)
  show Rz Γ 4 (Qm Γ encV 0 0) 0 0 0 [(0, .ref 56), (1, .int x1)] [] _
  unfold f_X11_clears
  refine rz_iconst G (v := 0) (dq jX11_clears 0 rfl) rfl ?_
  refine rz_istore_n G (lv' := [(2, .int 0), (0, .ref 56), (1, .int x1)]) rfl (Nat.le_of_ble_eq_true rfl) rfl (dq jX11_clears 1 rfl) ?_
  exact rz_lv [1, 2, 0] rfl (z_X11_clears_b2 G FU x1 0)
