theorem z_X11_part_b91 {Γ : Cx} (G : GG Γ RX11 cX11_part 2 none 4 0 0)  : Rz Γ 2 (Qm Γ encV 0 0) 0 0 91 [(0, .ref 56)] [] (f_X11_part_b91 ) := by
  unfold f_X11_part_b91
  refine rz_aload_n G 0 rfl rfl (dq jX11_part 48 rfl) ?_
  refine rz_callVi G (st := []) (c_X11_isGood (cLn Γ)) lkX11_207 sh56 rfl rfl rfl (Nat.le_of_ble_eq_true rfl) (Nat.le_of_ble_eq_true rfl) (dq jX11_part 49 rfl) rfl (fun r1 => ?_)
  refine rz_if_eq G (tgt := 102) rfl (dq jX11_part 50 rfl) (fun c2 => ?_) (fun c2 => ?_)
  · exact rz_vret G (dq jX11_part 53 rfl)
  · refine rz_aload_n G 0 rfl rfl (dq jX11_part 51 rfl) ?_
    refine rz_callVv G (st := []) (c_X11_goes (cLn Γ)) lkX11_211 sh56 rfl rfl rfl (Nat.le_of_ble_eq_true rfl) (Nat.le_of_ble_eq_true rfl) (dq jX11_part 52 rfl) rfl (fun _ => ?_)
    exact rz_vret G (dq jX11_part 53 rfl)
theorem z_X11_part_b29 {Γ : Cx} (G : GG Γ RX11 cX11_part 2 none 4 0 0)  : Rz Γ 2 (Qm Γ encV 0 0) 0 0 29 [(0, .ref 56)] [] (f_X11_part_b29 ) := by
  unfold f_X11_part_b29
  refine rz_aload_n G 0 rfl rfl (dq jX11_part 15 rfl) ?_
  refine rz_iconst G (v := 1) (dq jX11_part 16 rfl) rfl ?_
  refine rz_callVv G (st := []) (c_X11_puts (cLn Γ) 1) lkX11_236 sh56 rfl rfl rfl (Nat.le_of_ble_eq_true rfl) (Nat.le_of_ble_eq_true rfl) (dq jX11_part 17 rfl) rfl (fun _ => ?_)
  refine rz_aload_n G 0 rfl rfl (dq jX11_part 18 rfl) ?_
  refine rz_aload_n G 0 rfl rfl (dq jX11_part 19 rfl) ?_
  refine rz_getI G flX11_175 sh56 rfl (dq jX11_part 20 rfl) (fun v1 => ?_)
  refine rz_callVv G (st := []) (c_X11_puts (cLn Γ) v1) lkX11_236 sh56 rfl rfl rfl (Nat.le_of_ble_eq_true rfl) (Nat.le_of_ble_eq_true rfl) (dq jX11_part 21 rfl) rfl (fun _ => ?_)
  refine rz_goto G (tgt := 91) rfl (dq jX11_part 22 rfl) ?_
  exact rz_lv [0] rfl (z_X11_part_b91 G)
theorem z_X11_part_b73 {Γ : Cx} (G : GG Γ RX11 cX11_part 2 none 4 0 0) (x1 : Int32) : Rz Γ 2 (Qm Γ encV 0 0) 0 0 73 [(0, .ref 56), (1, .int x1)] [] (f_X11_part_b73 x1) := by
  unfold f_X11_part_b73
  refine rz_aload_n G 0 rfl rfl (dq jX11_part 38 rfl) ?_
  refine rz_iconst G (v := 2) (dq jX11_part 39 rfl) rfl ?_
  refine rz_callVv G (st := []) (c_X11_puts (cLn Γ) 2) lkX11_236 sh56 rfl rfl rfl (Nat.le_of_ble_eq_true rfl) (Nat.le_of_ble_eq_true rfl) (dq jX11_part 40 rfl) rfl (fun _ => ?_)
  refine rz_aload_n G 0 rfl rfl (dq jX11_part 41 rfl) ?_
  refine rz_iload_n G 1 rfl rfl (dq jX11_part 42 rfl) ?_
  refine rz_callVv G (st := []) (c_X11_puts (cLn Γ) x1) lkX11_236 sh56 rfl rfl rfl (Nat.le_of_ble_eq_true rfl) (Nat.le_of_ble_eq_true rfl) (dq jX11_part 43 rfl) rfl (fun _ => ?_)
  refine rz_goto G (tgt := 91) rfl (dq jX11_part 44 rfl) ?_
  exact rz_lv [0] rfl (z_X11_part_b91 G)
theorem z_X11_part_b68 {Γ : Cx} (G : GG Γ RX11 cX11_part 2 none 4 0 0) (x1 : Int32) : Rz Γ 2 (Qm Γ encV 0 0) 0 0 68 [(0, .ref 56), (1, .int x1)] [] (f_X11_part_b68 x1) := by
  unfold f_X11_part_b68
  refine rz_aload_n G 0 rfl rfl (dq jX11_part 35 rfl) ?_
  refine rz_iconst G (v := 3) (dq jX11_part 36 rfl) rfl ?_
  refine rz_callVv G (st := []) (c_X11_wrong (cLn Γ) 3) lkX11_214 sh56 rfl rfl rfl (Nat.le_of_ble_eq_true rfl) (Nat.le_of_ble_eq_true rfl) (dq jX11_part 37 rfl) rfl (fun _ => ?_)
  exact rz_lv [0, 1] rfl (z_X11_part_b73 G x1)
theorem c_X11_part (l : Launch)  : Ct l yX11_part cX11_part 2 none 4 encV [.ref 56] (f_X11_part ) := by
  refine ct_of (own := RX11) (by decide) rfl (Nat.le_of_ble_eq_true rfl) (fun Γ hl G => ?_)
  show Rz Γ 2 (Qm Γ encV 0 0) 0 0 0 [(0, .ref 56)] [] _
  unfold f_X11_part
  refine rz_aload_n G 0 rfl rfl (dq jX11_part 0 rfl) ?_
  refine rz_callVi G (st := []) (c_X11_isGood (cLn Γ)) lkX11_207 sh56 rfl rfl rfl (Nat.le_of_ble_eq_true rfl) (Nat.le_of_ble_eq_true rfl) (dq jX11_part 1 rfl) rfl (fun r1 => ?_)
  refine rz_if_ne G (tgt := 8) rfl (dq jX11_part 2 rfl) (fun c2 => ?_) (fun c2 => ?_)
  · exact rz_vret G (dq jX11_part 3 rfl)
  · refine rz_aload_n G 0 rfl rfl (dq jX11_part 4 rfl) ?_
    refine rz_getI G flX11_181 sh56 rfl (dq jX11_part 5 rfl) (fun v3 => ?_)
    refine rz_iconst G (v := 2) (dq jX11_part 6 rfl) rfl ?_
    refine rz_icmp_ne G (tgt := 45) rfl (dq jX11_part 7 rfl) (fun c4 => ?_) (fun c4 => ?_)
    · refine rz_aload_n G 0 rfl rfl (dq jX11_part 8 rfl) ?_
      refine rz_getI G flX11_191 sh56 rfl (dq jX11_part 9 rfl) (fun v5 => ?_)
      refine rz_iconst G (v := 4) (dq jX11_part 10 rfl) rfl ?_
      refine rz_icmp_le G (tgt := 29) rfl (dq jX11_part 11 rfl) (fun c6 => ?_) (fun c6 => ?_)
      · exact rz_lv [0] rfl (z_X11_part_b29 G)
      · refine rz_aload_n G 0 rfl rfl (dq jX11_part 12 rfl) ?_
        refine rz_iconst G (v := 2) (dq jX11_part 13 rfl) rfl ?_
        refine rz_callVv G (st := []) (c_X11_wrong (cLn Γ) 2) lkX11_214 sh56 rfl rfl rfl (Nat.le_of_ble_eq_true rfl) (Nat.le_of_ble_eq_true rfl) (dq jX11_part 14 rfl) rfl (fun _ => ?_)
        exact rz_lv [0] rfl (z_X11_part_b29 G)
    · refine rz_aload_n G 0 rfl rfl (dq jX11_part 23 rfl) ?_
      refine rz_getI G flX11_181 sh56 rfl (dq jX11_part 24 rfl) (fun v7 => ?_)
      refine rz_iconst G (v := 1) (dq jX11_part 25 rfl) rfl ?_
      refine rz_icmp_ne G (tgt := 86) rfl (dq jX11_part 26 rfl) (fun c8 => ?_) (fun c8 => ?_)
      · refine rz_aload_n G 0 rfl rfl (dq jX11_part 27 rfl) ?_
        refine rz_callVi G (st := []) (c_X11_knownWord (cLn Γ)) lkX11_239 sh56 rfl rfl rfl (Nat.le_of_ble_eq_true rfl) (Nat.le_of_ble_eq_true rfl) (dq jX11_part 28 rfl) rfl (fun r9 => ?_)
        refine rz_istore_n G (lv' := [(1, .int r9), (0, .ref 56)]) rfl (Nat.le_of_ble_eq_true rfl) rfl (dq jX11_part 29 rfl) ?_
        refine rz_iload_n G 0 rfl rfl (dq jX11_part 30 rfl) ?_
        refine rz_if_lt G (tgt := 68) rfl (dq jX11_part 31 rfl) (fun c10 => ?_) (fun c10 => ?_)
        · exact rz_lv [1, 0] rfl (z_X11_part_b68 G r9)
        · refine rz_iload_n G 0 rfl rfl (dq jX11_part 32 rfl) ?_
          refine rz_bipush G (v := 7) (dq jX11_part 33 rfl) (by decide) ?_
          refine rz_icmp_le G (tgt := 73) rfl (dq jX11_part 34 rfl) (fun c11 => ?_) (fun c11 => ?_)
          · exact rz_lv [1, 0] rfl (z_X11_part_b73 G r9)
          · exact rz_lv [1, 0] rfl (z_X11_part_b68 G r9)
      · refine rz_aload_n G 0 rfl rfl (dq jX11_part 45 rfl) ?_
        refine rz_iconst G (v := 1) (dq jX11_part 46 rfl) rfl ?_
        refine rz_callVv G (st := []) (c_X11_wrong (cLn Γ) 1) lkX11_214 sh56 rfl rfl rfl (Nat.le_of_ble_eq_true rfl) (Nat.le_of_ble_eq_true rfl) (dq jX11_part 47 rfl) rfl (fun _ => ?_)
        exact rz_lv [0] rfl (z_X11_part_b91 G)
theorem z_X11_deeper_b61 {Γ : Cx} (G : GG Γ RX11 cX11_deeper 1 none 2 0 0) (xs0 : Int32) : Rz Γ 1 (Qm Γ encV 0 0) 0 0 61 [] [.int xs0, .ref 56] (f_X11_deeper_b61 xs0) := by
  unfold f_X11_deeper_b61
  refine rz_callVv G (st := []) (c_X11_wrong (cLn Γ) xs0) lkX11_214 sh56 rfl rfl rfl (Nat.le_of_ble_eq_true rfl) (Nat.le_of_ble_eq_true rfl) (dq jX11_deeper 33 rfl) rfl (fun _ => ?_)
  exact rz_vret G (dq jX11_deeper 34 rfl)
theorem z_X11_deeper_b56 {Γ : Cx} (G : GG Γ RX11 cX11_deeper 1 none 2 0 0)  : Rz Γ 1 (Qm Γ encV 0 0) 0 0 56 [] [.ref 56] (f_X11_deeper_b56 ) := by
  unfold f_X11_deeper_b56
  refine rz_iconst G (v := 2) (dq jX11_deeper 30 rfl) rfl ?_
  refine rz_goto G (tgt := 61) rfl (dq jX11_deeper 31 rfl) ?_
  exact rz_lv [] rfl (z_X11_deeper_b61 G 2)
theorem c_X11_deeper (l : Launch)  : Ct l yX11_deeper cX11_deeper 1 none 2 encV [.ref 56] (f_X11_deeper ) := by
  refine ct_of (own := RX11) (by decide) rfl (Nat.le_of_ble_eq_true rfl) (fun Γ hl G => ?_)
  show Rz Γ 1 (Qm Γ encV 0 0) 0 0 0 [(0, .ref 56)] [] _
  unfold f_X11_deeper
  refine rz_aload_n G 0 rfl rfl (dq jX11_deeper 0 rfl) ?_
  refine rz_getI G flX11_243 sh56 rfl (dq jX11_deeper 1 rfl) (fun v1 => ?_)
  refine rz_bipush G (v := 6) (dq jX11_deeper 2 rfl) (by decide) ?_
  refine rz_icmp_ge G (tgt := 30) rfl (dq jX11_deeper 3 rfl) (fun c2 => ?_) (fun c2 => ?_)
  · refine rz_aload_n G 0 rfl rfl (dq jX11_deeper 17 rfl) ?_
    refine rz_aload_n G 0 rfl rfl (dq jX11_deeper 18 rfl) ?_
    refine rz_getI G flX11_181 sh56 rfl (dq jX11_deeper 19 rfl) (fun v3 => ?_)
    refine rz_iconst G (v := 2) (dq jX11_deeper 20 rfl) rfl ?_
    refine rz_icmp_eq G (tgt := 56) rfl (dq jX11_deeper 21 rfl) (fun c4 => ?_) (fun c4 => ?_)
    · exact rz_lv [] rfl (z_X11_deeper_b56 G)
    · refine rz_aload_n G 0 rfl rfl (dq jX11_deeper 22 rfl) ?_
      refine rz_getI G flX11_181 sh56 rfl (dq jX11_deeper 23 rfl) (fun v5 => ?_)
      refine rz_iconst G (v := 1) (dq jX11_deeper 24 rfl) rfl ?_
      refine rz_icmp_eq G (tgt := 56) rfl (dq jX11_deeper 25 rfl) (fun c6 => ?_) (fun c6 => ?_)
      · exact rz_lv [] rfl (z_X11_deeper_b56 G)
      · refine rz_aload_n G 0 rfl rfl (dq jX11_deeper 26 rfl) ?_
        refine rz_bipush G (v := 40) (dq jX11_deeper 27 rfl) (by decide) ?_
        refine rz_callVi G (st := [.ref 56]) (c_X11_isSign (cLn Γ) 40) lkX11_217 sh56 rfl rfl rfl (Nat.le_of_ble_eq_true rfl) (Nat.le_of_ble_eq_true rfl) (dq jX11_deeper 28 rfl) rfl (fun r7 => ?_)
        refine rz_if_eq G (tgt := 60) rfl (dq jX11_deeper 29 rfl) (fun c8 => ?_) (fun c8 => ?_)
        · refine rz_iconst G (v := 1) (dq jX11_deeper 32 rfl) rfl ?_
          exact rz_lv [] rfl (z_X11_deeper_b61 G 1)
        · exact rz_lv [] rfl (z_X11_deeper_b56 G)
  · refine rz_aload_n G 0 rfl rfl (dq jX11_deeper 4 rfl) ?_
    refine rz_dup G rfl (dq jX11_deeper 5 rfl) ?_
    refine rz_getI G flX11_243 sh56 rfl (dq jX11_deeper 6 rfl) (fun v9 => ?_)
    refine rz_iconst G (v := 1) (dq jX11_deeper 7 rfl) rfl ?_
    refine rz_iadd G (dq jX11_deeper 8 rfl) ?_
    refine rz_putI G flX11_243 sh56 rfl (dq jX11_deeper 9 rfl) ?_
    refine rz_aload_n G 0 rfl rfl (dq jX11_deeper 10 rfl) ?_
    refine rz_getC G flX11_65 sh56 (t := 70) rfl rfl (dq jX11_deeper 11 rfl) ?_
    refine rz_aload_n G 0 rfl rfl (dq jX11_deeper 12 rfl) ?_
    refine rz_getI G flX11_243 sh56 rfl (dq jX11_deeper 13 rfl) (fun v10 => ?_)
    refine rz_iconst G (v := 0) (dq jX11_deeper 14 rfl) rfl ?_
    refine rz_zast G sh70 (dq jX11_deeper 15 rfl) ?_
    exact rz_vret G (dq jX11_deeper 16 rfl)
theorem z_X11_operand_b50 {Γ : Cx} (G : GG Γ RX11 cX11_operand 5 none 5 0 0) (k4 : Int32 → Int32 → Sg → Option (Unit × Sg)) (hk4 : ∀ (x2 : Int32) (x3 : Int32), Rz Γ 5 (Qm Γ encV 0 0) 0 0 4 [(0, .ref 56), (2, .int x2), (3, .int x3)] [] (k4 x2 x3)) (k18 : Int32 → Int32 → Sg → Option (Unit × Sg)) (hk18 : ∀ (x2 : Int32) (x4 : Int32), Rz Γ 5 (Qm Γ encV 0 0) 0 0 18 [(0, .ref 56), (2, .int x2), (4, .int x4)] [] (k18 x2 x4)) (x2 : Int32) (x4 : Int32) : Rz Γ 5 (Qm Γ encV 0 0) 0 0 50 [(0, .ref 56), (2, .int x2), (4, .int x4)] [] (f_X11_operand_b50 k4 k18 x2 x4) := by
  unfold f_X11_operand_b50
  refine rz_iinc G 2 (v := x4 + 1) (lv' := [(4, .int (x4 + 1)), (0, .ref 56), (2, .int x2)]) rfl (congrArg (HAdd.hAdd _) (by decide)) (Nat.le_of_ble_eq_true rfl) rfl (dq jX11_operand 26 rfl) ?_
  refine rz_aload_n G 1 rfl rfl (dq jX11_operand 27 rfl) ?_
  refine rz_callVi G (st := []) (c_X11_isGood (cLn Γ)) lkX11_207 sh56 rfl rfl rfl (Nat.le_of_ble_eq_true rfl) (Nat.le_of_ble_eq_true rfl) (dq jX11_operand 28 rfl) rfl (fun r1 => ?_)
  refine rz_if_ne G (tgt := 63) rfl (dq jX11_operand 29 rfl) (fun c2 => ?_) (fun c2 => ?_)
  · refine rz_goto G (tgt := 18) rfl (dq jX11_operand 30 rfl) ?_
    exact rz_lv [1, 2, 0] rfl (hk18 x2 (x4 + 1))
  · refine rz_aload_n G 1 rfl rfl (dq jX11_operand 31 rfl) ?_
    refine rz_iconst G (v := 3) (dq jX11_operand 32 rfl) rfl ?_
    refine rz_callVv G (st := []) (c_X11_waitsFor (cLn Γ) 3) lkX11_246 sh56 rfl rfl rfl (Nat.le_of_ble_eq_true rfl) (Nat.le_of_ble_eq_true rfl) (dq jX11_operand 33 rfl) rfl (fun _ => ?_)
    refine rz_aload_n G 1 rfl rfl (dq jX11_operand 34 rfl) ?_
    refine rz_callVv G (st := []) (c_X11_goes (cLn Γ)) lkX11_211 sh56 rfl rfl rfl (Nat.le_of_ble_eq_true rfl) (Nat.le_of_ble_eq_true rfl) (dq jX11_operand 35 rfl) rfl (fun _ => ?_)
    refine rz_goto G (tgt := 18) rfl (dq jX11_operand 36 rfl) ?_
    exact rz_lv [1, 2, 0] rfl (hk18 x2 (x4 + 1))
theorem z_X11_operand_b96 {Γ : Cx} (G : GG Γ RX11 cX11_operand 5 none 5 0 0) (k4 : Int32 → Int32 → Sg → Option (Unit × Sg)) (hk4 : ∀ (x2 : Int32) (x3 : Int32), Rz Γ 5 (Qm Γ encV 0 0) 0 0 4 [(0, .ref 56), (2, .int x2), (3, .int x3)] [] (k4 x2 x3)) (x2 : Int32) (xs0 : Int32) : Rz Γ 5 (Qm Γ encV 0 0) 0 0 96 [(0, .ref 56), (2, .int x2)] [.int xs0] (f_X11_operand_b96 k4 x2 xs0) := by
  unfold f_X11_operand_b96
  refine rz_istore_n G (lv' := [(3, .int xs0), (0, .ref 56), (2, .int x2)]) rfl (Nat.le_of_ble_eq_true rfl) rfl (dq jX11_operand 47 rfl) ?_
  refine rz_iload_n G 0 rfl rfl (dq jX11_operand 48 rfl) ?_
  refine rz_if_eq G (tgt := 117) rfl (dq jX11_operand 49 rfl) (fun c1 => ?_) (fun c1 => ?_)
  · refine rz_goto G (tgt := 4) rfl (dq jX11_operand 59 rfl) ?_
    exact rz_lv [1, 2, 0] rfl (hk4 x2 xs0)
  · refine rz_aload_n G 1 rfl rfl (dq jX11_operand 50 rfl) ?_
    refine rz_bipush G (v := 14) (dq jX11_operand 51 rfl) (by decide) ?_
    refine rz_callVv G (st := []) (c_X11_waitsFor (cLn Γ) 14) lkX11_246 sh56 rfl rfl rfl (Nat.le_of_ble_eq_true rfl) (Nat.le_of_ble_eq_true rfl) (dq jX11_operand 52 rfl) rfl (fun _ => ?_)
    refine rz_aload_n G 1 rfl rfl (dq jX11_operand 53 rfl) ?_
    refine rz_callVv G (st := []) (c_X11_goes (cLn Γ)) lkX11_211 sh56 rfl rfl rfl (Nat.le_of_ble_eq_true rfl) (Nat.le_of_ble_eq_true rfl) (dq jX11_operand 54 rfl) rfl (fun _ => ?_)
    refine rz_aload_n G 1 rfl rfl (dq jX11_operand 55 rfl) ?_
    refine rz_callVv G (st := []) (c_X11_deeper (cLn Γ)) lkX11_249 sh56 rfl rfl rfl (Nat.le_of_ble_eq_true rfl) (Nat.le_of_ble_eq_true rfl) (dq jX11_operand 56 rfl) rfl (fun _ => ?_)
    refine rz_iconst G (v := 1) (dq jX11_operand 57 rfl) rfl ?_
    refine rz_istore_n G (lv' := [(2, .int 1), (3, .int xs0), (0, .ref 56)]) rfl (Nat.le_of_ble_eq_true rfl) rfl (dq jX11_operand 58 rfl) ?_
    refine rz_goto G (tgt := 4) rfl (dq jX11_operand 59 rfl) ?_
    exact rz_lv [2, 0, 1] rfl (hk4 1 xs0)
theorem z_X11_operand_b95 {Γ : Cx} (G : GG Γ RX11 cX11_operand 5 none 5 0 0) (k4 : Int32 → Int32 → Sg → Option (Unit × Sg)) (hk4 : ∀ (x2 : Int32) (x3 : Int32), Rz Γ 5 (Qm Γ encV 0 0) 0 0 4 [(0, .ref 56), (2, .int x2), (3, .int x3)] [] (k4 x2 x3)) (x2 : Int32) : Rz Γ 5 (Qm Γ encV 0 0) 0 0 95 [(0, .ref 56), (2, .int x2)] [] (f_X11_operand_b95 k4 x2) := by
  unfold f_X11_operand_b95
  refine rz_iconst G (v := 0) (dq jX11_operand 46 rfl) rfl ?_
  exact rz_lv [0, 1] rfl (z_X11_operand_b96 G k4 hk4 x2 0)
theorem z_X11_operand_b75 {Γ : Cx} (G : GG Γ RX11 cX11_operand 5 none 5 0 0) (k4 : Int32 → Int32 → Sg → Option (Unit × Sg)) (hk4 : ∀ (x2 : Int32) (x3 : Int32), Rz Γ 5 (Qm Γ encV 0 0) 0 0 4 [(0, .ref 56), (2, .int x2), (3, .int x3)] [] (k4 x2 x3)) (x2 : Int32) : Rz Γ 5 (Qm Γ encV 0 0) 0 0 75 [(0, .ref 56), (2, .int x2)] [] (f_X11_operand_b75 k4 x2) := by
  unfold f_X11_operand_b75
  refine rz_aload_n G 0 rfl rfl (dq jX11_operand 37 rfl) ?_
  refine rz_callVi G (st := []) (c_X11_isGood (cLn Γ)) lkX11_207 sh56 rfl rfl rfl (Nat.le_of_ble_eq_true rfl) (Nat.le_of_ble_eq_true rfl) (dq jX11_operand 38 rfl) rfl (fun r1 => ?_)
  refine rz_if_eq G (tgt := 95) rfl (dq jX11_operand 39 rfl) (fun c2 => ?_) (fun c2 => ?_)
  · exact rz_lv [0, 1] rfl (z_X11_operand_b95 G k4 hk4 x2)
  · refine rz_aload_n G 0 rfl rfl (dq jX11_operand 40 rfl) ?_
    refine rz_bipush G (v := 40) (dq jX11_operand 41 rfl) (by decide) ?_
    refine rz_callVi G (st := []) (c_X11_isSign (cLn Γ) 40) lkX11_217 sh56 rfl rfl rfl (Nat.le_of_ble_eq_true rfl) (Nat.le_of_ble_eq_true rfl) (dq jX11_operand 42 rfl) rfl (fun r3 => ?_)
    refine rz_if_eq G (tgt := 95) rfl (dq jX11_operand 43 rfl) (fun c4 => ?_) (fun c4 => ?_)
    · exact rz_lv [0, 1] rfl (z_X11_operand_b95 G k4 hk4 x2)
    · refine rz_iconst G (v := 1) (dq jX11_operand 44 rfl) rfl ?_
      refine rz_goto G (tgt := 96) rfl (dq jX11_operand 45 rfl) ?_
      exact rz_lv [0, 1] rfl (z_X11_operand_b96 G k4 hk4 x2 1)
theorem z_X11_operand_b18 {Γ : Cx} (G : GG Γ RX11 cX11_operand 5 none 5 0 0) (k4 : Int32 → Int32 → Sg → Option (Unit × Sg)) (hk4 : ∀ (x2 : Int32) (x3 : Int32), Rz Γ 5 (Qm Γ encV 0 0) 0 0 4 [(0, .ref 56), (2, .int x2), (3, .int x3)] [] (k4 x2 x3)) : ∀ (fu : Nat) (x2 : Int32) (x4 : Int32), Rz Γ 5 (Qm Γ encV 0 0) 0 0 18 [(0, .ref 56), (2, .int x2), (4, .int x4)] [] (f_X11_operand_b18 k4 fu x2 x4) := by
  intro fu
  induction fu with
  | zero => intro _ _; exact rz_none
  | succ fu ih =>
    intro x2 x4
    rw [f_X11_operand_b18]
    refine rz_aload_n G 0 rfl rfl (dq jX11_operand 11 rfl) ?_
    refine rz_callVi G (st := []) (c_X11_isGood (cLn Γ)) lkX11_207 sh56 rfl rfl rfl (Nat.le_of_ble_eq_true rfl) (Nat.le_of_ble_eq_true rfl) (dq jX11_operand 12 rfl) rfl (fun r1 => ?_)
    refine rz_if_eq G (tgt := 75) rfl (dq jX11_operand 13 rfl) (fun c2 => ?_) (fun c2 => ?_)
    · exact rz_lv [0, 1] rfl (z_X11_operand_b75 G k4 hk4 x2)
    · refine rz_iload_n G 1 rfl rfl (dq jX11_operand 14 rfl) ?_
      refine rz_if_eq G (tgt := 75) rfl (dq jX11_operand 15 rfl) (fun c3 => ?_) (fun c3 => ?_)
      · exact rz_lv [0, 1] rfl (z_X11_operand_b75 G k4 hk4 x2)
      · refine rz_aload_n G 0 rfl rfl (dq jX11_operand 16 rfl) ?_
        refine rz_callVi G (st := []) (c_X11_knownWord (cLn Γ)) lkX11_239 sh56 rfl rfl rfl (Nat.le_of_ble_eq_true rfl) (Nat.le_of_ble_eq_true rfl) (dq jX11_operand 17 rfl) rfl (fun r4 => ?_)
        refine rz_bipush G (v := 18) (dq jX11_operand 18 rfl) (by decide) ?_
        refine rz_icmp_ne G (tgt := 75) rfl (dq jX11_operand 19 rfl) (fun c5 => ?_) (fun c5 => ?_)
        · refine rz_iload G 2 rfl (dq jX11_operand 20 rfl) ?_
          refine rz_bipush G (v := 6) (dq jX11_operand 21 rfl) (by decide) ?_
          refine rz_icmp_ne G (tgt := 50) rfl (dq jX11_operand 22 rfl) (fun c6 => ?_) (fun c6 => ?_)
          · refine rz_aload_n G 0 rfl rfl (dq jX11_operand 23 rfl) ?_
            refine rz_iconst G (v := 2) (dq jX11_operand 24 rfl) rfl ?_
            refine rz_callVv G (st := []) (c_X11_wrong (cLn Γ) 2) lkX11_214 sh56 rfl rfl rfl (Nat.le_of_ble_eq_true rfl) (Nat.le_of_ble_eq_true rfl) (dq jX11_operand 25 rfl) rfl (fun _ => ?_)
            exact rz_lv [0, 1, 2] rfl (z_X11_operand_b50 G k4 hk4 (f_X11_operand_b18 k4 fu) ih x2 x4)
          · exact rz_lv [0, 1, 2] rfl (z_X11_operand_b50 G k4 hk4 (f_X11_operand_b18 k4 fu) ih x2 x4)
        · exact rz_lv [0, 1] rfl (z_X11_operand_b75 G k4 hk4 x2)
theorem z_X11_operand_b120 {Γ : Cx} (G : GG Γ RX11 cX11_operand 5 none 5 0 0)  : Rz Γ 5 (Qm Γ encV 0 0) 0 0 120 [(0, .ref 56)] [] (f_X11_operand_b120 ) := by
  unfold f_X11_operand_b120
  refine rz_aload_n G 0 rfl rfl (dq jX11_operand 60 rfl) ?_
  refine rz_callVv G (st := []) (c_X11_part (cLn Γ)) lkX11_252 sh56 rfl rfl rfl (Nat.le_of_ble_eq_true rfl) (Nat.le_of_ble_eq_true rfl) (dq jX11_operand 61 rfl) rfl (fun _ => ?_)
  exact rz_vret G (dq jX11_operand 62 rfl)
theorem z_X11_operand_b4 {Γ : Cx} (G : GG Γ RX11 cX11_operand 5 none 5 0 0) : ∀ (fu : Nat) (x2 : Int32) (x3 : Int32), Rz Γ 5 (Qm Γ encV 0 0) 0 0 4 [(0, .ref 56), (2, .int x2), (3, .int x3)] [] (f_X11_operand_b4 fu x2 x3) := by
  intro fu
  induction fu with
  | zero => intro _ _; exact rz_none
  | succ fu ih =>
    intro x2 x3
    rw [f_X11_operand_b4]
    refine rz_iload_n G 2 rfl rfl (dq jX11_operand 4 rfl) ?_
    refine rz_if_eq G (tgt := 120) rfl (dq jX11_operand 5 rfl) (fun c1 => ?_) (fun c1 => ?_)
    · exact rz_lv [0] rfl (z_X11_operand_b120 G)
    · refine rz_aload_n G 0 rfl rfl (dq jX11_operand 6 rfl) ?_
      refine rz_callVi G (st := []) (c_X11_isGood (cLn Γ)) lkX11_207 sh56 rfl rfl rfl (Nat.le_of_ble_eq_true rfl) (Nat.le_of_ble_eq_true rfl) (dq jX11_operand 7 rfl) rfl (fun r2 => ?_)
      refine rz_if_eq G (tgt := 120) rfl (dq jX11_operand 8 rfl) (fun c3 => ?_) (fun c3 => ?_)
      · exact rz_lv [0] rfl (z_X11_operand_b120 G)
      · refine rz_iconst G (v := 0) (dq jX11_operand 9 rfl) rfl ?_
        refine rz_istore G (lv' := [(4, .int 0), (0, .ref 56), (2, .int x2), (3, .int x3)]) (Nat.le_of_ble_eq_true rfl) rfl (dq jX11_operand 10 rfl) ?_
        exact rz_lv [1, 2, 0] rfl (z_X11_operand_b18 G (f_X11_operand_b4 fu) ih FU x2 0)
theorem c_X11_operand (l : Launch) (x1 : Int32) : Ct l yX11_operand cX11_operand 5 none 5 encV [.ref 56, .int x1] (f_X11_operand x1) := by
  refine ct_of (own := RX11) (by decide) rfl (Nat.le_of_ble_eq_true rfl) (fun Γ hl G => ?_)
  show Rz Γ 5 (Qm Γ encV 0 0) 0 0 0 [(0, .ref 56), (1, .int x1)] [] _
  unfold f_X11_operand
  refine rz_iload_n G 1 rfl rfl (dq jX11_operand 0 rfl) ?_
  refine rz_istore_n G (lv' := [(2, .int x1), (0, .ref 56), (1, .int x1)]) rfl (Nat.le_of_ble_eq_true rfl) rfl (dq jX11_operand 1 rfl) ?_
  refine rz_iconst G (v := 1) (dq jX11_operand 2 rfl) rfl ?_
  refine rz_istore_n G (lv' := [(3, .int 1), (2, .int x1), (0, .ref 56), (1, .int x1)]) rfl (Nat.le_of_ble_eq_true rfl) rfl (dq jX11_operand 3 rfl) ?_
  exact rz_lv [2, 1, 0] rfl (z_X11_operand_b4 G FU x1 1)
theorem z_X11_isOpened_b29 {Γ : Cx} (G : GG Γ RX11 cX11_isOpened 2 (some .boolean) 2 0 0) (x1 : Int32) : Rz Γ 2 (Qm Γ encI 0 0) 0 0 29 [(1, .int x1)] [] (f_X11_isOpened_b29 x1) := by
  unfold f_X11_isOpened_b29
  refine rz_iload_n G 0 rfl rfl (dq jX11_isOpened 15 rfl) ?_
  refine rz_if_lt G (tgt := 37) rfl (dq jX11_isOpened 16 rfl) (fun c1 => ?_) (fun c1 => ?_)
  · refine rz_iconst G (v := 0) (dq jX11_isOpened 19 rfl) rfl ?_
    exact rz_zret0 G (by decide) (dq jX11_isOpened 20 rfl)
  · refine rz_iconst G (v := 1) (dq jX11_isOpened 17 rfl) rfl ?_
    refine rz_goto G (tgt := 38) rfl (dq jX11_isOpened 18 rfl) ?_
    exact rz_zret0 G (by decide) (dq jX11_isOpened 20 rfl)
theorem z_X11_isOpened_b7 {Γ : Cx} (G : GG Γ RX11 cX11_isOpened 2 (some .boolean) 2 0 0) : ∀ (fu : Nat) (x1 : Int32), Rz Γ 2 (Qm Γ encI 0 0) 0 0 7 [(0, .ref 56), (1, .int x1)] [] (f_X11_isOpened_b7 fu x1) := by
  intro fu
  induction fu with
  | zero => intro _; exact rz_none
  | succ fu ih =>
    intro x1
    rw [f_X11_isOpened_b7]
    refine rz_iload_n G 1 rfl rfl (dq jX11_isOpened 5 rfl) ?_
    refine rz_if_lt G (tgt := 29) rfl (dq jX11_isOpened 6 rfl) (fun c1 => ?_) (fun c1 => ?_)
    · exact rz_lv [1] rfl (z_X11_isOpened_b29 G x1)
    · refine rz_aload_n G 0 rfl rfl (dq jX11_isOpened 7 rfl) ?_
      refine rz_getC G flX11_62 sh56 (t := 69) rfl rfl (dq jX11_isOpened 8 rfl) ?_
      refine rz_iload_n G 1 rfl rfl (dq jX11_isOpened 9 rfl) ?_
      refine rz_iald G sh69 (dq jX11_isOpened 10 rfl) (fun v2 => ?_)
      refine rz_callSi G (st := []) (c_X11_isOpen (cLn Γ) v2) lkX11_230 rfl (Nat.le_of_ble_eq_true rfl) (Nat.le_of_ble_eq_true rfl) (dq jX11_isOpened 11 rfl) rfl (fun r3 => ?_)
      refine rz_if_ne G (tgt := 29) rfl (dq jX11_isOpened 12 rfl) (fun c4 => ?_) (fun c4 => ?_)
      · refine rz_iinc G 1 (v := x1 + (-1)) (lv' := [(1, .int (x1 + (-1))), (0, .ref 56)]) rfl (congrArg (HAdd.hAdd _) (by decide)) (Nat.le_of_ble_eq_true rfl) rfl (dq jX11_isOpened 13 rfl) ?_
        refine rz_goto G (tgt := 7) rfl (dq jX11_isOpened 14 rfl) ?_
        exact rz_lv [1, 0] rfl (ih (x1 + (-1)))
      · exact rz_lv [1] rfl (z_X11_isOpened_b29 G x1)
theorem c_X11_isOpened (l : Launch)  : Ct l yX11_isOpened cX11_isOpened 2 (some .boolean) 2 encI [.ref 56] (f_X11_isOpened ) := by
  refine ct_of (own := RX11) (by decide) rfl (Nat.le_of_ble_eq_true rfl) (fun Γ hl G => ?_)
  show Rz Γ 2 (Qm Γ encI 0 0) 0 0 0 [(0, .ref 56)] [] _
  unfold f_X11_isOpened
  refine rz_aload_n G 0 rfl rfl (dq jX11_isOpened 0 rfl) ?_
  refine rz_getI G flX11_227 sh56 rfl (dq jX11_isOpened 1 rfl) (fun v1 => ?_)
  refine rz_iconst G (v := 1) (dq jX11_isOpened 2 rfl) rfl ?_
  refine rz_isub G (dq jX11_isOpened 3 rfl) ?_
  refine rz_istore_n G (lv' := [(1, .int (v1 - 1)), (0, .ref 56)]) rfl (Nat.le_of_ble_eq_true rfl) rfl (dq jX11_isOpened 4 rfl) ?_
  exact rz_lv [1, 0] rfl (z_X11_isOpened_b7 G FU (v1 - 1))
theorem c_X11_closes (l : Launch)  : Ct l yX11_closes cX11_closes 1 none 3 encV [.ref 56] (f_X11_closes ) := by
  refine ct_of (own := RX11) (by decide) rfl (Nat.le_of_ble_eq_true rfl) (fun Γ hl G => ?_)
  show Rz Γ 1 (Qm Γ encV 0 0) 0 0 0 [(0, .ref 56)] [] _
  unfold f_X11_closes
  refine rz_aload_n G 0 rfl rfl (dq jX11_closes 0 rfl) ?_
  refine rz_iconst G (v := 0) (dq jX11_closes 1 rfl) rfl ?_
  refine rz_callVv G (st := []) (c_X11_drops (cLn Γ) 0) lkX11_255 sh56 rfl rfl rfl (Nat.le_of_ble_eq_true rfl) (Nat.le_of_ble_eq_true rfl) (dq jX11_closes 2 rfl) rfl (fun _ => ?_)
  refine rz_aload_n G 0 rfl rfl (dq jX11_closes 3 rfl) ?_
  refine rz_dup G rfl (dq jX11_closes 4 rfl) ?_
  refine rz_getI G flX11_227 sh56 rfl (dq jX11_closes 5 rfl) (fun v1 => ?_)
  refine rz_iconst G (v := 1) (dq jX11_closes 6 rfl) rfl ?_
  refine rz_isub G (dq jX11_closes 7 rfl) ?_
  refine rz_putI G flX11_227 sh56 rfl (dq jX11_closes 8 rfl) ?_
  refine rz_aload_n G 0 rfl rfl (dq jX11_closes 9 rfl) ?_
  refine rz_dup G rfl (dq jX11_closes 10 rfl) ?_
  refine rz_getI G flX11_243 sh56 rfl (dq jX11_closes 11 rfl) (fun v2 => ?_)
  refine rz_iconst G (v := 1) (dq jX11_closes 12 rfl) rfl ?_
  refine rz_isub G (dq jX11_closes 13 rfl) ?_
  refine rz_putI G flX11_243 sh56 rfl (dq jX11_closes 14 rfl) ?_
  refine rz_aload_n G 0 rfl rfl (dq jX11_closes 15 rfl) ?_
  refine rz_callVv G (st := []) (c_X11_goes (cLn Γ)) lkX11_211 sh56 rfl rfl rfl (Nat.le_of_ble_eq_true rfl) (Nat.le_of_ble_eq_true rfl) (dq jX11_closes 16 rfl) rfl (fun _ => ?_)
  exact rz_vret G (dq jX11_closes 17 rfl)
theorem z_X11_expression_b84 {Γ : Cx} (G : GG Γ RX11 cX11_expression 3 none 6 0 0) (k29 : Int32 → Sg → Option (Unit × Sg)) (hk29 : ∀ (x1 : Int32), Rz Γ 3 (Qm Γ encV 0 0) 0 0 29 [(0, .ref 56), (1, .int x1)] [] (k29 x1)) (x1 : Int32) (xs0 : Int32) : Rz Γ 3 (Qm Γ encV 0 0) 0 0 84 [(0, .ref 56), (1, .int x1)] [.int xs0, .ref 56] (f_X11_expression_b84 k29 x1 xs0) := by
  unfold f_X11_expression_b84
  refine rz_callVv G (st := []) (c_X11_waitsFor (cLn Γ) xs0) lkX11_246 sh56 rfl rfl rfl (Nat.le_of_ble_eq_true rfl) (Nat.le_of_ble_eq_true rfl) (dq jX11_expression 46 rfl) rfl (fun _ => ?_)
  refine rz_aload_n G 0 rfl rfl (dq jX11_expression 47 rfl) ?_
  refine rz_getC G flX11_65 sh56 (t := 70) rfl rfl (dq jX11_expression 48 rfl) ?_
  refine rz_aload_n G 0 rfl rfl (dq jX11_expression 49 rfl) ?_
  refine rz_getI G flX11_243 sh56 rfl (dq jX11_expression 50 rfl) (fun v1 => ?_)
  refine rz_iconst G (v := 0) (dq jX11_expression 51 rfl) rfl ?_
  refine rz_zast G sh70 (dq jX11_expression 52 rfl) ?_
  refine rz_aload_n G 0 rfl rfl (dq jX11_expression 53 rfl) ?_
  refine rz_callVv G (st := []) (c_X11_goes (cLn Γ)) lkX11_211 sh56 rfl rfl rfl (Nat.le_of_ble_eq_true rfl) (Nat.le_of_ble_eq_true rfl) (dq jX11_expression 54 rfl) rfl (fun _ => ?_)
  refine rz_aload_n G 0 rfl rfl (dq jX11_expression 55 rfl) ?_
  refine rz_iconst G (v := 1) (dq jX11_expression 56 rfl) rfl ?_
  refine rz_callVv G (st := []) (c_X11_operand (cLn Γ) 1) lkX11_258 sh56 rfl rfl rfl (Nat.le_of_ble_eq_true rfl) (Nat.le_of_ble_eq_true rfl) (dq jX11_expression 57 rfl) rfl (fun _ => ?_)
  refine rz_goto G (tgt := 322) rfl (dq jX11_expression 58 rfl) ?_
  refine rz_goto G (tgt := 29) rfl (dq jX11_expression_s1 11 rfl) ?_
  exact rz_lv [0, 1] rfl (hk29 x1)
theorem z_X11_expression_b69 {Γ : Cx} (G : GG Γ RX11 cX11_expression 3 none 6 0 0) (k29 : Int32 → Sg → Option (Unit × Sg)) (hk29 : ∀ (x1 : Int32), Rz Γ 3 (Qm Γ encV 0 0) 0 0 29 [(0, .ref 56), (1, .int x1)] [] (k29 x1)) (x1 : Int32) (x2 : Int32) (xs0 : Int32) : Rz Γ 3 (Qm Γ encV 0 0) 0 0 69 [(0, .ref 56), (1, .int x1), (2, .int x2)] [.int xs0, .ref 56] (f_X11_expression_b69 k29 x1 x2 xs0) := by
  unfold f_X11_expression_b69
  refine rz_callVv G (st := []) (c_X11_drops (cLn Γ) xs0) lkX11_255 sh56 rfl rfl rfl (Nat.le_of_ble_eq_true rfl) (Nat.le_of_ble_eq_true rfl) (dq jX11_expression 38 rfl) rfl (fun _ => ?_)
  refine rz_aload_n G 0 rfl rfl (dq jX11_expression 39 rfl) ?_
  refine rz_iload_n G 2 rfl rfl (dq jX11_expression 40 rfl) ?_
  refine rz_bipush G (v := 16) (dq jX11_expression 41 rfl) (by decide) ?_
  refine rz_icmp_ne G (tgt := 83) rfl (dq jX11_expression 42 rfl) (fun c1 => ?_) (fun c1 => ?_)
  · refine rz_iconst G (v := 4) (dq jX11_expression 43 rfl) rfl ?_
    refine rz_goto G (tgt := 84) rfl (dq jX11_expression 44 rfl) ?_
    exact rz_lv [0, 1] rfl (z_X11_expression_b84 G k29 hk29 x1 4)
  · refine rz_iconst G (v := 5) (dq jX11_expression 45 rfl) rfl ?_
    exact rz_lv [0, 1] rfl (z_X11_expression_b84 G k29 hk29 x1 5)
theorem z_X11_expression_b57 {Γ : Cx} (G : GG Γ RX11 cX11_expression 3 none 6 0 0) (k29 : Int32 → Sg → Option (Unit × Sg)) (hk29 : ∀ (x1 : Int32), Rz Γ 3 (Qm Γ encV 0 0) 0 0 29 [(0, .ref 56), (1, .int x1)] [] (k29 x1)) (x1 : Int32) (x2 : Int32) : Rz Γ 3 (Qm Γ encV 0 0) 0 0 57 [(0, .ref 56), (1, .int x1), (2, .int x2)] [] (f_X11_expression_b57 k29 x1 x2) := by
  unfold f_X11_expression_b57
  refine rz_aload_n G 0 rfl rfl (dq jX11_expression 31 rfl) ?_
  refine rz_iload_n G 2 rfl rfl (dq jX11_expression 32 rfl) ?_
  refine rz_bipush G (v := 16) (dq jX11_expression 33 rfl) (by decide) ?_
  refine rz_icmp_ne G (tgt := 68) rfl (dq jX11_expression 34 rfl) (fun c1 => ?_) (fun c1 => ?_)
  · refine rz_iconst G (v := 2) (dq jX11_expression 35 rfl) rfl ?_
    refine rz_goto G (tgt := 69) rfl (dq jX11_expression 36 rfl) ?_
    exact rz_lv [0, 1, 2] rfl (z_X11_expression_b69 G k29 hk29 x1 x2 2)
  · refine rz_iconst G (v := 1) (dq jX11_expression 37 rfl) rfl ?_
    exact rz_lv [0, 1, 2] rfl (z_X11_expression_b69 G k29 hk29 x1 x2 1)
theorem z_X11_expression_b161 {Γ : Cx} (G : GG Γ RX11 cX11_expression 3 none 6 0 0) (k29 : Int32 → Sg → Option (Unit × Sg)) (hk29 : ∀ (x1 : Int32), Rz Γ 3 (Qm Γ encV 0 0) 0 0 29 [(0, .ref 56), (1, .int x1)] [] (k29 x1)) (x1 : Int32) (xs0 : Int32) : Rz Γ 3 (Qm Γ encV 0 0) 0 0 161 [(0, .ref 56), (1, .int x1)] [.int xs0, .ref 56] (f_X11_expression_b161 k29 x1 xs0) := by
  unfold f_X11_expression_b161
  refine rz_callVv G (st := []) (c_X11_waitsFor (cLn Γ) xs0) lkX11_246 sh56 rfl rfl rfl (Nat.le_of_ble_eq_true rfl) (Nat.le_of_ble_eq_true rfl) (dq jX11_expression 84 rfl) rfl (fun _ => ?_)
  refine rz_aload_n G 0 rfl rfl (dq jX11_expression 85 rfl) ?_
  refine rz_getC G flX11_65 sh56 (t := 70) rfl rfl (dq jX11_expression 86 rfl) ?_
  refine rz_aload_n G 0 rfl rfl (dq jX11_expression 87 rfl) ?_
  refine rz_getI G flX11_243 sh56 rfl (dq jX11_expression 88 rfl) (fun v1 => ?_)
  refine rz_iconst G (v := 1) (dq jX11_expression 89 rfl) rfl ?_
  refine rz_zast G sh70 (dq jX11_expression 90 rfl) ?_
  refine rz_aload_n G 0 rfl rfl (dq jX11_expression 91 rfl) ?_
  refine rz_callVv G (st := []) (c_X11_goes (cLn Γ)) lkX11_211 sh56 rfl rfl rfl (Nat.le_of_ble_eq_true rfl) (Nat.le_of_ble_eq_true rfl) (dq jX11_expression 92 rfl) rfl (fun _ => ?_)
  refine rz_aload_n G 0 rfl rfl (dq jX11_expression 93 rfl) ?_
  refine rz_iconst G (v := 0) (dq jX11_expression 94 rfl) rfl ?_
  refine rz_callVv G (st := []) (c_X11_operand (cLn Γ) 0) lkX11_258 sh56 rfl rfl rfl (Nat.le_of_ble_eq_true rfl) (Nat.le_of_ble_eq_true rfl) (dq jX11_expression 95 rfl) rfl (fun _ => ?_)
  refine rz_goto G (tgt := 322) rfl (dq jX11_expression 96 rfl) ?_
  refine rz_goto G (tgt := 29) rfl (dq jX11_expression_s1 11 rfl) ?_
  exact rz_lv [0, 1] rfl (hk29 x1)
theorem z_X11_expression_b226 {Γ : Cx} (G : GG Γ RX11 cX11_expression 3 none 6 0 0) (k29 : Int32 → Sg → Option (Unit × Sg)) (hk29 : ∀ (x1 : Int32), Rz Γ 3 (Qm Γ encV 0 0) 0 0 29 [(0, .ref 56), (1, .int x1)] [] (k29 x1)) (x1 : Int32) (xs0 : Int32) : Rz Γ 3 (Qm Γ encV 0 0) 0 0 226 [(0, .ref 56), (1, .int x1)] [.int xs0, .ref 56] (f_X11_expression_b226 k29 x1 xs0) := by
  unfold f_X11_expression_b226
  refine rz_callVv G (st := []) (c_X11_waitsFor (cLn Γ) xs0) lkX11_246 sh56 rfl rfl rfl (Nat.le_of_ble_eq_true rfl) (Nat.le_of_ble_eq_true rfl) (dq jX11_expression 116 rfl) rfl (fun _ => ?_)
  refine rz_aload_n G 0 rfl rfl (dq jX11_expression 117 rfl) ?_
  refine rz_callVv G (st := []) (c_X11_goes (cLn Γ)) lkX11_211 sh56 rfl rfl rfl (Nat.le_of_ble_eq_true rfl) (Nat.le_of_ble_eq_true rfl) (dq jX11_expression 118 rfl) rfl (fun _ => ?_)
  refine rz_aload_n G 0 rfl rfl (dq jX11_expression 119 rfl) ?_
  refine rz_iconst G (v := 0) (dq jX11_expression 120 rfl) rfl ?_
  refine rz_callVv G (st := []) (c_X11_operand (cLn Γ) 0) lkX11_258 sh56 rfl rfl rfl (Nat.le_of_ble_eq_true rfl) (Nat.le_of_ble_eq_true rfl) (dq jX11_expression 121 rfl) rfl (fun _ => ?_)
  refine rz_goto G (tgt := 322) rfl (dq jX11_expression 122 rfl) ?_
  refine rz_goto G (tgt := 29) rfl (dq jX11_expression_s1 11 rfl) ?_
  exact rz_lv [0, 1] rfl (hk29 x1)
theorem z_X11_expression_b204 {Γ : Cx} (G : GG Γ RX11 cX11_expression 3 none 6 0 0) (k29 : Int32 → Sg → Option (Unit × Sg)) (hk29 : ∀ (x1 : Int32), Rz Γ 3 (Qm Γ encV 0 0) 0 0 29 [(0, .ref 56), (1, .int x1)] [] (k29 x1)) (x1 : Int32) : Rz Γ 3 (Qm Γ encV 0 0) 0 0 204 [(0, .ref 56), (1, .int x1)] [] (f_X11_expression_b204 k29 x1) := by
  unfold f_X11_expression_b204
  refine rz_aload_n G 0 rfl rfl (dq jX11_expression 105 rfl) ?_
  refine rz_iconst G (v := 5) (dq jX11_expression 106 rfl) rfl ?_
  refine rz_callVv G (st := []) (c_X11_drops (cLn Γ) 5) lkX11_255 sh56 rfl rfl rfl (Nat.le_of_ble_eq_true rfl) (Nat.le_of_ble_eq_true rfl) (dq jX11_expression 107 rfl) rfl (fun _ => ?_)
  refine rz_aload_n G 0 rfl rfl (dq jX11_expression 108 rfl) ?_
  refine rz_aload_n G 0 rfl rfl (dq jX11_expression 109 rfl) ?_
  refine rz_bipush G (v := 43) (dq jX11_expression 110 rfl) (by decide) ?_
  refine rz_callVi G (st := [.ref 56]) (c_X11_isSign (cLn Γ) 43) lkX11_217 sh56 rfl rfl rfl (Nat.le_of_ble_eq_true rfl) (Nat.le_of_ble_eq_true rfl) (dq jX11_expression 111 rfl) rfl (fun r1 => ?_)
  refine rz_if_eq G (tgt := 224) rfl (dq jX11_expression 112 rfl) (fun c2 => ?_) (fun c2 => ?_)
  · refine rz_bipush G (v := 9) (dq jX11_expression 115 rfl) (by decide) ?_
    exact rz_lv [0, 1] rfl (z_X11_expression_b226 G k29 hk29 x1 9)
  · refine rz_bipush G (v := 8) (dq jX11_expression 113 rfl) (by decide) ?_
    refine rz_goto G (tgt := 226) rfl (dq jX11_expression 114 rfl) ?_
    exact rz_lv [0, 1] rfl (z_X11_expression_b226 G k29 hk29 x1 8)
theorem z_X11_expression_b282 {Γ : Cx} (G : GG Γ RX11 cX11_expression 3 none 6 0 0) (k29 : Int32 → Sg → Option (Unit × Sg)) (hk29 : ∀ (x1 : Int32), Rz Γ 3 (Qm Γ encV 0 0) 0 0 29 [(0, .ref 56), (1, .int x1)] [] (k29 x1)) (x1 : Int32) (xs0 : Int32) : Rz Γ 3 (Qm Γ encV 0 0) 0 0 282 [(0, .ref 56), (1, .int x1)] [.int xs0, .ref 56] (f_X11_expression_b282 k29 x1 xs0) := by
  unfold f_X11_expression_b282
  refine rz_callVv G (st := []) (c_X11_waitsFor (cLn Γ) xs0) lkX11_246 sh56 rfl rfl rfl (Nat.le_of_ble_eq_true rfl) (Nat.le_of_ble_eq_true rfl) (dq jX11_expression 142 rfl) rfl (fun _ => ?_)
  refine rz_aload_n G 0 rfl rfl (dq jX11_expression 143 rfl) ?_
  refine rz_callVv G (st := []) (c_X11_goes (cLn Γ)) lkX11_211 sh56 rfl rfl rfl (Nat.le_of_ble_eq_true rfl) (Nat.le_of_ble_eq_true rfl) (dq jX11_expression 144 rfl) rfl (fun _ => ?_)
  refine rz_aload_n G 0 rfl rfl (dq jX11_expression 145 rfl) ?_
  refine rz_iconst G (v := 0) (dq jX11_expression 146 rfl) rfl ?_
  refine rz_callVv G (st := []) (c_X11_operand (cLn Γ) 0) lkX11_258 sh56 rfl rfl rfl (Nat.le_of_ble_eq_true rfl) (Nat.le_of_ble_eq_true rfl) (dq jX11_expression 147 rfl) rfl (fun _ => ?_)
  refine rz_goto G (tgt := 322) rfl (dq jX11_expression 148 rfl) ?_
  refine rz_goto G (tgt := 29) rfl (dq jX11_expression_s1 11 rfl) ?_
  exact rz_lv [0, 1] rfl (hk29 x1)
theorem z_X11_expression_b259 {Γ : Cx} (G : GG Γ RX11 cX11_expression 3 none 6 0 0) (k29 : Int32 → Sg → Option (Unit × Sg)) (hk29 : ∀ (x1 : Int32), Rz Γ 3 (Qm Γ encV 0 0) 0 0 29 [(0, .ref 56), (1, .int x1)] [] (k29 x1)) (x1 : Int32) : Rz Γ 3 (Qm Γ encV 0 0) 0 0 259 [(0, .ref 56), (1, .int x1)] [] (f_X11_expression_b259 k29 x1) := by
  unfold f_X11_expression_b259
  refine rz_aload_n G 0 rfl rfl (dq jX11_expression 131 rfl) ?_
  refine rz_bipush G (v := 6) (dq jX11_expression 132 rfl) (by decide) ?_
  refine rz_callVv G (st := []) (c_X11_drops (cLn Γ) 6) lkX11_255 sh56 rfl rfl rfl (Nat.le_of_ble_eq_true rfl) (Nat.le_of_ble_eq_true rfl) (dq jX11_expression 133 rfl) rfl (fun _ => ?_)
  refine rz_aload_n G 0 rfl rfl (dq jX11_expression 134 rfl) ?_
  refine rz_aload_n G 0 rfl rfl (dq jX11_expression 135 rfl) ?_
  refine rz_bipush G (v := 42) (dq jX11_expression 136 rfl) (by decide) ?_
  refine rz_callVi G (st := [.ref 56]) (c_X11_isSign (cLn Γ) 42) lkX11_217 sh56 rfl rfl rfl (Nat.le_of_ble_eq_true rfl) (Nat.le_of_ble_eq_true rfl) (dq jX11_expression 137 rfl) rfl (fun r1 => ?_)
  refine rz_if_eq G (tgt := 280) rfl (dq jX11_expression 138 rfl) (fun c2 => ?_) (fun c2 => ?_)
  · refine rz_bipush G (v := 11) (dq jX11_expression 141 rfl) (by decide) ?_
    exact rz_lv [0, 1] rfl (z_X11_expression_b282 G k29 hk29 x1 11)
  · refine rz_bipush G (v := 10) (dq jX11_expression 139 rfl) (by decide) ?_
    refine rz_goto G (tgt := 282) rfl (dq jX11_expression 140 rfl) ?_
    exact rz_lv [0, 1] rfl (z_X11_expression_b282 G k29 hk29 x1 10)
theorem z_X11_expression_b320 {Γ : Cx} (G : GG Γ RX11 cX11_expression 3 none 6 0 0) (k29 : Int32 → Sg → Option (Unit × Sg)) (hk29 : ∀ (x1 : Int32), Rz Γ 3 (Qm Γ encV 0 0) 0 0 29 [(0, .ref 56), (1, .int x1)] [] (k29 x1))  : Rz Γ 3 (Qm Γ encV 0 0) 0 0 320 [(0, .ref 56)] [] (f_X11_expression_b320 k29 ) := by
  unfold f_X11_expression_b320
  refine rz_iconst G (v := 0) (dq jX11_expression_s1 9 rfl) rfl ?_
  refine rz_istore_n G (lv' := [(1, .int 0), (0, .ref 56)]) rfl (Nat.le_of_ble_eq_true rfl) rfl (dq jX11_expression_s1 10 rfl) ?_
  refine rz_goto G (tgt := 29) rfl (dq jX11_expression_s1 11 rfl) ?_
  exact rz_lv [1, 0] rfl (hk29 0)
theorem z_X11_expression_b186 {Γ : Cx} (G : GG Γ RX11 cX11_expression 3 none 6 0 0) (k29 : Int32 → Sg → Option (Unit × Sg)) (hk29 : ∀ (x1 : Int32), Rz Γ 3 (Qm Γ encV 0 0) 0 0 29 [(0, .ref 56), (1, .int x1)] [] (k29 x1)) (x1 : Int32) : Rz Γ 3 (Qm Γ encV 0 0) 0 0 186 [(0, .ref 56), (1, .int x1)] [] (f_X11_expression_b186 k29 x1) := by
  unfold f_X11_expression_b186
  refine rz_aload_n G 0 rfl rfl (dq jX11_expression 97 rfl) ?_
  refine rz_bipush G (v := 43) (dq jX11_expression 98 rfl) (by decide) ?_
  refine rz_callVi G (st := []) (c_X11_isSign (cLn Γ) 43) lkX11_217 sh56 rfl rfl rfl (Nat.le_of_ble_eq_true rfl) (Nat.le_of_ble_eq_true rfl) (dq jX11_expression 99 rfl) rfl (fun r1 => ?_)
  refine rz_if_ne G (tgt := 204) rfl (dq jX11_expression 100 rfl) (fun c2 => ?_) (fun c2 => ?_)
  · refine rz_aload_n G 0 rfl rfl (dq jX11_expression 101 rfl) ?_
    refine rz_bipush G (v := 45) (dq jX11_expression 102 rfl) (by decide) ?_
    refine rz_callVi G (st := []) (c_X11_isSign (cLn Γ) 45) lkX11_217 sh56 rfl rfl rfl (Nat.le_of_ble_eq_true rfl) (Nat.le_of_ble_eq_true rfl) (dq jX11_expression 103 rfl) rfl (fun r3 => ?_)
    refine rz_if_eq G (tgt := 241) rfl (dq jX11_expression 104 rfl) (fun c4 => ?_) (fun c4 => ?_)
    · refine rz_aload_n G 0 rfl rfl (dq jX11_expression 123 rfl) ?_
      refine rz_bipush G (v := 42) (dq jX11_expression 124 rfl) (by decide) ?_
      refine rz_callVi G (st := []) (c_X11_isSign (cLn Γ) 42) lkX11_217 sh56 rfl rfl rfl (Nat.le_of_ble_eq_true rfl) (Nat.le_of_ble_eq_true rfl) (dq jX11_expression 125 rfl) rfl (fun r5 => ?_)
      refine rz_if_ne G (tgt := 259) rfl (dq jX11_expression 126 rfl) (fun c6 => ?_) (fun c6 => ?_)
      · refine rz_aload_n G 0 rfl rfl (dq jX11_expression 127 rfl) ?_
        refine rz_bipush G (v := 47) (dq jX11_expression 128 rfl) (by decide) ?_
        refine rz_callVi G (st := []) (c_X11_isSign (cLn Γ) 47) lkX11_217 sh56 rfl rfl rfl (Nat.le_of_ble_eq_true rfl) (Nat.le_of_ble_eq_true rfl) (dq jX11_expression 129 rfl) rfl (fun r7 => ?_)
        refine rz_if_eq G (tgt := 297) rfl (dq jX11_expression 130 rfl) (fun c8 => ?_) (fun c8 => ?_)
        · refine rz_aload_n G 0 rfl rfl (dq jX11_expression 149 rfl) ?_
          refine rz_bipush G (v := 41) (dq jX11_expression_s1 0 rfl) (by decide) ?_
          refine rz_callVi G (st := []) (c_X11_isSign (cLn Γ) 41) lkX11_217 sh56 rfl rfl rfl (Nat.le_of_ble_eq_true rfl) (Nat.le_of_ble_eq_true rfl) (dq jX11_expression_s1 1 rfl) rfl (fun r9 => ?_)
          refine rz_if_eq G (tgt := 320) rfl (dq jX11_expression_s1 2 rfl) (fun c10 => ?_) (fun c10 => ?_)
          · exact rz_lv [0] rfl (z_X11_expression_b320 G k29 hk29)
          · refine rz_aload_n G 0 rfl rfl (dq jX11_expression_s1 3 rfl) ?_
            refine rz_callVi G (st := []) (c_X11_isOpened (cLn Γ)) lkX11_262 sh56 rfl rfl rfl (Nat.le_of_ble_eq_true rfl) (Nat.le_of_ble_eq_true rfl) (dq jX11_expression_s1 4 rfl) rfl (fun r11 => ?_)
            refine rz_if_eq G (tgt := 320) rfl (dq jX11_expression_s1 5 rfl) (fun c12 => ?_) (fun c12 => ?_)
            · exact rz_lv [0] rfl (z_X11_expression_b320 G k29 hk29)
            · refine rz_aload_n G 0 rfl rfl (dq jX11_expression_s1 6 rfl) ?_
              refine rz_callVv G (st := []) (c_X11_closes (cLn Γ)) lkX11_265 sh56 rfl rfl rfl (Nat.le_of_ble_eq_true rfl) (Nat.le_of_ble_eq_true rfl) (dq jX11_expression_s1 7 rfl) rfl (fun _ => ?_)
              refine rz_goto G (tgt := 322) rfl (dq jX11_expression_s1 8 rfl) ?_
              refine rz_goto G (tgt := 29) rfl (dq jX11_expression_s1 11 rfl) ?_
              exact rz_lv [0, 1] rfl (hk29 x1)
        · exact rz_lv [0, 1] rfl (z_X11_expression_b259 G k29 hk29 x1)
      · exact rz_lv [0, 1] rfl (z_X11_expression_b259 G k29 hk29 x1)
    · exact rz_lv [0, 1] rfl (z_X11_expression_b204 G k29 hk29 x1)
  · exact rz_lv [0, 1] rfl (z_X11_expression_b204 G k29 hk29 x1)
theorem z_X11_expression_b127 {Γ : Cx} (G : GG Γ RX11 cX11_expression 3 none 6 0 0) (k29 : Int32 → Sg → Option (Unit × Sg)) (hk29 : ∀ (x1 : Int32), Rz Γ 3 (Qm Γ encV 0 0) 0 0 29 [(0, .ref 56), (1, .int x1)] [] (k29 x1)) (x1 : Int32) : Rz Γ 3 (Qm Γ encV 0 0) 0 0 127 [(0, .ref 56), (1, .int x1)] [] (f_X11_expression_b127 k29 x1) := by
  unfold f_X11_expression_b127
  refine rz_aload_n G 0 rfl rfl (dq jX11_expression 67 rfl) ?_
  refine rz_getC G flX11_65 sh56 (t := 70) rfl rfl (dq jX11_expression 68 rfl) ?_
  refine rz_aload_n G 0 rfl rfl (dq jX11_expression 69 rfl) ?_
  refine rz_getI G flX11_243 sh56 rfl (dq jX11_expression 70 rfl) (fun v1 => ?_)
  refine rz_zald G sh70 (dq jX11_expression 71 rfl) (fun v2 => ?_)
  refine rz_if_ne G (tgt := 186) rfl (dq jX11_expression 72 rfl) (fun c3 => ?_) (fun c3 => ?_)
  · refine rz_aload_n G 0 rfl rfl (dq jX11_expression 73 rfl) ?_
    refine rz_iconst G (v := 4) (dq jX11_expression 74 rfl) rfl ?_
    refine rz_callVv G (st := []) (c_X11_drops (cLn Γ) 4) lkX11_255 sh56 rfl rfl rfl (Nat.le_of_ble_eq_true rfl) (Nat.le_of_ble_eq_true rfl) (dq jX11_expression 75 rfl) rfl (fun _ => ?_)
    refine rz_aload_n G 0 rfl rfl (dq jX11_expression 76 rfl) ?_
    refine rz_aload_n G 0 rfl rfl (dq jX11_expression 77 rfl) ?_
    refine rz_bipush G (v := 60) (dq jX11_expression 78 rfl) (by decide) ?_
    refine rz_callVi G (st := [.ref 56]) (c_X11_isSign (cLn Γ) 60) lkX11_217 sh56 rfl rfl rfl (Nat.le_of_ble_eq_true rfl) (Nat.le_of_ble_eq_true rfl) (dq jX11_expression 79 rfl) rfl (fun r4 => ?_)
    refine rz_if_eq G (tgt := 159) rfl (dq jX11_expression 80 rfl) (fun c5 => ?_) (fun c5 => ?_)
    · refine rz_bipush G (v := 7) (dq jX11_expression 83 rfl) (by decide) ?_
      exact rz_lv [0, 1] rfl (z_X11_expression_b161 G k29 hk29 x1 7)
    · refine rz_bipush G (v := 6) (dq jX11_expression 81 rfl) (by decide) ?_
      refine rz_goto G (tgt := 161) rfl (dq jX11_expression 82 rfl) ?_
      exact rz_lv [0, 1] rfl (z_X11_expression_b161 G k29 hk29 x1 6)
  · exact rz_lv [0, 1] rfl (z_X11_expression_b186 G k29 hk29 x1)
theorem z_X11_expression_b345 {Γ : Cx} (G : GG Γ RX11 cX11_expression 3 none 6 0 0)  : Rz Γ 3 (Qm Γ encV 0 0) 0 0 345 [(0, .ref 56)] [] (f_X11_expression_b345 ) := by
  unfold f_X11_expression_b345
  refine rz_aload_n G 0 rfl rfl (dq jX11_expression_s1 22 rfl) ?_
  refine rz_iconst G (v := 0) (dq jX11_expression_s1 23 rfl) rfl ?_
  refine rz_callVv G (st := []) (c_X11_drops (cLn Γ) 0) lkX11_255 sh56 rfl rfl rfl (Nat.le_of_ble_eq_true rfl) (Nat.le_of_ble_eq_true rfl) (dq jX11_expression_s1 24 rfl) rfl (fun _ => ?_)
  refine rz_aload_n G 0 rfl rfl (dq jX11_expression_s1 25 rfl) ?_
  refine rz_iconst G (v := 0) (dq jX11_expression_s1 26 rfl) rfl ?_
  refine rz_callVv G (st := []) (c_X11_puts (cLn Γ) 0) lkX11_236 sh56 rfl rfl rfl (Nat.le_of_ble_eq_true rfl) (Nat.le_of_ble_eq_true rfl) (dq jX11_expression_s1 27 rfl) rfl (fun _ => ?_)
  exact rz_vret G (dq jX11_expression_s1 28 rfl)
theorem z_X11_expression_b325 {Γ : Cx} (G : GG Γ RX11 cX11_expression 3 none 6 0 0)  : Rz Γ 3 (Qm Γ encV 0 0) 0 0 325 [(0, .ref 56)] [] (f_X11_expression_b325 ) := by
  unfold f_X11_expression_b325
  refine rz_aload_n G 0 rfl rfl (dq jX11_expression_s1 12 rfl) ?_
  refine rz_callVi G (st := []) (c_X11_isGood (cLn Γ)) lkX11_207 sh56 rfl rfl rfl (Nat.le_of_ble_eq_true rfl) (Nat.le_of_ble_eq_true rfl) (dq jX11_expression_s1 13 rfl) rfl (fun r1 => ?_)
  refine rz_if_eq G (tgt := 345) rfl (dq jX11_expression_s1 14 rfl) (fun c2 => ?_) (fun c2 => ?_)
  · exact rz_lv [0] rfl (z_X11_expression_b345 G)
  · refine rz_aload_n G 0 rfl rfl (dq jX11_expression_s1 15 rfl) ?_
    refine rz_getI G flX11_243 sh56 rfl (dq jX11_expression_s1 16 rfl) (fun v3 => ?_)
    refine rz_iconst G (v := 1) (dq jX11_expression_s1 17 rfl) rfl ?_
    refine rz_icmp_le G (tgt := 345) rfl (dq jX11_expression_s1 18 rfl) (fun c4 => ?_) (fun c4 => ?_)
    · exact rz_lv [0] rfl (z_X11_expression_b345 G)
    · refine rz_aload_n G 0 rfl rfl (dq jX11_expression_s1 19 rfl) ?_
      refine rz_iconst G (v := 1) (dq jX11_expression_s1 20 rfl) rfl ?_
      refine rz_callVv G (st := []) (c_X11_wrong (cLn Γ) 1) lkX11_214 sh56 rfl rfl rfl (Nat.le_of_ble_eq_true rfl) (Nat.le_of_ble_eq_true rfl) (dq jX11_expression_s1 21 rfl) rfl (fun _ => ?_)
      exact rz_lv [0] rfl (z_X11_expression_b345 G)
theorem z_X11_expression_b29 {Γ : Cx} (G : GG Γ RX11 cX11_expression 3 none 6 0 0) : ∀ (fu : Nat) (x1 : Int32), Rz Γ 3 (Qm Γ encV 0 0) 0 0 29 [(0, .ref 56), (1, .int x1)] [] (f_X11_expression_b29 fu x1) := by
  intro fu
  induction fu with
  | zero => intro _; exact rz_none
  | succ fu ih =>
    intro x1
    rw [f_X11_expression_b29]
    refine rz_iload_n G 1 rfl rfl (dq jX11_expression 17 rfl) ?_
    refine rz_if_eq G (tgt := 325) rfl (dq jX11_expression 18 rfl) (fun c1 => ?_) (fun c1 => ?_)
    · exact rz_lv [0] rfl (z_X11_expression_b325 G)
    · refine rz_aload_n G 0 rfl rfl (dq jX11_expression 19 rfl) ?_
      refine rz_callVi G (st := []) (c_X11_isGood (cLn Γ)) lkX11_207 sh56 rfl rfl rfl (Nat.le_of_ble_eq_true rfl) (Nat.le_of_ble_eq_true rfl) (dq jX11_expression 20 rfl) rfl (fun r2 => ?_)
      refine rz_if_eq G (tgt := 325) rfl (dq jX11_expression 21 rfl) (fun c3 => ?_) (fun c3 => ?_)
      · exact rz_lv [0] rfl (z_X11_expression_b325 G)
      · refine rz_aload_n G 0 rfl rfl (dq jX11_expression 22 rfl) ?_
        refine rz_callVi G (st := []) (c_X11_knownWord (cLn Γ)) lkX11_239 sh56 rfl rfl rfl (Nat.le_of_ble_eq_true rfl) (Nat.le_of_ble_eq_true rfl) (dq jX11_expression 23 rfl) rfl (fun r4 => ?_)
        refine rz_istore_n G (lv' := [(2, .int r4), (0, .ref 56), (1, .int x1)]) rfl (Nat.le_of_ble_eq_true rfl) rfl (dq jX11_expression 24 rfl) ?_
        refine rz_iload_n G 0 rfl rfl (dq jX11_expression 25 rfl) ?_
        refine rz_bipush G (v := 16) (dq jX11_expression 26 rfl) (by decide) ?_
        refine rz_icmp_eq G (tgt := 57) rfl (dq jX11_expression 27 rfl) (fun c5 => ?_) (fun c5 => ?_)
        · exact rz_lv [1, 2, 0] rfl (z_X11_expression_b57 G (f_X11_expression_b29 fu) ih x1 r4)
        · refine rz_iload_n G 0 rfl rfl (dq jX11_expression 28 rfl) ?_
          refine rz_bipush G (v := 17) (dq jX11_expression 29 rfl) (by decide) ?_
          refine rz_icmp_ne G (tgt := 109) rfl (dq jX11_expression 30 rfl) (fun c6 => ?_) (fun c6 => ?_)
          · exact rz_lv [1, 2, 0] rfl (z_X11_expression_b57 G (f_X11_expression_b29 fu) ih x1 r4)
          · refine rz_aload_n G 1 rfl rfl (dq jX11_expression 59 rfl) ?_
            refine rz_bipush G (v := 60) (dq jX11_expression 60 rfl) (by decide) ?_
            refine rz_callVi G (st := []) (c_X11_isSign (cLn Γ) 60) lkX11_217 sh56 rfl rfl rfl (Nat.le_of_ble_eq_true rfl) (Nat.le_of_ble_eq_true rfl) (dq jX11_expression 61 rfl) rfl (fun r7 => ?_)
            refine rz_if_ne G (tgt := 127) rfl (dq jX11_expression 62 rfl) (fun c8 => ?_) (fun c8 => ?_)
            · refine rz_aload_n G 1 rfl rfl (dq jX11_expression 63 rfl) ?_
              refine rz_bipush G (v := 61) (dq jX11_expression 64 rfl) (by decide) ?_
              refine rz_callVi G (st := []) (c_X11_isSign (cLn Γ) 61) lkX11_217 sh56 rfl rfl rfl (Nat.le_of_ble_eq_true rfl) (Nat.le_of_ble_eq_true rfl) (dq jX11_expression 65 rfl) rfl (fun r9 => ?_)
              refine rz_if_eq G (tgt := 186) rfl (dq jX11_expression 66 rfl) (fun c10 => ?_) (fun c10 => ?_)
              · exact rz_lv [1, 2] rfl (z_X11_expression_b186 G (f_X11_expression_b29 fu) ih x1)
              · exact rz_lv [1, 2] rfl (z_X11_expression_b127 G (f_X11_expression_b29 fu) ih x1)
            · exact rz_lv [1, 2] rfl (z_X11_expression_b127 G (f_X11_expression_b29 fu) ih x1)
theorem c_X11_expression (l : Launch)  : Ct l yX11_expression cX11_expression 3 none 6 encV [.ref 56] (f_X11_expression ) := by
  refine ct_of (own := RX11) (by decide) rfl (Nat.le_of_ble_eq_true rfl) (fun Γ hl G => ?_)
  show Rz Γ 3 (Qm Γ encV 0 0) 0 0 0 [(0, .ref 56)] [] _
  unfold f_X11_expression
  refine rz_aload_n G 0 rfl rfl (dq jX11_expression 0 rfl) ?_
  refine rz_callVi G (st := []) (c_X11_isGood (cLn Γ)) lkX11_207 sh56 rfl rfl rfl (Nat.le_of_ble_eq_true rfl) (Nat.le_of_ble_eq_true rfl) (dq jX11_expression 1 rfl) rfl (fun r1 => ?_)
  refine rz_if_ne G (tgt := 8) rfl (dq jX11_expression 2 rfl) (fun c2 => ?_) (fun c2 => ?_)
  · exact rz_vret G (dq jX11_expression 3 rfl)
  · refine rz_aload_n G 0 rfl rfl (dq jX11_expression 4 rfl) ?_
    refine rz_iconst G (v := 0) (dq jX11_expression 5 rfl) rfl ?_
    refine rz_putI G flX11_227 sh56 rfl (dq jX11_expression 6 rfl) ?_
    refine rz_aload_n G 0 rfl rfl (dq jX11_expression 7 rfl) ?_
    refine rz_iconst G (v := 0) (dq jX11_expression 8 rfl) rfl ?_
    refine rz_putI G flX11_243 sh56 rfl (dq jX11_expression 9 rfl) ?_
    refine rz_aload_n G 0 rfl rfl (dq jX11_expression 10 rfl) ?_
    refine rz_callVv G (st := []) (c_X11_deeper (cLn Γ)) lkX11_249 sh56 rfl rfl rfl (Nat.le_of_ble_eq_true rfl) (Nat.le_of_ble_eq_true rfl) (dq jX11_expression 11 rfl) rfl (fun _ => ?_)
    refine rz_aload_n G 0 rfl rfl (dq jX11_expression 12 rfl) ?_
    refine rz_iconst G (v := 1) (dq jX11_expression 13 rfl) rfl ?_
    refine rz_callVv G (st := []) (c_X11_operand (cLn Γ) 1) lkX11_258 sh56 rfl rfl rfl (Nat.le_of_ble_eq_true rfl) (Nat.le_of_ble_eq_true rfl) (dq jX11_expression 14 rfl) rfl (fun _ => ?_)
    refine rz_iconst G (v := 1) (dq jX11_expression 15 rfl) rfl ?_
    refine rz_istore_n G (lv' := [(1, .int 1), (0, .ref 56)]) rfl (Nat.le_of_ble_eq_true rfl) rfl (dq jX11_expression 16 rfl) ?_
    exact rz_lv [1, 0] rfl (z_X11_expression_b29 G FU 1)
theorem z_X11_begins_b40 {Γ : Cx} (G : GG Γ RX11 cX11_begins 2 (some .boolean) 3 0 0)  : Rz Γ 2 (Qm Γ encI 0 0) 0 0 40 [(0, .ref 56)] [] (f_X11_begins_b40 ) := by
  unfold f_X11_begins_b40
  refine rz_aload_n G 0 rfl rfl (dq jX11_begins 24 rfl) ?_
  refine rz_callVi G (st := []) (c_X11_isGood (cLn Γ)) lkX11_207 sh56 rfl rfl rfl (Nat.le_of_ble_eq_true rfl) (Nat.le_of_ble_eq_true rfl) (dq jX11_begins 25 rfl) rfl (fun r1 => ?_)
  exact rz_zret G (dq jX11_begins 26 rfl)
theorem z_X11_begins_b17 {Γ : Cx} (G : GG Γ RX11 cX11_begins 2 (some .boolean) 3 0 0) (x1 : Int32) : Rz Γ 2 (Qm Γ encI 0 0) 0 0 17 [(0, .ref 56), (1, .int x1)] [] (f_X11_begins_b17 x1) := by
  unfold f_X11_begins_b17
  refine rz_aload_n G 0 rfl rfl (dq jX11_begins 11 rfl) ?_
  refine rz_dup G rfl (dq jX11_begins 12 rfl) ?_
  refine rz_getI G flX11_268 sh56 rfl (dq jX11_begins 13 rfl) (fun v1 => ?_)
  refine rz_iconst G (v := 1) (dq jX11_begins 14 rfl) rfl ?_
  refine rz_iload_n G 1 rfl rfl (dq jX11_begins 15 rfl) ?_
  refine rz_ishl G (dq jX11_begins 16 rfl) ?_
  refine rz_ior G (dq jX11_begins 17 rfl) ?_
  refine rz_putI G flX11_268 sh56 rfl (dq jX11_begins 18 rfl) ?_
  refine rz_aload_n G 0 rfl rfl (dq jX11_begins 19 rfl) ?_
  refine rz_callVi G (st := []) (c_X11_isGood (cLn Γ)) lkX11_207 sh56 rfl rfl rfl (Nat.le_of_ble_eq_true rfl) (Nat.le_of_ble_eq_true rfl) (dq jX11_begins 20 rfl) rfl (fun r2 => ?_)
  refine rz_if_eq G (tgt := 40) rfl (dq jX11_begins 21 rfl) (fun c3 => ?_) (fun c3 => ?_)
  · exact rz_lv [0] rfl (z_X11_begins_b40 G)
  · refine rz_aload_n G 0 rfl rfl (dq jX11_begins 22 rfl) ?_
    refine rz_callVv G (st := []) (c_X11_goes (cLn Γ)) lkX11_211 sh56 rfl rfl rfl (Nat.le_of_ble_eq_true rfl) (Nat.le_of_ble_eq_true rfl) (dq jX11_begins 23 rfl) rfl (fun _ => ?_)
    exact rz_lv [0] rfl (z_X11_begins_b40 G)
theorem c_X11_begins (l : Launch) (x1 : Int32) : Ct l yX11_begins cX11_begins 2 (some .boolean) 3 encI [.ref 56, .int x1] (f_X11_begins x1) := by
  refine ct_of (own := RX11) (by decide) rfl (Nat.le_of_ble_eq_true rfl) (fun Γ hl G => ?_)
  show Rz Γ 2 (Qm Γ encI 0 0) 0 0 0 [(0, .ref 56), (1, .int x1)] [] _
  unfold f_X11_begins
  refine rz_aload_n G 0 rfl rfl (dq jX11_begins 0 rfl) ?_
  refine rz_getI G flX11_268 sh56 rfl (dq jX11_begins 1 rfl) (fun v1 => ?_)
  refine rz_iload_n G 1 rfl rfl (dq jX11_begins 2 rfl) ?_
  refine rz_ishr G (dq jX11_begins 3 rfl) ?_
  refine rz_iconst G (v := 1) (dq jX11_begins 4 rfl) rfl ?_
  refine rz_iand G (dq jX11_begins 5 rfl) ?_
  refine rz_iconst G (v := 1) (dq jX11_begins 6 rfl) rfl ?_
  refine rz_icmp_ne G (tgt := 17) rfl (dq jX11_begins 7 rfl) (fun c2 => ?_) (fun c2 => ?_)
  · refine rz_aload_n G 0 rfl rfl (dq jX11_begins 8 rfl) ?_
    refine rz_iconst G (v := 5) (dq jX11_begins 9 rfl) rfl ?_
    refine rz_callVv G (st := []) (c_X11_wrong (cLn Γ) 5) lkX11_214 sh56 rfl rfl rfl (Nat.le_of_ble_eq_true rfl) (Nat.le_of_ble_eq_true rfl) (dq jX11_begins 10 rfl) rfl (fun _ => ?_)
    exact rz_lv [0, 1] rfl (z_X11_begins_b17 G x1)
  · exact rz_lv [0, 1] rfl (z_X11_begins_b17 G x1)
theorem z_X11_readsJumper_b151 {Γ : Cx} (G : GG Γ RX11 cX11_readsJumper 2 none 5 0 0)  : Rz Γ 2 (Qm Γ encV 0 0) 0 0 151 [(0, .ref 56)] [] (f_X11_readsJumper_b151 ) := by
  unfold f_X11_readsJumper_b151
  refine rz_aload_n G 0 rfl rfl (dq jX11_readsJumper 92 rfl) ?_
  refine rz_callVi G (st := []) (c_X11_isGood (cLn Γ)) lkX11_207 sh56 rfl rfl rfl (Nat.le_of_ble_eq_true rfl) (Nat.le_of_ble_eq_true rfl) (dq jX11_readsJumper 93 rfl) rfl (fun r1 => ?_)
  refine rz_if_eq G (tgt := 168) rfl (dq jX11_readsJumper 94 rfl) (fun c2 => ?_) (fun c2 => ?_)
  · exact rz_vret G (dq jX11_readsJumper 101 rfl)
  · refine rz_aload_n G 0 rfl rfl (dq jX11_readsJumper 95 rfl) ?_
    refine rz_dup G rfl (dq jX11_readsJumper 96 rfl) ?_
    refine rz_getI G flX11_271 sh56 rfl (dq jX11_readsJumper 97 rfl) (fun v3 => ?_)
    refine rz_iconst G (v := 1) (dq jX11_readsJumper 98 rfl) rfl ?_
    refine rz_iadd G (dq jX11_readsJumper 99 rfl) ?_
    refine rz_putI G flX11_271 sh56 rfl (dq jX11_readsJumper 100 rfl) ?_
    exact rz_vret G (dq jX11_readsJumper 101 rfl)
theorem z_X11_readsJumper_b13 {Γ : Cx} (G : GG Γ RX11 cX11_readsJumper 2 none 5 0 0)  : Rz Γ 2 (Qm Γ encV 0 0) 0 0 13 [(0, .ref 56)] [] (f_X11_readsJumper_b13 ) := by
  unfold f_X11_readsJumper_b13
  refine rz_aload_n G 0 rfl rfl (dq jX11_readsJumper 7 rfl) ?_
  refine rz_callVi G (st := []) (c_X11_isGood (cLn Γ)) lkX11_207 sh56 rfl rfl rfl (Nat.le_of_ble_eq_true rfl) (Nat.le_of_ble_eq_true rfl) (dq jX11_readsJumper 8 rfl) rfl (fun r1 => ?_)
  refine rz_if_ne G (tgt := 21) rfl (dq jX11_readsJumper 9 rfl) (fun c2 => ?_) (fun c2 => ?_)
  · exact rz_vret G (dq jX11_readsJumper 10 rfl)
  · refine rz_aload_n G 0 rfl rfl (dq jX11_readsJumper 11 rfl) ?_
    refine rz_callVv G (st := []) (c_X11_goes (cLn Γ)) lkX11_211 sh56 rfl rfl rfl (Nat.le_of_ble_eq_true rfl) (Nat.le_of_ble_eq_true rfl) (dq jX11_readsJumper 12 rfl) rfl (fun _ => ?_)
    refine rz_bipush G (v := 6) (dq jX11_readsJumper 13 rfl) (by decide) ?_
    refine rz_aload_n G 0 rfl rfl (dq jX11_readsJumper 14 rfl) ?_
    refine rz_getI G flX11_271 sh56 rfl (dq jX11_readsJumper 15 rfl) (fun v3 => ?_)
    refine rz_imul G (dq jX11_readsJumper 16 rfl) ?_
    refine rz_istore_n G (lv' := [(1, .int (6 * v3)), (0, .ref 56)]) rfl (Nat.le_of_ble_eq_true rfl) rfl (dq jX11_readsJumper 17 rfl) ?_
    refine rz_aload_n G 1 rfl rfl (dq jX11_readsJumper 18 rfl) ?_
    refine rz_getC G flX11_50 sh56 (t := 65) rfl rfl (dq jX11_readsJumper 19 rfl) ?_
    refine rz_iload_n G 0 rfl rfl (dq jX11_readsJumper 20 rfl) ?_
    refine rz_aload_n G 1 rfl rfl (dq jX11_readsJumper 21 rfl) ?_
    refine rz_iconst G (v := 1) (dq jX11_readsJumper 22 rfl) rfl ?_
    refine rz_bipush G (v := 99) (dq jX11_readsJumper 23 rfl) (by decide) ?_
    refine rz_callVi G (st := [.int (6 * v3), .ref 65]) (c_X11_number (cLn Γ) 1 99) lkX11_220 sh56 rfl rfl rfl (Nat.le_of_ble_eq_true rfl) (Nat.le_of_ble_eq_true rfl) (dq jX11_readsJumper 24 rfl) rfl (fun r4 => ?_)
    refine rz_iast G sh65 (dq jX11_readsJumper 25 rfl) ?_
    refine rz_aload_n G 1 rfl rfl (dq jX11_readsJumper 26 rfl) ?_
    refine rz_getC G flX11_50 sh56 (t := 65) rfl rfl (dq jX11_readsJumper 27 rfl) ?_
    refine rz_iload_n G 0 rfl rfl (dq jX11_readsJumper 28 rfl) ?_
    refine rz_iconst G (v := 1) (dq jX11_readsJumper 29 rfl) rfl ?_
    refine rz_iadd G (dq jX11_readsJumper 30 rfl) ?_
    refine rz_aload_n G 1 rfl rfl (dq jX11_readsJumper 31 rfl) ?_
    refine rz_iconst G (v := 0) (dq jX11_readsJumper 32 rfl) rfl ?_
    refine rz_bipush G (v := 30) (dq jX11_readsJumper 33 rfl) (by decide) ?_
    refine rz_callVi G (st := [.int ((6 * v3) + 1), .ref 65]) (c_X11_number (cLn Γ) 0 30) lkX11_220 sh56 rfl rfl rfl (Nat.le_of_ble_eq_true rfl) (Nat.le_of_ble_eq_true rfl) (dq jX11_readsJumper 34 rfl) rfl (fun r5 => ?_)
    refine rz_iast G sh65 (dq jX11_readsJumper 35 rfl) ?_
    refine rz_aload_n G 1 rfl rfl (dq jX11_readsJumper 36 rfl) ?_
    refine rz_getC G flX11_50 sh56 (t := 65) rfl rfl (dq jX11_readsJumper 37 rfl) ?_
    refine rz_iload_n G 0 rfl rfl (dq jX11_readsJumper 38 rfl) ?_
    refine rz_iconst G (v := 2) (dq jX11_readsJumper 39 rfl) rfl ?_
    refine rz_iadd G (dq jX11_readsJumper 40 rfl) ?_
    refine rz_aload_n G 1 rfl rfl (dq jX11_readsJumper 41 rfl) ?_
    refine rz_aload_n G 1 rfl rfl (dq jX11_readsJumper 42 rfl) ?_
    refine rz_getI G flX11_274 sh56 rfl (dq jX11_readsJumper 43 rfl) (fun v6 => ?_)
    refine rz_callVi G (st := [.int ((6 * v3) + 2), .ref 65]) (c_X11_signed (cLn Γ) v6) lkX11_277 sh56 rfl rfl rfl (Nat.le_of_ble_eq_true rfl) (Nat.le_of_ble_eq_true rfl) (dq jX11_readsJumper 44 rfl) rfl (fun r7 => ?_)
    refine rz_iast G sh65 (dq jX11_readsJumper 45 rfl) ?_
    refine rz_aload_n G 1 rfl rfl (dq jX11_readsJumper 46 rfl) ?_
    refine rz_getC G flX11_50 sh56 (t := 65) rfl rfl (dq jX11_readsJumper 47 rfl) ?_
    refine rz_iload_n G 0 rfl rfl (dq jX11_readsJumper 48 rfl) ?_
    refine rz_iconst G (v := 3) (dq jX11_readsJumper 49 rfl) rfl ?_
    refine rz_iadd G (dq jX11_readsJumper 50 rfl) ?_
    refine rz_aload_n G 1 rfl rfl (dq jX11_readsJumper 51 rfl) ?_
    refine rz_iconst G (v := 0) (dq jX11_readsJumper 52 rfl) rfl ?_
    refine rz_bipush G (v := 99) (dq jX11_readsJumper 53 rfl) (by decide) ?_
    refine rz_callVi G (st := [.int ((6 * v3) + 3), .ref 65]) (c_X11_number (cLn Γ) 0 99) lkX11_220 sh56 rfl rfl rfl (Nat.le_of_ble_eq_true rfl) (Nat.le_of_ble_eq_true rfl) (dq jX11_readsJumper 54 rfl) rfl (fun r8 => ?_)
    refine rz_iast G sh65 (dq jX11_readsJumper 55 rfl) ?_
    refine rz_aload_n G 1 rfl rfl (dq jX11_readsJumper 56 rfl) ?_
    refine rz_getC G flX11_50 sh56 (t := 65) rfl rfl (dq jX11_readsJumper 57 rfl) ?_
    refine rz_iload_n G 0 rfl rfl (dq jX11_readsJumper 58 rfl) ?_
    refine rz_iconst G (v := 4) (dq jX11_readsJumper 59 rfl) rfl ?_
    refine rz_iadd G (dq jX11_readsJumper 60 rfl) ?_
    refine rz_aload_n G 1 rfl rfl (dq jX11_readsJumper 61 rfl) ?_
    refine rz_iconst G (v := 0) (dq jX11_readsJumper 62 rfl) rfl ?_
    refine rz_bipush G (v := 60) (dq jX11_readsJumper 63 rfl) (by decide) ?_
    refine rz_callVi G (st := [.int ((6 * v3) + 4), .ref 65]) (c_X11_number (cLn Γ) 0 60) lkX11_220 sh56 rfl rfl rfl (Nat.le_of_ble_eq_true rfl) (Nat.le_of_ble_eq_true rfl) (dq jX11_readsJumper 64 rfl) rfl (fun r9 => ?_)
    refine rz_iast G sh65 (dq jX11_readsJumper 65 rfl) ?_
    refine rz_aload_n G 1 rfl rfl (dq jX11_readsJumper 66 rfl) ?_
    refine rz_getC G flX11_50 sh56 (t := 65) rfl rfl (dq jX11_readsJumper 67 rfl) ?_
    refine rz_iload_n G 0 rfl rfl (dq jX11_readsJumper 68 rfl) ?_
    refine rz_iconst G (v := 5) (dq jX11_readsJumper 69 rfl) rfl ?_
    refine rz_iadd G (dq jX11_readsJumper 70 rfl) ?_
    refine rz_iconst G (v := 0) (dq jX11_readsJumper 71 rfl) rfl ?_
    refine rz_iast G sh65 (dq jX11_readsJumper 72 rfl) ?_
    refine rz_aload_n G 1 rfl rfl (dq jX11_readsJumper 73 rfl) ?_
    refine rz_callVi G (st := []) (c_X11_isGood (cLn Γ)) lkX11_207 sh56 rfl rfl rfl (Nat.le_of_ble_eq_true rfl) (Nat.le_of_ble_eq_true rfl) (dq jX11_readsJumper 74 rfl) rfl (fun r10 => ?_)
    refine rz_if_eq G (tgt := 151) rfl (dq jX11_readsJumper 75 rfl) (fun c11 => ?_) (fun c11 => ?_)
    · exact rz_lv [1] rfl (z_X11_readsJumper_b151 G)
    · refine rz_aload_n G 1 rfl rfl (dq jX11_readsJumper 76 rfl) ?_
      refine rz_callVi G (st := []) (c_X11_knownWord (cLn Γ)) lkX11_239 sh56 rfl rfl rfl (Nat.le_of_ble_eq_true rfl) (Nat.le_of_ble_eq_true rfl) (dq jX11_readsJumper 77 rfl) rfl (fun r12 => ?_)
      refine rz_bipush G (v := 14) (dq jX11_readsJumper 78 rfl) (by decide) ?_
      refine rz_icmp_ne G (tgt := 151) rfl (dq jX11_readsJumper 79 rfl) (fun c13 => ?_) (fun c13 => ?_)
      · refine rz_aload_n G 1 rfl rfl (dq jX11_readsJumper 80 rfl) ?_
        refine rz_callVv G (st := []) (c_X11_goes (cLn Γ)) lkX11_211 sh56 rfl rfl rfl (Nat.le_of_ble_eq_true rfl) (Nat.le_of_ble_eq_true rfl) (dq jX11_readsJumper 81 rfl) rfl (fun _ => ?_)
        refine rz_aload_n G 1 rfl rfl (dq jX11_readsJumper 82 rfl) ?_
        refine rz_getC G flX11_50 sh56 (t := 65) rfl rfl (dq jX11_readsJumper 83 rfl) ?_
        refine rz_iload_n G 0 rfl rfl (dq jX11_readsJumper 84 rfl) ?_
        refine rz_iconst G (v := 5) (dq jX11_readsJumper 85 rfl) rfl ?_
        refine rz_iadd G (dq jX11_readsJumper 86 rfl) ?_
        refine rz_aload_n G 1 rfl rfl (dq jX11_readsJumper 87 rfl) ?_
        refine rz_iconst G (v := 0) (dq jX11_readsJumper 88 rfl) rfl ?_
        refine rz_bipush G (v := 9) (dq jX11_readsJumper 89 rfl) (by decide) ?_
        refine rz_callVi G (st := [.int ((6 * v3) + 5), .ref 65]) (c_X11_number (cLn Γ) 0 9) lkX11_220 sh56 rfl rfl rfl (Nat.le_of_ble_eq_true rfl) (Nat.le_of_ble_eq_true rfl) (dq jX11_readsJumper 90 rfl) rfl (fun r14 => ?_)
        refine rz_iast G sh65 (dq jX11_readsJumper 91 rfl) ?_
        exact rz_lv [1] rfl (z_X11_readsJumper_b151 G)
      · exact rz_lv [1] rfl (z_X11_readsJumper_b151 G)
theorem c_X11_readsJumper (l : Launch)  : Ct l yX11_readsJumper cX11_readsJumper 2 none 5 encV [.ref 56] (f_X11_readsJumper ) := by
  refine ct_of (own := RX11) (by decide) rfl (Nat.le_of_ble_eq_true rfl) (fun Γ hl G => ?_)
  show Rz Γ 2 (Qm Γ encV 0 0) 0 0 0 [(0, .ref 56)] [] _
  unfold f_X11_readsJumper
  refine rz_aload_n G 0 rfl rfl (dq jX11_readsJumper 0 rfl) ?_
  refine rz_getI G flX11_271 sh56 rfl (dq jX11_readsJumper 1 rfl) (fun v1 => ?_)
  refine rz_iconst G (v := 4) (dq jX11_readsJumper 2 rfl) rfl ?_
  refine rz_icmp_ne G (tgt := 13) rfl (dq jX11_readsJumper 3 rfl) (fun c2 => ?_) (fun c2 => ?_)
  · refine rz_aload_n G 0 rfl rfl (dq jX11_readsJumper 4 rfl) ?_
    refine rz_iconst G (v := 2) (dq jX11_readsJumper 5 rfl) rfl ?_
    refine rz_callVv G (st := []) (c_X11_wrong (cLn Γ) 2) lkX11_214 sh56 rfl rfl rfl (Nat.le_of_ble_eq_true rfl) (Nat.le_of_ble_eq_true rfl) (dq jX11_readsJumper 6 rfl) rfl (fun _ => ?_)
    exact rz_lv [0] rfl (z_X11_readsJumper_b13 G)
  · exact rz_lv [0] rfl (z_X11_readsJumper_b13 G)
theorem z_X11_readsEgg_b39 {Γ : Cx} (G : GG Γ RX11 cX11_readsEgg 2 none 4 0 0) (k10 : Sg → Option (Unit × Sg)) (hk10 : Rz Γ 2 (Qm Γ encV 0 0) 0 0 10 [(0, .ref 56)] [] (k10 ))  : Rz Γ 2 (Qm Γ encV 0 0) 0 0 39 [(0, .ref 56)] [] (f_X11_readsEgg_b39 k10 ) := by
  unfold f_X11_readsEgg_b39
  refine rz_aload_n G 0 rfl rfl (dq jX11_readsEgg 19 rfl) ?_
  refine rz_iconst G (v := 1) (dq jX11_readsEgg 20 rfl) rfl ?_
  refine rz_bipush G (v := 99) (dq jX11_readsEgg 21 rfl) (by decide) ?_
  refine rz_callVi G (st := []) (c_X11_number (cLn Γ) 1 99) lkX11_220 sh56 rfl rfl rfl (Nat.le_of_ble_eq_true rfl) (Nat.le_of_ble_eq_true rfl) (dq jX11_readsEgg 22 rfl) rfl (fun r1 => ?_)
  refine rz_istore_n G (lv' := [(1, .int r1), (0, .ref 56)]) rfl (Nat.le_of_ble_eq_true rfl) rfl (dq jX11_readsEgg 23 rfl) ?_
  refine rz_aload_n G 1 rfl rfl (dq jX11_readsEgg 24 rfl) ?_
  refine rz_callVi G (st := []) (c_X11_isGood (cLn Γ)) lkX11_207 sh56 rfl rfl rfl (Nat.le_of_ble_eq_true rfl) (Nat.le_of_ble_eq_true rfl) (dq jX11_readsEgg 25 rfl) rfl (fun r2 => ?_)
  refine rz_if_ne G (tgt := 55) rfl (dq jX11_readsEgg 26 rfl) (fun c3 => ?_) (fun c3 => ?_)
  · exact rz_vret G (dq jX11_readsEgg 27 rfl)
  · refine rz_aload_n G 1 rfl rfl (dq jX11_readsEgg 28 rfl) ?_
    refine rz_getC G flX11_56 sh56 (t := 67) rfl rfl (dq jX11_readsEgg 29 rfl) ?_
    refine rz_aload_n G 1 rfl rfl (dq jX11_readsEgg 30 rfl) ?_
    refine rz_getI G flX11_283 sh56 rfl (dq jX11_readsEgg 31 rfl) (fun v4 => ?_)
    refine rz_iload_n G 0 rfl rfl (dq jX11_readsEgg 32 rfl) ?_
    refine rz_iast G sh67 (dq jX11_readsEgg 33 rfl) ?_
    refine rz_aload_n G 1 rfl rfl (dq jX11_readsEgg 34 rfl) ?_
    refine rz_dup G rfl (dq jX11_readsEgg 35 rfl) ?_
    refine rz_getI G flX11_283 sh56 rfl (dq jX11_readsEgg 36 rfl) (fun v5 => ?_)
    refine rz_iconst G (v := 1) (dq jX11_readsEgg 37 rfl) rfl ?_
    refine rz_iadd G (dq jX11_readsEgg 38 rfl) ?_
    refine rz_putI G flX11_283 sh56 rfl (dq jX11_readsEgg 39 rfl) ?_
    refine rz_goto G (tgt := 10) rfl (dq jX11_readsEgg 40 rfl) ?_
    exact rz_lv [1] rfl (hk10)
theorem z_X11_readsEgg_b10 {Γ : Cx} (G : GG Γ RX11 cX11_readsEgg 2 none 4 0 0) : ∀ (fu : Nat), Rz Γ 2 (Qm Γ encV 0 0) 0 0 10 [(0, .ref 56)] [] (f_X11_readsEgg_b10 fu ) := by
  intro fu
  induction fu with
  | zero => exact rz_none
  | succ fu ih =>
    rw [f_X11_readsEgg_b10]
    refine rz_aload_n G 0 rfl rfl (dq jX11_readsEgg 5 rfl) ?_
    refine rz_callVi G (st := []) (c_X11_isGood (cLn Γ)) lkX11_207 sh56 rfl rfl rfl (Nat.le_of_ble_eq_true rfl) (Nat.le_of_ble_eq_true rfl) (dq jX11_readsEgg 6 rfl) rfl (fun r1 => ?_)
    refine rz_if_eq G (tgt := 78) rfl (dq jX11_readsEgg 7 rfl) (fun c2 => ?_) (fun c2 => ?_)
    · exact rz_vret G (dq jX11_readsEgg 41 rfl)
    · refine rz_aload_n G 0 rfl rfl (dq jX11_readsEgg 8 rfl) ?_
      refine rz_getI G flX11_181 sh56 rfl (dq jX11_readsEgg 9 rfl) (fun v3 => ?_)
      refine rz_iconst G (v := 2) (dq jX11_readsEgg 10 rfl) rfl ?_
      refine rz_icmp_ne G (tgt := 78) rfl (dq jX11_readsEgg 11 rfl) (fun c4 => ?_) (fun c4 => ?_)
      · refine rz_aload_n G 0 rfl rfl (dq jX11_readsEgg 12 rfl) ?_
        refine rz_getI G flX11_283 sh56 rfl (dq jX11_readsEgg 13 rfl) (fun v5 => ?_)
        refine rz_bipush G (v := 8) (dq jX11_readsEgg 14 rfl) (by decide) ?_
        refine rz_icmp_ne G (tgt := 39) rfl (dq jX11_readsEgg 15 rfl) (fun c6 => ?_) (fun c6 => ?_)
        · refine rz_aload_n G 0 rfl rfl (dq jX11_readsEgg 16 rfl) ?_
          refine rz_iconst G (v := 2) (dq jX11_readsEgg 17 rfl) rfl ?_
          refine rz_callVv G (st := []) (c_X11_wrong (cLn Γ) 2) lkX11_214 sh56 rfl rfl rfl (Nat.le_of_ble_eq_true rfl) (Nat.le_of_ble_eq_true rfl) (dq jX11_readsEgg 18 rfl) rfl (fun _ => ?_)
          exact rz_lv [0] rfl (z_X11_readsEgg_b39 G (f_X11_readsEgg_b10 fu) ih)
        · exact rz_lv [0] rfl (z_X11_readsEgg_b39 G (f_X11_readsEgg_b10 fu) ih)
      · exact rz_vret G (dq jX11_readsEgg 41 rfl)
theorem c_X11_readsEgg (l : Launch)  : Ct l yX11_readsEgg cX11_readsEgg 2 none 4 encV [.ref 56] (f_X11_readsEgg ) := by
  refine ct_of (own := RX11) (by decide) rfl (Nat.le_of_ble_eq_true rfl) (fun Γ hl G => ?_)
  show Rz Γ 2 (Qm Γ encV 0 0) 0 0 0 [(0, .ref 56)] [] _
  unfold f_X11_readsEgg
  refine rz_aload_n G 0 rfl rfl (dq jX11_readsEgg 0 rfl) ?_
  refine rz_bipush G (v := 12) (dq jX11_readsEgg 1 rfl) (by decide) ?_
  refine rz_callVi G (st := []) (c_X11_begins (cLn Γ) 12) lkX11_280 sh56 rfl rfl rfl (Nat.le_of_ble_eq_true rfl) (Nat.le_of_ble_eq_true rfl) (dq jX11_readsEgg 2 rfl) rfl (fun r1 => ?_)
  refine rz_if_ne G (tgt := 10) rfl (dq jX11_readsEgg 3 rfl) (fun c2 => ?_) (fun c2 => ?_)
  · exact rz_vret G (dq jX11_readsEgg 4 rfl)
  · exact rz_lv [0] rfl (z_X11_readsEgg_b10 G FU)
theorem z_X11_line_b292 {Γ : Cx} (G : GG Γ RX11 cX11_line 2 none 7 0 0)  : Rz Γ 2 (Qm Γ encV 0 0) 0 0 292 [(0, .ref 56)] [] (f_X11_line_b292 ) := by
  unfold f_X11_line_b292
  refine rz_aload_n G 0 rfl rfl (dq jX11_line_s1 5 rfl) ?_
  refine rz_aload_n G 0 rfl rfl (dq jX11_line_s1 6 rfl) ?_
  refine rz_bipush G (v := 59) (dq jX11_line_s1 7 rfl) (by decide) ?_
  refine rz_callVi G (st := [.ref 56]) (c_X11_isSign (cLn Γ) 59) lkX11_217 sh56 rfl rfl rfl (Nat.le_of_ble_eq_true rfl) (Nat.le_of_ble_eq_true rfl) (dq jX11_line_s1 8 rfl) rfl (fun r1 => ?_)
  refine rz_callVv G (st := []) (c_X11_need (cLn Γ) r1) lkX11_310 sh56 rfl rfl rfl (Nat.le_of_ble_eq_true rfl) (Nat.le_of_ble_eq_true rfl) (dq jX11_line_s1 9 rfl) rfl (fun _ => ?_)
  exact rz_vret G (dq jX11_line_s1 10 rfl)
theorem z_X11_line_b23 {Γ : Cx} (G : GG Γ RX11 cX11_line 2 none 7 0 0) (x1 : Int32) : Rz Γ 2 (Qm Γ encV 0 0) 0 0 23 [(0, .ref 56), (1, .int x1)] [] (f_X11_line_b23 x1) := by
  unfold f_X11_line_b23
  refine rz_aload_n G 0 rfl rfl (dq jX11_line 12 rfl) ?_
  refine rz_iload_n G 1 rfl rfl (dq jX11_line 13 rfl) ?_
  refine rz_callVi G (st := []) (c_X11_begins (cLn Γ) x1) lkX11_280 sh56 rfl rfl rfl (Nat.le_of_ble_eq_true rfl) (Nat.le_of_ble_eq_true rfl) (dq jX11_line 14 rfl) rfl (fun r1 => ?_)
  refine rz_if_ne G (tgt := 32) rfl (dq jX11_line 15 rfl) (fun c2 => ?_) (fun c2 => ?_)
  · exact rz_vret G (dq jX11_line 16 rfl)
  · refine rz_aload_n G 0 rfl rfl (dq jX11_line 17 rfl) ?_
    refine rz_aload_n G 0 rfl rfl (dq jX11_line 18 rfl) ?_
    refine rz_iconst G (v := 1) (dq jX11_line 19 rfl) rfl ?_
    refine rz_bipush G (v := 9) (dq jX11_line 20 rfl) (by decide) ?_
    refine rz_callVi G (st := [.ref 56]) (c_X11_number (cLn Γ) 1 9) lkX11_220 sh56 rfl rfl rfl (Nat.le_of_ble_eq_true rfl) (Nat.le_of_ble_eq_true rfl) (dq jX11_line 21 rfl) rfl (fun r3 => ?_)
    refine rz_putI G flX11_286 sh56 rfl (dq jX11_line 22 rfl) ?_
    refine rz_aload_n G 0 rfl rfl (dq jX11_line 23 rfl) ?_
    refine rz_aload_n G 0 rfl rfl (dq jX11_line 24 rfl) ?_
    refine rz_iconst G (v := 3) (dq jX11_line 25 rfl) rfl ?_
    refine rz_bipush G (v := 20) (dq jX11_line 26 rfl) (by decide) ?_
    refine rz_callVi G (st := [.ref 56]) (c_X11_number (cLn Γ) 3 20) lkX11_220 sh56 rfl rfl rfl (Nat.le_of_ble_eq_true rfl) (Nat.le_of_ble_eq_true rfl) (dq jX11_line 27 rfl) rfl (fun r4 => ?_)
    refine rz_putI G flX11_274 sh56 rfl (dq jX11_line 28 rfl) ?_
    refine rz_aload_n G 0 rfl rfl (dq jX11_line 29 rfl) ?_
    refine rz_aload_n G 0 rfl rfl (dq jX11_line 30 rfl) ?_
    refine rz_bipush G (v := 10) (dq jX11_line 31 rfl) (by decide) ?_
    refine rz_bipush G (v := 100) (dq jX11_line 32 rfl) (by decide) ?_
    refine rz_callVi G (st := [.ref 56]) (c_X11_number (cLn Γ) 10 100) lkX11_220 sh56 rfl rfl rfl (Nat.le_of_ble_eq_true rfl) (Nat.le_of_ble_eq_true rfl) (dq jX11_line 33 rfl) rfl (fun r5 => ?_)
    refine rz_putI G flX11_289 sh56 rfl (dq jX11_line 34 rfl) ?_
    refine rz_goto G (tgt := 292) rfl (dq jX11_line 35 rfl) ?_
    exact rz_lv [0] rfl (z_X11_line_b292 G)
theorem z_X11_line_b191 {Γ : Cx} (G : GG Γ RX11 cX11_line 2 none 7 0 0) (xs0 : Int32) (xs2 : Int32) : Rz Γ 2 (Qm Γ encV 0 0) 0 0 191 [(0, .ref 56)] [.int xs0, .ref 56, .int xs2, .ref 64] (f_X11_line_b191 xs0 xs2) := by
  unfold f_X11_line_b191
  refine rz_bipush G (v := 9) (dq jX11_line 104 rfl) (by decide) ?_
  refine rz_callVi G (st := [.int xs2, .ref 64]) (c_X11_number (cLn Γ) xs0 9) lkX11_220 sh56 rfl rfl rfl (Nat.le_of_ble_eq_true rfl) (Nat.le_of_ble_eq_true rfl) (dq jX11_line 105 rfl) rfl (fun r1 => ?_)
  refine rz_iast G sh64 (dq jX11_line 106 rfl) ?_
  refine rz_goto G (tgt := 292) rfl (dq jX11_line 107 rfl) ?_
  exact rz_lv [0] rfl (z_X11_line_b292 G)
theorem z_X11_line_b232 {Γ : Cx} (G : GG Γ RX11 cX11_line 2 none 7 0 0)  : Rz Γ 2 (Qm Γ encV 0 0) 0 0 232 [(0, .ref 56)] [] (f_X11_line_b232 ) := by
  unfold f_X11_line_b232
  refine rz_aload_n G 0 rfl rfl (dq jX11_line 124 rfl) ?_
  refine rz_callVi G (st := []) (c_X11_isGood (cLn Γ)) lkX11_207 sh56 rfl rfl rfl (Nat.le_of_ble_eq_true rfl) (Nat.le_of_ble_eq_true rfl) (dq jX11_line 125 rfl) rfl (fun r1 => ?_)
  refine rz_if_ne G (tgt := 240) rfl (dq jX11_line 126 rfl) (fun c2 => ?_) (fun c2 => ?_)
  · exact rz_vret G (dq jX11_line 127 rfl)
  · refine rz_aload_n G 0 rfl rfl (dq jX11_line 128 rfl) ?_
    refine rz_callVv G (st := []) (c_X11_goes (cLn Γ)) lkX11_211 sh56 rfl rfl rfl (Nat.le_of_ble_eq_true rfl) (Nat.le_of_ble_eq_true rfl) (dq jX11_line 129 rfl) rfl (fun _ => ?_)
    refine rz_aload_n G 0 rfl rfl (dq jX11_line 130 rfl) ?_
    refine rz_getC G flX11_53 sh56 (t := 66) rfl rfl (dq jX11_line 131 rfl) ?_
    refine rz_aload_n G 0 rfl rfl (dq jX11_line 132 rfl) ?_
    refine rz_getI G flX11_301 sh56 rfl (dq jX11_line 133 rfl) (fun v3 => ?_)
    refine rz_aload_n G 0 rfl rfl (dq jX11_line 134 rfl) ?_
    refine rz_getI G flX11_224 sh56 rfl (dq jX11_line 135 rfl) (fun v4 => ?_)
    refine rz_iast G sh66 (dq jX11_line 136 rfl) ?_
    refine rz_aload_n G 0 rfl rfl (dq jX11_line 137 rfl) ?_
    refine rz_dup G rfl (dq jX11_line 138 rfl) ?_
    refine rz_getI G flX11_301 sh56 rfl (dq jX11_line 139 rfl) (fun v5 => ?_)
    refine rz_iconst G (v := 1) (dq jX11_line 140 rfl) rfl ?_
    refine rz_iadd G (dq jX11_line 141 rfl) ?_
    refine rz_putI G flX11_301 sh56 rfl (dq jX11_line 142 rfl) ?_
    refine rz_aload_n G 0 rfl rfl (dq jX11_line 143 rfl) ?_
    refine rz_callVv G (st := []) (c_X11_expression (cLn Γ)) lkX11_304 sh56 rfl rfl rfl (Nat.le_of_ble_eq_true rfl) (Nat.le_of_ble_eq_true rfl) (dq jX11_line 144 rfl) rfl (fun _ => ?_)
    refine rz_goto G (tgt := 292) rfl (dq jX11_line 145 rfl) ?_
    exact rz_lv [0] rfl (z_X11_line_b292 G)
theorem c_X11_line (l : Launch)  : Ct l yX11_line cX11_line 2 none 7 encV [.ref 56] (f_X11_line ) := by
  refine ct_of (own := RX11) (by decide) rfl (Nat.le_of_ble_eq_true rfl) (fun Γ hl G => ?_)
  show Rz Γ 2 (Qm Γ encV 0 0) 0 0 0 [(0, .ref 56)] [] _
  unfold f_X11_line
  refine rz_aload_n G 0 rfl rfl (dq jX11_line 0 rfl) ?_
  refine rz_callVi G (st := []) (c_X11_knownWord (cLn Γ)) lkX11_239 sh56 rfl rfl rfl (Nat.le_of_ble_eq_true rfl) (Nat.le_of_ble_eq_true rfl) (dq jX11_line 1 rfl) rfl (fun r1 => ?_)
  refine rz_istore_n G (lv' := [(1, .int r1), (0, .ref 56)]) rfl (Nat.le_of_ble_eq_true rfl) rfl (dq jX11_line 2 rfl) ?_
  refine rz_iload_n G 0 rfl rfl (dq jX11_line 3 rfl) ?_
  refine rz_bipush G (v := 8) (dq jX11_line 4 rfl) (by decide) ?_
  refine rz_icmp_ne G (tgt := 69) rfl (dq jX11_line 5 rfl) (fun c2 => ?_) (fun c2 => ?_)
  · refine rz_aload_n G 1 rfl rfl (dq jX11_line 6 rfl) ?_
    refine rz_getI G flX11_271 sh56 rfl (dq jX11_line 7 rfl) (fun v3 => ?_)
    refine rz_if_le G (tgt := 23) rfl (dq jX11_line 8 rfl) (fun c4 => ?_) (fun c4 => ?_)
    · exact rz_lv [1, 0] rfl (z_X11_line_b23 G r1)
    · refine rz_aload_n G 1 rfl rfl (dq jX11_line 9 rfl) ?_
      refine rz_iconst G (v := 4) (dq jX11_line 10 rfl) rfl ?_
      refine rz_callVv G (st := []) (c_X11_wrong (cLn Γ) 4) lkX11_214 sh56 rfl rfl rfl (Nat.le_of_ble_eq_true rfl) (Nat.le_of_ble_eq_true rfl) (dq jX11_line 11 rfl) rfl (fun _ => ?_)
      exact rz_lv [1, 0] rfl (z_X11_line_b23 G r1)
  · refine rz_iload_n G 0 rfl rfl (dq jX11_line 36 rfl) ?_
    refine rz_bipush G (v := 9) (dq jX11_line 37 rfl) (by decide) ?_
    refine rz_icmp_ne G (tgt := 95) rfl (dq jX11_line 38 rfl) (fun c5 => ?_) (fun c5 => ?_)
    · refine rz_aload_n G 1 rfl rfl (dq jX11_line 39 rfl) ?_
      refine rz_iload_n G 0 rfl rfl (dq jX11_line 40 rfl) ?_
      refine rz_callVi G (st := []) (c_X11_begins (cLn Γ) r1) lkX11_280 sh56 rfl rfl rfl (Nat.le_of_ble_eq_true rfl) (Nat.le_of_ble_eq_true rfl) (dq jX11_line 41 rfl) rfl (fun r6 => ?_)
      refine rz_if_eq G (tgt := 292) rfl (dq jX11_line 42 rfl) (fun c7 => ?_) (fun c7 => ?_)
      · exact rz_lv [1] rfl (z_X11_line_b292 G)
      · refine rz_aload_n G 1 rfl rfl (dq jX11_line 43 rfl) ?_
        refine rz_aload_n G 1 rfl rfl (dq jX11_line 44 rfl) ?_
        refine rz_iconst G (v := 3) (dq jX11_line 45 rfl) rfl ?_
        refine rz_callVi G (st := [.ref 56]) (c_X11_signed (cLn Γ) 3) lkX11_277 sh56 rfl rfl rfl (Nat.le_of_ble_eq_true rfl) (Nat.le_of_ble_eq_true rfl) (dq jX11_line 46 rfl) rfl (fun r8 => ?_)
        refine rz_putI G flX11_292 sh56 rfl (dq jX11_line 47 rfl) ?_
        refine rz_goto G (tgt := 292) rfl (dq jX11_line 48 rfl) ?_
        exact rz_lv [1] rfl (z_X11_line_b292 G)
    · refine rz_iload_n G 0 rfl rfl (dq jX11_line 49 rfl) ?_
      refine rz_bipush G (v := 10) (dq jX11_line 50 rfl) (by decide) ?_
      refine rz_icmp_ne G (tgt := 123) rfl (dq jX11_line 51 rfl) (fun c9 => ?_) (fun c9 => ?_)
      · refine rz_aload_n G 1 rfl rfl (dq jX11_line 52 rfl) ?_
        refine rz_iload_n G 0 rfl rfl (dq jX11_line 53 rfl) ?_
        refine rz_callVi G (st := []) (c_X11_begins (cLn Γ) r1) lkX11_280 sh56 rfl rfl rfl (Nat.le_of_ble_eq_true rfl) (Nat.le_of_ble_eq_true rfl) (dq jX11_line 54 rfl) rfl (fun r10 => ?_)
        refine rz_if_eq G (tgt := 292) rfl (dq jX11_line 55 rfl) (fun c11 => ?_) (fun c11 => ?_)
        · exact rz_lv [1] rfl (z_X11_line_b292 G)
        · refine rz_aload_n G 1 rfl rfl (dq jX11_line 56 rfl) ?_
          refine rz_aload_n G 1 rfl rfl (dq jX11_line 57 rfl) ?_
          refine rz_iconst G (v := 0) (dq jX11_line 58 rfl) rfl ?_
          refine rz_bipush G (v := 9) (dq jX11_line 59 rfl) (by decide) ?_
          refine rz_callVi G (st := [.ref 56]) (c_X11_number (cLn Γ) 0 9) lkX11_220 sh56 rfl rfl rfl (Nat.le_of_ble_eq_true rfl) (Nat.le_of_ble_eq_true rfl) (dq jX11_line 60 rfl) rfl (fun r12 => ?_)
          refine rz_putI G flX11_295 sh56 rfl (dq jX11_line 61 rfl) ?_
          refine rz_goto G (tgt := 292) rfl (dq jX11_line 62 rfl) ?_
          exact rz_lv [1] rfl (z_X11_line_b292 G)
      · refine rz_iload_n G 0 rfl rfl (dq jX11_line 63 rfl) ?_
        refine rz_bipush G (v := 11) (dq jX11_line 64 rfl) (by decide) ?_
        refine rz_icmp_ne G (tgt := 200) rfl (dq jX11_line 65 rfl) (fun c13 => ?_) (fun c13 => ?_)
        · refine rz_aload_n G 1 rfl rfl (dq jX11_line 66 rfl) ?_
          refine rz_iload_n G 0 rfl rfl (dq jX11_line 67 rfl) ?_
          refine rz_callVi G (st := []) (c_X11_begins (cLn Γ) r1) lkX11_280 sh56 rfl rfl rfl (Nat.le_of_ble_eq_true rfl) (Nat.le_of_ble_eq_true rfl) (dq jX11_line 68 rfl) rfl (fun r14 => ?_)
          refine rz_if_ne G (tgt := 138) rfl (dq jX11_line 69 rfl) (fun c15 => ?_) (fun c15 => ?_)
          · exact rz_vret G (dq jX11_line 70 rfl)
          · refine rz_aload_n G 1 rfl rfl (dq jX11_line 71 rfl) ?_
            refine rz_getC G flX11_47 sh56 (t := 64) rfl rfl (dq jX11_line 72 rfl) ?_
            refine rz_iconst G (v := 0) (dq jX11_line 73 rfl) rfl ?_
            refine rz_aload_n G 1 rfl rfl (dq jX11_line 74 rfl) ?_
            refine rz_iconst G (v := 0) (dq jX11_line 75 rfl) rfl ?_
            refine rz_bipush G (v := 9) (dq jX11_line 76 rfl) (by decide) ?_
            refine rz_callVi G (st := [.int 0, .ref 64]) (c_X11_number (cLn Γ) 0 9) lkX11_220 sh56 rfl rfl rfl (Nat.le_of_ble_eq_true rfl) (Nat.le_of_ble_eq_true rfl) (dq jX11_line 77 rfl) rfl (fun r16 => ?_)
            refine rz_iastN G (by decide) sh64 (dq jX11_line 78 rfl) ?_
            refine rz_aload_n G 1 rfl rfl (dq jX11_line 79 rfl) ?_
            refine rz_getC G flX11_47 sh56 (t := 64) rfl rfl (dq jX11_line 80 rfl) ?_
            refine rz_iconst G (v := 1) (dq jX11_line 81 rfl) rfl ?_
            refine rz_aload_n G 1 rfl rfl (dq jX11_line 82 rfl) ?_
            refine rz_iconst G (v := 0) (dq jX11_line 83 rfl) rfl ?_
            refine rz_bipush G (v := 9) (dq jX11_line 84 rfl) (by decide) ?_
            refine rz_callVi G (st := [.int 1, .ref 64]) (c_X11_number (cLn Γ) 0 9) lkX11_220 sh56 rfl rfl rfl (Nat.le_of_ble_eq_true rfl) (Nat.le_of_ble_eq_true rfl) (dq jX11_line 85 rfl) rfl (fun r17 => ?_)
            refine rz_iastN G (by decide) sh64 (dq jX11_line 86 rfl) ?_
            refine rz_aload_n G 1 rfl rfl (dq jX11_line 87 rfl) ?_
            refine rz_getC G flX11_47 sh56 (t := 64) rfl rfl (dq jX11_line 88 rfl) ?_
            refine rz_iconst G (v := 2) (dq jX11_line 89 rfl) rfl ?_
            refine rz_aload_n G 1 rfl rfl (dq jX11_line 90 rfl) ?_
            refine rz_aload_n G 1 rfl rfl (dq jX11_line 91 rfl) ?_
            refine rz_getC G flX11_47 sh56 (t := 64) rfl rfl (dq jX11_line 92 rfl) ?_
            refine rz_iconst G (v := 0) (dq jX11_line 93 rfl) rfl ?_
            refine rz_ialdN G (by decide) sh64 (dq jX11_line 94 rfl) (fun v18 => ?_)
            refine rz_aload_n G 1 rfl rfl (dq jX11_line 95 rfl) ?_
            refine rz_getC G flX11_47 sh56 (t := 64) rfl rfl (dq jX11_line 96 rfl) ?_
            refine rz_iconst G (v := 1) (dq jX11_line 97 rfl) rfl ?_
            refine rz_ialdN G (by decide) sh64 (dq jX11_line 98 rfl) (fun v19 => ?_)
            refine rz_iadd G (dq jX11_line 99 rfl) ?_
            refine rz_if_ne G (tgt := 190) rfl (dq jX11_line 100 rfl) (fun c20 => ?_) (fun c20 => ?_)
            · refine rz_iconst G (v := 1) (dq jX11_line 101 rfl) rfl ?_
              refine rz_goto G (tgt := 191) rfl (dq jX11_line 102 rfl) ?_
              exact rz_lv [1] rfl (z_X11_line_b191 G 1 2)
            · refine rz_iconst G (v := 0) (dq jX11_line 103 rfl) rfl ?_
              exact rz_lv [1] rfl (z_X11_line_b191 G 0 2)
        · refine rz_iload_n G 0 rfl rfl (dq jX11_line 108 rfl) ?_
          refine rz_bipush G (v := 13) (dq jX11_line 109 rfl) (by decide) ?_
          refine rz_icmp_ne G (tgt := 213) rfl (dq jX11_line 110 rfl) (fun c21 => ?_) (fun c21 => ?_)
          · refine rz_aload_n G 1 rfl rfl (dq jX11_line 111 rfl) ?_
            refine rz_callVv G (st := []) (c_X11_readsJumper (cLn Γ)) lkX11_298 sh56 rfl rfl rfl (Nat.le_of_ble_eq_true rfl) (Nat.le_of_ble_eq_true rfl) (dq jX11_line 112 rfl) rfl (fun _ => ?_)
            refine rz_goto G (tgt := 292) rfl (dq jX11_line 113 rfl) ?_
            exact rz_lv [1] rfl (z_X11_line_b292 G)
          · refine rz_iload_n G 0 rfl rfl (dq jX11_line 114 rfl) ?_
            refine rz_bipush G (v := 15) (dq jX11_line 115 rfl) (by decide) ?_
            refine rz_icmp_ne G (tgt := 274) rfl (dq jX11_line 116 rfl) (fun c22 => ?_) (fun c22 => ?_)
            · refine rz_aload_n G 1 rfl rfl (dq jX11_line 117 rfl) ?_
              refine rz_getI G flX11_301 sh56 rfl (dq jX11_line 118 rfl) (fun v23 => ?_)
              refine rz_iconst G (v := 4) (dq jX11_line 119 rfl) rfl ?_
              refine rz_icmp_ne G (tgt := 232) rfl (dq jX11_line 120 rfl) (fun c24 => ?_) (fun c24 => ?_)
              · refine rz_aload_n G 1 rfl rfl (dq jX11_line 121 rfl) ?_
                refine rz_iconst G (v := 2) (dq jX11_line 122 rfl) rfl ?_
                refine rz_callVv G (st := []) (c_X11_wrong (cLn Γ) 2) lkX11_214 sh56 rfl rfl rfl (Nat.le_of_ble_eq_true rfl) (Nat.le_of_ble_eq_true rfl) (dq jX11_line 123 rfl) rfl (fun _ => ?_)
                exact rz_lv [1] rfl (z_X11_line_b232 G)
              · exact rz_lv [1] rfl (z_X11_line_b232 G)
            · refine rz_iload_n G 0 rfl rfl (dq jX11_line 146 rfl) ?_
              refine rz_bipush G (v := 12) (dq jX11_line 147 rfl) (by decide) ?_
              refine rz_icmp_ne G (tgt := 287) rfl (dq jX11_line 148 rfl) (fun c25 => ?_) (fun c25 => ?_)
              · refine rz_aload_n G 1 rfl rfl (dq jX11_line 149 rfl) ?_
                refine rz_callVv G (st := []) (c_X11_readsEgg (cLn Γ)) lkX11_307 sh56 rfl rfl rfl (Nat.le_of_ble_eq_true rfl) (Nat.le_of_ble_eq_true rfl) (dq jX11_line_s1 0 rfl) rfl (fun _ => ?_)
                refine rz_goto G (tgt := 292) rfl (dq jX11_line_s1 1 rfl) ?_
                exact rz_lv [1] rfl (z_X11_line_b292 G)
              · refine rz_aload_n G 1 rfl rfl (dq jX11_line_s1 2 rfl) ?_
                refine rz_iconst G (v := 1) (dq jX11_line_s1 3 rfl) rfl ?_
                refine rz_callVv G (st := []) (c_X11_wrong (cLn Γ) 1) lkX11_214 sh56 rfl rfl rfl (Nat.le_of_ble_eq_true rfl) (Nat.le_of_ble_eq_true rfl) (dq jX11_line_s1 4 rfl) rfl (fun _ => ?_)
                exact rz_lv [1] rfl (z_X11_line_b292 G)
theorem z_X11_copies_64_57_b2 {Γ : Cx} (G : GG Γ RX11 cX11_copies 4 none 1 0 0) : ∀ (fu : Nat) (x3 : Int32), Rz Γ 4 (Qm Γ encV 0 0) 0 0 2 [(1, .ref 64), (2, .ref 57), (3, .int x3)] [] (f_X11_copies_64_57_b2 fu x3) := by
  intro fu
  induction fu with
  | zero => intro _; exact rz_none
  | succ fu ih =>
    intro x3
    rw [f_X11_copies_64_57_b2]
    refine rz_iload_n G 2 rfl rfl (dq jX11_copies 2 rfl) ?_
    refine rz_aload_n G 0 rfl rfl (dq jX11_copies 3 rfl) ?_
    refine rz_alen G (v := 3) sh64 (by decide) (by decide) (dq jX11_copies 4 rfl) ?_
    refine rz_icmp_ge G (tgt := 20) rfl (dq jX11_copies 5 rfl) (fun c1 => ?_) (fun c1 => ?_)
    · exact rz_vret G (dq jX11_copies 14 rfl)
    · refine rz_aload_n G 1 rfl rfl (dq jX11_copies 6 rfl) ?_
      refine rz_iload_n G 2 rfl rfl (dq jX11_copies 7 rfl) ?_
      refine rz_aload_n G 0 rfl rfl (dq jX11_copies 8 rfl) ?_
      refine rz_iload_n G 2 rfl rfl (dq jX11_copies 9 rfl) ?_
      refine rz_iald G sh64 (dq jX11_copies 10 rfl) (fun v2 => ?_)
      refine rz_iast G sh57 (dq jX11_copies 11 rfl) ?_
      refine rz_iinc G 2 (v := x3 + 1) (lv' := [(3, .int (x3 + 1)), (1, .ref 64), (2, .ref 57)]) rfl (congrArg (HAdd.hAdd _) (by decide)) (Nat.le_of_ble_eq_true rfl) rfl (dq jX11_copies 12 rfl) ?_
      refine rz_goto G (tgt := 2) rfl (dq jX11_copies 13 rfl) ?_
      exact rz_lv [1, 2, 0] rfl (ih (x3 + 1))
theorem c_X11_copies_64_57 (l : Launch)  : Ct l yX11_copies cX11_copies 4 none 1 encV [.ref 56, .ref 64, .ref 57] (f_X11_copies_64_57 ) := by
  refine ct_of (own := RX11) (by decide) rfl (Nat.le_of_ble_eq_true rfl) (fun Γ hl G => ?_)
  show Rz Γ 4 (Qm Γ encV 0 0) 0 0 0 [(0, .ref 56), (1, .ref 64), (2, .ref 57)] [] _
  unfold f_X11_copies_64_57
  refine rz_iconst G (v := 0) (dq jX11_copies 0 rfl) rfl ?_
  refine rz_istore_n G (lv' := [(3, .int 0), (0, .ref 56), (1, .ref 64), (2, .ref 57)]) rfl (Nat.le_of_ble_eq_true rfl) rfl (dq jX11_copies 1 rfl) ?_
  exact rz_lv [2, 3, 0] rfl (z_X11_copies_64_57_b2 G FU 0)
theorem z_X11_copies_65_58_b2 {Γ : Cx} (G : GG Γ RX11 cX11_copies 4 none 1 0 0) : ∀ (fu : Nat) (x3 : Int32), Rz Γ 4 (Qm Γ encV 0 0) 0 0 2 [(1, .ref 65), (2, .ref 58), (3, .int x3)] [] (f_X11_copies_65_58_b2 fu x3) := by
  intro fu
  induction fu with
  | zero => intro _; exact rz_none
  | succ fu ih =>
    intro x3
    rw [f_X11_copies_65_58_b2]
    refine rz_iload_n G 2 rfl rfl (dq jX11_copies 2 rfl) ?_
    refine rz_aload_n G 0 rfl rfl (dq jX11_copies 3 rfl) ?_
    refine rz_alen G (v := 24) sh65 (by decide) (by decide) (dq jX11_copies 4 rfl) ?_
    refine rz_icmp_ge G (tgt := 20) rfl (dq jX11_copies 5 rfl) (fun c1 => ?_) (fun c1 => ?_)
    · exact rz_vret G (dq jX11_copies 14 rfl)
    · refine rz_aload_n G 1 rfl rfl (dq jX11_copies 6 rfl) ?_
      refine rz_iload_n G 2 rfl rfl (dq jX11_copies 7 rfl) ?_
      refine rz_aload_n G 0 rfl rfl (dq jX11_copies 8 rfl) ?_
      refine rz_iload_n G 2 rfl rfl (dq jX11_copies 9 rfl) ?_
      refine rz_iald G sh65 (dq jX11_copies 10 rfl) (fun v2 => ?_)
      refine rz_iast G sh58 (dq jX11_copies 11 rfl) ?_
      refine rz_iinc G 2 (v := x3 + 1) (lv' := [(3, .int (x3 + 1)), (1, .ref 65), (2, .ref 58)]) rfl (congrArg (HAdd.hAdd _) (by decide)) (Nat.le_of_ble_eq_true rfl) rfl (dq jX11_copies 12 rfl) ?_
      refine rz_goto G (tgt := 2) rfl (dq jX11_copies 13 rfl) ?_
      exact rz_lv [1, 2, 0] rfl (ih (x3 + 1))
theorem c_X11_copies_65_58 (l : Launch)  : Ct l yX11_copies cX11_copies 4 none 1 encV [.ref 56, .ref 65, .ref 58] (f_X11_copies_65_58 ) := by
  refine ct_of (own := RX11) (by decide) rfl (Nat.le_of_ble_eq_true rfl) (fun Γ hl G => ?_)
  show Rz Γ 4 (Qm Γ encV 0 0) 0 0 0 [(0, .ref 56), (1, .ref 65), (2, .ref 58)] [] _
  unfold f_X11_copies_65_58
  refine rz_iconst G (v := 0) (dq jX11_copies 0 rfl) rfl ?_
  refine rz_istore_n G (lv' := [(3, .int 0), (0, .ref 56), (1, .ref 65), (2, .ref 58)]) rfl (Nat.le_of_ble_eq_true rfl) rfl (dq jX11_copies 1 rfl) ?_
  exact rz_lv [2, 3, 0] rfl (z_X11_copies_65_58_b2 G FU 0)
theorem z_X11_copies_66_59_b2 {Γ : Cx} (G : GG Γ RX11 cX11_copies 4 none 1 0 0) : ∀ (fu : Nat) (x3 : Int32), Rz Γ 4 (Qm Γ encV 0 0) 0 0 2 [(1, .ref 66), (2, .ref 59), (3, .int x3)] [] (f_X11_copies_66_59_b2 fu x3) := by
  intro fu
  induction fu with
  | zero => intro _; exact rz_none
  | succ fu ih =>
    intro x3
    rw [f_X11_copies_66_59_b2]
    refine rz_iload_n G 2 rfl rfl (dq jX11_copies 2 rfl) ?_
    refine rz_aload_n G 0 rfl rfl (dq jX11_copies 3 rfl) ?_
    refine rz_alen G (v := 4) sh66 (by decide) (by decide) (dq jX11_copies 4 rfl) ?_
    refine rz_icmp_ge G (tgt := 20) rfl (dq jX11_copies 5 rfl) (fun c1 => ?_) (fun c1 => ?_)
    · exact rz_vret G (dq jX11_copies 14 rfl)
    · refine rz_aload_n G 1 rfl rfl (dq jX11_copies 6 rfl) ?_
      refine rz_iload_n G 2 rfl rfl (dq jX11_copies 7 rfl) ?_
      refine rz_aload_n G 0 rfl rfl (dq jX11_copies 8 rfl) ?_
      refine rz_iload_n G 2 rfl rfl (dq jX11_copies 9 rfl) ?_
      refine rz_iald G sh66 (dq jX11_copies 10 rfl) (fun v2 => ?_)
      refine rz_iast G sh59 (dq jX11_copies 11 rfl) ?_
      refine rz_iinc G 2 (v := x3 + 1) (lv' := [(3, .int (x3 + 1)), (1, .ref 66), (2, .ref 59)]) rfl (congrArg (HAdd.hAdd _) (by decide)) (Nat.le_of_ble_eq_true rfl) rfl (dq jX11_copies 12 rfl) ?_
      refine rz_goto G (tgt := 2) rfl (dq jX11_copies 13 rfl) ?_
      exact rz_lv [1, 2, 0] rfl (ih (x3 + 1))
theorem c_X11_copies_66_59 (l : Launch)  : Ct l yX11_copies cX11_copies 4 none 1 encV [.ref 56, .ref 66, .ref 59] (f_X11_copies_66_59 ) := by
  refine ct_of (own := RX11) (by decide) rfl (Nat.le_of_ble_eq_true rfl) (fun Γ hl G => ?_)
  show Rz Γ 4 (Qm Γ encV 0 0) 0 0 0 [(0, .ref 56), (1, .ref 66), (2, .ref 59)] [] _
  unfold f_X11_copies_66_59
  refine rz_iconst G (v := 0) (dq jX11_copies 0 rfl) rfl ?_
  refine rz_istore_n G (lv' := [(3, .int 0), (0, .ref 56), (1, .ref 66), (2, .ref 59)]) rfl (Nat.le_of_ble_eq_true rfl) rfl (dq jX11_copies 1 rfl) ?_
  exact rz_lv [2, 3, 0] rfl (z_X11_copies_66_59_b2 G FU 0)
theorem z_X11_copies_67_60_b2 {Γ : Cx} (G : GG Γ RX11 cX11_copies 4 none 1 0 0) : ∀ (fu : Nat) (x3 : Int32), Rz Γ 4 (Qm Γ encV 0 0) 0 0 2 [(1, .ref 67), (2, .ref 60), (3, .int x3)] [] (f_X11_copies_67_60_b2 fu x3) := by
  intro fu
  induction fu with
  | zero => intro _; exact rz_none
  | succ fu ih =>
    intro x3
    rw [f_X11_copies_67_60_b2]
    refine rz_iload_n G 2 rfl rfl (dq jX11_copies 2 rfl) ?_
    refine rz_aload_n G 0 rfl rfl (dq jX11_copies 3 rfl) ?_
    refine rz_alen G (v := 8) sh67 (by decide) (by decide) (dq jX11_copies 4 rfl) ?_
    refine rz_icmp_ge G (tgt := 20) rfl (dq jX11_copies 5 rfl) (fun c1 => ?_) (fun c1 => ?_)
    · exact rz_vret G (dq jX11_copies 14 rfl)
    · refine rz_aload_n G 1 rfl rfl (dq jX11_copies 6 rfl) ?_
      refine rz_iload_n G 2 rfl rfl (dq jX11_copies 7 rfl) ?_
      refine rz_aload_n G 0 rfl rfl (dq jX11_copies 8 rfl) ?_
      refine rz_iload_n G 2 rfl rfl (dq jX11_copies 9 rfl) ?_
      refine rz_iald G sh67 (dq jX11_copies 10 rfl) (fun v2 => ?_)
      refine rz_iast G sh60 (dq jX11_copies 11 rfl) ?_
      refine rz_iinc G 2 (v := x3 + 1) (lv' := [(3, .int (x3 + 1)), (1, .ref 67), (2, .ref 60)]) rfl (congrArg (HAdd.hAdd _) (by decide)) (Nat.le_of_ble_eq_true rfl) rfl (dq jX11_copies 12 rfl) ?_
      refine rz_goto G (tgt := 2) rfl (dq jX11_copies 13 rfl) ?_
      exact rz_lv [1, 2, 0] rfl (ih (x3 + 1))
theorem c_X11_copies_67_60 (l : Launch)  : Ct l yX11_copies cX11_copies 4 none 1 encV [.ref 56, .ref 67, .ref 60] (f_X11_copies_67_60 ) := by
  refine ct_of (own := RX11) (by decide) rfl (Nat.le_of_ble_eq_true rfl) (fun Γ hl G => ?_)
  show Rz Γ 4 (Qm Γ encV 0 0) 0 0 0 [(0, .ref 56), (1, .ref 67), (2, .ref 60)] [] _
  unfold f_X11_copies_67_60
  refine rz_iconst G (v := 0) (dq jX11_copies 0 rfl) rfl ?_
  refine rz_istore_n G (lv' := [(3, .int 0), (0, .ref 56), (1, .ref 67), (2, .ref 60)]) rfl (Nat.le_of_ble_eq_true rfl) rfl (dq jX11_copies 1 rfl) ?_
  exact rz_lv [2, 3, 0] rfl (z_X11_copies_67_60_b2 G FU 0)
theorem z_X11_copies_68_61_b2 {Γ : Cx} (G : GG Γ RX11 cX11_copies 4 none 1 0 0) : ∀ (fu : Nat) (x3 : Int32), Rz Γ 4 (Qm Γ encV 0 0) 0 0 2 [(1, .ref 68), (2, .ref 61), (3, .int x3)] [] (f_X11_copies_68_61_b2 fu x3) := by
  intro fu
  induction fu with
  | zero => intro _; exact rz_none
  | succ fu ih =>
    intro x3
    rw [f_X11_copies_68_61_b2]
    refine rz_iload_n G 2 rfl rfl (dq jX11_copies 2 rfl) ?_
    refine rz_aload_n G 0 rfl rfl (dq jX11_copies 3 rfl) ?_
    refine rz_alen G (v := 1600) sh68 (by decide) (by decide) (dq jX11_copies 4 rfl) ?_
    refine rz_icmp_ge G (tgt := 20) rfl (dq jX11_copies 5 rfl) (fun c1 => ?_) (fun c1 => ?_)
    · exact rz_vret G (dq jX11_copies 14 rfl)
    · refine rz_aload_n G 1 rfl rfl (dq jX11_copies 6 rfl) ?_
      refine rz_iload_n G 2 rfl rfl (dq jX11_copies 7 rfl) ?_
      refine rz_aload_n G 0 rfl rfl (dq jX11_copies 8 rfl) ?_
      refine rz_iload_n G 2 rfl rfl (dq jX11_copies 9 rfl) ?_
      refine rz_iald G sh68 (dq jX11_copies 10 rfl) (fun v2 => ?_)
      refine rz_iast G sh61 (dq jX11_copies 11 rfl) ?_
      refine rz_iinc G 2 (v := x3 + 1) (lv' := [(3, .int (x3 + 1)), (1, .ref 68), (2, .ref 61)]) rfl (congrArg (HAdd.hAdd _) (by decide)) (Nat.le_of_ble_eq_true rfl) rfl (dq jX11_copies 12 rfl) ?_
      refine rz_goto G (tgt := 2) rfl (dq jX11_copies 13 rfl) ?_
      exact rz_lv [1, 2, 0] rfl (ih (x3 + 1))
theorem c_X11_copies_68_61 (l : Launch)  : Ct l yX11_copies cX11_copies 4 none 1 encV [.ref 56, .ref 68, .ref 61] (f_X11_copies_68_61 ) := by
  refine ct_of (own := RX11) (by decide) rfl (Nat.le_of_ble_eq_true rfl) (fun Γ hl G => ?_)
  show Rz Γ 4 (Qm Γ encV 0 0) 0 0 0 [(0, .ref 56), (1, .ref 68), (2, .ref 61)] [] _
  unfold f_X11_copies_68_61
  refine rz_iconst G (v := 0) (dq jX11_copies 0 rfl) rfl ?_
  refine rz_istore_n G (lv' := [(3, .int 0), (0, .ref 56), (1, .ref 68), (2, .ref 61)]) rfl (Nat.le_of_ble_eq_true rfl) rfl (dq jX11_copies 1 rfl) ?_
  exact rz_lv [2, 3, 0] rfl (z_X11_copies_68_61_b2 G FU 0)
theorem z_X11_garden_b155 {Γ : Cx} (G : GG Γ RX11 cX11_garden 2 (some .int) 8 0 0)  : Rz Γ 2 (Qm Γ encI 0 0) 0 0 155 [(0, .ref 56)] [] (f_X11_garden_b155 ) := by
  unfold f_X11_garden_b155
  refine rz_aload_n G 0 rfl rfl (dq jX11_garden 89 rfl) ?_
  refine rz_callVi G (st := []) (c_X11_isGood (cLn Γ)) lkX11_207 sh56 rfl rfl rfl (Nat.le_of_ble_eq_true rfl) (Nat.le_of_ble_eq_true rfl) (dq jX11_garden 90 rfl) rfl (fun r1 => ?_)
  refine rz_if_ne G (tgt := 177) rfl (dq jX11_garden 91 rfl) (fun c2 => ?_) (fun c2 => ?_)
  · refine rz_aload_n G 0 rfl rfl (dq jX11_garden 92 rfl) ?_
    refine rz_getC G flX11_44 sh56 (t := 63) rfl rfl (dq jX11_garden 93 rfl) ?_
    refine rz_iconst G (v := 0) (dq jX11_garden 94 rfl) rfl ?_
    refine rz_dup2 G rfl rfl (dq jX11_garden 95 rfl) ?_
    refine rz_ialdN G (by decide) sh63 (dq jX11_garden 96 rfl) (fun v3 => ?_)
    refine rz_iconst G (v := 1) (dq jX11_garden 97 rfl) rfl ?_
    refine rz_iadd G (dq jX11_garden 98 rfl) ?_
    refine rz_iastN G (by decide) sh63 (dq jX11_garden 99 rfl) ?_
    refine rz_aload_n G 0 rfl rfl (dq jX11_garden 100 rfl) ?_
    refine rz_getI G flX11_204 sh56 rfl (dq jX11_garden 101 rfl) (fun v4 => ?_)
    exact rz_iret G (dq jX11_garden 102 rfl)
  · refine rz_aload_n G 0 rfl rfl (dq jX11_garden 103 rfl) ?_
    refine rz_aload_n G 0 rfl rfl (dq jX11_garden 104 rfl) ?_
    refine rz_getI G flX11_286 sh56 rfl (dq jX11_garden 105 rfl) (fun v5 => ?_)
    refine rz_putI G flX11_7 sh56 rfl (dq jX11_garden 106 rfl) ?_
    refine rz_aload_n G 0 rfl rfl (dq jX11_garden 107 rfl) ?_
    refine rz_aload_n G 0 rfl rfl (dq jX11_garden 108 rfl) ?_
    refine rz_getI G flX11_274 sh56 rfl (dq jX11_garden 109 rfl) (fun v6 => ?_)
    refine rz_putI G flX11_13 sh56 rfl (dq jX11_garden 110 rfl) ?_
    refine rz_aload_n G 0 rfl rfl (dq jX11_garden 111 rfl) ?_
    refine rz_aload_n G 0 rfl rfl (dq jX11_garden 112 rfl) ?_
    refine rz_getI G flX11_289 sh56 rfl (dq jX11_garden 113 rfl) (fun v7 => ?_)
    refine rz_putI G flX11_16 sh56 rfl (dq jX11_garden 114 rfl) ?_
    refine rz_aload_n G 0 rfl rfl (dq jX11_garden 115 rfl) ?_
    refine rz_aload_n G 0 rfl rfl (dq jX11_garden 116 rfl) ?_
    refine rz_getI G flX11_292 sh56 rfl (dq jX11_garden 117 rfl) (fun v8 => ?_)
    refine rz_putI G flX11_320 sh56 rfl (dq jX11_garden 118 rfl) ?_
    refine rz_aload_n G 0 rfl rfl (dq jX11_garden 119 rfl) ?_
    refine rz_aload_n G 0 rfl rfl (dq jX11_garden 120 rfl) ?_
    refine rz_getI G flX11_295 sh56 rfl (dq jX11_garden 121 rfl) (fun v9 => ?_)
    refine rz_putI G flX11_19 sh56 rfl (dq jX11_garden 122 rfl) ?_
    refine rz_aload_n G 0 rfl rfl (dq jX11_garden 123 rfl) ?_
    refine rz_aload_n G 0 rfl rfl (dq jX11_garden 124 rfl) ?_
    refine rz_getI G flX11_271 sh56 rfl (dq jX11_garden 125 rfl) (fun v10 => ?_)
    refine rz_putI G flX11_323 sh56 rfl (dq jX11_garden 126 rfl) ?_
    refine rz_aload_n G 0 rfl rfl (dq jX11_garden 127 rfl) ?_
    refine rz_aload_n G 0 rfl rfl (dq jX11_garden 128 rfl) ?_
    refine rz_getI G flX11_301 sh56 rfl (dq jX11_garden 129 rfl) (fun v11 => ?_)
    refine rz_putI G flX11_326 sh56 rfl (dq jX11_garden 130 rfl) ?_
    refine rz_aload_n G 0 rfl rfl (dq jX11_garden 131 rfl) ?_
    refine rz_aload_n G 0 rfl rfl (dq jX11_garden 132 rfl) ?_
    refine rz_getI G flX11_283 sh56 rfl (dq jX11_garden 133 rfl) (fun v12 => ?_)
    refine rz_putI G flX11_329 sh56 rfl (dq jX11_garden 134 rfl) ?_
    refine rz_aload_n G 0 rfl rfl (dq jX11_garden 135 rfl) ?_
    refine rz_aload_n G 0 rfl rfl (dq jX11_garden 136 rfl) ?_
    refine rz_getC G flX11_47 sh56 (t := 64) rfl rfl (dq jX11_garden 137 rfl) ?_
    refine rz_aload_n G 0 rfl rfl (dq jX11_garden 138 rfl) ?_
    refine rz_getC G flX11_22 sh56 (t := 57) rfl rfl (dq jX11_garden 139 rfl) ?_
    refine rz_callVv G (st := []) (c_X11_copies_64_57 (cLn Γ)) lkX11_332 sh56 rfl rfl rfl (Nat.le_of_ble_eq_true rfl) (Nat.le_of_ble_eq_true rfl) (dq jX11_garden 140 rfl) rfl (fun _ => ?_)
    refine rz_aload_n G 0 rfl rfl (dq jX11_garden 141 rfl) ?_
    refine rz_aload_n G 0 rfl rfl (dq jX11_garden 142 rfl) ?_
    refine rz_getC G flX11_50 sh56 (t := 65) rfl rfl (dq jX11_garden 143 rfl) ?_
    refine rz_aload_n G 0 rfl rfl (dq jX11_garden 144 rfl) ?_
    refine rz_getC G flX11_26 sh56 (t := 58) rfl rfl (dq jX11_garden 145 rfl) ?_
    refine rz_callVv G (st := []) (c_X11_copies_65_58 (cLn Γ)) lkX11_332 sh56 rfl rfl rfl (Nat.le_of_ble_eq_true rfl) (Nat.le_of_ble_eq_true rfl) (dq jX11_garden 146 rfl) rfl (fun _ => ?_)
    refine rz_aload_n G 0 rfl rfl (dq jX11_garden 147 rfl) ?_
    refine rz_aload_n G 0 rfl rfl (dq jX11_garden 148 rfl) ?_
    refine rz_getC G flX11_53 sh56 (t := 66) rfl rfl (dq jX11_garden 149 rfl) ?_
    refine rz_aload_n G 0 rfl rfl (dq jX11_garden_s1 0 rfl) ?_
    refine rz_getC G flX11_29 sh56 (t := 59) rfl rfl (dq jX11_garden_s1 1 rfl) ?_
    refine rz_callVv G (st := []) (c_X11_copies_66_59 (cLn Γ)) lkX11_332 sh56 rfl rfl rfl (Nat.le_of_ble_eq_true rfl) (Nat.le_of_ble_eq_true rfl) (dq jX11_garden_s1 2 rfl) rfl (fun _ => ?_)
    refine rz_aload_n G 0 rfl rfl (dq jX11_garden_s1 3 rfl) ?_
    refine rz_aload_n G 0 rfl rfl (dq jX11_garden_s1 4 rfl) ?_
    refine rz_getC G flX11_56 sh56 (t := 67) rfl rfl (dq jX11_garden_s1 5 rfl) ?_
    refine rz_aload_n G 0 rfl rfl (dq jX11_garden_s1 6 rfl) ?_
    refine rz_getC G flX11_32 sh56 (t := 60) rfl rfl (dq jX11_garden_s1 7 rfl) ?_
    refine rz_callVv G (st := []) (c_X11_copies_67_60 (cLn Γ)) lkX11_332 sh56 rfl rfl rfl (Nat.le_of_ble_eq_true rfl) (Nat.le_of_ble_eq_true rfl) (dq jX11_garden_s1 8 rfl) rfl (fun _ => ?_)
    refine rz_aload_n G 0 rfl rfl (dq jX11_garden_s1 9 rfl) ?_
    refine rz_aload_n G 0 rfl rfl (dq jX11_garden_s1 10 rfl) ?_
    refine rz_getC G flX11_59 sh56 (t := 68) rfl rfl (dq jX11_garden_s1 11 rfl) ?_
    refine rz_aload_n G 0 rfl rfl (dq jX11_garden_s1 12 rfl) ?_
    refine rz_getC G flX11_35 sh56 (t := 61) rfl rfl (dq jX11_garden_s1 13 rfl) ?_
    refine rz_callVv G (st := []) (c_X11_copies_68_61 (cLn Γ)) lkX11_332 sh56 rfl rfl rfl (Nat.le_of_ble_eq_true rfl) (Nat.le_of_ble_eq_true rfl) (dq jX11_garden_s1 14 rfl) rfl (fun _ => ?_)
    refine rz_aload_n G 0 rfl rfl (dq jX11_garden_s1 15 rfl) ?_
    refine rz_iconst G (v := (-1)) (dq jX11_garden_s1 16 rfl) rfl ?_
    refine rz_putI G flX11_69 sh56 rfl (dq jX11_garden_s1 17 rfl) ?_
    refine rz_aload_n G 0 rfl rfl (dq jX11_garden_s1 18 rfl) ?_
    refine rz_sipush G (v := 200) (dq jX11_garden_s1 19 rfl) (by decide) ?_
    refine rz_putI G flX11_72 sh56 rfl (dq jX11_garden_s1 20 rfl) ?_
    refine rz_aload_n G 0 rfl rfl (dq jX11_garden_s1 21 rfl) ?_
    refine rz_iconst G (v := 0) (dq jX11_garden_s1 22 rfl) rfl ?_
    refine rz_putI G flX11_336 sh56 rfl (dq jX11_garden_s1 23 rfl) ?_
    refine rz_aload_n G 0 rfl rfl (dq jX11_garden_s1 24 rfl) ?_
    refine rz_iconst G (v := 0) (dq jX11_garden_s1 25 rfl) rfl ?_
    refine rz_putI G flX11_339 sh56 rfl (dq jX11_garden_s1 26 rfl) ?_
    refine rz_aload_n G 0 rfl rfl (dq jX11_garden_s1 27 rfl) ?_
    refine rz_iconst G (v := 0) (dq jX11_garden_s1 28 rfl) rfl ?_
    refine rz_putZ G (by decide) flX11_342 sh56 rfl (dq jX11_garden_s1 29 rfl) ?_
    refine rz_iconst G (v := 0) (dq jX11_garden_s1 30 rfl) rfl ?_
    exact rz_iret G (dq jX11_garden_s1 31 rfl)
theorem z_X11_garden_b134 {Γ : Cx} (G : GG Γ RX11 cX11_garden 2 (some .int) 8 0 0) : ∀ (fu : Nat), Rz Γ 2 (Qm Γ encI 0 0) 0 0 134 [(0, .ref 56)] [] (f_X11_garden_b134 fu ) := by
  intro fu
  induction fu with
  | zero => exact rz_none
  | succ fu ih =>
    rw [f_X11_garden_b134]
    refine rz_aload_n G 0 rfl rfl (dq jX11_garden 80 rfl) ?_
    refine rz_callVi G (st := []) (c_X11_isGood (cLn Γ)) lkX11_207 sh56 rfl rfl rfl (Nat.le_of_ble_eq_true rfl) (Nat.le_of_ble_eq_true rfl) (dq jX11_garden 81 rfl) rfl (fun r1 => ?_)
    refine rz_if_eq G (tgt := 155) rfl (dq jX11_garden 82 rfl) (fun c2 => ?_) (fun c2 => ?_)
    · exact rz_lv [0] rfl (z_X11_garden_b155 G)
    · refine rz_aload_n G 0 rfl rfl (dq jX11_garden 83 rfl) ?_
      refine rz_getI G flX11_181 sh56 rfl (dq jX11_garden 84 rfl) (fun v3 => ?_)
      refine rz_if_eq G (tgt := 155) rfl (dq jX11_garden 85 rfl) (fun c4 => ?_) (fun c4 => ?_)
      · exact rz_lv [0] rfl (z_X11_garden_b155 G)
      · refine rz_aload_n G 0 rfl rfl (dq jX11_garden 86 rfl) ?_
        refine rz_callVv G (st := []) (c_X11_line (cLn Γ)) lkX11_317 sh56 rfl rfl rfl (Nat.le_of_ble_eq_true rfl) (Nat.le_of_ble_eq_true rfl) (dq jX11_garden 87 rfl) rfl (fun _ => ?_)
        refine rz_goto G (tgt := 134) rfl (dq jX11_garden 88 rfl) ?_
        exact rz_lv [0] rfl (ih)
theorem z_X11_garden_b23 {Γ : Cx} (G : GG Γ RX11 cX11_garden 2 (some .int) 8 0 0) (x1 : Int32) (xs0 : Int32) : Rz Γ 2 (Qm Γ encI 0 0) 0 0 23 [(0, .ref 56), (1, .int x1)] [.int xs0, .ref 56] (f_X11_garden_b23 x1 xs0) := by
  unfold f_X11_garden_b23
  refine rz_iconst G (v := 1) (dq jX11_garden 13 rfl) rfl ?_
  refine rz_callVi G (st := []) (c_X11_right (cLn Γ) xs0 1) lkX11_313 sh56 rfl rfl rfl (Nat.le_of_ble_eq_true rfl) (Nat.le_of_ble_eq_true rfl) (dq jX11_garden 14 rfl) rfl (fun r1 => ?_)
  refine rz_if_ne G (tgt := 32) rfl (dq jX11_garden 15 rfl) (fun c2 => ?_) (fun c2 => ?_)
  · refine rz_iconst G (v := 0) (dq jX11_garden 16 rfl) rfl ?_
    exact rz_iret G (dq jX11_garden 17 rfl)
  · refine rz_aload_n G 0 rfl rfl (dq jX11_garden 18 rfl) ?_
    refine rz_iconst G (v := 0) (dq jX11_garden 19 rfl) rfl ?_
    refine rz_putI G flX11_151 sh56 rfl (dq jX11_garden 20 rfl) ?_
    refine rz_aload_n G 0 rfl rfl (dq jX11_garden 21 rfl) ?_
    refine rz_iconst G (v := (-1)) (dq jX11_garden 22 rfl) rfl ?_
    refine rz_putI G flX11_41 sh56 rfl (dq jX11_garden 23 rfl) ?_
    refine rz_aload_n G 0 rfl rfl (dq jX11_garden 24 rfl) ?_
    refine rz_iconst G (v := 0) (dq jX11_garden 25 rfl) rfl ?_
    refine rz_putI G flX11_204 sh56 rfl (dq jX11_garden 26 rfl) ?_
    refine rz_aload_n G 0 rfl rfl (dq jX11_garden 27 rfl) ?_
    refine rz_iload_n G 1 rfl rfl (dq jX11_garden 28 rfl) ?_
    refine rz_putI G flX11_158 sh56 rfl (dq jX11_garden 29 rfl) ?_
    refine rz_aload_n G 0 rfl rfl (dq jX11_garden 30 rfl) ?_
    refine rz_iconst G (v := 0) (dq jX11_garden 31 rfl) rfl ?_
    refine rz_putI G flX11_161 sh56 rfl (dq jX11_garden 32 rfl) ?_
    refine rz_aload_n G 0 rfl rfl (dq jX11_garden 33 rfl) ?_
    refine rz_iconst G (v := 3) (dq jX11_garden 34 rfl) rfl ?_
    refine rz_putI G flX11_286 sh56 rfl (dq jX11_garden 35 rfl) ?_
    refine rz_aload_n G 0 rfl rfl (dq jX11_garden 36 rfl) ?_
    refine rz_bipush G (v := 9) (dq jX11_garden 37 rfl) (by decide) ?_
    refine rz_putI G flX11_274 sh56 rfl (dq jX11_garden 38 rfl) ?_
    refine rz_aload_n G 0 rfl rfl (dq jX11_garden 39 rfl) ?_
    refine rz_bipush G (v := 80) (dq jX11_garden 40 rfl) (by decide) ?_
    refine rz_putI G flX11_289 sh56 rfl (dq jX11_garden 41 rfl) ?_
    refine rz_aload_n G 0 rfl rfl (dq jX11_garden 42 rfl) ?_
    refine rz_iconst G (v := 0) (dq jX11_garden 43 rfl) rfl ?_
    refine rz_putI G flX11_292 sh56 rfl (dq jX11_garden 44 rfl) ?_
    refine rz_aload_n G 0 rfl rfl (dq jX11_garden 45 rfl) ?_
    refine rz_iconst G (v := 1) (dq jX11_garden 46 rfl) rfl ?_
    refine rz_putI G flX11_295 sh56 rfl (dq jX11_garden 47 rfl) ?_
    refine rz_aload_n G 0 rfl rfl (dq jX11_garden 48 rfl) ?_
    refine rz_getC G flX11_47 sh56 (t := 64) rfl rfl (dq jX11_garden 49 rfl) ?_
    refine rz_iconst G (v := 0) (dq jX11_garden 50 rfl) rfl ?_
    refine rz_iconst G (v := 0) (dq jX11_garden 51 rfl) rfl ?_
    refine rz_iastN G (by decide) sh64 (dq jX11_garden 52 rfl) ?_
    refine rz_aload_n G 0 rfl rfl (dq jX11_garden 53 rfl) ?_
    refine rz_getC G flX11_47 sh56 (t := 64) rfl rfl (dq jX11_garden 54 rfl) ?_
    refine rz_iconst G (v := 1) (dq jX11_garden 55 rfl) rfl ?_
    refine rz_iconst G (v := 1) (dq jX11_garden 56 rfl) rfl ?_
    refine rz_iastN G (by decide) sh64 (dq jX11_garden 57 rfl) ?_
    refine rz_aload_n G 0 rfl rfl (dq jX11_garden 58 rfl) ?_
    refine rz_getC G flX11_47 sh56 (t := 64) rfl rfl (dq jX11_garden 59 rfl) ?_
    refine rz_iconst G (v := 2) (dq jX11_garden 60 rfl) rfl ?_
    refine rz_iconst G (v := 0) (dq jX11_garden 61 rfl) rfl ?_
    refine rz_iastN G (by decide) sh64 (dq jX11_garden 62 rfl) ?_
    refine rz_aload_n G 0 rfl rfl (dq jX11_garden 63 rfl) ?_
    refine rz_iconst G (v := 0) (dq jX11_garden 64 rfl) rfl ?_
    refine rz_putI G flX11_271 sh56 rfl (dq jX11_garden 65 rfl) ?_
    refine rz_aload_n G 0 rfl rfl (dq jX11_garden 66 rfl) ?_
    refine rz_iconst G (v := 0) (dq jX11_garden 67 rfl) rfl ?_
    refine rz_putI G flX11_301 sh56 rfl (dq jX11_garden 68 rfl) ?_
    refine rz_aload_n G 0 rfl rfl (dq jX11_garden 69 rfl) ?_
    refine rz_iconst G (v := 0) (dq jX11_garden 70 rfl) rfl ?_
    refine rz_putI G flX11_283 sh56 rfl (dq jX11_garden 71 rfl) ?_
    refine rz_aload_n G 0 rfl rfl (dq jX11_garden 72 rfl) ?_
    refine rz_iconst G (v := 0) (dq jX11_garden 73 rfl) rfl ?_
    refine rz_putI G flX11_268 sh56 rfl (dq jX11_garden 74 rfl) ?_
    refine rz_aload_n G 0 rfl rfl (dq jX11_garden 75 rfl) ?_
    refine rz_iconst G (v := 0) (dq jX11_garden 76 rfl) rfl ?_
    refine rz_putI G flX11_224 sh56 rfl (dq jX11_garden 77 rfl) ?_
    refine rz_aload_n G 0 rfl rfl (dq jX11_garden 78 rfl) ?_
    refine rz_callVv G (st := []) (c_X11_goes (cLn Γ)) lkX11_211 sh56 rfl rfl rfl (Nat.le_of_ble_eq_true rfl) (Nat.le_of_ble_eq_true rfl) (dq jX11_garden 79 rfl) rfl (fun _ => ?_)
    exact rz_lv [0] rfl (z_X11_garden_b134 G FU)
theorem z_X11_garden_b22 {Γ : Cx} (G : GG Γ RX11 cX11_garden 2 (some .int) 8 0 0) (x1 : Int32) : Rz Γ 2 (Qm Γ encI 0 0) 0 0 22 [(0, .ref 56), (1, .int x1)] [.ref 56] (f_X11_garden_b22 x1) := by
  unfold f_X11_garden_b22
  refine rz_iconst G (v := 0) (dq jX11_garden 12 rfl) rfl ?_
  exact rz_lv [0, 1] rfl (z_X11_garden_b23 G x1 0)
theorem c_X11_garden (l : Launch) (x1 : Int32) : Ct l yX11_garden cX11_garden 2 (some .int) 8 encI [.ref 56, .int x1] (f_X11_garden x1) := by
  refine ct_of (own := RX11) (by decide) rfl (Nat.le_of_ble_eq_true rfl) (fun Γ hl G => ?_)
  show Rz Γ 2 (Qm Γ encI 0 0) 0 0 0 [(0, .ref 56), (1, .int x1)] [] _
  unfold f_X11_garden
  refine rz_aload_n G 0 rfl rfl (dq jX11_garden 0 rfl) ?_
  refine rz_iconst G (v := 0) (dq jX11_garden 1 rfl) rfl ?_
  refine rz_putI G flX11_148 sh56 rfl (dq jX11_garden 2 rfl) ?_
  refine rz_aload_n G 0 rfl rfl (dq jX11_garden 3 rfl) ?_
  refine rz_iload_n G 1 rfl rfl (dq jX11_garden 4 rfl) ?_
  refine rz_if_lt G (tgt := 22) rfl (dq jX11_garden 5 rfl) (fun c1 => ?_) (fun c1 => ?_)
  · exact rz_lv [0, 1] rfl (z_X11_garden_b22 G x1)
  · refine rz_iload_n G 1 rfl rfl (dq jX11_garden 6 rfl) ?_
    refine rz_aload_n G 0 rfl rfl (dq jX11_garden 7 rfl) ?_
    refine rz_getI G flX11_151 sh56 rfl (dq jX11_garden 8 rfl) (fun v2 => ?_)
    refine rz_icmp_gt G (tgt := 22) rfl (dq jX11_garden 9 rfl) (fun c3 => ?_) (fun c3 => ?_)
    · exact rz_lv [0, 1] rfl (z_X11_garden_b22 G x1)
    · refine rz_iconst G (v := 1) (dq jX11_garden 10 rfl) rfl ?_
      refine rz_goto G (tgt := 23) rfl (dq jX11_garden 11 rfl) ?_
      exact rz_lv [0, 1] rfl (z_X11_garden_b23 G x1 1)
theorem c_X11_fault (l : Launch)  : Ct l yX11_fault cX11_fault 1 (some .int) 1 encI [.ref 56] (f_X11_fault ) := by
  refine ct_of (own := RX11) (by decide) rfl (Nat.le_of_ble_eq_true rfl) (fun Γ hl G => ?_)
  show Rz Γ 1 (Qm Γ encI 0 0) 0 0 0 [(0, .ref 56)] [] _
  unfold f_X11_fault
  refine rz_aload_n G 0 rfl rfl (dq jX11_fault 0 rfl) ?_
  refine rz_iconst G (v := 0) (dq jX11_fault 1 rfl) rfl ?_
  refine rz_putI G flX11_148 sh56 rfl (dq jX11_fault 2 rfl) ?_
  refine rz_aload_n G 0 rfl rfl (dq jX11_fault 3 rfl) ?_
  refine rz_getI G flX11_41 sh56 rfl (dq jX11_fault 4 rfl) (fun v1 => ?_)
  exact rz_iret G (dq jX11_fault 5 rfl)
theorem c_X11_count (l : Launch) (x1 : Int32) : Ct l yX11_count cX11_count 2 (some .int) 2 encI [.ref 56, .int x1] (f_X11_count x1) := by
  refine ct_of (own := RX11) (by decide) rfl (Nat.le_of_ble_eq_true rfl) (fun Γ hl G => ?_)
  show Rz Γ 2 (Qm Γ encI 0 0) 0 0 0 [(0, .ref 56), (1, .int x1)] [] _
  unfold f_X11_count
  refine rz_aload_n G 0 rfl rfl (dq jX11_count 0 rfl) ?_
  refine rz_iconst G (v := 0) (dq jX11_count 1 rfl) rfl ?_
  refine rz_putI G flX11_148 sh56 rfl (dq jX11_count 2 rfl) ?_
  refine rz_aload_n G 0 rfl rfl (dq jX11_count 3 rfl) ?_
  refine rz_iload_n G 1 rfl rfl (dq jX11_count 4 rfl) ?_
  refine rz_iconst G (v := 0) (dq jX11_count 5 rfl) rfl ?_
  refine rz_bipush G (v := 18) (dq jX11_count 6 rfl) (by decide) ?_
  refine rz_callSi G (st := [.ref 56]) (c_X11_within (cLn Γ) x1 0 18) lkX11_346 rfl (Nat.le_of_ble_eq_true rfl) (Nat.le_of_ble_eq_true rfl) (dq jX11_count 7 rfl) rfl (fun r1 => ?_)
  refine rz_iconst G (v := 1) (dq jX11_count 8 rfl) rfl ?_
  refine rz_callVi G (st := []) (c_X11_right (cLn Γ) r1 1) lkX11_313 sh56 rfl rfl rfl (Nat.le_of_ble_eq_true rfl) (Nat.le_of_ble_eq_true rfl) (dq jX11_count 9 rfl) rfl (fun r2 => ?_)
  refine rz_if_ne G (tgt := 22) rfl (dq jX11_count 10 rfl) (fun c3 => ?_) (fun c3 => ?_)
  · refine rz_iconst G (v := 0) (dq jX11_count 11 rfl) rfl ?_
    exact rz_iret G (dq jX11_count 12 rfl)
  · refine rz_iload_n G 1 rfl rfl (dq jX11_count 13 rfl) ?_
    refine rz_br (fun c4 => ?_) (fun c4 => ?_)
    · refine rz_tableIn G 0 (tgt := 100) swX11_count_23 (by rw [c4]; rfl) (by decide) rfl rfl ?_
      refine rz_aload_n G 0 rfl rfl (dq jX11_count_s1 0 rfl) ?_
      refine rz_getI G flX11_7 sh56 rfl (dq jX11_count_s1 1 rfl) (fun v5 => ?_)
      exact rz_iret G (dq jX11_count_s1 2 rfl)
    · refine rz_br (fun c6 => ?_) (fun c6 => ?_)
      · refine rz_tableIn G 1 (tgt := 105) swX11_count_23 (by rw [c6]; rfl) (by decide) rfl rfl ?_
        refine rz_aload_n G 0 rfl rfl (dq jX11_count_s1 3 rfl) ?_
        refine rz_getI G flX11_13 sh56 rfl (dq jX11_count_s1 4 rfl) (fun v7 => ?_)
        exact rz_iret G (dq jX11_count_s1 5 rfl)
      · refine rz_br (fun c8 => ?_) (fun c8 => ?_)
        · refine rz_tableIn G 2 (tgt := 110) swX11_count_23 (by rw [c8]; rfl) (by decide) rfl rfl ?_
          refine rz_aload_n G 0 rfl rfl (dq jX11_count_s1 6 rfl) ?_
          refine rz_getI G flX11_16 sh56 rfl (dq jX11_count_s1 7 rfl) (fun v9 => ?_)
          exact rz_iret G (dq jX11_count_s1 8 rfl)
        · refine rz_br (fun c10 => ?_) (fun c10 => ?_)
          · refine rz_tableIn G 3 (tgt := 115) swX11_count_23 (by rw [c10]; rfl) (by decide) rfl rfl ?_
            refine rz_aload_n G 0 rfl rfl (dq jX11_count_s1 9 rfl) ?_
            refine rz_getI G flX11_320 sh56 rfl (dq jX11_count_s1 10 rfl) (fun v11 => ?_)
            exact rz_iret G (dq jX11_count_s1 11 rfl)
          · refine rz_br (fun c12 => ?_) (fun c12 => ?_)
            · refine rz_tableIn G 4 (tgt := 120) swX11_count_23 (by rw [c12]; rfl) (by decide) rfl rfl ?_
              refine rz_aload_n G 0 rfl rfl (dq jX11_count_s1 12 rfl) ?_
              refine rz_getI G flX11_19 sh56 rfl (dq jX11_count_s1 13 rfl) (fun v13 => ?_)
              exact rz_iret G (dq jX11_count_s1 14 rfl)
            · refine rz_br (fun c14 => ?_) (fun c14 => ?_)
              · refine rz_tableIn G 5 (tgt := 125) swX11_count_23 (by rw [c14]; rfl) (by decide) rfl rfl ?_
                refine rz_aload_n G 0 rfl rfl (dq jX11_count_s1 15 rfl) ?_
                refine rz_getC G flX11_22 sh56 (t := 57) rfl rfl (dq jX11_count_s1 16 rfl) ?_
                refine rz_iload_n G 1 rfl rfl (dq jX11_count_s1 17 rfl) ?_
                refine rz_iconst G (v := 5) (dq jX11_count_s1 18 rfl) rfl ?_
                refine rz_isub G (dq jX11_count_s1 19 rfl) ?_
                refine rz_iald G sh57 (dq jX11_count_s1 20 rfl) (fun v15 => ?_)
                exact rz_iret G (dq jX11_count_s1 21 rfl)
              · refine rz_br (fun c16 => ?_) (fun c16 => ?_)
                · refine rz_tableIn G 6 (tgt := 125) swX11_count_23 (by rw [c16]; rfl) (by decide) rfl rfl ?_
                  refine rz_aload_n G 0 rfl rfl (dq jX11_count_s1 15 rfl) ?_
                  refine rz_getC G flX11_22 sh56 (t := 57) rfl rfl (dq jX11_count_s1 16 rfl) ?_
                  refine rz_iload_n G 1 rfl rfl (dq jX11_count_s1 17 rfl) ?_
                  refine rz_iconst G (v := 5) (dq jX11_count_s1 18 rfl) rfl ?_
                  refine rz_isub G (dq jX11_count_s1 19 rfl) ?_
                  refine rz_iald G sh57 (dq jX11_count_s1 20 rfl) (fun v17 => ?_)
                  exact rz_iret G (dq jX11_count_s1 21 rfl)
                · refine rz_br (fun c18 => ?_) (fun c18 => ?_)
                  · refine rz_tableIn G 7 (tgt := 125) swX11_count_23 (by rw [c18]; rfl) (by decide) rfl rfl ?_
                    refine rz_aload_n G 0 rfl rfl (dq jX11_count_s1 15 rfl) ?_
                    refine rz_getC G flX11_22 sh56 (t := 57) rfl rfl (dq jX11_count_s1 16 rfl) ?_
                    refine rz_iload_n G 1 rfl rfl (dq jX11_count_s1 17 rfl) ?_
                    refine rz_iconst G (v := 5) (dq jX11_count_s1 18 rfl) rfl ?_
                    refine rz_isub G (dq jX11_count_s1 19 rfl) ?_
                    refine rz_iald G sh57 (dq jX11_count_s1 20 rfl) (fun v19 => ?_)
                    exact rz_iret G (dq jX11_count_s1 21 rfl)
                  · refine rz_br (fun c20 => ?_) (fun c20 => ?_)
                    · refine rz_tableIn G 8 (tgt := 134) swX11_count_23 (by rw [c20]; rfl) (by decide) rfl rfl ?_
                      refine rz_aload_n G 0 rfl rfl (dq jX11_count_s1 22 rfl) ?_
                      refine rz_getI G flX11_323 sh56 rfl (dq jX11_count_s1 23 rfl) (fun v21 => ?_)
                      exact rz_iret G (dq jX11_count_s1 24 rfl)
                    · refine rz_br (fun c22 => ?_) (fun c22 => ?_)
                      · refine rz_tableIn G 9 (tgt := 139) swX11_count_23 (by rw [c22]; rfl) (by decide) rfl rfl ?_
                        refine rz_aload_n G 0 rfl rfl (dq jX11_count_s1 25 rfl) ?_
                        refine rz_getI G flX11_326 sh56 rfl (dq jX11_count_s1 26 rfl) (fun v23 => ?_)
                        exact rz_iret G (dq jX11_count_s1 27 rfl)
                      · refine rz_br (fun c24 => ?_) (fun c24 => ?_)
                        · refine rz_tableIn G 10 (tgt := 144) swX11_count_23 (by rw [c24]; rfl) (by decide) rfl rfl ?_
                          refine rz_aload_n G 0 rfl rfl (dq jX11_count_s1 28 rfl) ?_
                          refine rz_getI G flX11_69 sh56 rfl (dq jX11_count_s1 29 rfl) (fun v25 => ?_)
                          exact rz_iret G (dq jX11_count_s1 30 rfl)
                        · refine rz_br (fun c26 => ?_) (fun c26 => ?_)
                          · refine rz_tableIn G 11 (tgt := 149) swX11_count_23 (by rw [c26]; rfl) (by decide) rfl rfl ?_
                            refine rz_aload_n G 0 rfl rfl (dq jX11_count_s1 31 rfl) ?_
                            refine rz_getI G flX11_72 sh56 rfl (dq jX11_count_s1 32 rfl) (fun v27 => ?_)
                            exact rz_iret G (dq jX11_count_s1 33 rfl)
                          · refine rz_br (fun c28 => ?_) (fun c28 => ?_)
                            · refine rz_tableIn G 12 (tgt := 154) swX11_count_23 (by rw [c28]; rfl) (by decide) rfl rfl ?_
                              refine rz_aload_n G 0 rfl rfl (dq jX11_count_s1 34 rfl) ?_
                              refine rz_getI G flX11_329 sh56 rfl (dq jX11_count_s1 35 rfl) (fun v29 => ?_)
                              exact rz_iret G (dq jX11_count_s1 36 rfl)
                            · refine rz_br (fun c30 => ?_) (fun c30 => ?_)
                              · refine rz_tableIn G 13 (tgt := 159) swX11_count_23 (by rw [c30]; rfl) (by decide) rfl rfl ?_
                                refine rz_aload_n G 0 rfl rfl (dq jX11_count_s1 37 rfl) ?_
                                refine rz_getI G flX11_336 sh56 rfl (dq jX11_count_s1 38 rfl) (fun v31 => ?_)
                                exact rz_iret G (dq jX11_count_s1 39 rfl)
                              · refine rz_br (fun c32 => ?_) (fun c32 => ?_)
                                · refine rz_tableIn G 14 (tgt := 164) swX11_count_23 (by rw [c32]; rfl) (by decide) rfl rfl ?_
                                  refine rz_aload_n G 0 rfl rfl (dq jX11_count_s1 40 rfl) ?_
                                  refine rz_getI G flX11_339 sh56 rfl (dq jX11_count_s1 41 rfl) (fun v33 => ?_)
                                  exact rz_iret G (dq jX11_count_s1 42 rfl)
                                · refine rz_br (fun c34 => ?_) (fun c34 => ?_)
                                  · refine rz_tableIn G 15 (tgt := 169) swX11_count_23 (by rw [c34]; rfl) (by decide) rfl rfl ?_
                                    refine rz_aload_n G 0 rfl rfl (dq jX11_count_s1 43 rfl) ?_
                                    refine rz_getI G flX11_151 sh56 rfl (dq jX11_count_s1 44 rfl) (fun v35 => ?_)
                                    exact rz_iret G (dq jX11_count_s1 45 rfl)
                                  · have n_c4 := ne_toInt (z := 0) (by decide) c4; have n_c6 := ne_toInt (z := 1) (by decide) c6; have n_c8 := ne_toInt (z := 2) (by decide) c8; have n_c10 := ne_toInt (z := 3) (by decide) c10; have n_c12 := ne_toInt (z := 4) (by decide) c12; have n_c14 := ne_toInt (z := 5) (by decide) c14; have n_c16 := ne_toInt (z := 6) (by decide) c16; have n_c18 := ne_toInt (z := 7) (by decide) c18; have n_c20 := ne_toInt (z := 8) (by decide) c20; have n_c22 := ne_toInt (z := 9) (by decide) c22; have n_c24 := ne_toInt (z := 10) (by decide) c24; have n_c26 := ne_toInt (z := 11) (by decide) c26; have n_c28 := ne_toInt (z := 12) (by decide) c28; have n_c30 := ne_toInt (z := 13) (by decide) c30; have n_c32 := ne_toInt (z := 14) (by decide) c32; have n_c34 := ne_toInt (z := 15) (by decide) c34
                                    refine rz_tableOut G (tgt := 174) swX11_count_23 (by omega) rfl ?_
                                    refine rz_aload_n G 0 rfl rfl (dq jX11_count_s1 46 rfl) ?_
                                    refine rz_getC G flX11_44 sh56 (t := 63) rfl rfl (dq jX11_count_s1 47 rfl) ?_
                                    refine rz_iload_n G 1 rfl rfl (dq jX11_count_s1 48 rfl) ?_
                                    refine rz_bipush G (v := 16) (dq jX11_count_s1 49 rfl) (by decide) ?_
                                    refine rz_isub G (dq jX11_count_s1 50 rfl) ?_
                                    refine rz_iald G sh63 (dq jX11_count_s1 51 rfl) (fun v36 => ?_)
                                    exact rz_iret G (dq jX11_count_s1 52 rfl)
