theorem z_X0_sort_b65 {Γ : Cx} (G : GG Γ RX0 cX0_sort 6 none 1 0 0) (k2 : Nat → Int32 → Int32 → Sg → Option (Unit × Sg)) (hk2 : ∀ (q1 : Nat) (x2 : Int32) (x3 : Int32), Rz Γ 6 (Qm Γ encV 0 0) 0 0 2 [(0, .ref 33), (1, .ref q1), (2, .int x2), (3, .int x3)] [] (k2 q1 x2 x3)) (q1 : Nat) (x2 : Int32) (x3 : Int32) (x4 : Int32) (x5 : Int32) : Rz Γ 6 (Qm Γ encV 0 0) 0 0 65 [(0, .ref 33), (1, .ref q1), (2, .int x2), (3, .int x3), (4, .int x4), (5, .int x5)] [] (f_X0_sort_b65 k2 q1 x2 x3 x4 x5) := by
  unfold f_X0_sort_b65
  refine rz_gd (fun h_q1 => ?_)
  refine rz_aload_n G 0 rfl rfl (dq jX0_sort 37 rfl) ?_
  refine rz_getC G flX0_9 sh33 (t := 34) rfl rfl (dq jX0_sort 38 rfl) ?_
  refine rz_iload G 5 rfl (dq jX0_sort 39 rfl) ?_
  refine rz_iload G 4 rfl (dq jX0_sort 40 rfl) ?_
  refine rz_iast G sh34 (dq jX0_sort 41 rfl) ?_
  refine rz_iinc G 3 (v := x3 + 1) (lv' := [(3, .int (x3 + 1)), (0, .ref 33), (1, .ref q1), (2, .int x2), (4, .int x4), (5, .int x5)]) rfl (congrArg (HAdd.hAdd _) (by decide)) (Nat.le_of_ble_eq_true rfl) rfl (dq jX0_sort 42 rfl) ?_
  refine rz_goto G (tgt := 2) rfl (dq jX0_sort 43 rfl) ?_
  exact rz_lv [1, 2, 3, 0] rfl (hk2 q1 x2 (x3 + 1))
theorem z_X0_sort_b24 {Γ : Cx} (G : GG Γ RX0 cX0_sort 6 none 1 0 0) (k2 : Nat → Int32 → Int32 → Sg → Option (Unit × Sg)) (hk2 : ∀ (q1 : Nat) (x2 : Int32) (x3 : Int32), Rz Γ 6 (Qm Γ encV 0 0) 0 0 2 [(0, .ref 33), (1, .ref q1), (2, .int x2), (3, .int x3)] [] (k2 q1 x2 x3)) : ∀ (fu : Nat) (q1 : Nat) (x2 : Int32) (x3 : Int32) (x4 : Int32) (x5 : Int32), Rz Γ 6 (Qm Γ encV 0 0) 0 0 24 [(0, .ref 33), (1, .ref q1), (2, .int x2), (3, .int x3), (4, .int x4), (5, .int x5)] [] (f_X0_sort_b24 k2 fu q1 x2 x3 x4 x5) := by
  intro fu
  induction fu with
  | zero => intro _ _ _ _ _; exact rz_none
  | succ fu ih =>
    intro q1 x2 x3 x4 x5
    rw [f_X0_sort_b24]
    refine rz_gd (fun h_q1 => ?_)
    refine rz_iload G 5 rfl (dq jX0_sort 15 rfl) ?_
    refine rz_if_le G (tgt := 65) rfl (dq jX0_sort 16 rfl) (fun c1 => ?_) (fun c1 => ?_)
    · exact rz_lv [0, 1, 2, 3, 4, 5] rfl (z_X0_sort_b65 G k2 hk2 q1 x2 x3 x4 x5)
    · refine rz_aload_n G 0 rfl rfl (dq jX0_sort 17 rfl) ?_
      refine rz_getC G flX0_9 sh33 (t := 34) rfl rfl (dq jX0_sort 18 rfl) ?_
      refine rz_iload G 5 rfl (dq jX0_sort 19 rfl) ?_
      refine rz_iconst G (v := 1) (dq jX0_sort 20 rfl) rfl ?_
      refine rz_isub G (dq jX0_sort 21 rfl) ?_
      refine rz_iald G sh34 (dq jX0_sort 22 rfl) (fun v2 => ?_)
      refine rz_iload G 4 rfl (dq jX0_sort 23 rfl) ?_
      refine rz_icmp_ge G (tgt := 65) rfl (dq jX0_sort 24 rfl) (fun c3 => ?_) (fun c3 => ?_)
      · exact rz_lv [0, 1, 2, 3, 4, 5] rfl (z_X0_sort_b65 G k2 hk2 q1 x2 x3 x4 x5)
      · refine rz_aload_n G 0 rfl rfl (dq jX0_sort 25 rfl) ?_
        refine rz_getC G flX0_9 sh33 (t := 34) rfl rfl (dq jX0_sort 26 rfl) ?_
        refine rz_iload G 5 rfl (dq jX0_sort 27 rfl) ?_
        refine rz_aload_n G 0 rfl rfl (dq jX0_sort 28 rfl) ?_
        refine rz_getC G flX0_9 sh33 (t := 34) rfl rfl (dq jX0_sort 29 rfl) ?_
        refine rz_iload G 5 rfl (dq jX0_sort 30 rfl) ?_
        refine rz_iconst G (v := 1) (dq jX0_sort 31 rfl) rfl ?_
        refine rz_isub G (dq jX0_sort 32 rfl) ?_
        refine rz_iald G sh34 (dq jX0_sort 33 rfl) (fun v4 => ?_)
        refine rz_iast G sh34 (dq jX0_sort 34 rfl) ?_
        refine rz_iinc G 5 (v := x5 + (-1)) (lv' := [(5, .int (x5 + (-1))), (0, .ref 33), (1, .ref q1), (2, .int x2), (3, .int x3), (4, .int x4)]) rfl (congrArg (HAdd.hAdd _) (by decide)) (Nat.le_of_ble_eq_true rfl) rfl (dq jX0_sort 35 rfl) ?_
        refine rz_goto G (tgt := 24) rfl (dq jX0_sort 36 rfl) ?_
        exact rz_lv [1, 2, 3, 4, 5, 0] rfl (ih q1 x2 x3 x4 (x5 + (-1)))
theorem z_X0_sort_b2 {Γ : Cx} (G : GG Γ RX0 cX0_sort 6 none 1 0 0) : ∀ (fu : Nat) (q1 : Nat) (x2 : Int32) (x3 : Int32), Rz Γ 6 (Qm Γ encV 0 0) 0 0 2 [(0, .ref 33), (1, .ref q1), (2, .int x2), (3, .int x3)] [] (f_X0_sort_b2 fu q1 x2 x3) := by
  intro fu
  induction fu with
  | zero => intro _ _ _; exact rz_none
  | succ fu ih =>
    intro q1 x2 x3
    rw [f_X0_sort_b2]
    refine rz_gd (fun h_q1 => ?_)
    refine rz_iload_n G 3 rfl rfl (dq jX0_sort 2 rfl) ?_
    refine rz_iload_n G 2 rfl rfl (dq jX0_sort 3 rfl) ?_
    refine rz_icmp_ge G (tgt := 80) rfl (dq jX0_sort 4 rfl) (fun c1 => ?_) (fun c1 => ?_)
    · exact rz_vret G (dq jX0_sort 44 rfl)
    · refine rz_iload_n G 3 rfl rfl (dq jX0_sort 5 rfl) ?_
      refine rz_bipush G (v := 8) (dq jX0_sort 6 rfl) (by decide) ?_
      refine rz_icmp_ge G (tgt := 80) rfl (dq jX0_sort 7 rfl) (fun c2 => ?_) (fun c2 => ?_)
      · exact rz_vret G (dq jX0_sort 44 rfl)
      · refine rz_aload_n G 1 rfl rfl (dq jX0_sort 8 rfl) ?_
        refine rz_getC G flX0_41 (gd_sh h_q1) (t := (q1 + 2)) rfl rfl (dq jX0_sort 9 rfl) ?_
        refine rz_iload_n G 3 rfl rfl (dq jX0_sort 10 rfl) ?_
        refine rz_iald G (gd_s2 h_q1) (dq jX0_sort 11 rfl) (fun v3 => ?_)
        refine rz_istore G (lv' := [(4, .int v3), (0, .ref 33), (1, .ref q1), (2, .int x2), (3, .int x3)]) (Nat.le_of_ble_eq_true rfl) rfl (dq jX0_sort 12 rfl) ?_
        refine rz_iload_n G 4 rfl rfl (dq jX0_sort 13 rfl) ?_
        refine rz_istore G (lv' := [(5, .int x3), (4, .int v3), (0, .ref 33), (1, .ref q1), (2, .int x2), (3, .int x3)]) (Nat.le_of_ble_eq_true rfl) rfl (dq jX0_sort 14 rfl) ?_
        exact rz_lv [2, 3, 4, 5, 1, 0] rfl (z_X0_sort_b24 G (f_X0_sort_b2 fu) ih FU q1 x2 x3 v3 x3)
theorem c_X0_sort (l : Launch) (q1 : Nat) (x2 : Int32) : Ct l yX0_sort cX0_sort 6 none 1 encV [.ref 33, .ref q1, .int x2] (f_X0_sort q1 x2) := by
  refine ct_of (own := RX0) (by decide) rfl (Nat.le_of_ble_eq_true rfl) (fun Γ hl G => ?_)
  show Rz Γ 6 (Qm Γ encV 0 0) 0 0 0 [(0, .ref 33), (1, .ref q1), (2, .int x2)] [] _
  unfold f_X0_sort
  refine rz_gd (fun h_q1 => ?_)
  refine rz_iconst G (v := 0) (dq jX0_sort 0 rfl) rfl ?_
  refine rz_istore_n G (lv' := [(3, .int 0), (0, .ref 33), (1, .ref q1), (2, .int x2)]) rfl (Nat.le_of_ble_eq_true rfl) rfl (dq jX0_sort 1 rfl) ?_
  exact rz_lv [1, 2, 3, 0] rfl (z_X0_sort_b2 G FU q1 x2 0)
theorem z_X0_open_b149 {Γ : Cx} (G : GG Γ RX0 cX0_open 8 none 2 0 0) (x3 : Int64) (x5 : Int64) : Rz Γ 8 (Qm Γ encV 0 0) 0 0 149 [(0, .ref 33), (3, .long x3), (5, .long x5)] [] (f_X0_open_b149 x3 x5) := by
  unfold f_X0_open_b149
  refine rz_aload_n G 0 rfl rfl (dq jX0_open 95 rfl) ?_
  refine rz_aload_n G 0 rfl rfl (dq jX0_open 96 rfl) ?_
  refine rz_getI G flX0_22 sh33 rfl (dq jX0_open 97 rfl) (fun v1 => ?_)
  refine rz_iconst G (v := 1) (dq jX0_open 98 rfl) rfl ?_
  refine rz_isub G (dq jX0_open 99 rfl) ?_
  refine rz_i2l G (dq jX0_open 100 rfl) ?_
  refine rz_lload_n G 1 rfl rfl (dq jX0_open 101 rfl) ?_
  refine rz_lmul G (dq jX0_open 102 rfl) ?_
  refine rz_putL G flX0_15 sh33 rfl (dq jX0_open 103 rfl) ?_
  refine rz_aload_n G 0 rfl rfl (dq jX0_open 104 rfl) ?_
  refine rz_lload G 2 rfl (dq jX0_open 105 rfl) ?_
  refine rz_putL G flX0_19 sh33 rfl (dq jX0_open 106 rfl) ?_
  exact rz_vret G (dq jX0_open 107 rfl)
theorem z_X0_open_b77 {Γ : Cx} (G : GG Γ RX0 cX0_open 8 none 2 0 0) : ∀ (fu : Nat) (x2 : Int32) (x3 : Int64) (x5 : Int64) (x7 : Int32), Rz Γ 8 (Qm Γ encV 0 0) 0 0 77 [(0, .ref 33), (2, .int x2), (3, .long x3), (5, .long x5), (7, .int x7)] [] (f_X0_open_b77 fu x2 x3 x5 x7) := by
  intro fu
  induction fu with
  | zero => intro _ _ _ _; exact rz_none
  | succ fu ih =>
    intro x2 x3 x5 x7
    rw [f_X0_open_b77]
    refine rz_iload G 4 rfl (dq jX0_open 50 rfl) ?_
    refine rz_iload_n G 1 rfl rfl (dq jX0_open 51 rfl) ?_
    refine rz_icmp_ge G (tgt := 149) rfl (dq jX0_open 52 rfl) (fun c1 => ?_) (fun c1 => ?_)
    · exact rz_lv [0, 2, 3] rfl (z_X0_open_b149 G x3 x5)
    · refine rz_aload_n G 0 rfl rfl (dq jX0_open 53 rfl) ?_
      refine rz_getC G flX0_9 sh33 (t := 34) rfl rfl (dq jX0_open 54 rfl) ?_
      refine rz_iload G 4 rfl (dq jX0_open 55 rfl) ?_
      refine rz_iald G sh34 (dq jX0_open 56 rfl) (fun v2 => ?_)
      refine rz_i2l G (dq jX0_open 57 rfl) ?_
      refine rz_lload G 3 rfl (dq jX0_open 58 rfl) ?_
      refine rz_lmul G (dq jX0_open 59 rfl) ?_
      refine rz_aload_n G 0 rfl rfl (dq jX0_open 60 rfl) ?_
      refine rz_getI G flX0_22 sh33 rfl (dq jX0_open 61 rfl) (fun v3 => ?_)
      refine rz_iconst G (v := 1) (dq jX0_open 62 rfl) rfl ?_
      refine rz_isub G (dq jX0_open 63 rfl) ?_
      refine rz_i2l G (dq jX0_open 64 rfl) ?_
      refine rz_lload_n G 2 rfl rfl (dq jX0_open 65 rfl) ?_
      refine rz_lmul G (dq jX0_open 66 rfl) ?_
      refine rz_lcmp G (dq jX0_open 67 rfl) ?_
      refine rz_if_le G (tgt := 149) rfl (dq jX0_open 68 rfl) (fun c4 => ?_) (fun c4 => ?_)
      · exact rz_lv [0, 2, 3] rfl (z_X0_open_b149 G x3 x5)
      · refine rz_lload G 3 rfl (dq jX0_open 69 rfl) ?_
        refine rz_aload_n G 0 rfl rfl (dq jX0_open 70 rfl) ?_
        refine rz_getC G flX0_9 sh33 (t := 34) rfl rfl (dq jX0_open 71 rfl) ?_
        refine rz_iload G 4 rfl (dq jX0_open 72 rfl) ?_
        refine rz_iald G sh34 (dq jX0_open 73 rfl) (fun v5 => ?_)
        refine rz_i2l G (dq jX0_open 74 rfl) ?_
        refine rz_lmul G (dq jX0_open 75 rfl) ?_
        refine rz_lload_n G 2 rfl rfl (dq jX0_open 76 rfl) ?_
        refine rz_ladd G (dq jX0_open 77 rfl) ?_
        refine rz_ltl (fun w6 e_w6 => ?_)
        refine rz_lstore G (lv' := [(5, .long w6), (0, .ref 33), (2, .int x2), (3, .long x3), (7, .int x7)]) (Nat.le_of_ble_eq_true rfl) rfl (dq jX0_open 78 rfl) ?_
        refine rz_lload_n G 3 rfl rfl (dq jX0_open 79 rfl) ?_
        refine rz_aload_n G 1 rfl rfl (dq jX0_open 80 rfl) ?_
        refine rz_getC G flX0_9 sh33 (t := 34) rfl rfl (dq jX0_open 81 rfl) ?_
        refine rz_iload G 4 rfl (dq jX0_open 82 rfl) ?_
        refine rz_iald G sh34 (dq jX0_open 83 rfl) (fun v7 => ?_)
        refine rz_i2l G (dq jX0_open 84 rfl) ?_
        refine rz_lmul G (dq jX0_open 85 rfl) ?_
        refine rz_ltl (fun w8 e_w8 => ?_)
        refine rz_lstore_n G (lv' := [(3, .long w8), (5, .long w6), (0, .ref 33), (2, .int x2), (7, .int x7)]) rfl (Nat.le_of_ble_eq_true rfl) rfl (dq jX0_open 86 rfl) ?_
        refine rz_aload_n G 2 rfl rfl (dq jX0_open 87 rfl) ?_
        refine rz_dup G rfl (dq jX0_open 88 rfl) ?_
        refine rz_getI G flX0_22 sh33 rfl (dq jX0_open 89 rfl) (fun v9 => ?_)
        refine rz_iconst G (v := 1) (dq jX0_open 90 rfl) rfl ?_
        refine rz_iadd G (dq jX0_open 91 rfl) ?_
        refine rz_putI G flX0_22 sh33 rfl (dq jX0_open 92 rfl) ?_
        refine rz_iinc G 4 (v := x7 + 1) (lv' := [(7, .int (x7 + 1)), (3, .long w8), (5, .long w6), (0, .ref 33), (2, .int x2)]) rfl (congrArg (HAdd.hAdd _) (by decide)) (Nat.le_of_ble_eq_true rfl) rfl (dq jX0_open 93 rfl) ?_
        refine rz_goto G (tgt := 77) rfl (dq jX0_open 94 rfl) ?_
        exact rz_lv [3, 4, 1, 2, 0] rfl (ih x2 w8 w6 (x7 + 1))
theorem c_X0_open (l : Launch) (q1 : Nat) : Ct l yX0_open cX0_open 8 none 2 encV [.ref 33, .ref q1] (f_X0_open q1) := by
  refine ct_of (own := RX0) (by decide) rfl (Nat.le_of_ble_eq_true rfl) (fun Γ hl G => ?_)
  show Rz Γ 8 (Qm Γ encV 0 0) 0 0 0 [(0, .ref 33), (1, .ref q1)] [] _
  unfold f_X0_open
  refine rz_gd (fun h_q1 => ?_)
  refine rz_aload_n G 0 rfl rfl (dq jX0_open 0 rfl) ?_
  refine rz_lconst G (v := 0) (dq jX0_open 1 rfl) rfl ?_
  refine rz_putL G flX0_15 sh33 rfl (dq jX0_open 2 rfl) ?_
  refine rz_aload_n G 0 rfl rfl (dq jX0_open 3 rfl) ?_
  refine rz_lconst G (v := 1) (dq jX0_open 4 rfl) rfl ?_
  refine rz_putL G flX0_19 sh33 rfl (dq jX0_open 5 rfl) ?_
  refine rz_aload_n G 0 rfl rfl (dq jX0_open 6 rfl) ?_
  refine rz_iconst G (v := 0) (dq jX0_open 7 rfl) rfl ?_
  refine rz_putI G flX0_22 sh33 rfl (dq jX0_open 8 rfl) ?_
  refine rz_aload_n G 1 rfl rfl (dq jX0_open 9 rfl) ?_
  refine rz_getI G flX0_26 (gd_sh h_q1) rfl (dq jX0_open 10 rfl) (fun v1 => ?_)
  refine rz_bipush G (v := 8) (dq jX0_open 11 rfl) (by decide) ?_
  refine rz_mmin G mtX0_31 (by decide) (Nat.le_of_ble_eq_true rfl) (dq jX0_open 12 rfl) ?_
  refine rz_lti (fun w2 e_w2 => ?_)
  refine rz_istore_n G (lv' := [(2, .int w2), (0, .ref 33), (1, .ref q1)]) rfl (Nat.le_of_ble_eq_true rfl) rfl (dq jX0_open 13 rfl) ?_
  refine rz_iload_n G 0 rfl rfl (dq jX0_open 14 rfl) ?_
  refine rz_iconst G (v := 2) (dq jX0_open 15 rfl) rfl ?_
  refine rz_icmp_ge G (tgt := 31) rfl (dq jX0_open 16 rfl) (fun c3 => ?_) (fun c3 => ?_)
  · refine rz_aload_n G 1 rfl rfl (dq jX0_open 18 rfl) ?_
    refine rz_aload_n G 2 rfl rfl (dq jX0_open 19 rfl) ?_
    refine rz_iload_n G 0 rfl rfl (dq jX0_open 20 rfl) ?_
    refine rz_callVv G (st := []) (c_X0_sort (cLn Γ) q1 w2) lkX0_37 sh33 rfl rfl rfl (Nat.le_of_ble_eq_true rfl) (Nat.le_of_ble_eq_true rfl) (dq jX0_open 21 rfl) rfl (fun _ => ?_)
    refine rz_aload_n G 1 rfl rfl (dq jX0_open 22 rfl) ?_
    refine rz_getC G flX0_9 sh33 (t := 34) rfl rfl (dq jX0_open 23 rfl) ?_
    refine rz_iconst G (v := 0) (dq jX0_open 24 rfl) rfl ?_
    refine rz_ialdN G (by decide) sh34 (dq jX0_open 25 rfl) (fun v4 => ?_)
    refine rz_i2l G (dq jX0_open 26 rfl) ?_
    refine rz_aload_n G 1 rfl rfl (dq jX0_open 27 rfl) ?_
    refine rz_getC G flX0_9 sh33 (t := 34) rfl rfl (dq jX0_open 28 rfl) ?_
    refine rz_iconst G (v := 1) (dq jX0_open 29 rfl) rfl ?_
    refine rz_ialdN G (by decide) sh34 (dq jX0_open 30 rfl) (fun v5 => ?_)
    refine rz_i2l G (dq jX0_open 31 rfl) ?_
    refine rz_lmul G (dq jX0_open 32 rfl) ?_
    refine rz_ltl (fun w6 e_w6 => ?_)
    refine rz_lstore_n G (lv' := [(3, .long w6), (2, .int w2), (0, .ref 33), (1, .ref q1)]) rfl (Nat.le_of_ble_eq_true rfl) rfl (dq jX0_open 33 rfl) ?_
    refine rz_aload_n G 2 rfl rfl (dq jX0_open 34 rfl) ?_
    refine rz_getC G flX0_9 sh33 (t := 34) rfl rfl (dq jX0_open 35 rfl) ?_
    refine rz_iconst G (v := 0) (dq jX0_open 36 rfl) rfl ?_
    refine rz_ialdN G (by decide) sh34 (dq jX0_open 37 rfl) (fun v7 => ?_)
    refine rz_aload_n G 2 rfl rfl (dq jX0_open 38 rfl) ?_
    refine rz_getC G flX0_9 sh33 (t := 34) rfl rfl (dq jX0_open 39 rfl) ?_
    refine rz_iconst G (v := 1) (dq jX0_open 40 rfl) rfl ?_
    refine rz_ialdN G (by decide) sh34 (dq jX0_open 41 rfl) (fun v8 => ?_)
    refine rz_iadd G (dq jX0_open 42 rfl) ?_
    refine rz_i2l G (dq jX0_open 43 rfl) ?_
    refine rz_ltl (fun w9 e_w9 => ?_)
    refine rz_lstore G (lv' := [(5, .long w9), (3, .long w6), (2, .int w2), (0, .ref 33), (1, .ref q1)]) (Nat.le_of_ble_eq_true rfl) rfl (dq jX0_open 44 rfl) ?_
    refine rz_aload_n G 3 rfl rfl (dq jX0_open 45 rfl) ?_
    refine rz_iconst G (v := 2) (dq jX0_open 46 rfl) rfl ?_
    refine rz_putI G flX0_22 sh33 rfl (dq jX0_open 47 rfl) ?_
    refine rz_iconst G (v := 2) (dq jX0_open 48 rfl) rfl ?_
    refine rz_istore G (lv' := [(7, .int 2), (5, .long w9), (3, .long w6), (2, .int w2), (0, .ref 33), (1, .ref q1)]) (Nat.le_of_ble_eq_true rfl) rfl (dq jX0_open 49 rfl) ?_
    exact rz_lv [4, 3, 2, 1, 0] rfl (z_X0_open_b77 G FU w2 w6 w9 2)
  · exact rz_vret G (dq jX0_open 17 rfl)
theorem c_X7_told (l : Launch) (q0 : Nat) (x1 : Int32) (x2 : Int32) : Ct l yX7_told cX7_told 4 (some .int) 1 encI [.ref q0, .int x1, .int x2] (f_X7_told q0 x1 x2) := by
  refine ct_of (own := RX7) (by decide) rfl (Nat.le_of_ble_eq_true rfl) (fun Γ hl G => ?_)
  show Rz Γ 4 (Qm Γ encI 0 0) 0 0 0 [(0, .ref q0), (1, .int x1), (2, .int x2)] [] _
  unfold f_X7_told
  refine rz_gd (fun h_q0 => ?_)
  refine rz_iload_n G 1 rfl rfl (dq jX7_told 0 rfl) ?_
  refine rz_bipush G (v := 6) (dq jX7_told 1 rfl) (by decide) ?_
  refine rz_imul G (dq jX7_told 2 rfl) ?_
  refine rz_iload_n G 2 rfl rfl (dq jX7_told 3 rfl) ?_
  refine rz_iadd G (dq jX7_told 4 rfl) ?_
  refine rz_istore_n G (lv' := [(3, .int ((x1 * 6) + x2)), (0, .ref q0), (1, .int x1), (2, .int x2)]) rfl (Nat.le_of_ble_eq_true rfl) rfl (dq jX7_told 5 rfl) ?_
  refine rz_iload_n G 0 rfl rfl (dq jX7_told 6 rfl) ?_
  refine rz_if_lt G (tgt := 29) rfl (dq jX7_told 7 rfl) (fun c1 => ?_) (fun c1 => ?_)
  · refine rz_iconst G (v := 0) (dq jX7_told 18 rfl) rfl ?_
    exact rz_iret G (dq jX7_told 19 rfl)
  · refine rz_iload_n G 0 rfl rfl (dq jX7_told 8 rfl) ?_
    refine rz_aload_n G 1 rfl rfl (dq jX7_told 9 rfl) ?_
    refine rz_getC G flX7_9 (sc_sh h_q0) (t := (q0 + 1)) rfl rfl (dq jX7_told 10 rfl) ?_
    refine rz_alen G (v := 24) (sc_s1 h_q0) (by decide) (by decide) (dq jX7_told 11 rfl) ?_
    refine rz_icmp_ge G (tgt := 29) rfl (dq jX7_told 12 rfl) (fun c2 => ?_) (fun c2 => ?_)
    · refine rz_iconst G (v := 0) (dq jX7_told 18 rfl) rfl ?_
      exact rz_iret G (dq jX7_told 19 rfl)
    · refine rz_aload_n G 1 rfl rfl (dq jX7_told 13 rfl) ?_
      refine rz_getC G flX7_9 (sc_sh h_q0) (t := (q0 + 1)) rfl rfl (dq jX7_told 14 rfl) ?_
      refine rz_iload_n G 0 rfl rfl (dq jX7_told 15 rfl) ?_
      refine rz_iald G (sc_s1 h_q0) (dq jX7_told 16 rfl) (fun v3 => ?_)
      refine rz_goto G (tgt := 30) rfl (dq jX7_told 17 rfl) ?_
      exact rz_iret G (dq jX7_told 19 rfl)
theorem c_X1_startIn (l : Launch) (q0 : Nat) (x1 : Int32) : Ct l yX1_startIn cX1_startIn 2 none 1 encV [.ref q0, .int x1] (f_X1_startIn q0 x1) := by
  refine ct_of (own := RX1) (by decide) rfl (Nat.le_of_ble_eq_true rfl) (fun Γ hl G => ?_)
  show Rz Γ 2 (Qm Γ encV 0 0) 0 0 0 [(0, .ref q0), (1, .int x1)] [] _
  unfold f_X1_startIn
  refine rz_gd (fun h_q0 => ?_)
  refine rz_aload_n G 0 rfl rfl (dq jX1_startIn 0 rfl) ?_
  refine rz_iload_n G 1 rfl rfl (dq jX1_startIn 1 rfl) ?_
  refine rz_putI G flX1_74 (fl_sh h_q0) rfl (dq jX1_startIn 2 rfl) ?_
  exact rz_vret G (dq jX1_startIn 3 rfl)
theorem c_X1_dropFrom (l : Launch) (q0 : Nat) (x1 : Int32) : Ct l yX1_dropFrom cX1_dropFrom 2 none 1 encV [.ref q0, .int x1] (f_X1_dropFrom q0 x1) := by
  refine ct_of (own := RX1) (by decide) rfl (Nat.le_of_ble_eq_true rfl) (fun Γ hl G => ?_)
  show Rz Γ 2 (Qm Γ encV 0 0) 0 0 0 [(0, .ref q0), (1, .int x1)] [] _
  unfold f_X1_dropFrom
  refine rz_gd (fun h_q0 => ?_)
  refine rz_aload_n G 0 rfl rfl (dq jX1_dropFrom 0 rfl) ?_
  refine rz_iload_n G 1 rfl rfl (dq jX1_dropFrom 1 rfl) ?_
  refine rz_putI G flX1_77 (fl_sh h_q0) rfl (dq jX1_dropFrom 2 rfl) ?_
  refine rz_aload_n G 0 rfl rfl (dq jX1_dropFrom 3 rfl) ?_
  refine rz_iload_n G 1 rfl rfl (dq jX1_dropFrom 4 rfl) ?_
  refine rz_putI G flX1_80 (fl_sh h_q0) rfl (dq jX1_dropFrom 5 rfl) ?_
  exact rz_vret G (dq jX1_dropFrom 6 rfl)
theorem z_J7_fill_53178_b5 {Γ : Cx} (G : GG Γ RJ7 cJ7_fill_53178 4 none 1 0 0) : ∀ (fu : Nat) (q0 : Nat) (x1 : Int32) (x2 : Int32) (x3 : Int32), Rz Γ 4 (Qm Γ encV 0 0) 0 0 5 [(0, .ref q0), (1, .int x1), (2, .int x2), (3, .int x3)] [] (f_J7_fill_53178_b5 fu q0 x1 x2 x3) := by
  intro fu
  induction fu with
  | zero => intro _ _ _ _; exact rz_none
  | succ fu ih =>
    intro q0 x1 x2 x3
    rw [f_J7_fill_53178_b5]
    refine rz_gd (fun h_q0 => ?_)
    refine rz_iload_n G 2 rfl rfl (dq jJ7_fill_53178 5 rfl) ?_
    refine rz_iload_n G 3 rfl rfl (dq jJ7_fill_53178 6 rfl) ?_
    refine rz_icmp_ge G (tgt := 20) rfl (dq jJ7_fill_53178 7 rfl) (fun c1 => ?_) (fun c1 => ?_)
    · exact rz_vret G (dq jJ7_fill_53178 14 rfl)
    · refine rz_aload_n G 0 rfl rfl (dq jJ7_fill_53178 8 rfl) ?_
      refine rz_iload_n G 2 rfl rfl (dq jJ7_fill_53178 9 rfl) ?_
      refine rz_iload_n G 1 rfl rfl (dq jJ7_fill_53178 10 rfl) ?_
      refine rz_iast G (fk_sh h_q0) (dq jJ7_fill_53178 11 rfl) ?_
      refine rz_iinc G 2 (v := x2 + 1) (lv' := [(2, .int (x2 + 1)), (0, .ref q0), (1, .int x1), (3, .int x3)]) rfl (congrArg (HAdd.hAdd _) (by decide)) (Nat.le_of_ble_eq_true rfl) rfl (dq jJ7_fill_53178 12 rfl) ?_
      refine rz_goto G (tgt := 5) rfl (dq jJ7_fill_53178 13 rfl) ?_
      exact rz_lv [1, 2, 0, 3] rfl (ih q0 x1 (x2 + 1) x3)
theorem c_J7_fill_53178 (l : Launch) (q0 : Nat) (x1 : Int32) : Ct l yJ7_fill_53178 cJ7_fill_53178 4 none 1 encV [.ref q0, .int x1] (f_J7_fill_53178 q0 x1) := by
  refine ct_of (own := RJ7) (by decide) rfl (Nat.le_of_ble_eq_true rfl) (fun Γ hl G => ?_)
  show Rz Γ 4 (Qm Γ encV 0 0) 0 0 0 [(0, .ref q0), (1, .int x1)] [] _
  unfold f_J7_fill_53178
  refine rz_gd (fun h_q0 => ?_)
  refine rz_iconst G (v := 0) (dq jJ7_fill_53178 0 rfl) rfl ?_
  refine rz_istore_n G (lv' := [(2, .int 0), (0, .ref q0), (1, .int x1)]) rfl (Nat.le_of_ble_eq_true rfl) rfl (dq jJ7_fill_53178 1 rfl) ?_
  refine rz_aload_n G 1 rfl rfl (dq jJ7_fill_53178 2 rfl) ?_
  refine rz_alen G (v := 6) (fk_sh h_q0) (by decide) (by decide) (dq jJ7_fill_53178 3 rfl) ?_
  refine rz_istore_n G (lv' := [(3, .int 6), (2, .int 0), (0, .ref q0), (1, .int x1)]) rfl (Nat.le_of_ble_eq_true rfl) rfl (dq jJ7_fill_53178 4 rfl) ?_
  exact rz_lv [2, 3, 1, 0] rfl (z_J7_fill_53178_b5 G FU q0 x1 0 6)
theorem z_X1_begin_b27 {Γ : Cx} (G : GG Γ RX1 cX1_begin 3 none 2 0 0) (q0 : Nat) (q1 : Nat) (xs0 : Int32) (qs1 : Nat) : Rz Γ 3 (Qm Γ encV 0 0) 0 0 27 [(0, .ref q0), (1, .ref q1)] [.int xs0, .ref qs1] (f_X1_begin_b27 q0 q1 xs0 qs1) := by
  unfold f_X1_begin_b27
  refine rz_gd (fun h_q0 => ?_)
  refine rz_gd (fun h_q1 => ?_)
  refine rz_gd (fun h_qs1 => ?_)
  refine rz_putI G flX1_24 (fl_sh h_qs1) rfl (dq jX1_begin 15 rfl) ?_
  refine rz_aload_n G 0 rfl rfl (dq jX1_begin 16 rfl) ?_
  refine rz_aload_n G 1 rfl rfl (dq jX1_begin 17 rfl) ?_
  refine rz_aload_n G 0 rfl rfl (dq jX1_begin 18 rfl) ?_
  refine rz_getI G flX1_15 (fl_sh h_q0) rfl (dq jX1_begin 19 rfl) (fun v1 => ?_)
  refine rz_iconst G (v := 0) (dq jX1_begin 20 rfl) rfl ?_
  refine rz_callVi G (st := [.ref q0]) (c_X7_told (cLn Γ) q1 v1 0) lkX1_27 (sc_sh h_q1) rfl rfl rfl (Nat.le_of_ble_eq_true rfl) (Nat.le_of_ble_eq_true rfl) (dq jX1_begin 21 rfl) rfl (fun r2 => ?_)
  refine rz_putI G flX1_31 (fl_sh h_q0) rfl (dq jX1_begin 22 rfl) ?_
  refine rz_aload_n G 0 rfl rfl (dq jX1_begin 23 rfl) ?_
  refine rz_aload_n G 1 rfl rfl (dq jX1_begin 24 rfl) ?_
  refine rz_aload_n G 0 rfl rfl (dq jX1_begin 25 rfl) ?_
  refine rz_getI G flX1_15 (fl_sh h_q0) rfl (dq jX1_begin 26 rfl) (fun v3 => ?_)
  refine rz_iconst G (v := 1) (dq jX1_begin 27 rfl) rfl ?_
  refine rz_callVi G (st := [.ref q0]) (c_X7_told (cLn Γ) q1 v3 1) lkX1_27 (sc_sh h_q1) rfl rfl rfl (Nat.le_of_ble_eq_true rfl) (Nat.le_of_ble_eq_true rfl) (dq jX1_begin 28 rfl) rfl (fun r4 => ?_)
  refine rz_putI G flX1_34 (fl_sh h_q0) rfl (dq jX1_begin 29 rfl) ?_
  refine rz_aload_n G 0 rfl rfl (dq jX1_begin 30 rfl) ?_
  refine rz_aload_n G 1 rfl rfl (dq jX1_begin 31 rfl) ?_
  refine rz_aload_n G 0 rfl rfl (dq jX1_begin 32 rfl) ?_
  refine rz_getI G flX1_15 (fl_sh h_q0) rfl (dq jX1_begin 33 rfl) (fun v5 => ?_)
  refine rz_iconst G (v := 5) (dq jX1_begin 34 rfl) rfl ?_
  refine rz_callVi G (st := [.ref q0]) (c_X7_told (cLn Γ) q1 v5 5) lkX1_27 (sc_sh h_q1) rfl rfl rfl (Nat.le_of_ble_eq_true rfl) (Nat.le_of_ble_eq_true rfl) (dq jX1_begin 35 rfl) rfl (fun r6 => ?_)
  refine rz_putI G flX1_37 (fl_sh h_q0) rfl (dq jX1_begin 36 rfl) ?_
  refine rz_aload_n G 0 rfl rfl (dq jX1_begin 37 rfl) ?_
  refine rz_aload_n G 1 rfl rfl (dq jX1_begin 38 rfl) ?_
  refine rz_aload_n G 0 rfl rfl (dq jX1_begin 39 rfl) ?_
  refine rz_getI G flX1_15 (fl_sh h_q0) rfl (dq jX1_begin 40 rfl) (fun v7 => ?_)
  refine rz_iconst G (v := 2) (dq jX1_begin 41 rfl) rfl ?_
  refine rz_callVi G (st := [.ref q0]) (c_X7_told (cLn Γ) q1 v7 2) lkX1_27 (sc_sh h_q1) rfl rfl rfl (Nat.le_of_ble_eq_true rfl) (Nat.le_of_ble_eq_true rfl) (dq jX1_begin 42 rfl) rfl (fun r8 => ?_)
  refine rz_putI G flX1_40 (fl_sh h_q0) rfl (dq jX1_begin 43 rfl) ?_
  refine rz_aload_n G 0 rfl rfl (dq jX1_begin 44 rfl) ?_
  refine rz_aload_n G 1 rfl rfl (dq jX1_begin 45 rfl) ?_
  refine rz_aload_n G 0 rfl rfl (dq jX1_begin 46 rfl) ?_
  refine rz_getI G flX1_15 (fl_sh h_q0) rfl (dq jX1_begin 47 rfl) (fun v9 => ?_)
  refine rz_iconst G (v := 3) (dq jX1_begin 48 rfl) rfl ?_
  refine rz_callVi G (st := [.ref q0]) (c_X7_told (cLn Γ) q1 v9 3) lkX1_27 (sc_sh h_q1) rfl rfl rfl (Nat.le_of_ble_eq_true rfl) (Nat.le_of_ble_eq_true rfl) (dq jX1_begin 49 rfl) rfl (fun r10 => ?_)
  refine rz_callVv G (st := []) (c_X1_startIn (cLn Γ) q0 r10) lkX1_43 (fl_sh h_q0) rfl rfl rfl (Nat.le_of_ble_eq_true rfl) (Nat.le_of_ble_eq_true rfl) (dq jX1_begin 50 rfl) rfl (fun _ => ?_)
  refine rz_aload_n G 0 rfl rfl (dq jX1_begin 51 rfl) ?_
  refine rz_aload_n G 1 rfl rfl (dq jX1_begin 52 rfl) ?_
  refine rz_aload_n G 0 rfl rfl (dq jX1_begin 53 rfl) ?_
  refine rz_getI G flX1_15 (fl_sh h_q0) rfl (dq jX1_begin 54 rfl) (fun v11 => ?_)
  refine rz_iconst G (v := 4) (dq jX1_begin 55 rfl) rfl ?_
  refine rz_callVi G (st := [.ref q0]) (c_X7_told (cLn Γ) q1 v11 4) lkX1_27 (sc_sh h_q1) rfl rfl rfl (Nat.le_of_ble_eq_true rfl) (Nat.le_of_ble_eq_true rfl) (dq jX1_begin 56 rfl) rfl (fun r12 => ?_)
  refine rz_callVv G (st := []) (c_X1_dropFrom (cLn Γ) q0 r12) lkX1_47 (fl_sh h_q0) rfl rfl rfl (Nat.le_of_ble_eq_true rfl) (Nat.le_of_ble_eq_true rfl) (dq jX1_begin 57 rfl) rfl (fun _ => ?_)
  refine rz_aload_n G 0 rfl rfl (dq jX1_begin 58 rfl) ?_
  refine rz_iconst G (v := 0) (dq jX1_begin 59 rfl) rfl ?_
  refine rz_putI G flX1_50 (fl_sh h_q0) rfl (dq jX1_begin 60 rfl) ?_
  refine rz_aload_n G 0 rfl rfl (dq jX1_begin 61 rfl) ?_
  refine rz_iconst G (v := 0) (dq jX1_begin 62 rfl) rfl ?_
  refine rz_putI G flX1_53 (fl_sh h_q0) rfl (dq jX1_begin 63 rfl) ?_
  refine rz_aload_n G 0 rfl rfl (dq jX1_begin 64 rfl) ?_
  refine rz_iconst G (v := 0) (dq jX1_begin 65 rfl) rfl ?_
  refine rz_putI G flX1_56 (fl_sh h_q0) rfl (dq jX1_begin 66 rfl) ?_
  refine rz_aload_n G 0 rfl rfl (dq jX1_begin 67 rfl) ?_
  refine rz_iconst G (v := 0) (dq jX1_begin 68 rfl) rfl ?_
  refine rz_putI G flX1_59 (fl_sh h_q0) rfl (dq jX1_begin 69 rfl) ?_
  refine rz_aload_n G 0 rfl rfl (dq jX1_begin 70 rfl) ?_
  refine rz_iconst G (v := 0) (dq jX1_begin 71 rfl) rfl ?_
  refine rz_putI G flX1_62 (fl_sh h_q0) rfl (dq jX1_begin 72 rfl) ?_
  refine rz_aload_n G 0 rfl rfl (dq jX1_begin 73 rfl) ?_
  refine rz_iconst G (v := 0) (dq jX1_begin 74 rfl) rfl ?_
  refine rz_putI G flX1_65 (fl_sh h_q0) rfl (dq jX1_begin 75 rfl) ?_
  refine rz_aload_n G 0 rfl rfl (dq jX1_begin 76 rfl) ?_
  refine rz_getC G flX1_9 (fl_sh h_q0) (t := (q0 + 1)) rfl rfl (dq jX1_begin 77 rfl) ?_
  refine rz_iconst G (v := 0) (dq jX1_begin 78 rfl) rfl ?_
  refine rz_callSv G (st := []) (c_J7_fill_53178 (cLn Γ) (q0 + 1) 0) lkX1_68 rfl (Nat.le_of_ble_eq_true rfl) (Nat.le_of_ble_eq_true rfl) (dq jX1_begin 79 rfl) rfl (fun _ => ?_)
  exact rz_vret G (dq jX1_begin 80 rfl)
theorem z_X1_begin_b16 {Γ : Cx} (G : GG Γ RX1 cX1_begin 3 none 2 0 0) (q0 : Nat) (q1 : Nat) (xs0 : Int32) : Rz Γ 3 (Qm Γ encV 0 0) 0 0 16 [(0, .ref q0), (1, .ref q1)] [.int xs0] (f_X1_begin_b16 q0 q1 xs0) := by
  unfold f_X1_begin_b16
  refine rz_gd (fun h_q0 => ?_)
  refine rz_gd (fun h_q1 => ?_)
  refine rz_istore_n G (lv' := [(2, .int xs0), (0, .ref q0), (1, .ref q1)]) rfl (Nat.le_of_ble_eq_true rfl) rfl (dq jX1_begin 8 rfl) ?_
  refine rz_aload_n G 1 rfl rfl (dq jX1_begin 9 rfl) ?_
  refine rz_iload_n G 0 rfl rfl (dq jX1_begin 10 rfl) ?_
  refine rz_if_eq G (tgt := 26) rfl (dq jX1_begin 11 rfl) (fun c1 => ?_) (fun c1 => ?_)
  · refine rz_iconst G (v := 4) (dq jX1_begin 14 rfl) rfl ?_
    exact rz_lv [1, 2] rfl (z_X1_begin_b27 G q0 q1 4 q0)
  · refine rz_iconst G (v := 0) (dq jX1_begin 12 rfl) rfl ?_
    refine rz_goto G (tgt := 27) rfl (dq jX1_begin 13 rfl) ?_
    exact rz_lv [1, 2] rfl (z_X1_begin_b27 G q0 q1 0 q0)
theorem c_X1_begin (l : Launch) (q0 : Nat) (q1 : Nat) : Ct l yX1_begin cX1_begin 3 none 2 encV [.ref q0, .ref q1] (f_X1_begin q0 q1) := by
  refine ct_of (own := RX1) (by decide) rfl (Nat.le_of_ble_eq_true rfl) (fun Γ hl G => ?_)
  show Rz Γ 3 (Qm Γ encV 0 0) 0 0 0 [(0, .ref q0), (1, .ref q1)] [] _
  unfold f_X1_begin
  refine rz_gd (fun h_q0 => ?_)
  refine rz_gd (fun h_q1 => ?_)
  refine rz_aload_n G 0 rfl rfl (dq jX1_begin 0 rfl) ?_
  refine rz_getI G flX1_15 (fl_sh h_q0) rfl (dq jX1_begin 1 rfl) (fun v1 => ?_)
  refine rz_aload_n G 1 rfl rfl (dq jX1_begin 2 rfl) ?_
  refine rz_getI G flX1_19 (sc_sh h_q1) rfl (dq jX1_begin 3 rfl) (fun v2 => ?_)
  refine rz_icmp_ge G (tgt := 15) rfl (dq jX1_begin 4 rfl) (fun c3 => ?_) (fun c3 => ?_)
  · refine rz_iconst G (v := 0) (dq jX1_begin 7 rfl) rfl ?_
    exact rz_lv [0, 1] rfl (z_X1_begin_b16 G q0 q1 0)
  · refine rz_iconst G (v := 1) (dq jX1_begin 5 rfl) rfl ?_
    refine rz_goto G (tgt := 16) rfl (dq jX1_begin 6 rfl) ?_
    exact rz_lv [0, 1] rfl (z_X1_begin_b16 G q0 q1 1)
theorem z_X1_isComing_b15 {Γ : Cx} (G : GG Γ RX1 cX1_isComing 1 (some .boolean) 1 0 0)  : Rz Γ 1 (Qm Γ encI 0 0) 0 0 15 [] [] (f_X1_isComing_b15 ) := by
  unfold f_X1_isComing_b15
  refine rz_iconst G (v := 1) (dq jX1_isComing 7 rfl) rfl ?_
  refine rz_goto G (tgt := 20) rfl (dq jX1_isComing 8 rfl) ?_
  exact rz_zret0 G (by decide) (dq jX1_isComing 10 rfl)
theorem c_X1_isComing (l : Launch) (q0 : Nat) : Ct l yX1_isComing cX1_isComing 1 (some .boolean) 1 encI [.ref q0] (f_X1_isComing q0) := by
  refine ct_of (own := RX1) (by decide) rfl (Nat.le_of_ble_eq_true rfl) (fun Γ hl G => ?_)
  show Rz Γ 1 (Qm Γ encI 0 0) 0 0 0 [(0, .ref q0)] [] _
  unfold f_X1_isComing
  refine rz_gd (fun h_q0 => ?_)
  refine rz_aload_n G 0 rfl rfl (dq jX1_isComing 0 rfl) ?_
  refine rz_getI G flX1_24 (fl_sh h_q0) rfl (dq jX1_isComing 1 rfl) (fun v1 => ?_)
  refine rz_if_eq G (tgt := 15) rfl (dq jX1_isComing 2 rfl) (fun c2 => ?_) (fun c2 => ?_)
  · exact rz_lv [] rfl (z_X1_isComing_b15 G)
  · refine rz_aload_n G 0 rfl rfl (dq jX1_isComing 3 rfl) ?_
    refine rz_getI G flX1_24 (fl_sh h_q0) rfl (dq jX1_isComing 4 rfl) (fun v3 => ?_)
    refine rz_iconst G (v := 1) (dq jX1_isComing 5 rfl) rfl ?_
    refine rz_icmp_ne G (tgt := 19) rfl (dq jX1_isComing 6 rfl) (fun c4 => ?_) (fun c4 => ?_)
    · exact rz_lv [] rfl (z_X1_isComing_b15 G)
    · refine rz_iconst G (v := 0) (dq jX1_isComing 9 rfl) rfl ?_
      exact rz_zret0 G (by decide) (dq jX1_isComing 10 rfl)
theorem c_X1_addKind (l : Launch) (q0 : Nat) (x1 : Int32) : Ct l yX1_addKind cX1_addKind 2 none 1 encV [.ref q0, .int x1] (f_X1_addKind q0 x1) := by
  refine ct_of (own := RX1) (by decide) rfl (Nat.le_of_ble_eq_true rfl) (fun Γ hl G => ?_)
  show Rz Γ 2 (Qm Γ encV 0 0) 0 0 0 [(0, .ref q0), (1, .int x1)] [] _
  unfold f_X1_addKind
  refine rz_gd (fun h_q0 => ?_)
  refine rz_iload_n G 1 rfl rfl (dq jX1_addKind 0 rfl) ?_
  refine rz_if_lt G (tgt := 23) rfl (dq jX1_addKind 1 rfl) (fun c1 => ?_) (fun c1 => ?_)
  · exact rz_vret G (dq jX1_addKind 15 rfl)
  · refine rz_iload_n G 1 rfl rfl (dq jX1_addKind 2 rfl) ?_
    refine rz_aload_n G 0 rfl rfl (dq jX1_addKind 3 rfl) ?_
    refine rz_getC G flX1_9 (fl_sh h_q0) (t := (q0 + 1)) rfl rfl (dq jX1_addKind 4 rfl) ?_
    refine rz_alen G (v := 6) (fl_s1 h_q0) (by decide) (by decide) (dq jX1_addKind 5 rfl) ?_
    refine rz_icmp_ge G (tgt := 23) rfl (dq jX1_addKind 6 rfl) (fun c2 => ?_) (fun c2 => ?_)
    · exact rz_vret G (dq jX1_addKind 15 rfl)
    · refine rz_aload_n G 0 rfl rfl (dq jX1_addKind 7 rfl) ?_
      refine rz_getC G flX1_9 (fl_sh h_q0) (t := (q0 + 1)) rfl rfl (dq jX1_addKind 8 rfl) ?_
      refine rz_iload_n G 1 rfl rfl (dq jX1_addKind 9 rfl) ?_
      refine rz_dup2 G rfl rfl (dq jX1_addKind 10 rfl) ?_
      refine rz_iald G (fl_s1 h_q0) (dq jX1_addKind 11 rfl) (fun v3 => ?_)
      refine rz_iconst G (v := 1) (dq jX1_addKind 12 rfl) rfl ?_
      refine rz_iadd G (dq jX1_addKind 13 rfl) ?_
      refine rz_iast G (fl_s1 h_q0) (dq jX1_addKind 14 rfl) ?_
      exact rz_vret G (dq jX1_addKind 15 rfl)
theorem c_X1_landed (l : Launch) (q0 : Nat) (x1 : Int32) : Ct l yX1_landed cX1_landed 2 (some .int) 1 encI [.ref q0, .int x1] (f_X1_landed q0 x1) := by
  refine ct_of (own := RX1) (by decide) rfl (Nat.le_of_ble_eq_true rfl) (fun Γ hl G => ?_)
  show Rz Γ 2 (Qm Γ encI 0 0) 0 0 0 [(0, .ref q0), (1, .int x1)] [] _
  unfold f_X1_landed
  refine rz_gd (fun h_q0 => ?_)
  refine rz_iload_n G 1 rfl rfl (dq jX1_landed 0 rfl) ?_
  refine rz_if_lt G (tgt := 22) rfl (dq jX1_landed 1 rfl) (fun c1 => ?_) (fun c1 => ?_)
  · refine rz_iconst G (v := 0) (dq jX1_landed 12 rfl) rfl ?_
    exact rz_iret G (dq jX1_landed 13 rfl)
  · refine rz_iload_n G 1 rfl rfl (dq jX1_landed 2 rfl) ?_
    refine rz_aload_n G 0 rfl rfl (dq jX1_landed 3 rfl) ?_
    refine rz_getC G flX1_9 (fl_sh h_q0) (t := (q0 + 1)) rfl rfl (dq jX1_landed 4 rfl) ?_
    refine rz_alen G (v := 6) (fl_s1 h_q0) (by decide) (by decide) (dq jX1_landed 5 rfl) ?_
    refine rz_icmp_ge G (tgt := 22) rfl (dq jX1_landed 6 rfl) (fun c2 => ?_) (fun c2 => ?_)
    · refine rz_iconst G (v := 0) (dq jX1_landed 12 rfl) rfl ?_
      exact rz_iret G (dq jX1_landed 13 rfl)
    · refine rz_aload_n G 0 rfl rfl (dq jX1_landed 7 rfl) ?_
      refine rz_getC G flX1_9 (fl_sh h_q0) (t := (q0 + 1)) rfl rfl (dq jX1_landed 8 rfl) ?_
      refine rz_iload_n G 1 rfl rfl (dq jX1_landed 9 rfl) ?_
      refine rz_iald G (fl_s1 h_q0) (dq jX1_landed 10 rfl) (fun v3 => ?_)
      refine rz_goto G (tgt := 23) rfl (dq jX1_landed 11 rfl) ?_
      exact rz_iret G (dq jX1_landed 13 rfl)
theorem c_X1_flightOf (l : Launch) (x0 : Int32) : Ct l yX1_flightOf cX1_flightOf 1 (some .int) 1 encI [.int x0] (f_X1_flightOf x0) := by
  refine ct_of (own := RX1) (by decide) rfl (Nat.le_of_ble_eq_true rfl) (fun Γ hl G => ?_)
  show Rz Γ 1 (Qm Γ encI 0 0) 0 0 0 [(0, .int x0)] [] _
  unfold f_X1_flightOf
  refine rz_iconst G (v := 2) (dq jX1_flightOf 0 rfl) rfl ?_
  refine rz_iload_n G 0 rfl rfl (dq jX1_flightOf 1 rfl) ?_
  refine rz_iconst G (v := 2) (dq jX1_flightOf 2 rfl) rfl ?_
  refine rz_idivN G (by decide) (dq jX1_flightOf 3 rfl) ?_
  refine rz_iadd G (dq jX1_flightOf 4 rfl) ?_
  exact rz_iret G (dq jX1_flightOf 5 rfl)
theorem c_X1_rise (l : Launch) (q0 : Nat) (x1 : Int32) (x2 : Int32) (x3 : Int32) : Ct l yX1_rise cX1_rise 4 none 2 encV [.ref q0, .int x1, .int x2, .int x3] (f_X1_rise q0 x1 x2 x3) := by
  refine ct_of (own := RX1) (by decide) rfl (Nat.le_of_ble_eq_true rfl) (fun Γ hl G => ?_)
  show Rz Γ 4 (Qm Γ encV 0 0) 0 0 0 [(0, .ref q0), (1, .int x1), (2, .int x2), (3, .int x3)] [] _
  unfold f_X1_rise
  refine rz_gd (fun h_q0 => ?_)
  refine rz_aload_n G 0 rfl rfl (dq jX1_rise 0 rfl) ?_
  refine rz_dup G rfl (dq jX1_rise 1 rfl) ?_
  refine rz_getI G flX1_53 (fl_sh h_q0) rfl (dq jX1_rise 2 rfl) (fun v1 => ?_)
  refine rz_iconst G (v := 1) (dq jX1_rise 3 rfl) rfl ?_
  refine rz_iadd G (dq jX1_rise 4 rfl) ?_
  refine rz_putI G flX1_53 (fl_sh h_q0) rfl (dq jX1_rise 5 rfl) ?_
  refine rz_aload_n G 0 rfl rfl (dq jX1_rise 6 rfl) ?_
  refine rz_aload_n G 0 rfl rfl (dq jX1_rise 7 rfl) ?_
  refine rz_getI G flX1_56 (fl_sh h_q0) rfl (dq jX1_rise 8 rfl) (fun v2 => ?_)
  refine rz_iload_n G 1 rfl rfl (dq jX1_rise 9 rfl) ?_
  refine rz_mmax G mtX1_83 (by decide) (Nat.le_of_ble_eq_true rfl) (dq jX1_rise 10 rfl) ?_
  refine rz_lti (fun w3 e_w3 => ?_)
  refine rz_putI G flX1_56 (fl_sh h_q0) rfl (dq jX1_rise 11 rfl) ?_
  refine rz_aload_n G 0 rfl rfl (dq jX1_rise 12 rfl) ?_
  refine rz_dup G rfl (dq jX1_rise 13 rfl) ?_
  refine rz_getI G flX1_59 (fl_sh h_q0) rfl (dq jX1_rise 14 rfl) (fun v4 => ?_)
  refine rz_iload_n G 1 rfl rfl (dq jX1_rise 15 rfl) ?_
  refine rz_iadd G (dq jX1_rise 16 rfl) ?_
  refine rz_putI G flX1_59 (fl_sh h_q0) rfl (dq jX1_rise 17 rfl) ?_
  refine rz_aload_n G 0 rfl rfl (dq jX1_rise 18 rfl) ?_
  refine rz_iconst G (v := 1) (dq jX1_rise 19 rfl) rfl ?_
  refine rz_putI G flX1_24 (fl_sh h_q0) rfl (dq jX1_rise 20 rfl) ?_
  refine rz_aload_n G 0 rfl rfl (dq jX1_rise 21 rfl) ?_
  refine rz_iload_n G 1 rfl rfl (dq jX1_rise 22 rfl) ?_
  refine rz_putI G flX1_80 (fl_sh h_q0) rfl (dq jX1_rise 23 rfl) ?_
  refine rz_aload_n G 0 rfl rfl (dq jX1_rise 24 rfl) ?_
  refine rz_iload_n G 2 rfl rfl (dq jX1_rise 25 rfl) ?_
  refine rz_putI G flX1_50 (fl_sh h_q0) rfl (dq jX1_rise 26 rfl) ?_
  refine rz_aload_n G 0 rfl rfl (dq jX1_rise 27 rfl) ?_
  refine rz_iload_n G 2 rfl rfl (dq jX1_rise 28 rfl) ?_
  refine rz_iload_n G 1 rfl rfl (dq jX1_rise 29 rfl) ?_
  refine rz_callSi G (st := [.int x2, .ref q0]) (c_X1_flightOf (cLn Γ) x1) lkX1_88 rfl (Nat.le_of_ble_eq_true rfl) (Nat.le_of_ble_eq_true rfl) (dq jX1_rise 30 rfl) rfl (fun r5 => ?_)
  refine rz_iadd G (dq jX1_rise 31 rfl) ?_
  refine rz_putI G flX1_74 (fl_sh h_q0) rfl (dq jX1_rise 32 rfl) ?_
  refine rz_aload_n G 0 rfl rfl (dq jX1_rise 33 rfl) ?_
  refine rz_iload_n G 3 rfl rfl (dq jX1_rise 34 rfl) ?_
  refine rz_putI G flX1_40 (fl_sh h_q0) rfl (dq jX1_rise 35 rfl) ?_
  exact rz_vret G (dq jX1_rise 36 rfl)
theorem c_X1_heightIn (l : Launch) (q0 : Nat) (x1 : Int32) : Ct l yX1_heightIn cX1_heightIn 4 (some .int) 2 encI [.ref q0, .int x1] (f_X1_heightIn q0 x1) := by
  refine ct_of (own := RX1) (by decide) rfl (Nat.le_of_ble_eq_true rfl) (fun Γ hl G => ?_)
  show Rz Γ 4 (Qm Γ encI 0 0) 0 0 0 [(0, .ref q0), (1, .int x1)] [] _
  unfold f_X1_heightIn
  refine rz_gd (fun h_q0 => ?_)
  refine rz_aload_n G 0 rfl rfl (dq jX1_heightIn 0 rfl) ?_
  refine rz_getI G flX1_24 (fl_sh h_q0) rfl (dq jX1_heightIn 1 rfl) (fun v1 => ?_)
  refine rz_if_ne G (tgt := 12) rfl (dq jX1_heightIn 2 rfl) (fun c2 => ?_) (fun c2 => ?_)
  · refine rz_aload_n G 0 rfl rfl (dq jX1_heightIn 3 rfl) ?_
    refine rz_getI G flX1_77 (fl_sh h_q0) rfl (dq jX1_heightIn 4 rfl) (fun v3 => ?_)
    exact rz_iret G (dq jX1_heightIn 5 rfl)
  · refine rz_aload_n G 0 rfl rfl (dq jX1_heightIn 6 rfl) ?_
    refine rz_getI G flX1_80 (fl_sh h_q0) rfl (dq jX1_heightIn 7 rfl) (fun v4 => ?_)
    refine rz_callSi G (st := []) (c_X1_flightOf (cLn Γ) v4) lkX1_88 rfl (Nat.le_of_ble_eq_true rfl) (Nat.le_of_ble_eq_true rfl) (dq jX1_heightIn 8 rfl) rfl (fun r5 => ?_)
    refine rz_istore_n G (lv' := [(2, .int r5), (0, .ref q0), (1, .int x1)]) rfl (Nat.le_of_ble_eq_true rfl) rfl (dq jX1_heightIn 9 rfl) ?_
    refine rz_aload_n G 1 rfl rfl (dq jX1_heightIn 10 rfl) ?_
    refine rz_getI G flX1_24 (fl_sh h_q0) rfl (dq jX1_heightIn 11 rfl) (fun v6 => ?_)
    refine rz_iconst G (v := 1) (dq jX1_heightIn 12 rfl) rfl ?_
    refine rz_icmp_ne G (tgt := 33) rfl (dq jX1_heightIn 13 rfl) (fun c7 => ?_) (fun c7 => ?_)
    · refine rz_iload_n G 0 rfl rfl (dq jX1_heightIn 14 rfl) ?_
      refine rz_iconst G (v := 1) (dq jX1_heightIn 15 rfl) rfl ?_
      refine rz_icmp_ge G (tgt := 35) rfl (dq jX1_heightIn 16 rfl) (fun c8 => ?_) (fun c8 => ?_)
      · refine rz_iload_n G 2 rfl rfl (dq jX1_heightIn 19 rfl) ?_
        refine rz_aload_n G 1 rfl rfl (dq jX1_heightIn 20 rfl) ?_
        refine rz_getI G flX1_50 (fl_sh h_q0) rfl (dq jX1_heightIn 21 rfl) (fun v9 => ?_)
        refine rz_isub G (dq jX1_heightIn 22 rfl) ?_
        refine rz_istore_n G (lv' := [(3, .int (x1 - v9)), (2, .int r5), (0, .ref q0), (1, .int x1)]) rfl (Nat.le_of_ble_eq_true rfl) rfl (dq jX1_heightIn 23 rfl) ?_
        refine rz_iconst G (v := 4) (dq jX1_heightIn 24 rfl) rfl ?_
        refine rz_aload_n G 2 rfl rfl (dq jX1_heightIn 25 rfl) ?_
        refine rz_getI G flX1_80 (fl_sh h_q0) rfl (dq jX1_heightIn 26 rfl) (fun v10 => ?_)
        refine rz_imul G (dq jX1_heightIn 27 rfl) ?_
        refine rz_iload_n G 0 rfl rfl (dq jX1_heightIn 28 rfl) ?_
        refine rz_imul G (dq jX1_heightIn 29 rfl) ?_
        refine rz_iload_n G 1 rfl rfl (dq jX1_heightIn 30 rfl) ?_
        refine rz_iload_n G 0 rfl rfl (dq jX1_heightIn 31 rfl) ?_
        refine rz_isub G (dq jX1_heightIn 32 rfl) ?_
        refine rz_imul G (dq jX1_heightIn 33 rfl) ?_
        refine rz_iload_n G 1 rfl rfl (dq jX1_heightIn 34 rfl) ?_
        refine rz_iload_n G 1 rfl rfl (dq jX1_heightIn 35 rfl) ?_
        refine rz_imul G (dq jX1_heightIn 36 rfl) ?_
        refine rz_idiv G (dq jX1_heightIn 37 rfl) ?_
        exact rz_iret G (dq jX1_heightIn 38 rfl)
      · refine rz_iconst G (v := 0) (dq jX1_heightIn 17 rfl) rfl ?_
        exact rz_iret G (dq jX1_heightIn 18 rfl)
    · refine rz_iconst G (v := 0) (dq jX1_heightIn 17 rfl) rfl ?_
      exact rz_iret G (dq jX1_heightIn 18 rfl)
theorem c_X6_clear (l : Launch) (q0 : Nat) : Ct l yX6_clear cX6_clear 1 none 1 encV [.ref q0] (f_X6_clear q0) := by
  refine ct_of (own := RX6) (by decide) rfl (Nat.le_of_ble_eq_true rfl) (fun Γ hl G => ?_)
  show Rz Γ 1 (Qm Γ encV 0 0) 0 0 0 [(0, .ref q0)] [] _
  unfold f_X6_clear
  refine rz_gd (fun h_q0 => ?_)
  refine rz_aload_n G 0 rfl rfl (dq jX6_clear 0 rfl) ?_
  refine rz_iconst G (v := 0) (dq jX6_clear 1 rfl) rfl ?_
  refine rz_putI G flX6_21 (ru_sh h_q0) rfl (dq jX6_clear 2 rfl) ?_
  refine rz_aload_n G 0 rfl rfl (dq jX6_clear 3 rfl) ?_
  refine rz_iconst G (v := 0) (dq jX6_clear 4 rfl) rfl ?_
  refine rz_putI G flX6_25 (ru_sh h_q0) rfl (dq jX6_clear 5 rfl) ?_
  exact rz_vret G (dq jX6_clear 6 rfl)
theorem c_X2_clear (l : Launch) (q0 : Nat) : Ct l yX2_clear cX2_clear 1 none 2 encV [.ref q0] (f_X2_clear q0) := by
  refine ct_of (own := RX2) (by decide) rfl (Nat.le_of_ble_eq_true rfl) (fun Γ hl G => ?_)
  show Rz Γ 1 (Qm Γ encV 0 0) 0 0 0 [(0, .ref q0)] [] _
  unfold f_X2_clear
  refine rz_gd (fun h_q0 => ?_)
  refine rz_aload_n G 0 rfl rfl (dq jX2_clear 0 rfl) ?_
  refine rz_iconst G (v := 3) (dq jX2_clear 1 rfl) rfl ?_
  refine rz_putI G flX2_28 (gd_sh h_q0) rfl (dq jX2_clear 2 rfl) ?_
  refine rz_aload_n G 0 rfl rfl (dq jX2_clear 3 rfl) ?_
  refine rz_bipush G (v := 9) (dq jX2_clear 4 rfl) (by decide) ?_
  refine rz_putI G flX2_32 (gd_sh h_q0) rfl (dq jX2_clear 5 rfl) ?_
  refine rz_aload_n G 0 rfl rfl (dq jX2_clear 6 rfl) ?_
  refine rz_bipush G (v := 80) (dq jX2_clear 7 rfl) (by decide) ?_
  refine rz_putI G flX2_35 (gd_sh h_q0) rfl (dq jX2_clear 8 rfl) ?_
  refine rz_aload_n G 0 rfl rfl (dq jX2_clear 9 rfl) ?_
  refine rz_iconst G (v := 0) (dq jX2_clear 10 rfl) rfl ?_
  refine rz_putI G flX2_38 (gd_sh h_q0) rfl (dq jX2_clear 11 rfl) ?_
  refine rz_aload_n G 0 rfl rfl (dq jX2_clear 12 rfl) ?_
  refine rz_iconst G (v := 1) (dq jX2_clear 13 rfl) rfl ?_
  refine rz_putI G flX2_41 (gd_sh h_q0) rfl (dq jX2_clear 14 rfl) ?_
  refine rz_aload_n G 0 rfl rfl (dq jX2_clear 15 rfl) ?_
  refine rz_iconst G (v := 0) (dq jX2_clear 16 rfl) rfl ?_
  refine rz_putI G flX2_44 (gd_sh h_q0) rfl (dq jX2_clear 17 rfl) ?_
  refine rz_aload_n G 0 rfl rfl (dq jX2_clear 18 rfl) ?_
  refine rz_iconst G (v := 1) (dq jX2_clear 19 rfl) rfl ?_
  refine rz_putI G flX2_47 (gd_sh h_q0) rfl (dq jX2_clear 20 rfl) ?_
  refine rz_aload_n G 0 rfl rfl (dq jX2_clear 21 rfl) ?_
  refine rz_iconst G (v := 0) (dq jX2_clear 22 rfl) rfl ?_
  refine rz_putI G flX2_50 (gd_sh h_q0) rfl (dq jX2_clear 23 rfl) ?_
  refine rz_aload_n G 0 rfl rfl (dq jX2_clear 24 rfl) ?_
  refine rz_iconst G (v := 0) (dq jX2_clear 25 rfl) rfl ?_
  refine rz_putI G flX2_53 (gd_sh h_q0) rfl (dq jX2_clear 26 rfl) ?_
  refine rz_aload_n G 0 rfl rfl (dq jX2_clear 27 rfl) ?_
  refine rz_iconst G (v := 0) (dq jX2_clear 28 rfl) rfl ?_
  refine rz_putI G flX2_56 (gd_sh h_q0) rfl (dq jX2_clear 29 rfl) ?_
  refine rz_aload_n G 0 rfl rfl (dq jX2_clear 30 rfl) ?_
  refine rz_getC G flX2_21 (gd_sh h_q0) (t := (q0 + 3)) rfl rfl (dq jX2_clear 31 rfl) ?_
  refine rz_callVv G (st := []) (c_X6_clear (cLn Γ) (q0 + 3)) lkX2_59 (gd_s3 h_q0) rfl rfl rfl (Nat.le_of_ble_eq_true rfl) (Nat.le_of_ble_eq_true rfl) (dq jX2_clear 32 rfl) rfl (fun _ => ?_)
  exact rz_vret G (dq jX2_clear 33 rfl)
theorem c_X2_tellOfLast (l : Launch) (q0 : Nat) (x1 : Int32) (x2 : Int32) : Ct l yX2_tellOfLast cX2_tellOfLast 4 none 1 encV [.ref q0, .int x1, .int x2] (f_X2_tellOfLast q0 x1 x2) := by
  refine ct_of (own := RX2) (by decide) rfl (Nat.le_of_ble_eq_true rfl) (fun Γ hl G => ?_)
  show Rz Γ 4 (Qm Γ encV 0 0) 0 0 0 [(0, .ref q0), (1, .int x1), (2, .int x2)] [] _
  unfold f_X2_tellOfLast
  refine rz_gd (fun h_q0 => ?_)
  refine rz_aload_n G 0 rfl rfl (dq jX2_tellOfLast 0 rfl) ?_
  refine rz_getI G flX2_53 (gd_sh h_q0) rfl (dq jX2_tellOfLast 1 rfl) (fun v1 => ?_)
  refine rz_iconst G (v := 1) (dq jX2_tellOfLast 2 rfl) rfl ?_
  refine rz_isub G (dq jX2_tellOfLast 3 rfl) ?_
  refine rz_bipush G (v := 6) (dq jX2_tellOfLast 4 rfl) (by decide) ?_
  refine rz_imul G (dq jX2_tellOfLast 5 rfl) ?_
  refine rz_iload_n G 1 rfl rfl (dq jX2_tellOfLast 6 rfl) ?_
  refine rz_iadd G (dq jX2_tellOfLast 7 rfl) ?_
  refine rz_lti (fun w2 e_w2 => ?_)
  refine rz_istore_n G (lv' := [(3, .int w2), (0, .ref q0), (1, .int x1), (2, .int x2)]) rfl (Nat.le_of_ble_eq_true rfl) rfl (dq jX2_tellOfLast 8 rfl) ?_
  refine rz_iload_n G 0 rfl rfl (dq jX2_tellOfLast 9 rfl) ?_
  refine rz_if_lt G (tgt := 32) rfl (dq jX2_tellOfLast 10 rfl) (fun c3 => ?_) (fun c3 => ?_)
  · exact rz_vret G (dq jX2_tellOfLast 21 rfl)
  · refine rz_iload_n G 0 rfl rfl (dq jX2_tellOfLast 11 rfl) ?_
    refine rz_aload_n G 1 rfl rfl (dq jX2_tellOfLast 12 rfl) ?_
    refine rz_getC G flX2_9 (gd_sh h_q0) (t := (q0 + 1)) rfl rfl (dq jX2_tellOfLast 13 rfl) ?_
    refine rz_alen G (v := 24) (gd_s1 h_q0) (by decide) (by decide) (dq jX2_tellOfLast 14 rfl) ?_
    refine rz_icmp_ge G (tgt := 32) rfl (dq jX2_tellOfLast 15 rfl) (fun c4 => ?_) (fun c4 => ?_)
    · exact rz_vret G (dq jX2_tellOfLast 21 rfl)
    · refine rz_aload_n G 1 rfl rfl (dq jX2_tellOfLast 16 rfl) ?_
      refine rz_getC G flX2_9 (gd_sh h_q0) (t := (q0 + 1)) rfl rfl (dq jX2_tellOfLast 17 rfl) ?_
      refine rz_iload_n G 0 rfl rfl (dq jX2_tellOfLast 18 rfl) ?_
      refine rz_iload_n G 3 rfl rfl (dq jX2_tellOfLast 19 rfl) ?_
      refine rz_iast G (gd_s1 h_q0) (dq jX2_tellOfLast 20 rfl) ?_
      exact rz_vret G (dq jX2_tellOfLast 21 rfl)
theorem c_X2_addPush (l : Launch) (q0 : Nat) (x1 : Int32) : Ct l yX2_addPush cX2_addPush 2 none 1 encV [.ref q0, .int x1] (f_X2_addPush q0 x1) := by
  refine ct_of (own := RX2) (by decide) rfl (Nat.le_of_ble_eq_true rfl) (fun Γ hl G => ?_)
  show Rz Γ 2 (Qm Γ encV 0 0) 0 0 0 [(0, .ref q0), (1, .int x1)] [] _
  unfold f_X2_addPush
  refine rz_gd (fun h_q0 => ?_)
  refine rz_aload_n G 0 rfl rfl (dq jX2_addPush 0 rfl) ?_
  refine rz_getI G flX2_56 (gd_sh h_q0) rfl (dq jX2_addPush 1 rfl) (fun v1 => ?_)
  refine rz_if_lt G (tgt := 39) rfl (dq jX2_addPush 2 rfl) (fun c2 => ?_) (fun c2 => ?_)
  · exact rz_vret G (dq jX2_addPush 21 rfl)
  · refine rz_aload_n G 0 rfl rfl (dq jX2_addPush 3 rfl) ?_
    refine rz_getI G flX2_56 (gd_sh h_q0) rfl (dq jX2_addPush 4 rfl) (fun v3 => ?_)
    refine rz_aload_n G 0 rfl rfl (dq jX2_addPush 5 rfl) ?_
    refine rz_getC G flX2_15 (gd_sh h_q0) (t := (q0 + 2)) rfl rfl (dq jX2_addPush 6 rfl) ?_
    refine rz_alen G (v := 8) (gd_s2 h_q0) (by decide) (by decide) (dq jX2_addPush 7 rfl) ?_
    refine rz_icmp_ge G (tgt := 39) rfl (dq jX2_addPush 8 rfl) (fun c4 => ?_) (fun c4 => ?_)
    · exact rz_vret G (dq jX2_addPush 21 rfl)
    · refine rz_aload_n G 0 rfl rfl (dq jX2_addPush 9 rfl) ?_
      refine rz_getC G flX2_15 (gd_sh h_q0) (t := (q0 + 2)) rfl rfl (dq jX2_addPush 10 rfl) ?_
      refine rz_aload_n G 0 rfl rfl (dq jX2_addPush 11 rfl) ?_
      refine rz_getI G flX2_56 (gd_sh h_q0) rfl (dq jX2_addPush 12 rfl) (fun v5 => ?_)
      refine rz_iload_n G 1 rfl rfl (dq jX2_addPush 13 rfl) ?_
      refine rz_iast G (gd_s2 h_q0) (dq jX2_addPush 14 rfl) ?_
      refine rz_aload_n G 0 rfl rfl (dq jX2_addPush 15 rfl) ?_
      refine rz_dup G rfl (dq jX2_addPush 16 rfl) ?_
      refine rz_getI G flX2_56 (gd_sh h_q0) rfl (dq jX2_addPush 17 rfl) (fun v6 => ?_)
      refine rz_iconst G (v := 1) (dq jX2_addPush 18 rfl) rfl ?_
      refine rz_iadd G (dq jX2_addPush 19 rfl) ?_
      refine rz_putI G flX2_56 (gd_sh h_q0) rfl (dq jX2_addPush 20 rfl) ?_
      exact rz_vret G (dq jX2_addPush 21 rfl)
theorem z_X2_isBeyond_b17 {Γ : Cx} (G : GG Γ RX2 cX2_isBeyond 2 (some .boolean) 1 0 0)  : Rz Γ 2 (Qm Γ encI 0 0) 0 0 17 [] [] (f_X2_isBeyond_b17 ) := by
  unfold f_X2_isBeyond_b17
  refine rz_iconst G (v := 1) (dq jX2_isBeyond 9 rfl) rfl ?_
  refine rz_goto G (tgt := 22) rfl (dq jX2_isBeyond 10 rfl) ?_
  exact rz_zret0 G (by decide) (dq jX2_isBeyond 12 rfl)
theorem c_X2_isBeyond (l : Launch) (q0 : Nat) (x1 : Int32) : Ct l yX2_isBeyond cX2_isBeyond 2 (some .boolean) 1 encI [.ref q0, .int x1] (f_X2_isBeyond q0 x1) := by
  refine ct_of (own := RX2) (by decide) rfl (Nat.le_of_ble_eq_true rfl) (fun Γ hl G => ?_)
  show Rz Γ 2 (Qm Γ encI 0 0) 0 0 0 [(0, .ref q0), (1, .int x1)] [] _
  unfold f_X2_isBeyond
  refine rz_gd (fun h_q0 => ?_)
  refine rz_iload_n G 1 rfl rfl (dq jX2_isBeyond 0 rfl) ?_
  refine rz_aload_n G 0 rfl rfl (dq jX2_isBeyond 1 rfl) ?_
  refine rz_getI G flX2_32 (gd_sh h_q0) rfl (dq jX2_isBeyond 2 rfl) (fun v1 => ?_)
  refine rz_ineg G (dq jX2_isBeyond 3 rfl) ?_
  refine rz_icmp_lt G (tgt := 17) rfl (dq jX2_isBeyond 4 rfl) (fun c2 => ?_) (fun c2 => ?_)
  · exact rz_lv [] rfl (z_X2_isBeyond_b17 G)
  · refine rz_iload_n G 1 rfl rfl (dq jX2_isBeyond 5 rfl) ?_
    refine rz_aload_n G 0 rfl rfl (dq jX2_isBeyond 6 rfl) ?_
    refine rz_getI G flX2_32 (gd_sh h_q0) rfl (dq jX2_isBeyond 7 rfl) (fun v3 => ?_)
    refine rz_icmp_le G (tgt := 21) rfl (dq jX2_isBeyond 8 rfl) (fun c4 => ?_) (fun c4 => ?_)
    · refine rz_iconst G (v := 0) (dq jX2_isBeyond 11 rfl) rfl ?_
      exact rz_zret0 G (by decide) (dq jX2_isBeyond 12 rfl)
    · exact rz_lv [] rfl (z_X2_isBeyond_b17 G)
theorem c_X2_comesTo (l : Launch) (q0 : Nat) (x1 : Int32) (x2 : Int32) (x3 : Int32) : Ct l yX2_comesTo cX2_comesTo 5 (some .int) 1 encI [.ref q0, .int x1, .int x2, .int x3] (f_X2_comesTo q0 x1 x2 x3) := by
  refine ct_of (own := RX2) (by decide) rfl (Nat.le_of_ble_eq_true rfl) (fun Γ hl G => ?_)
  show Rz Γ 5 (Qm Γ encI 0 0) 0 0 0 [(0, .ref q0), (1, .int x1), (2, .int x2), (3, .int x3)] [] _
  unfold f_X2_comesTo
  refine rz_gd (fun h_q0 => ?_)
  refine rz_iload_n G 1 rfl rfl (dq jX2_comesTo 0 rfl) ?_
  refine rz_iload_n G 1 rfl rfl (dq jX2_comesTo 1 rfl) ?_
  refine rz_iload_n G 2 rfl rfl (dq jX2_comesTo 2 rfl) ?_
  refine rz_imul G (dq jX2_comesTo 3 rfl) ?_
  refine rz_bipush G (v := 40) (dq jX2_comesTo 4 rfl) (by decide) ?_
  refine rz_idivN G (by decide) (dq jX2_comesTo 5 rfl) ?_
  refine rz_iadd G (dq jX2_comesTo 6 rfl) ?_
  refine rz_aload_n G 0 rfl rfl (dq jX2_comesTo 7 rfl) ?_
  refine rz_getI G flX2_38 (gd_sh h_q0) rfl (dq jX2_comesTo 8 rfl) (fun v1 => ?_)
  refine rz_iadd G (dq jX2_comesTo 9 rfl) ?_
  refine rz_lti (fun w2 e_w2 => ?_)
  refine rz_istore G (lv' := [(4, .int w2), (0, .ref q0), (1, .int x1), (2, .int x2), (3, .int x3)]) (Nat.le_of_ble_eq_true rfl) rfl (dq jX2_comesTo 10 rfl) ?_
  refine rz_iload G 0 rfl (dq jX2_comesTo 11 rfl) ?_
  refine rz_if_le G (tgt := 29) rfl (dq jX2_comesTo 12 rfl) (fun c3 => ?_) (fun c3 => ?_)
  · refine rz_iconst G (v := 0) (dq jX2_comesTo 19 rfl) rfl ?_
    refine rz_iload G 0 rfl (dq jX2_comesTo 20 rfl) ?_
    refine rz_iload_n G 4 rfl rfl (dq jX2_comesTo 21 rfl) ?_
    refine rz_iadd G (dq jX2_comesTo 22 rfl) ?_
    refine rz_mmin G mtX2_66 (by decide) (Nat.le_of_ble_eq_true rfl) (dq jX2_comesTo 23 rfl) ?_
    refine rz_lti (fun w4 e_w4 => ?_)
    exact rz_iret G (dq jX2_comesTo 24 rfl)
  · refine rz_iconst G (v := 0) (dq jX2_comesTo 13 rfl) rfl ?_
    refine rz_iload G 0 rfl (dq jX2_comesTo 14 rfl) ?_
    refine rz_iload_n G 4 rfl rfl (dq jX2_comesTo 15 rfl) ?_
    refine rz_isub G (dq jX2_comesTo 16 rfl) ?_
    refine rz_mmax G mtX2_60 (by decide) (Nat.le_of_ble_eq_true rfl) (dq jX2_comesTo 17 rfl) ?_
    refine rz_lti (fun w5 e_w5 => ?_)
    exact rz_iret G (dq jX2_comesTo 18 rfl)
theorem c_X3_add (l : Launch) (x1 : Int32) (x2 : Int32) (x3 : Int32) (x4 : Int32) (x5 : Int32) : Ct l yX3_add cX3_add 7 none 1 encV [.ref 28, .int x1, .int x2, .int x3, .int x4, .int x5] (f_X3_add x1 x2 x3 x4 x5) := by
  refine ct_of (own := RX3) (by decide) rfl (Nat.le_of_ble_eq_true rfl) (fun Γ hl G => ?_)
  show Rz Γ 7 (Qm Γ encV 0 0) 0 0 0 [(0, .ref 28), (1, .int x1), (2, .int x2), (3, .int x3), (4, .int x4), (5, .int x5)] [] _
  unfold f_X3_add
  refine rz_aload_n G 0 rfl rfl (dq jX3_add 0 rfl) ?_
  refine rz_getI G flX3_15 sh28 rfl (dq jX3_add 1 rfl) (fun v1 => ?_)
  refine rz_iconst G (v := 5) (dq jX3_add 2 rfl) rfl ?_
  refine rz_imul G (dq jX3_add 3 rfl) ?_
  refine rz_istore G (lv' := [(6, .int (v1 * 5)), (0, .ref 28), (1, .int x1), (2, .int x2), (3, .int x3), (4, .int x4), (5, .int x5)]) (Nat.le_of_ble_eq_true rfl) rfl (dq jX3_add 4 rfl) ?_
  refine rz_iload G 0 rfl (dq jX3_add 5 rfl) ?_
  refine rz_if_lt G (tgt := 25) rfl (dq jX3_add 6 rfl) (fun c2 => ?_) (fun c2 => ?_)
  · exact rz_vret G (dq jX3_add 14 rfl)
  · refine rz_iload G 0 rfl (dq jX3_add 7 rfl) ?_
    refine rz_aload_n G 1 rfl rfl (dq jX3_add 8 rfl) ?_
    refine rz_getC G flX3_11 sh28 (t := 29) rfl rfl (dq jX3_add 9 rfl) ?_
    refine rz_alen G (v := 3000) sh29 (by decide) (by decide) (dq jX3_add 10 rfl) ?_
    refine rz_iconst G (v := 5) (dq jX3_add 11 rfl) rfl ?_
    refine rz_isub G (dq jX3_add 12 rfl) ?_
    refine rz_icmp_le G (tgt := 26) rfl (dq jX3_add 13 rfl) (fun c3 => ?_) (fun c3 => ?_)
    · refine rz_aload_n G 1 rfl rfl (dq jX3_add 15 rfl) ?_
      refine rz_getC G flX3_11 sh28 (t := 29) rfl rfl (dq jX3_add 16 rfl) ?_
      refine rz_iload G 0 rfl (dq jX3_add 17 rfl) ?_
      refine rz_iload_n G 2 rfl rfl (dq jX3_add 18 rfl) ?_
      refine rz_iast G sh29 (dq jX3_add 19 rfl) ?_
      refine rz_aload_n G 1 rfl rfl (dq jX3_add 20 rfl) ?_
      refine rz_getC G flX3_11 sh28 (t := 29) rfl rfl (dq jX3_add 21 rfl) ?_
      refine rz_iload G 0 rfl (dq jX3_add 22 rfl) ?_
      refine rz_iconst G (v := 1) (dq jX3_add 23 rfl) rfl ?_
      refine rz_iadd G (dq jX3_add 24 rfl) ?_
      refine rz_iload_n G 3 rfl rfl (dq jX3_add 25 rfl) ?_
      refine rz_iast G sh29 (dq jX3_add 26 rfl) ?_
      refine rz_aload_n G 1 rfl rfl (dq jX3_add 27 rfl) ?_
      refine rz_getC G flX3_11 sh28 (t := 29) rfl rfl (dq jX3_add 28 rfl) ?_
      refine rz_iload G 0 rfl (dq jX3_add 29 rfl) ?_
      refine rz_iconst G (v := 2) (dq jX3_add 30 rfl) rfl ?_
      refine rz_iadd G (dq jX3_add 31 rfl) ?_
      refine rz_iload_n G 4 rfl rfl (dq jX3_add 32 rfl) ?_
      refine rz_iast G sh29 (dq jX3_add 33 rfl) ?_
      refine rz_aload_n G 1 rfl rfl (dq jX3_add 34 rfl) ?_
      refine rz_getC G flX3_11 sh28 (t := 29) rfl rfl (dq jX3_add 35 rfl) ?_
      refine rz_iload G 0 rfl (dq jX3_add 36 rfl) ?_
      refine rz_iconst G (v := 3) (dq jX3_add 37 rfl) rfl ?_
      refine rz_iadd G (dq jX3_add 38 rfl) ?_
      refine rz_iload G 5 rfl (dq jX3_add 39 rfl) ?_
      refine rz_iast G sh29 (dq jX3_add 40 rfl) ?_
      refine rz_aload_n G 1 rfl rfl (dq jX3_add 41 rfl) ?_
      refine rz_getC G flX3_11 sh28 (t := 29) rfl rfl (dq jX3_add 42 rfl) ?_
      refine rz_iload G 0 rfl (dq jX3_add 43 rfl) ?_
      refine rz_iconst G (v := 4) (dq jX3_add 44 rfl) rfl ?_
      refine rz_iadd G (dq jX3_add 45 rfl) ?_
      refine rz_iload G 6 rfl (dq jX3_add 46 rfl) ?_
      refine rz_iast G sh29 (dq jX3_add 47 rfl) ?_
      refine rz_aload_n G 1 rfl rfl (dq jX3_add 48 rfl) ?_
      refine rz_dup G rfl (dq jX3_add 49 rfl) ?_
      refine rz_getI G flX3_15 sh28 rfl (dq jX3_add 50 rfl) (fun v4 => ?_)
      refine rz_iconst G (v := 1) (dq jX3_add 51 rfl) rfl ?_
      refine rz_iadd G (dq jX3_add 52 rfl) ?_
      refine rz_putI G flX3_15 sh28 rfl (dq jX3_add 53 rfl) ?_
      exact rz_vret G (dq jX3_add 54 rfl)
    · exact rz_vret G (dq jX3_add 14 rfl)
theorem c_X3_told (l : Launch) (x1 : Int32) (x2 : Int32) : Ct l yX3_told cX3_told 4 (some .int) 1 encI [.ref 28, .int x1, .int x2] (f_X3_told x1 x2) := by
  refine ct_of (own := RX3) (by decide) rfl (Nat.le_of_ble_eq_true rfl) (fun Γ hl G => ?_)
  show Rz Γ 4 (Qm Γ encI 0 0) 0 0 0 [(0, .ref 28), (1, .int x1), (2, .int x2)] [] _
  unfold f_X3_told
  refine rz_iload_n G 1 rfl rfl (dq jX3_told 0 rfl) ?_
  refine rz_iconst G (v := 5) (dq jX3_told 1 rfl) rfl ?_
  refine rz_imul G (dq jX3_told 2 rfl) ?_
  refine rz_iload_n G 2 rfl rfl (dq jX3_told 3 rfl) ?_
  refine rz_iadd G (dq jX3_told 4 rfl) ?_
  refine rz_istore_n G (lv' := [(3, .int ((x1 * 5) + x2)), (0, .ref 28), (1, .int x1), (2, .int x2)]) rfl (Nat.le_of_ble_eq_true rfl) rfl (dq jX3_told 5 rfl) ?_
  refine rz_iload_n G 0 rfl rfl (dq jX3_told 6 rfl) ?_
  refine rz_if_lt G (tgt := 28) rfl (dq jX3_told 7 rfl) (fun c1 => ?_) (fun c1 => ?_)
  · refine rz_iconst G (v := (-1)) (dq jX3_told 18 rfl) rfl ?_
    exact rz_iret G (dq jX3_told 19 rfl)
  · refine rz_iload_n G 0 rfl rfl (dq jX3_told 8 rfl) ?_
    refine rz_aload_n G 1 rfl rfl (dq jX3_told 9 rfl) ?_
    refine rz_getC G flX3_11 sh28 (t := 29) rfl rfl (dq jX3_told 10 rfl) ?_
    refine rz_alen G (v := 3000) sh29 (by decide) (by decide) (dq jX3_told 11 rfl) ?_
    refine rz_icmp_ge G (tgt := 28) rfl (dq jX3_told 12 rfl) (fun c2 => ?_) (fun c2 => ?_)
    · refine rz_iconst G (v := (-1)) (dq jX3_told 18 rfl) rfl ?_
      exact rz_iret G (dq jX3_told 19 rfl)
    · refine rz_aload_n G 1 rfl rfl (dq jX3_told 13 rfl) ?_
      refine rz_getC G flX3_11 sh28 (t := 29) rfl rfl (dq jX3_told 14 rfl) ?_
      refine rz_iload_n G 0 rfl rfl (dq jX3_told 15 rfl) ?_
      refine rz_iald G sh29 (dq jX3_told 16 rfl) (fun v3 => ?_)
      refine rz_goto G (tgt := 29) rfl (dq jX3_told 17 rfl) ?_
      exact rz_iret G (dq jX3_told 19 rfl)
theorem z_X3_nextOf_b32 {Γ : Cx} (G : GG Γ RX3 cX3_nextOf 4 (some .int) 2 0 0) (k2 : Int32 → Int32 → Sg → Option (Int32 × Sg)) (hk2 : ∀ (x1 : Int32) (x3 : Int32), Rz Γ 4 (Qm Γ encI 0 0) 0 0 2 [(0, .ref 28), (1, .int x1), (3, .int x3)] [] (k2 x1 x3)) (x1 : Int32) (x3 : Int32) : Rz Γ 4 (Qm Γ encI 0 0) 0 0 32 [(0, .ref 28), (1, .int x1), (3, .int x3)] [] (f_X3_nextOf_b32 k2 x1 x3) := by
  unfold f_X3_nextOf_b32
  refine rz_iinc G 2 (v := x3 + 1) (lv' := [(3, .int (x3 + 1)), (0, .ref 28), (1, .int x1)]) rfl (congrArg (HAdd.hAdd _) (by decide)) (Nat.le_of_ble_eq_true rfl) rfl (dq jX3_nextOf 20 rfl) ?_
  refine rz_goto G (tgt := 2) rfl (dq jX3_nextOf 21 rfl) ?_
  exact rz_lv [1, 2, 0] rfl (hk2 x1 (x3 + 1))
theorem z_X3_nextOf_b2 {Γ : Cx} (G : GG Γ RX3 cX3_nextOf 4 (some .int) 2 0 0) : ∀ (fu : Nat) (x1 : Int32) (x3 : Int32), Rz Γ 4 (Qm Γ encI 0 0) 0 0 2 [(0, .ref 28), (1, .int x1), (3, .int x3)] [] (f_X3_nextOf_b2 fu x1 x3) := by
  intro fu
  induction fu with
  | zero => intro _ _; exact rz_none
  | succ fu ih =>
    intro x1 x3
    rw [f_X3_nextOf_b2]
    refine rz_iload_n G 2 rfl rfl (dq jX3_nextOf 2 rfl) ?_
    refine rz_aload_n G 0 rfl rfl (dq jX3_nextOf 3 rfl) ?_
    refine rz_getI G flX3_15 sh28 rfl (dq jX3_nextOf 4 rfl) (fun v1 => ?_)
    refine rz_icmp_ge G (tgt := 38) rfl (dq jX3_nextOf 5 rfl) (fun c2 => ?_) (fun c2 => ?_)
    · refine rz_aload_n G 0 rfl rfl (dq jX3_nextOf 22 rfl) ?_
      refine rz_getI G flX3_15 sh28 rfl (dq jX3_nextOf 23 rfl) (fun v3 => ?_)
      exact rz_iret G (dq jX3_nextOf 24 rfl)
    · refine rz_aload_n G 0 rfl rfl (dq jX3_nextOf 6 rfl) ?_
      refine rz_iload_n G 2 rfl rfl (dq jX3_nextOf 7 rfl) ?_
      refine rz_iconst G (v := 1) (dq jX3_nextOf 8 rfl) rfl ?_
      refine rz_callVi G (st := []) (c_X3_told (cLn Γ) x3 1) lkX3_19 sh28 rfl rfl rfl (Nat.le_of_ble_eq_true rfl) (Nat.le_of_ble_eq_true rfl) (dq jX3_nextOf 9 rfl) rfl (fun r4 => ?_)
      refine rz_iload_n G 1 rfl rfl (dq jX3_nextOf 10 rfl) ?_
      refine rz_icmp_ne G (tgt := 32) rfl (dq jX3_nextOf 11 rfl) (fun c5 => ?_) (fun c5 => ?_)
      · refine rz_aload_n G 0 rfl rfl (dq jX3_nextOf 12 rfl) ?_
        refine rz_iload_n G 2 rfl rfl (dq jX3_nextOf 13 rfl) ?_
        refine rz_iconst G (v := 2) (dq jX3_nextOf 14 rfl) rfl ?_
        refine rz_callVi G (st := []) (c_X3_told (cLn Γ) x3 2) lkX3_19 sh28 rfl rfl rfl (Nat.le_of_ble_eq_true rfl) (Nat.le_of_ble_eq_true rfl) (dq jX3_nextOf 15 rfl) rfl (fun r6 => ?_)
        refine rz_iconst G (v := 4) (dq jX3_nextOf 16 rfl) rfl ?_
        refine rz_icmp_eq G (tgt := 32) rfl (dq jX3_nextOf 17 rfl) (fun c7 => ?_) (fun c7 => ?_)
        · exact rz_lv [0, 1, 2] rfl (z_X3_nextOf_b32 G (f_X3_nextOf_b2 fu) ih x1 x3)
        · refine rz_iload_n G 2 rfl rfl (dq jX3_nextOf 18 rfl) ?_
          exact rz_iret G (dq jX3_nextOf 19 rfl)
      · exact rz_lv [0, 1, 2] rfl (z_X3_nextOf_b32 G (f_X3_nextOf_b2 fu) ih x1 x3)
theorem c_X3_nextOf (l : Launch) (x1 : Int32) (x2 : Int32) : Ct l yX3_nextOf cX3_nextOf 4 (some .int) 2 encI [.ref 28, .int x1, .int x2] (f_X3_nextOf x1 x2) := by
  refine ct_of (own := RX3) (by decide) rfl (Nat.le_of_ble_eq_true rfl) (fun Γ hl G => ?_)
  show Rz Γ 4 (Qm Γ encI 0 0) 0 0 0 [(0, .ref 28), (1, .int x1), (2, .int x2)] [] _
  unfold f_X3_nextOf
  refine rz_iload_n G 2 rfl rfl (dq jX3_nextOf 0 rfl) ?_
  refine rz_istore_n G (lv' := [(3, .int x2), (0, .ref 28), (1, .int x1), (2, .int x2)]) rfl (Nat.le_of_ble_eq_true rfl) rfl (dq jX3_nextOf 1 rfl) ?_
  exact rz_lv [1, 2, 0] rfl (z_X3_nextOf_b2 G FU x1 x2)
theorem z_X3_pace_b128 {Γ : Cx} (G : GG Γ RX3 cX3_pace 6 none 3 0 0) (k33 : Int32 → Int32 → Int32 → Int32 → Int32 → Sg → Option (Unit × Sg)) (hk33 : ∀ (x1 : Int32) (x2 : Int32) (x3 : Int32) (x4 : Int32) (x5 : Int32), Rz Γ 6 (Qm Γ encV 0 0) 0 0 33 [(0, .ref 28), (1, .int x1), (2, .int x2), (3, .int x3), (4, .int x4), (5, .int x5)] [] (k33 x1 x2 x3 x4 x5)) (x1 : Int32) (x2 : Int32) (x3 : Int32) (x4 : Int32) (x5 : Int32) : Rz Γ 6 (Qm Γ encV 0 0) 0 0 128 [(0, .ref 28), (1, .int x1), (2, .int x2), (3, .int x3), (4, .int x4), (5, .int x5)] [] (f_X3_pace_b128 k33 x1 x2 x3 x4 x5) := by
  unfold f_X3_pace_b128
  refine rz_aload_n G 0 rfl rfl (dq jX3_pace 67 rfl) ?_
  refine rz_iload_n G 1 rfl rfl (dq jX3_pace 68 rfl) ?_
  refine rz_iload_n G 3 rfl rfl (dq jX3_pace 69 rfl) ?_
  refine rz_iconst G (v := 1) (dq jX3_pace 70 rfl) rfl ?_
  refine rz_iadd G (dq jX3_pace 71 rfl) ?_
  refine rz_callVi G (st := []) (c_X3_nextOf (cLn Γ) x1 (x3 + 1)) lkX3_32 sh28 rfl rfl rfl (Nat.le_of_ble_eq_true rfl) (Nat.le_of_ble_eq_true rfl) (dq jX3_pace 72 rfl) rfl (fun r1 => ?_)
  refine rz_istore_n G (lv' := [(3, .int r1), (0, .ref 28), (1, .int x1), (2, .int x2), (4, .int x4), (5, .int x5)]) rfl (Nat.le_of_ble_eq_true rfl) rfl (dq jX3_pace 73 rfl) ?_
  refine rz_aload_n G 1 rfl rfl (dq jX3_pace 74 rfl) ?_
  refine rz_iload_n G 3 rfl rfl (dq jX3_pace 75 rfl) ?_
  refine rz_iload G 4 rfl (dq jX3_pace 76 rfl) ?_
  refine rz_iconst G (v := 1) (dq jX3_pace 77 rfl) rfl ?_
  refine rz_iadd G (dq jX3_pace 78 rfl) ?_
  refine rz_callVi G (st := []) (c_X3_nextOf (cLn Γ) x2 (x4 + 1)) lkX3_32 sh28 rfl rfl rfl (Nat.le_of_ble_eq_true rfl) (Nat.le_of_ble_eq_true rfl) (dq jX3_pace 79 rfl) rfl (fun r2 => ?_)
  refine rz_istore G (lv' := [(4, .int r2), (3, .int r1), (0, .ref 28), (1, .int x1), (2, .int x2), (5, .int x5)]) (Nat.le_of_ble_eq_true rfl) rfl (dq jX3_pace 80 rfl) ?_
  refine rz_iinc G 5 (v := x5 + 1) (lv' := [(5, .int (x5 + 1)), (4, .int r2), (3, .int r1), (0, .ref 28), (1, .int x1), (2, .int x2)]) rfl (congrArg (HAdd.hAdd _) (by decide)) (Nat.le_of_ble_eq_true rfl) rfl (dq jX3_pace 81 rfl) ?_
  refine rz_goto G (tgt := 33) rfl (dq jX3_pace 82 rfl) ?_
  exact rz_lv [3, 4, 5, 2, 1, 0] rfl (hk33 x1 x2 r1 r2 (x5 + 1))
theorem z_X3_pace_b96 {Γ : Cx} (G : GG Γ RX3 cX3_pace 6 none 3 0 0) (k33 : Int32 → Int32 → Int32 → Int32 → Int32 → Sg → Option (Unit × Sg)) (hk33 : ∀ (x1 : Int32) (x2 : Int32) (x3 : Int32) (x4 : Int32) (x5 : Int32), Rz Γ 6 (Qm Γ encV 0 0) 0 0 33 [(0, .ref 28), (1, .int x1), (2, .int x2), (3, .int x3), (4, .int x4), (5, .int x5)] [] (k33 x1 x2 x3 x4 x5)) (x1 : Int32) (x2 : Int32) (x3 : Int32) (x4 : Int32) (x5 : Int32) (xs0 : Int32) : Rz Γ 6 (Qm Γ encV 0 0) 0 0 96 [(0, .ref 28), (1, .int x1), (2, .int x2), (3, .int x3), (4, .int x4), (5, .int x5)] [.int xs0, .ref 28] (f_X3_pace_b96 k33 x1 x2 x3 x4 x5 xs0) := by
  unfold f_X3_pace_b96
  refine rz_putI G flX3_23 sh28 rfl (dq jX3_pace 52 rfl) ?_
  refine rz_aload_n G 0 rfl rfl (dq jX3_pace 53 rfl) ?_
  refine rz_getI G flX3_26 sh28 rfl (dq jX3_pace 54 rfl) (fun v1 => ?_)
  refine rz_if_eq G (tgt := 114) rfl (dq jX3_pace 55 rfl) (fun c2 => ?_) (fun c2 => ?_)
  · refine rz_aload_n G 0 rfl rfl (dq jX3_pace 60 rfl) ?_
    refine rz_getI G flX3_29 sh28 rfl (dq jX3_pace 61 rfl) (fun v3 => ?_)
    refine rz_iconst G (v := (-1)) (dq jX3_pace 62 rfl) rfl ?_
    refine rz_icmp_ne G (tgt := 128) rfl (dq jX3_pace 63 rfl) (fun c4 => ?_) (fun c4 => ?_)
    · refine rz_aload_n G 0 rfl rfl (dq jX3_pace 64 rfl) ?_
      refine rz_iload G 5 rfl (dq jX3_pace 65 rfl) ?_
      refine rz_putI G flX3_29 sh28 rfl (dq jX3_pace 66 rfl) ?_
      exact rz_lv [0, 1, 2, 3, 4, 5] rfl (z_X3_pace_b128 G k33 hk33 x1 x2 x3 x4 x5)
    · exact rz_lv [0, 1, 2, 3, 4, 5] rfl (z_X3_pace_b128 G k33 hk33 x1 x2 x3 x4 x5)
  · refine rz_aload_n G 0 rfl rfl (dq jX3_pace 56 rfl) ?_
    refine rz_iconst G (v := (-1)) (dq jX3_pace 57 rfl) rfl ?_
    refine rz_putI G flX3_29 sh28 rfl (dq jX3_pace 58 rfl) ?_
    refine rz_goto G (tgt := 128) rfl (dq jX3_pace 59 rfl) ?_
    exact rz_lv [0, 1, 2, 3, 4, 5] rfl (z_X3_pace_b128 G k33 hk33 x1 x2 x3 x4 x5)
theorem z_X3_pace_b33 {Γ : Cx} (G : GG Γ RX3 cX3_pace 6 none 3 0 0) : ∀ (fu : Nat) (x1 : Int32) (x2 : Int32) (x3 : Int32) (x4 : Int32) (x5 : Int32), Rz Γ 6 (Qm Γ encV 0 0) 0 0 33 [(0, .ref 28), (1, .int x1), (2, .int x2), (3, .int x3), (4, .int x4), (5, .int x5)] [] (f_X3_pace_b33 fu x1 x2 x3 x4 x5) := by
  intro fu
  induction fu with
  | zero => intro _ _ _ _ _; exact rz_none
  | succ fu ih =>
    intro x1 x2 x3 x4 x5
    rw [f_X3_pace_b33]
    refine rz_iload G 5 rfl (dq jX3_pace 21 rfl) ?_
    refine rz_sipush G (v := 600) (dq jX3_pace 22 rfl) (by decide) ?_
    refine rz_icmp_ge G (tgt := 154) rfl (dq jX3_pace 23 rfl) (fun c1 => ?_) (fun c1 => ?_)
    · exact rz_vret G (dq jX3_pace 83 rfl)
    · refine rz_iload_n G 3 rfl rfl (dq jX3_pace 24 rfl) ?_
      refine rz_aload_n G 0 rfl rfl (dq jX3_pace 25 rfl) ?_
      refine rz_getI G flX3_15 sh28 rfl (dq jX3_pace 26 rfl) (fun v2 => ?_)
      refine rz_icmp_ge G (tgt := 154) rfl (dq jX3_pace 27 rfl) (fun c3 => ?_) (fun c3 => ?_)
      · exact rz_vret G (dq jX3_pace 83 rfl)
      · refine rz_iload G 4 rfl (dq jX3_pace 28 rfl) ?_
        refine rz_aload_n G 0 rfl rfl (dq jX3_pace 29 rfl) ?_
        refine rz_getI G flX3_15 sh28 rfl (dq jX3_pace 30 rfl) (fun v4 => ?_)
        refine rz_icmp_ge G (tgt := 154) rfl (dq jX3_pace 31 rfl) (fun c5 => ?_) (fun c5 => ?_)
        · exact rz_vret G (dq jX3_pace 83 rfl)
        · refine rz_aload_n G 0 rfl rfl (dq jX3_pace 32 rfl) ?_
          refine rz_aload_n G 0 rfl rfl (dq jX3_pace 33 rfl) ?_
          refine rz_iload_n G 3 rfl rfl (dq jX3_pace 34 rfl) ?_
          refine rz_iconst G (v := 0) (dq jX3_pace 35 rfl) rfl ?_
          refine rz_callVi G (st := [.ref 28]) (c_X3_told (cLn Γ) x3 0) lkX3_19 sh28 rfl rfl rfl (Nat.le_of_ble_eq_true rfl) (Nat.le_of_ble_eq_true rfl) (dq jX3_pace 36 rfl) rfl (fun r6 => ?_)
          refine rz_aload_n G 0 rfl rfl (dq jX3_pace 37 rfl) ?_
          refine rz_iload G 4 rfl (dq jX3_pace 38 rfl) ?_
          refine rz_iconst G (v := 0) (dq jX3_pace 39 rfl) rfl ?_
          refine rz_callVi G (st := [.int r6, .ref 28]) (c_X3_told (cLn Γ) x4 0) lkX3_19 sh28 rfl rfl rfl (Nat.le_of_ble_eq_true rfl) (Nat.le_of_ble_eq_true rfl) (dq jX3_pace 40 rfl) rfl (fun r7 => ?_)
          refine rz_isub G (dq jX3_pace 41 rfl) ?_
          refine rz_mabs G mtX3_35 (by decide) (Nat.le_of_ble_eq_true rfl) (dq jX3_pace 42 rfl) ?_
          refine rz_lti (fun w8 e_w8 => ?_)
          refine rz_putI G flX3_26 sh28 rfl (dq jX3_pace 43 rfl) ?_
          refine rz_aload_n G 0 rfl rfl (dq jX3_pace 44 rfl) ?_
          refine rz_iload G 5 rfl (dq jX3_pace 45 rfl) ?_
          refine rz_if_ne G (tgt := 92) rfl (dq jX3_pace 46 rfl) (fun c9 => ?_) (fun c9 => ?_)
          · refine rz_aload_n G 0 rfl rfl (dq jX3_pace 47 rfl) ?_
            refine rz_getI G flX3_26 sh28 rfl (dq jX3_pace 48 rfl) (fun v10 => ?_)
            refine rz_goto G (tgt := 96) rfl (dq jX3_pace 49 rfl) ?_
            exact rz_lv [0, 1, 2, 3, 4, 5] rfl (z_X3_pace_b96 G (f_X3_pace_b33 fu) ih x1 x2 x3 x4 x5 v10)
          · refine rz_aload_n G 0 rfl rfl (dq jX3_pace 50 rfl) ?_
            refine rz_getI G flX3_23 sh28 rfl (dq jX3_pace 51 rfl) (fun v11 => ?_)
            exact rz_lv [0, 1, 2, 3, 4, 5] rfl (z_X3_pace_b96 G (f_X3_pace_b33 fu) ih x1 x2 x3 x4 x5 v11)
theorem c_X3_pace (l : Launch) (x1 : Int32) (x2 : Int32) : Ct l yX3_pace cX3_pace 6 none 3 encV [.ref 28, .int x1, .int x2] (f_X3_pace x1 x2) := by
  refine ct_of (own := RX3) (by decide) rfl (Nat.le_of_ble_eq_true rfl) (fun Γ hl G => ?_)
  show Rz Γ 6 (Qm Γ encV 0 0) 0 0 0 [(0, .ref 28), (1, .int x1), (2, .int x2)] [] _
  unfold f_X3_pace
  refine rz_aload_n G 0 rfl rfl (dq jX3_pace 0 rfl) ?_
  refine rz_iconst G (v := (-1)) (dq jX3_pace 1 rfl) rfl ?_
  refine rz_putI G flX3_23 sh28 rfl (dq jX3_pace 2 rfl) ?_
  refine rz_aload_n G 0 rfl rfl (dq jX3_pace 3 rfl) ?_
  refine rz_iconst G (v := (-1)) (dq jX3_pace 4 rfl) rfl ?_
  refine rz_putI G flX3_26 sh28 rfl (dq jX3_pace 5 rfl) ?_
  refine rz_aload_n G 0 rfl rfl (dq jX3_pace 6 rfl) ?_
  refine rz_iconst G (v := (-1)) (dq jX3_pace 7 rfl) rfl ?_
  refine rz_putI G flX3_29 sh28 rfl (dq jX3_pace 8 rfl) ?_
  refine rz_aload_n G 0 rfl rfl (dq jX3_pace 9 rfl) ?_
  refine rz_iload_n G 1 rfl rfl (dq jX3_pace 10 rfl) ?_
  refine rz_iconst G (v := 0) (dq jX3_pace 11 rfl) rfl ?_
  refine rz_callVi G (st := []) (c_X3_nextOf (cLn Γ) x1 0) lkX3_32 sh28 rfl rfl rfl (Nat.le_of_ble_eq_true rfl) (Nat.le_of_ble_eq_true rfl) (dq jX3_pace 12 rfl) rfl (fun r1 => ?_)
  refine rz_istore_n G (lv' := [(3, .int r1), (0, .ref 28), (1, .int x1), (2, .int x2)]) rfl (Nat.le_of_ble_eq_true rfl) rfl (dq jX3_pace 13 rfl) ?_
  refine rz_aload_n G 1 rfl rfl (dq jX3_pace 14 rfl) ?_
  refine rz_iload_n G 3 rfl rfl (dq jX3_pace 15 rfl) ?_
  refine rz_iconst G (v := 0) (dq jX3_pace 16 rfl) rfl ?_
  refine rz_callVi G (st := []) (c_X3_nextOf (cLn Γ) x2 0) lkX3_32 sh28 rfl rfl rfl (Nat.le_of_ble_eq_true rfl) (Nat.le_of_ble_eq_true rfl) (dq jX3_pace 17 rfl) rfl (fun r2 => ?_)
  refine rz_istore G (lv' := [(4, .int r2), (3, .int r1), (0, .ref 28), (1, .int x1), (2, .int x2)]) (Nat.le_of_ble_eq_true rfl) rfl (dq jX3_pace 18 rfl) ?_
  refine rz_iconst G (v := 0) (dq jX3_pace 19 rfl) rfl ?_
  refine rz_istore G (lv' := [(5, .int 0), (4, .int r2), (3, .int r1), (0, .ref 28), (1, .int x1), (2, .int x2)]) (Nat.le_of_ble_eq_true rfl) rfl (dq jX3_pace 20 rfl) ?_
  exact rz_lv [3, 4, 5, 2, 1, 0] rfl (z_X3_pace_b33 G FU x1 x2 r1 r2 0)
theorem c_X4_flyer (l : Launch) (x1 : Int32) : Ct l yX4_flyer cX4_flyer 2 (some (.object "TrampolineMat$Flyer")) 1 encR [.ref 17, .int x1] (f_X4_flyer x1) := by
  refine ct_of (own := RX4) (by decide) rfl (Nat.le_of_ble_eq_true rfl) (fun Γ hl G => ?_)
  show Rz Γ 2 (Qm Γ encR 0 0) 0 0 0 [(0, .ref 17), (1, .int x1)] [] _
  unfold f_X4_flyer
  refine rz_aload_n G 0 rfl rfl (dq jX4_flyer 0 rfl) ?_
  refine rz_getC G flX4_11 sh17 (t := 18) rfl rfl (dq jX4_flyer 1 rfl) ?_
  refine rz_iconst G (v := 0) (dq jX4_flyer 2 rfl) rfl ?_
  refine rz_iload_n G 1 rfl rfl (dq jX4_flyer 3 rfl) ?_
  refine rz_aload_n G 0 rfl rfl (dq jX4_flyer 4 rfl) ?_
  refine rz_getC G flX4_11 sh17 (t := 18) rfl rfl (dq jX4_flyer 5 rfl) ?_
  refine rz_alen G (v := 4) sh18 (by decide) (by decide) (dq jX4_flyer 6 rfl) ?_
  refine rz_iconst G (v := 1) (dq jX4_flyer 7 rfl) rfl ?_
  refine rz_isub G (dq jX4_flyer 8 rfl) ?_
  refine rz_mmin G mtX4_44 (by decide) (Nat.le_of_ble_eq_true rfl) (dq jX4_flyer 9 rfl) ?_
  refine rz_lti (fun w1 e_w1 => ?_)
  refine rz_mmax G mtX4_50 (by decide) (Nat.le_of_ble_eq_true rfl) (dq jX4_flyer 10 rfl) ?_
  refine rz_lti (fun w2 e_w2 => ?_)
  refine rz_aald G sh18 (dq jX4_flyer 11 rfl) ?_
  refine rz_ltr (fun u3 e_u3 => ?_)
  refine rz_gd (fun h_u3 => ?_)
  exact rz_aret G (dq jX4_flyer 12 rfl)
theorem z_X4_begin_b40 {Γ : Cx} (G : GG Γ RX4 cX4_begin 4 none 3 0 0)  : Rz Γ 4 (Qm Γ encV 0 0) 0 0 40 [(0, .ref 17)] [] (f_X4_begin_b40 ) := by
  unfold f_X4_begin_b40
  refine rz_aload_n G 0 rfl rfl (dq jX4_begin 22 rfl) ?_
  refine rz_getC G flX4_26 sh17 (t := 28) rfl rfl (dq jX4_begin 23 rfl) ?_
  refine rz_iconst G (v := 0) (dq jX4_begin 24 rfl) rfl ?_
  refine rz_putI G flX4_64 sh28 rfl (dq jX4_begin 25 rfl) ?_
  refine rz_aload_n G 0 rfl rfl (dq jX4_begin 26 rfl) ?_
  refine rz_iconst G (v := 0) (dq jX4_begin 27 rfl) rfl ?_
  refine rz_putI G flX4_67 sh17 rfl (dq jX4_begin 28 rfl) ?_
  refine rz_aload_n G 0 rfl rfl (dq jX4_begin 29 rfl) ?_
  refine rz_iconst G (v := 1) (dq jX4_begin 30 rfl) rfl ?_
  refine rz_putZ G (by decide) flX4_70 sh17 rfl (dq jX4_begin 31 rfl) ?_
  refine rz_aload_n G 0 rfl rfl (dq jX4_begin 32 rfl) ?_
  refine rz_iconst G (v := 0) (dq jX4_begin 33 rfl) rfl ?_
  refine rz_putI G flX4_74 sh17 rfl (dq jX4_begin 34 rfl) ?_
  refine rz_aload_n G 0 rfl rfl (dq jX4_begin 35 rfl) ?_
  refine rz_aload_n G 0 rfl rfl (dq jX4_begin 36 rfl) ?_
  refine rz_getC G flX4_11 sh17 (t := 18) rfl rfl (dq jX4_begin 37 rfl) ?_
  refine rz_iconst G (v := 0) (dq jX4_begin 38 rfl) rfl ?_
  refine rz_aald G sh18 (dq jX4_begin 39 rfl) ?_
  refine rz_ltr (fun u1 e_u1 => ?_)
  refine rz_gd (fun h_u1 => ?_)
  refine rz_putR G flX4_40 sh17 rfl (dq jX4_begin 40 rfl) ?_
  refine rz_aload_n G 0 rfl rfl (dq jX4_begin 41 rfl) ?_
  refine rz_iconst G (v := 0) (dq jX4_begin 42 rfl) rfl ?_
  refine rz_putI G flX4_77 sh17 rfl (dq jX4_begin 43 rfl) ?_
  refine rz_aload_n G 0 rfl rfl (dq jX4_begin 44 rfl) ?_
  refine rz_iconst G (v := 0) (dq jX4_begin 45 rfl) rfl ?_
  refine rz_putI G flX4_80 sh17 rfl (dq jX4_begin 46 rfl) ?_
  refine rz_aload_n G 0 rfl rfl (dq jX4_begin 47 rfl) ?_
  refine rz_iconst G (v := 0) (dq jX4_begin 48 rfl) rfl ?_
  refine rz_putI G flX4_83 sh17 rfl (dq jX4_begin 49 rfl) ?_
  refine rz_aload_n G 0 rfl rfl (dq jX4_begin 50 rfl) ?_
  refine rz_iconst G (v := 0) (dq jX4_begin 51 rfl) rfl ?_
  refine rz_putI G flX4_86 sh17 rfl (dq jX4_begin 52 rfl) ?_
  refine rz_aload_n G 0 rfl rfl (dq jX4_begin 53 rfl) ?_
  refine rz_iconst G (v := 0) (dq jX4_begin 54 rfl) rfl ?_
  refine rz_putI G flX4_89 sh17 rfl (dq jX4_begin 55 rfl) ?_
  refine rz_aload_n G 0 rfl rfl (dq jX4_begin 56 rfl) ?_
  refine rz_iconst G (v := (-1)) (dq jX4_begin 57 rfl) rfl ?_
  refine rz_putI G flX4_92 sh17 rfl (dq jX4_begin 58 rfl) ?_
  refine rz_aload_n G 0 rfl rfl (dq jX4_begin 59 rfl) ?_
  refine rz_iconst G (v := 0) (dq jX4_begin 60 rfl) rfl ?_
  refine rz_putI G flX4_95 sh17 rfl (dq jX4_begin 61 rfl) ?_
  exact rz_vret G (dq jX4_begin 62 rfl)
theorem z_X4_begin_b15 {Γ : Cx} (G : GG Γ RX4 cX4_begin 4 none 3 0 0) : ∀ (fu : Nat) (q2 : Nat) (x3 : Int32), Rz Γ 4 (Qm Γ encV 0 0) 0 0 15 [(0, .ref 17), (2, .ref q2), (3, .int x3)] [] (f_X4_begin_b15 fu q2 x3) := by
  intro fu
  induction fu with
  | zero => intro _ _; exact rz_none
  | succ fu ih =>
    intro q2 x3
    rw [f_X4_begin_b15]
    refine rz_gd (fun h_q2 => ?_)
    refine rz_iload_n G 2 rfl rfl (dq jX4_begin 9 rfl) ?_
    refine rz_aload_n G 0 rfl rfl (dq jX4_begin 10 rfl) ?_
    refine rz_getC G flX4_11 sh17 (t := 18) rfl rfl (dq jX4_begin 11 rfl) ?_
    refine rz_alen G (v := 4) sh18 (by decide) (by decide) (dq jX4_begin 12 rfl) ?_
    refine rz_icmp_ge G (tgt := 40) rfl (dq jX4_begin 13 rfl) (fun c1 => ?_) (fun c1 => ?_)
    · exact rz_lv [0] rfl (z_X4_begin_b40 G)
    · refine rz_aload_n G 0 rfl rfl (dq jX4_begin 14 rfl) ?_
      refine rz_getC G flX4_11 sh17 (t := 18) rfl rfl (dq jX4_begin 15 rfl) ?_
      refine rz_iload_n G 2 rfl rfl (dq jX4_begin 16 rfl) ?_
      refine rz_aald G sh18 (dq jX4_begin 17 rfl) ?_
      refine rz_ltr (fun u2 e_u2 => ?_)
      refine rz_gd (fun h_u2 => ?_)
      refine rz_aload_n G 1 rfl rfl (dq jX4_begin 18 rfl) ?_
      refine rz_callVv G (st := []) (c_X1_begin (cLn Γ) u2 q2) lkX4_60 (fl_sh h_u2) rfl rfl rfl (Nat.le_of_ble_eq_true rfl) (Nat.le_of_ble_eq_true rfl) (dq jX4_begin 19 rfl) rfl (fun _ => ?_)
      refine rz_iinc G 2 (v := x3 + 1) (lv' := [(3, .int (x3 + 1)), (0, .ref 17), (2, .ref q2)]) rfl (congrArg (HAdd.hAdd _) (by decide)) (Nat.le_of_ble_eq_true rfl) rfl (dq jX4_begin 20 rfl) ?_
      refine rz_goto G (tgt := 15) rfl (dq jX4_begin 21 rfl) ?_
      exact rz_lv [1, 2, 0] rfl (ih q2 (x3 + 1))
theorem c_X4_begin (l : Launch) (q1 : Nat) (q2 : Nat) : Ct l yX4_begin cX4_begin 4 none 3 encV [.ref 17, .ref q1, .ref q2] (f_X4_begin q1 q2) := by
  refine ct_of (own := RX4) (by decide) rfl (Nat.le_of_ble_eq_true rfl) (fun Γ hl G => ?_)
  show Rz Γ 4 (Qm Γ encV 0 0) 0 0 0 [(0, .ref 17), (1, .ref q1), (2, .ref q2)] [] _
  unfold f_X4_begin
  refine rz_gd (fun h_q1 => ?_)
  refine rz_gd (fun h_q2 => ?_)
  refine rz_aload_n G 0 rfl rfl (dq jX4_begin 0 rfl) ?_
  refine rz_aload_n G 1 rfl rfl (dq jX4_begin 1 rfl) ?_
  refine rz_putR G flX4_33 sh17 rfl (dq jX4_begin 2 rfl) ?_
  refine rz_aload_n G 0 rfl rfl (dq jX4_begin 3 rfl) ?_
  refine rz_aload_n G 2 rfl rfl (dq jX4_begin 4 rfl) ?_
  refine rz_getI G flX4_53 (sc_sh h_q2) rfl (dq jX4_begin 5 rfl) (fun v1 => ?_)
  refine rz_putI G flX4_59 sh17 rfl (dq jX4_begin 6 rfl) ?_
  refine rz_iconst G (v := 0) (dq jX4_begin 7 rfl) rfl ?_
  refine rz_istore_n G (lv' := [(3, .int 0), (0, .ref 17), (1, .ref q1), (2, .ref q2)]) rfl (Nat.le_of_ble_eq_true rfl) rfl (dq jX4_begin 8 rfl) ?_
  exact rz_lv [1, 3, 0] rfl (z_X4_begin_b15 G FU q2 0)
theorem z_X4_keepOnly_b29 {Γ : Cx} (G : GG Γ RX4 cX4_keepOnly 3 none 1 0 0) (k2 : Int32 → Int32 → Sg → Option (Unit × Sg)) (hk2 : ∀ (x1 : Int32) (x2 : Int32), Rz Γ 3 (Qm Γ encV 0 0) 0 0 2 [(0, .ref 17), (1, .int x1), (2, .int x2)] [] (k2 x1 x2)) (x1 : Int32) (x2 : Int32) : Rz Γ 3 (Qm Γ encV 0 0) 0 0 29 [(0, .ref 17), (1, .int x1), (2, .int x2)] [] (f_X4_keepOnly_b29 k2 x1 x2) := by
  unfold f_X4_keepOnly_b29
  refine rz_iinc G 2 (v := x2 + 1) (lv' := [(2, .int (x2 + 1)), (0, .ref 17), (1, .int x1)]) rfl (congrArg (HAdd.hAdd _) (by decide)) (Nat.le_of_ble_eq_true rfl) rfl (dq jX4_keepOnly 19 rfl) ?_
  refine rz_goto G (tgt := 2) rfl (dq jX4_keepOnly 20 rfl) ?_
  exact rz_lv [1, 2, 0] rfl (hk2 x1 (x2 + 1))
theorem z_X4_keepOnly_b2 {Γ : Cx} (G : GG Γ RX4 cX4_keepOnly 3 none 1 0 0) : ∀ (fu : Nat) (x1 : Int32) (x2 : Int32), Rz Γ 3 (Qm Γ encV 0 0) 0 0 2 [(0, .ref 17), (1, .int x1), (2, .int x2)] [] (f_X4_keepOnly_b2 fu x1 x2) := by
  intro fu
  induction fu with
  | zero => intro _ _; exact rz_none
  | succ fu ih =>
    intro x1 x2
    rw [f_X4_keepOnly_b2]
    refine rz_iload_n G 2 rfl rfl (dq jX4_keepOnly 2 rfl) ?_
    refine rz_aload_n G 0 rfl rfl (dq jX4_keepOnly 3 rfl) ?_
    refine rz_getC G flX4_11 sh17 (t := 18) rfl rfl (dq jX4_keepOnly 4 rfl) ?_
    refine rz_alen G (v := 4) sh18 (by decide) (by decide) (dq jX4_keepOnly 5 rfl) ?_
    refine rz_icmp_ge G (tgt := 35) rfl (dq jX4_keepOnly 6 rfl) (fun c1 => ?_) (fun c1 => ?_)
    · exact rz_vret G (dq jX4_keepOnly 21 rfl)
    · refine rz_iload_n G 1 rfl rfl (dq jX4_keepOnly 7 rfl) ?_
      refine rz_iload_n G 2 rfl rfl (dq jX4_keepOnly 8 rfl) ?_
      refine rz_ishr G (dq jX4_keepOnly 9 rfl) ?_
      refine rz_iconst G (v := 1) (dq jX4_keepOnly 10 rfl) rfl ?_
      refine rz_iand G (dq jX4_keepOnly 11 rfl) ?_
      refine rz_if_ne G (tgt := 29) rfl (dq jX4_keepOnly 12 rfl) (fun c2 => ?_) (fun c2 => ?_)
      · refine rz_aload_n G 0 rfl rfl (dq jX4_keepOnly 13 rfl) ?_
        refine rz_getC G flX4_11 sh17 (t := 18) rfl rfl (dq jX4_keepOnly 14 rfl) ?_
        refine rz_iload_n G 2 rfl rfl (dq jX4_keepOnly 15 rfl) ?_
        refine rz_aald G sh18 (dq jX4_keepOnly 16 rfl) ?_
        refine rz_ltr (fun u3 e_u3 => ?_)
        refine rz_gd (fun h_u3 => ?_)
        refine rz_iconst G (v := 4) (dq jX4_keepOnly 17 rfl) rfl ?_
        refine rz_putI G flX4_98 (fl_sh h_u3) rfl (dq jX4_keepOnly 18 rfl) ?_
        exact rz_lv [0, 1, 2] rfl (z_X4_keepOnly_b29 G (f_X4_keepOnly_b2 fu) ih x1 x2)
      · exact rz_lv [0, 1, 2] rfl (z_X4_keepOnly_b29 G (f_X4_keepOnly_b2 fu) ih x1 x2)
theorem c_X4_keepOnly (l : Launch) (x1 : Int32) : Ct l yX4_keepOnly cX4_keepOnly 3 none 1 encV [.ref 17, .int x1] (f_X4_keepOnly x1) := by
  refine ct_of (own := RX4) (by decide) rfl (Nat.le_of_ble_eq_true rfl) (fun Γ hl G => ?_)
  show Rz Γ 3 (Qm Γ encV 0 0) 0 0 0 [(0, .ref 17), (1, .int x1)] [] _
  unfold f_X4_keepOnly
  refine rz_iconst G (v := 0) (dq jX4_keepOnly 0 rfl) rfl ?_
  refine rz_istore_n G (lv' := [(2, .int 0), (0, .ref 17), (1, .int x1)]) rfl (Nat.le_of_ble_eq_true rfl) rfl (dq jX4_keepOnly 1 rfl) ?_
  exact rz_lv [1, 2, 0] rfl (z_X4_keepOnly_b2 G FU x1 0)
theorem z_X4_hurt_b23 {Γ : Cx} (G : GG Γ RX4 cX4_hurt 3 none 1 0 0) (q1 : Nat) (x2 : Int32) : Rz Γ 3 (Qm Γ encV 0 0) 0 0 23 [(0, .ref 17), (1, .ref q1), (2, .int x2)] [] (f_X4_hurt_b23 q1 x2) := by
  unfold f_X4_hurt_b23
  refine rz_gd (fun h_q1 => ?_)
  refine rz_aload_n G 0 rfl rfl (dq jX4_hurt 13 rfl) ?_
  refine rz_getI G flX4_92 sh17 rfl (dq jX4_hurt 14 rfl) (fun v1 => ?_)
  refine rz_iload_n G 2 rfl rfl (dq jX4_hurt 15 rfl) ?_
  refine rz_icmp_ne G (tgt := 46) rfl (dq jX4_hurt 16 rfl) (fun c2 => ?_) (fun c2 => ?_)
  · refine rz_aload_n G 0 rfl rfl (dq jX4_hurt 17 rfl) ?_
    refine rz_dup G rfl (dq jX4_hurt 18 rfl) ?_
    refine rz_getI G flX4_95 sh17 rfl (dq jX4_hurt 19 rfl) (fun v3 => ?_)
    refine rz_iconst G (v := 1) (dq jX4_hurt 20 rfl) rfl ?_
    refine rz_aload_n G 1 rfl rfl (dq jX4_hurt 21 rfl) ?_
    refine rz_getI G flX4_172 (fl_sh h_q1) rfl (dq jX4_hurt 22 rfl) (fun v4 => ?_)
    refine rz_ishl G (dq jX4_hurt 23 rfl) ?_
    refine rz_ior G (dq jX4_hurt 24 rfl) ?_
    refine rz_putI G flX4_95 sh17 rfl (dq jX4_hurt 25 rfl) ?_
    exact rz_vret G (dq jX4_hurt 26 rfl)
  · exact rz_vret G (dq jX4_hurt 26 rfl)
theorem c_X4_hurt (l : Launch) (q1 : Nat) (x2 : Int32) : Ct l yX4_hurt cX4_hurt 3 none 1 encV [.ref 17, .ref q1, .int x2] (f_X4_hurt q1 x2) := by
  refine ct_of (own := RX4) (by decide) rfl (Nat.le_of_ble_eq_true rfl) (fun Γ hl G => ?_)
  show Rz Γ 3 (Qm Γ encV 0 0) 0 0 0 [(0, .ref 17), (1, .ref q1), (2, .int x2)] [] _
  unfold f_X4_hurt
  refine rz_gd (fun h_q1 => ?_)
  refine rz_aload_n G 1 rfl rfl (dq jX4_hurt 0 rfl) ?_
  refine rz_dup G rfl (dq jX4_hurt 1 rfl) ?_
  refine rz_getI G flX4_179 (fl_sh h_q1) rfl (dq jX4_hurt 2 rfl) (fun v1 => ?_)
  refine rz_iconst G (v := 1) (dq jX4_hurt 3 rfl) rfl ?_
  refine rz_iadd G (dq jX4_hurt 4 rfl) ?_
  refine rz_putI G flX4_179 (fl_sh h_q1) rfl (dq jX4_hurt 5 rfl) ?_
  refine rz_aload_n G 0 rfl rfl (dq jX4_hurt 6 rfl) ?_
  refine rz_getI G flX4_92 sh17 rfl (dq jX4_hurt 7 rfl) (fun v2 => ?_)
  refine rz_iconst G (v := (-1)) (dq jX4_hurt 8 rfl) rfl ?_
  refine rz_icmp_ne G (tgt := 23) rfl (dq jX4_hurt 9 rfl) (fun c3 => ?_) (fun c3 => ?_)
  · refine rz_aload_n G 0 rfl rfl (dq jX4_hurt 10 rfl) ?_
    refine rz_iload_n G 2 rfl rfl (dq jX4_hurt 11 rfl) ?_
    refine rz_putI G flX4_92 sh17 rfl (dq jX4_hurt 12 rfl) ?_
    exact rz_lv [0, 1, 2] rfl (z_X4_hurt_b23 G q1 x2)
  · exact rz_lv [0, 1, 2] rfl (z_X4_hurt_b23 G q1 x2)
theorem z_X4_knock_b71 {Γ : Cx} (G : GG Γ RX4 cX4_knock 6 none 2 0 0) (k5 : Nat → Int32 → Int32 → Int32 → Sg → Option (Unit × Sg)) (hk5 : ∀ (q1 : Nat) (x2 : Int32) (x3 : Int32) (x4 : Int32), Rz Γ 6 (Qm Γ encV 0 0) 0 0 5 [(0, .ref 17), (1, .ref q1), (2, .int x2), (3, .int x3), (4, .int x4)] [] (k5 q1 x2 x3 x4)) (q1 : Nat) (x2 : Int32) (x3 : Int32) (x4 : Int32) : Rz Γ 6 (Qm Γ encV 0 0) 0 0 71 [(0, .ref 17), (1, .ref q1), (2, .int x2), (3, .int x3), (4, .int x4)] [] (f_X4_knock_b71 k5 q1 x2 x3 x4) := by
  unfold f_X4_knock_b71
  refine rz_gd (fun h_q1 => ?_)
  refine rz_iinc G 4 (v := x4 + 1) (lv' := [(4, .int (x4 + 1)), (0, .ref 17), (1, .ref q1), (2, .int x2), (3, .int x3)]) rfl (congrArg (HAdd.hAdd _) (by decide)) (Nat.le_of_ble_eq_true rfl) rfl (dq jX4_knock 37 rfl) ?_
  refine rz_goto G (tgt := 5) rfl (dq jX4_knock 38 rfl) ?_
  exact rz_lv [1, 2, 3, 4, 0] rfl (hk5 q1 x2 x3 (x4 + 1))
theorem z_X4_knock_b77 {Γ : Cx} (G : GG Γ RX4 cX4_knock 6 none 2 0 0) (q1 : Nat) (x2 : Int32) (x3 : Int32) : Rz Γ 6 (Qm Γ encV 0 0) 0 0 77 [(0, .ref 17), (1, .ref q1), (2, .int x2), (3, .int x3)] [] (f_X4_knock_b77 q1 x2 x3) := by
  unfold f_X4_knock_b77
  refine rz_gd (fun h_q1 => ?_)
  refine rz_iload_n G 3 rfl rfl (dq jX4_knock 39 rfl) ?_
  refine rz_if_eq G (tgt := 92) rfl (dq jX4_knock 40 rfl) (fun c1 => ?_) (fun c1 => ?_)
  · exact rz_vret G (dq jX4_knock 48 rfl)
  · refine rz_aload_n G 1 rfl rfl (dq jX4_knock 41 rfl) ?_
    refine rz_iconst G (v := 5) (dq jX4_knock 42 rfl) rfl ?_
    refine rz_callVv G (st := []) (c_X1_addKind (cLn Γ) q1 5) lkX4_169 (fl_sh h_q1) rfl rfl rfl (Nat.le_of_ble_eq_true rfl) (Nat.le_of_ble_eq_true rfl) (dq jX4_knock 43 rfl) rfl (fun _ => ?_)
    refine rz_aload_n G 0 rfl rfl (dq jX4_knock 44 rfl) ?_
    refine rz_aload_n G 1 rfl rfl (dq jX4_knock 45 rfl) ?_
    refine rz_iload_n G 2 rfl rfl (dq jX4_knock 46 rfl) ?_
    refine rz_callVv G (st := []) (c_X4_hurt (cLn Γ) q1 x2) lkX4_159 sh17 rfl rfl rfl (Nat.le_of_ble_eq_true rfl) (Nat.le_of_ble_eq_true rfl) (dq jX4_knock 47 rfl) rfl (fun _ => ?_)
    exact rz_vret G (dq jX4_knock 48 rfl)
theorem z_X4_knock_b5 {Γ : Cx} (G : GG Γ RX4 cX4_knock 6 none 2 0 0) : ∀ (fu : Nat) (q1 : Nat) (x2 : Int32) (x3 : Int32) (x4 : Int32), Rz Γ 6 (Qm Γ encV 0 0) 0 0 5 [(0, .ref 17), (1, .ref q1), (2, .int x2), (3, .int x3), (4, .int x4)] [] (f_X4_knock_b5 fu q1 x2 x3 x4) := by
  intro fu
  induction fu with
  | zero => intro _ _ _ _; exact rz_none
  | succ fu ih =>
    intro q1 x2 x3 x4
    rw [f_X4_knock_b5]
    refine rz_gd (fun h_q1 => ?_)
    refine rz_iload G 4 rfl (dq jX4_knock 4 rfl) ?_
    refine rz_aload_n G 0 rfl rfl (dq jX4_knock 5 rfl) ?_
    refine rz_getC G flX4_11 sh17 (t := 18) rfl rfl (dq jX4_knock 6 rfl) ?_
    refine rz_alen G (v := 4) sh18 (by decide) (by decide) (dq jX4_knock 7 rfl) ?_
    refine rz_icmp_ge G (tgt := 77) rfl (dq jX4_knock 8 rfl) (fun c1 => ?_) (fun c1 => ?_)
    · exact rz_lv [0, 1, 2, 3] rfl (z_X4_knock_b77 G q1 x2 x3)
    · refine rz_aload_n G 0 rfl rfl (dq jX4_knock 9 rfl) ?_
      refine rz_getC G flX4_11 sh17 (t := 18) rfl rfl (dq jX4_knock 10 rfl) ?_
      refine rz_iload G 4 rfl (dq jX4_knock 11 rfl) ?_
      refine rz_aald G sh18 (dq jX4_knock 12 rfl) ?_
      refine rz_ltr (fun u2 e_u2 => ?_)
      refine rz_gd (fun h_u2 => ?_)
      refine rz_astore G (lv' := [(5, .ref u2), (0, .ref 17), (1, .ref q1), (2, .int x2), (3, .int x3), (4, .int x4)]) (Nat.le_of_ble_eq_true rfl) rfl (dq jX4_knock 13 rfl) ?_
      refine rz_aload G 0 rfl (dq jX4_knock 14 rfl) ?_
      refine rz_getI G flX4_98 (fl_sh h_u2) rfl (dq jX4_knock 15 rfl) (fun v3 => ?_)
      refine rz_iconst G (v := 2) (dq jX4_knock 16 rfl) rfl ?_
      refine rz_icmp_ne G (tgt := 71) rfl (dq jX4_knock 17 rfl) (fun c4 => ?_) (fun c4 => ?_)
      · refine rz_aload G 0 rfl (dq jX4_knock 18 rfl) ?_
        refine rz_getI G flX4_152 (fl_sh h_u2) rfl (dq jX4_knock 19 rfl) (fun v5 => ?_)
        refine rz_aload_n G 2 rfl rfl (dq jX4_knock 20 rfl) ?_
        refine rz_getI G flX4_152 (fl_sh h_q1) rfl (dq jX4_knock 21 rfl) (fun v6 => ?_)
        refine rz_isub G (dq jX4_knock 22 rfl) ?_
        refine rz_mabs G mtX4_182 (by decide) (Nat.le_of_ble_eq_true rfl) (dq jX4_knock 23 rfl) ?_
        refine rz_lti (fun w7 e_w7 => ?_)
        refine rz_aload_n G 1 rfl rfl (dq jX4_knock 24 rfl) ?_
        refine rz_getR G flX4_33 sh17 rfl (dq jX4_knock 25 rfl) (fun u8 => ?_)
        refine rz_gd (fun h_u8 => ?_)
        refine rz_getI G flX4_186 (gd_sh h_u8) rfl (dq jX4_knock 26 rfl) (fun v9 => ?_)
        refine rz_icmp_gt G (tgt := 71) rfl (dq jX4_knock 27 rfl) (fun c10 => ?_) (fun c10 => ?_)
        · exact rz_lv [1, 2, 3, 4, 5] rfl (z_X4_knock_b71 G (f_X4_knock_b5 fu) ih q1 x2 x3 x4)
        · refine rz_aload G 0 rfl (dq jX4_knock 28 rfl) ?_
          refine rz_iconst G (v := 5) (dq jX4_knock 29 rfl) rfl ?_
          refine rz_callVv G (st := []) (c_X1_addKind (cLn Γ) u2 5) lkX4_169 (fl_sh h_u2) rfl rfl rfl (Nat.le_of_ble_eq_true rfl) (Nat.le_of_ble_eq_true rfl) (dq jX4_knock 30 rfl) rfl (fun _ => ?_)
          refine rz_aload_n G 1 rfl rfl (dq jX4_knock 31 rfl) ?_
          refine rz_aload G 0 rfl (dq jX4_knock 32 rfl) ?_
          refine rz_iload_n G 3 rfl rfl (dq jX4_knock 33 rfl) ?_
          refine rz_callVv G (st := []) (c_X4_hurt (cLn Γ) u2 x2) lkX4_159 sh17 rfl rfl rfl (Nat.le_of_ble_eq_true rfl) (Nat.le_of_ble_eq_true rfl) (dq jX4_knock 34 rfl) rfl (fun _ => ?_)
          refine rz_iconst G (v := 1) (dq jX4_knock 35 rfl) rfl ?_
          refine rz_istore_n G (lv' := [(3, .int 1), (5, .ref u2), (0, .ref 17), (1, .ref q1), (2, .int x2), (4, .int x4)]) rfl (Nat.le_of_ble_eq_true rfl) rfl (dq jX4_knock 36 rfl) ?_
          exact rz_lv [2, 3, 4, 0, 5] rfl (z_X4_knock_b71 G (f_X4_knock_b5 fu) ih q1 x2 1 x4)
      · exact rz_lv [1, 2, 3, 4, 5] rfl (z_X4_knock_b71 G (f_X4_knock_b5 fu) ih q1 x2 x3 x4)
theorem c_X4_knock (l : Launch) (q1 : Nat) (x2 : Int32) : Ct l yX4_knock cX4_knock 6 none 2 encV [.ref 17, .ref q1, .int x2] (f_X4_knock q1 x2) := by
  refine ct_of (own := RX4) (by decide) rfl (Nat.le_of_ble_eq_true rfl) (fun Γ hl G => ?_)
  show Rz Γ 6 (Qm Γ encV 0 0) 0 0 0 [(0, .ref 17), (1, .ref q1), (2, .int x2)] [] _
  unfold f_X4_knock
  refine rz_gd (fun h_q1 => ?_)
  refine rz_iconst G (v := 0) (dq jX4_knock 0 rfl) rfl ?_
  refine rz_istore_n G (lv' := [(3, .int 0), (0, .ref 17), (1, .ref q1), (2, .int x2)]) rfl (Nat.le_of_ble_eq_true rfl) rfl (dq jX4_knock 1 rfl) ?_
  refine rz_iconst G (v := 0) (dq jX4_knock 2 rfl) rfl ?_
  refine rz_istore G (lv' := [(4, .int 0), (3, .int 0), (0, .ref 17), (1, .ref q1), (2, .int x2)]) (Nat.le_of_ble_eq_true rfl) rfl (dq jX4_knock 3 rfl) ?_
  exact rz_lv [2, 3, 4, 1, 0] rfl (z_X4_knock_b5 G FU q1 x2 0 0)
theorem z_X4_press_b79 {Γ : Cx} (G : GG Γ RX4 cX4_press 5 (some .int) 2 0 0) (q1 : Nat) (x2 : Int32) (x4 : Int32) : Rz Γ 5 (Qm Γ encI 0 0) 0 0 79 [(0, .ref 17), (1, .ref q1), (2, .int x2), (4, .int x4)] [] (f_X4_press_b79 q1 x2 x4) := by
  unfold f_X4_press_b79
  refine rz_gd (fun h_q1 => ?_)
  refine rz_aload_n G 0 rfl rfl (dq jX4_press 43 rfl) ?_
  refine rz_aload_n G 1 rfl rfl (dq jX4_press 44 rfl) ?_
  refine rz_putR G flX4_40 sh17 rfl (dq jX4_press 45 rfl) ?_
  refine rz_aload_n G 0 rfl rfl (dq jX4_press 46 rfl) ?_
  refine rz_dup G rfl (dq jX4_press 47 rfl) ?_
  refine rz_getI G flX4_77 sh17 rfl (dq jX4_press 48 rfl) (fun v1 => ?_)
  refine rz_iload_n G 2 rfl rfl (dq jX4_press 49 rfl) ?_
  refine rz_iadd G (dq jX4_press 50 rfl) ?_
  refine rz_putI G flX4_77 sh17 rfl (dq jX4_press 51 rfl) ?_
  refine rz_aload_n G 0 rfl rfl (dq jX4_press 52 rfl) ?_
  refine rz_dup G rfl (dq jX4_press 53 rfl) ?_
  refine rz_getI G flX4_80 sh17 rfl (dq jX4_press 54 rfl) (fun v2 => ?_)
  refine rz_iload_n G 2 rfl rfl (dq jX4_press 55 rfl) ?_
  refine rz_iadd G (dq jX4_press 56 rfl) ?_
  refine rz_putI G flX4_80 sh17 rfl (dq jX4_press 57 rfl) ?_
  refine rz_iload G 3 rfl (dq jX4_press 58 rfl) ?_
  exact rz_iret G (dq jX4_press 59 rfl)
theorem z_X4_press_b45 {Γ : Cx} (G : GG Γ RX4 cX4_press 5 (some .int) 2 0 0) (q1 : Nat) (x2 : Int32) (x3 : Int32) : Rz Γ 5 (Qm Γ encI 0 0) 0 0 45 [(0, .ref 17), (1, .ref q1), (2, .int x2), (3, .int x3)] [] (f_X4_press_b45 q1 x2 x3) := by
  unfold f_X4_press_b45
  refine rz_gd (fun h_q1 => ?_)
  refine rz_iconst G (v := 0) (dq jX4_press 25 rfl) rfl ?_
  refine rz_istore G (lv' := [(4, .int 0), (0, .ref 17), (1, .ref q1), (2, .int x2), (3, .int x3)]) (Nat.le_of_ble_eq_true rfl) rfl (dq jX4_press 26 rfl) ?_
  refine rz_aload_n G 1 rfl rfl (dq jX4_press 27 rfl) ?_
  refine rz_getI G flX4_70 sh17 rfl (dq jX4_press 28 rfl) (fun v1 => ?_)
  refine rz_if_eq G (tgt := 68) rfl (dq jX4_press 29 rfl) (fun c2 => ?_) (fun c2 => ?_)
  · refine rz_iconst G (v := 1) (dq jX4_press 37 rfl) rfl ?_
    refine rz_istore G (lv' := [(4, .int 1), (0, .ref 17), (1, .ref q1), (2, .int x2), (3, .int x3)]) (Nat.le_of_ble_eq_true rfl) rfl (dq jX4_press 38 rfl) ?_
    refine rz_aload_n G 1 rfl rfl (dq jX4_press 39 rfl) ?_
    refine rz_getR G flX4_40 sh17 rfl (dq jX4_press 40 rfl) (fun u3 => ?_)
    refine rz_gd (fun h_u3 => ?_)
    refine rz_iconst G (v := 2) (dq jX4_press 41 rfl) rfl ?_
    refine rz_callVv G (st := []) (c_X1_addKind (cLn Γ) u3 2) lkX4_169 (fl_sh h_u3) rfl rfl rfl (Nat.le_of_ble_eq_true rfl) (Nat.le_of_ble_eq_true rfl) (dq jX4_press 42 rfl) rfl (fun _ => ?_)
    exact rz_lv [1, 2, 3, 0] rfl (z_X4_press_b79 G q1 x2 1)
  · refine rz_aload_n G 1 rfl rfl (dq jX4_press 30 rfl) ?_
    refine rz_iconst G (v := 0) (dq jX4_press 31 rfl) rfl ?_
    refine rz_putZ G (by decide) flX4_70 sh17 rfl (dq jX4_press 32 rfl) ?_
    refine rz_aload_n G 1 rfl rfl (dq jX4_press 33 rfl) ?_
    refine rz_iload_n G 4 rfl rfl (dq jX4_press 34 rfl) ?_
    refine rz_putI G flX4_74 sh17 rfl (dq jX4_press 35 rfl) ?_
    refine rz_goto G (tgt := 79) rfl (dq jX4_press 36 rfl) ?_
    exact rz_lv [1, 2, 3, 0] rfl (z_X4_press_b79 G q1 x2 0)
theorem c_X4_press (l : Launch) (q1 : Nat) (x2 : Int32) (x3 : Int32) : Ct l yX4_press cX4_press 5 (some .int) 2 encI [.ref 17, .ref q1, .int x2, .int x3] (f_X4_press q1 x2 x3) := by
  refine ct_of (own := RX4) (by decide) rfl (Nat.le_of_ble_eq_true rfl) (fun Γ hl G => ?_)
  show Rz Γ 5 (Qm Γ encI 0 0) 0 0 0 [(0, .ref 17), (1, .ref q1), (2, .int x2), (3, .int x3)] [] _
  unfold f_X4_press
  refine rz_gd (fun h_q1 => ?_)
  refine rz_aload_n G 0 rfl rfl (dq jX4_press 0 rfl) ?_
  refine rz_getI G flX4_70 sh17 rfl (dq jX4_press 1 rfl) (fun v1 => ?_)
  refine rz_if_ne G (tgt := 45) rfl (dq jX4_press 2 rfl) (fun c2 => ?_) (fun c2 => ?_)
  · refine rz_iload_n G 3 rfl rfl (dq jX4_press 3 rfl) ?_
    refine rz_aload_n G 0 rfl rfl (dq jX4_press 4 rfl) ?_
    refine rz_getI G flX4_74 sh17 rfl (dq jX4_press 5 rfl) (fun v3 => ?_)
    refine rz_isub G (dq jX4_press 6 rfl) ?_
    refine rz_aload_n G 0 rfl rfl (dq jX4_press 7 rfl) ?_
    refine rz_getR G flX4_33 sh17 rfl (dq jX4_press 8 rfl) (fun u4 => ?_)
    refine rz_gd (fun h_u4 => ?_)
    refine rz_getI G flX4_133 (gd_sh h_u4) rfl (dq jX4_press 9 rfl) (fun v5 => ?_)
    refine rz_icmp_lt G (tgt := 45) rfl (dq jX4_press 10 rfl) (fun c6 => ?_) (fun c6 => ?_)
    · exact rz_lv [0, 1, 2, 3] rfl (z_X4_press_b45 G q1 x2 x3)
    · refine rz_aload_n G 1 rfl rfl (dq jX4_press 11 rfl) ?_
      refine rz_dup G rfl (dq jX4_press 12 rfl) ?_
      refine rz_getI G flX4_189 (fl_sh h_q1) rfl (dq jX4_press 13 rfl) (fun v7 => ?_)
      refine rz_iload_n G 2 rfl rfl (dq jX4_press 14 rfl) ?_
      refine rz_iadd G (dq jX4_press 15 rfl) ?_
      refine rz_putI G flX4_189 (fl_sh h_q1) rfl (dq jX4_press 16 rfl) ?_
      refine rz_aload_n G 0 rfl rfl (dq jX4_press 17 rfl) ?_
      refine rz_dup G rfl (dq jX4_press 18 rfl) ?_
      refine rz_getI G flX4_83 sh17 rfl (dq jX4_press 19 rfl) (fun v8 => ?_)
      refine rz_iload_n G 2 rfl rfl (dq jX4_press 20 rfl) ?_
      refine rz_iadd G (dq jX4_press 21 rfl) ?_
      refine rz_putI G flX4_83 sh17 rfl (dq jX4_press 22 rfl) ?_
      refine rz_iconst G (v := 3) (dq jX4_press 23 rfl) rfl ?_
      exact rz_iret G (dq jX4_press 24 rfl)
  · exact rz_lv [0, 1, 2, 3] rfl (z_X4_press_b45 G q1 x2 x3)
theorem z_X4_land_b66 {Γ : Cx} (G : GG Γ RX4 cX4_land 5 none 3 0 0) (q1 : Nat) (x2 : Int32) (x3 : Int32) (x4 : Int32) : Rz Γ 5 (Qm Γ encV 0 0) 0 0 66 [(0, .ref 17), (1, .ref q1), (2, .int x2), (3, .int x3), (4, .int x4)] [] (f_X4_land_b66 q1 x2 x3 x4) := by
  unfold f_X4_land_b66
  refine rz_gd (fun h_q1 => ?_)
  refine rz_aload_n G 1 rfl rfl (dq jX4_land 38 rfl) ?_
  refine rz_iload G 4 rfl (dq jX4_land 39 rfl) ?_
  refine rz_callVv G (st := []) (c_X1_addKind (cLn Γ) q1 x4) lkX4_169 (fl_sh h_q1) rfl rfl rfl (Nat.le_of_ble_eq_true rfl) (Nat.le_of_ble_eq_true rfl) (dq jX4_land 40 rfl) rfl (fun _ => ?_)
  refine rz_aload_n G 0 rfl rfl (dq jX4_land 41 rfl) ?_
  refine rz_getC G flX4_26 sh17 (t := 28) rfl rfl (dq jX4_land 42 rfl) ?_
  refine rz_iload_n G 2 rfl rfl (dq jX4_land 43 rfl) ?_
  refine rz_aload_n G 1 rfl rfl (dq jX4_land 44 rfl) ?_
  refine rz_getI G flX4_172 (fl_sh h_q1) rfl (dq jX4_land 45 rfl) (fun v1 => ?_)
  refine rz_iload G 4 rfl (dq jX4_land 46 rfl) ?_
  refine rz_aload_n G 1 rfl rfl (dq jX4_land 47 rfl) ?_
  refine rz_getI G flX4_152 (fl_sh h_q1) rfl (dq jX4_land 48 rfl) (fun v2 => ?_)
  refine rz_iload_n G 3 rfl rfl (dq jX4_land 49 rfl) ?_
  refine rz_callVv G (st := []) (c_X3_add (cLn Γ) x2 v1 x4 v2 x3) lkX4_175 sh28 rfl rfl rfl (Nat.le_of_ble_eq_true rfl) (Nat.le_of_ble_eq_true rfl) (dq jX4_land 50 rfl) rfl (fun _ => ?_)
  exact rz_vret G (dq jX4_land 51 rfl)
theorem c_X4_land (l : Launch) (q1 : Nat) (x2 : Int32) : Ct l yX4_land cX4_land 5 none 3 encV [.ref 17, .ref q1, .int x2] (f_X4_land q1 x2) := by
  refine ct_of (own := RX4) (by decide) rfl (Nat.le_of_ble_eq_true rfl) (fun Γ hl G => ?_)
  show Rz Γ 5 (Qm Γ encV 0 0) 0 0 0 [(0, .ref 17), (1, .ref q1), (2, .int x2)] [] _
  unfold f_X4_land
  refine rz_gd (fun h_q1 => ?_)
  refine rz_aload_n G 1 rfl rfl (dq jX4_land 0 rfl) ?_
  refine rz_getI G flX4_146 (fl_sh h_q1) rfl (dq jX4_land 1 rfl) (fun v1 => ?_)
  refine rz_aload_n G 1 rfl rfl (dq jX4_land 2 rfl) ?_
  refine rz_getI G flX4_149 (fl_sh h_q1) rfl (dq jX4_land 3 rfl) (fun v2 => ?_)
  refine rz_imul G (dq jX4_land 4 rfl) ?_
  refine rz_istore_n G (lv' := [(3, .int (v1 * v2)), (0, .ref 17), (1, .ref q1), (2, .int x2)]) rfl (Nat.le_of_ble_eq_true rfl) rfl (dq jX4_land 5 rfl) ?_
  refine rz_iconst G (v := 4) (dq jX4_land 6 rfl) rfl ?_
  refine rz_istore G (lv' := [(4, .int 4), (3, .int (v1 * v2)), (0, .ref 17), (1, .ref q1), (2, .int x2)]) (Nat.le_of_ble_eq_true rfl) rfl (dq jX4_land 7 rfl) ?_
  refine rz_aload_n G 2 rfl rfl (dq jX4_land 8 rfl) ?_
  refine rz_getR G flX4_33 sh17 rfl (dq jX4_land 9 rfl) (fun u3 => ?_)
  refine rz_gd (fun h_u3 => ?_)
  refine rz_aload_n G 3 rfl rfl (dq jX4_land 10 rfl) ?_
  refine rz_getI G flX4_152 (fl_sh h_q1) rfl (dq jX4_land 11 rfl) (fun v4 => ?_)
  refine rz_callVi G (st := []) (c_X2_isBeyond (cLn Γ) u3 v4) lkX4_155 (gd_sh h_u3) rfl rfl rfl (Nat.le_of_ble_eq_true rfl) (Nat.le_of_ble_eq_true rfl) (dq jX4_land 12 rfl) rfl (fun r5 => ?_)
  refine rz_if_eq G (tgt := 41) rfl (dq jX4_land 13 rfl) (fun c6 => ?_) (fun c6 => ?_)
  · refine rz_aload_n G 2 rfl rfl (dq jX4_land 22 rfl) ?_
    refine rz_aload_n G 3 rfl rfl (dq jX4_land 23 rfl) ?_
    refine rz_iload_n G 4 rfl rfl (dq jX4_land 24 rfl) ?_
    refine rz_callVv G (st := []) (c_X4_knock (cLn Γ) q1 x2) lkX4_162 sh17 rfl rfl rfl (Nat.le_of_ble_eq_true rfl) (Nat.le_of_ble_eq_true rfl) (dq jX4_land 25 rfl) rfl (fun _ => ?_)
    refine rz_aload_n G 3 rfl rfl (dq jX4_land 26 rfl) ?_
    refine rz_iconst G (v := 2) (dq jX4_land 27 rfl) rfl ?_
    refine rz_putI G flX4_98 (fl_sh h_q1) rfl (dq jX4_land 28 rfl) ?_
    refine rz_aload_n G 3 rfl rfl (dq jX4_land 29 rfl) ?_
    refine rz_iload_n G 4 rfl rfl (dq jX4_land 30 rfl) ?_
    refine rz_putI G flX4_136 (fl_sh h_q1) rfl (dq jX4_land 31 rfl) ?_
    refine rz_aload_n G 2 rfl rfl (dq jX4_land 32 rfl) ?_
    refine rz_aload_n G 3 rfl rfl (dq jX4_land 33 rfl) ?_
    refine rz_iload_n G 1 rfl rfl (dq jX4_land 34 rfl) ?_
    refine rz_iload_n G 4 rfl rfl (dq jX4_land 35 rfl) ?_
    refine rz_callVi G (st := []) (c_X4_press (cLn Γ) q1 (v1 * v2) x2) lkX4_165 sh17 rfl rfl rfl (Nat.le_of_ble_eq_true rfl) (Nat.le_of_ble_eq_true rfl) (dq jX4_land 36 rfl) rfl (fun r7 => ?_)
    refine rz_istore G (lv' := [(4, .int r7), (3, .int (v1 * v2)), (0, .ref 17), (1, .ref q1), (2, .int x2)]) (Nat.le_of_ble_eq_true rfl) rfl (dq jX4_land 37 rfl) ?_
    exact rz_lv [2, 3, 4, 1, 0] rfl (z_X4_land_b66 G q1 x2 (v1 * v2) r7)
  · refine rz_aload_n G 3 rfl rfl (dq jX4_land 14 rfl) ?_
    refine rz_iconst G (v := 3) (dq jX4_land 15 rfl) rfl ?_
    refine rz_putI G flX4_98 (fl_sh h_q1) rfl (dq jX4_land 16 rfl) ?_
    refine rz_aload_n G 2 rfl rfl (dq jX4_land 17 rfl) ?_
    refine rz_aload_n G 3 rfl rfl (dq jX4_land 18 rfl) ?_
    refine rz_iload_n G 4 rfl rfl (dq jX4_land 19 rfl) ?_
    refine rz_callVv G (st := []) (c_X4_hurt (cLn Γ) q1 x2) lkX4_159 sh17 rfl rfl rfl (Nat.le_of_ble_eq_true rfl) (Nat.le_of_ble_eq_true rfl) (dq jX4_land 20 rfl) rfl (fun _ => ?_)
    refine rz_goto G (tgt := 66) rfl (dq jX4_land 21 rfl) ?_
    exact rz_lv [2, 3, 4, 1, 0] rfl (z_X4_land_b66 G q1 x2 (v1 * v2) 4)
