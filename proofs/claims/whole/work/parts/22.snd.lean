theorem c_X6_endRule (l : Launch) (q0 : Nat) : Ct l yX6_endRule cX6_endRule 1 none 1 encV [.ref q0] (f_X6_endRule q0) := by
  refine ct_of (own := RX6) (by decide) rfl (Nat.le_of_ble_eq_true rfl) (fun Γ hl G => ?_)
  show Rz Γ 1 (Qm Γ encV 0 0) 0 0 0 [(0, .ref q0)] [] _
  unfold f_X6_endRule
  refine rz_gd (fun h_q0 => ?_)
  refine rz_aload_n G 0 rfl rfl (dq jX6_endRule 0 rfl) ?_
  refine rz_getI G flX6_25 (ru_sh h_q0) rfl (dq jX6_endRule 1 rfl) (fun v1 => ?_)
  refine rz_if_lt G (tgt := 42) rfl (dq jX6_endRule 2 rfl) (fun c2 => ?_) (fun c2 => ?_)
  · exact rz_vret G (dq jX6_endRule 22 rfl)
  · refine rz_aload_n G 0 rfl rfl (dq jX6_endRule 3 rfl) ?_
    refine rz_getI G flX6_25 (ru_sh h_q0) rfl (dq jX6_endRule 4 rfl) (fun v3 => ?_)
    refine rz_aload_n G 0 rfl rfl (dq jX6_endRule 5 rfl) ?_
    refine rz_getC G flX6_15 (ru_sh h_q0) (t := (q0 + 2)) rfl rfl (dq jX6_endRule 6 rfl) ?_
    refine rz_alen G (v := 4) (ru_s2 h_q0) (by decide) (by decide) (dq jX6_endRule 7 rfl) ?_
    refine rz_icmp_ge G (tgt := 42) rfl (dq jX6_endRule 8 rfl) (fun c4 => ?_) (fun c4 => ?_)
    · exact rz_vret G (dq jX6_endRule 22 rfl)
    · refine rz_aload_n G 0 rfl rfl (dq jX6_endRule 9 rfl) ?_
      refine rz_getC G flX6_15 (ru_sh h_q0) (t := (q0 + 2)) rfl rfl (dq jX6_endRule 10 rfl) ?_
      refine rz_aload_n G 0 rfl rfl (dq jX6_endRule 11 rfl) ?_
      refine rz_getI G flX6_25 (ru_sh h_q0) rfl (dq jX6_endRule 12 rfl) (fun v5 => ?_)
      refine rz_aload_n G 0 rfl rfl (dq jX6_endRule 13 rfl) ?_
      refine rz_getI G flX6_21 (ru_sh h_q0) rfl (dq jX6_endRule 14 rfl) (fun v6 => ?_)
      refine rz_iast G (ru_s2 h_q0) (dq jX6_endRule 15 rfl) ?_
      refine rz_aload_n G 0 rfl rfl (dq jX6_endRule 16 rfl) ?_
      refine rz_dup G rfl (dq jX6_endRule 17 rfl) ?_
      refine rz_getI G flX6_25 (ru_sh h_q0) rfl (dq jX6_endRule 18 rfl) (fun v7 => ?_)
      refine rz_iconst G (v := 1) (dq jX6_endRule 19 rfl) rfl ?_
      refine rz_iadd G (dq jX6_endRule 20 rfl) ?_
      refine rz_putI G flX6_25 (ru_sh h_q0) rfl (dq jX6_endRule 21 rfl) ?_
      exact rz_vret G (dq jX6_endRule 22 rfl)
theorem c_X7_begin (l : Launch) (q0 : Nat) (q1 : Nat) : Ct l yX7_begin cX7_begin 2 none 1 encV [.ref q0, .ref q1] (f_X7_begin q0 q1) := by
  refine ct_of (own := RX7) (by decide) rfl (Nat.le_of_ble_eq_true rfl) (fun Γ hl G => ?_)
  show Rz Γ 2 (Qm Γ encV 0 0) 0 0 0 [(0, .ref q0), (1, .ref q1)] [] _
  unfold f_X7_begin
  refine rz_gd (fun h_q0 => ?_)
  refine rz_gd (fun h_q1 => ?_)
  refine rz_aload_n G 1 rfl rfl (dq jX7_begin 0 rfl) ?_
  refine rz_getC G flX7_34 (gd_sh h_q1) (t := (q1 + 1)) rfl rfl (dq jX7_begin 1 rfl) ?_
  refine rz_iconst G (v := 0) (dq jX7_begin 2 rfl) rfl ?_
  refine rz_aload_n G 0 rfl rfl (dq jX7_begin 3 rfl) ?_
  refine rz_getC G flX7_9 (sc_sh h_q0) (t := (q0 + 1)) rfl rfl (dq jX7_begin 4 rfl) ?_
  refine rz_iconst G (v := 0) (dq jX7_begin 5 rfl) rfl ?_
  refine rz_aload_n G 0 rfl rfl (dq jX7_begin 6 rfl) ?_
  refine rz_getC G flX7_9 (sc_sh h_q0) (t := (q0 + 1)) rfl rfl (dq jX7_begin 7 rfl) ?_
  refine rz_alen G (v := 24) (sc_s1 h_q0) (by decide) (by decide) (dq jX7_begin 8 rfl) ?_
  refine rz_copyi G 0 0 24 cpX7_37 (gd_s1 h_q1) (sc_s1 h_q0) (by decide) (by decide) (by decide) (by decide) (Nat.le_of_ble_eq_true rfl) (dq jX7_begin 9 rfl) ?_
  refine rz_aload_n G 0 rfl rfl (dq jX7_begin 10 rfl) ?_
  refine rz_aload_n G 1 rfl rfl (dq jX7_begin 11 rfl) ?_
  refine rz_getI G flX7_43 (gd_sh h_q1) rfl (dq jX7_begin 12 rfl) (fun v1 => ?_)
  refine rz_putI G flX7_46 (sc_sh h_q0) rfl (dq jX7_begin 13 rfl) ?_
  refine rz_aload_n G 0 rfl rfl (dq jX7_begin 14 rfl) ?_
  refine rz_iconst G (v := (-1)) (dq jX7_begin 15 rfl) rfl ?_
  refine rz_putI G flX7_15 (sc_sh h_q0) rfl (dq jX7_begin 16 rfl) ?_
  refine rz_aload_n G 0 rfl rfl (dq jX7_begin 17 rfl) ?_
  refine rz_sipush G (v := 200) (dq jX7_begin 18 rfl) (by decide) ?_
  refine rz_putI G flX7_19 (sc_sh h_q0) rfl (dq jX7_begin 19 rfl) ?_
  refine rz_aload_n G 0 rfl rfl (dq jX7_begin 20 rfl) ?_
  refine rz_iconst G (v := 0) (dq jX7_begin 21 rfl) rfl ?_
  refine rz_putI G flX7_47 (sc_sh h_q0) rfl (dq jX7_begin 22 rfl) ?_
  refine rz_aload_n G 0 rfl rfl (dq jX7_begin 23 rfl) ?_
  refine rz_iconst G (v := 0) (dq jX7_begin 24 rfl) rfl ?_
  refine rz_putI G flX7_50 (sc_sh h_q0) rfl (dq jX7_begin 25 rfl) ?_
  exact rz_vret G (dq jX7_begin 26 rfl)
theorem c_X7_copy (l : Launch) (q0 : Nat) (q1 : Nat) : Ct l yX7_copy cX7_copy 2 none 1 encV [.ref q0, .ref q1] (f_X7_copy q0 q1) := by
  refine ct_of (own := RX7) (by decide) rfl (Nat.le_of_ble_eq_true rfl) (fun Γ hl G => ?_)
  show Rz Γ 2 (Qm Γ encV 0 0) 0 0 0 [(0, .ref q0), (1, .ref q1)] [] _
  unfold f_X7_copy
  refine rz_gd (fun h_q0 => ?_)
  refine rz_gd (fun h_q1 => ?_)
  refine rz_aload_n G 1 rfl rfl (dq jX7_copy 0 rfl) ?_
  refine rz_getC G flX7_9 (sc_sh h_q1) (t := (q1 + 1)) rfl rfl (dq jX7_copy 1 rfl) ?_
  refine rz_iconst G (v := 0) (dq jX7_copy 2 rfl) rfl ?_
  refine rz_aload_n G 0 rfl rfl (dq jX7_copy 3 rfl) ?_
  refine rz_getC G flX7_9 (sc_sh h_q0) (t := (q0 + 1)) rfl rfl (dq jX7_copy 4 rfl) ?_
  refine rz_iconst G (v := 0) (dq jX7_copy 5 rfl) rfl ?_
  refine rz_aload_n G 0 rfl rfl (dq jX7_copy 6 rfl) ?_
  refine rz_getC G flX7_9 (sc_sh h_q0) (t := (q0 + 1)) rfl rfl (dq jX7_copy 7 rfl) ?_
  refine rz_alen G (v := 24) (sc_s1 h_q0) (by decide) (by decide) (dq jX7_copy 8 rfl) ?_
  refine rz_copyi G 0 0 24 cpX7_37 (sc_s1 h_q1) (sc_s1 h_q0) (by decide) (by decide) (by decide) (by decide) (Nat.le_of_ble_eq_true rfl) (dq jX7_copy 9 rfl) ?_
  refine rz_aload_n G 0 rfl rfl (dq jX7_copy 10 rfl) ?_
  refine rz_aload_n G 1 rfl rfl (dq jX7_copy 11 rfl) ?_
  refine rz_getI G flX7_46 (sc_sh h_q1) rfl (dq jX7_copy 12 rfl) (fun v1 => ?_)
  refine rz_putI G flX7_46 (sc_sh h_q0) rfl (dq jX7_copy 13 rfl) ?_
  refine rz_aload_n G 0 rfl rfl (dq jX7_copy 14 rfl) ?_
  refine rz_aload_n G 1 rfl rfl (dq jX7_copy 15 rfl) ?_
  refine rz_getI G flX7_15 (sc_sh h_q1) rfl (dq jX7_copy 16 rfl) (fun v2 => ?_)
  refine rz_putI G flX7_15 (sc_sh h_q0) rfl (dq jX7_copy 17 rfl) ?_
  refine rz_aload_n G 0 rfl rfl (dq jX7_copy 18 rfl) ?_
  refine rz_aload_n G 1 rfl rfl (dq jX7_copy 19 rfl) ?_
  refine rz_getI G flX7_19 (sc_sh h_q1) rfl (dq jX7_copy 20 rfl) (fun v3 => ?_)
  refine rz_putI G flX7_19 (sc_sh h_q0) rfl (dq jX7_copy 21 rfl) ?_
  refine rz_aload_n G 1 rfl rfl (dq jX7_copy 22 rfl) ?_
  refine rz_getC G flX7_22 (sc_sh h_q1) (t := (q1 + 2)) rfl rfl (dq jX7_copy 23 rfl) ?_
  refine rz_iconst G (v := 0) (dq jX7_copy 24 rfl) rfl ?_
  refine rz_aload_n G 0 rfl rfl (dq jX7_copy 25 rfl) ?_
  refine rz_getC G flX7_22 (sc_sh h_q0) (t := (q0 + 2)) rfl rfl (dq jX7_copy 26 rfl) ?_
  refine rz_iconst G (v := 0) (dq jX7_copy 27 rfl) rfl ?_
  refine rz_aload_n G 0 rfl rfl (dq jX7_copy 28 rfl) ?_
  refine rz_getC G flX7_22 (sc_sh h_q0) (t := (q0 + 2)) rfl rfl (dq jX7_copy 29 rfl) ?_
  refine rz_alen G (v := 40) (sc_s2 h_q0) (by decide) (by decide) (dq jX7_copy 30 rfl) ?_
  refine rz_copyi G 0 0 40 cpX7_37 (sc_s2 h_q1) (sc_s2 h_q0) (by decide) (by decide) (by decide) (by decide) (Nat.le_of_ble_eq_true rfl) (dq jX7_copy 31 rfl) ?_
  refine rz_aload_n G 1 rfl rfl (dq jX7_copy 32 rfl) ?_
  refine rz_getC G flX7_25 (sc_sh h_q1) (t := (q1 + 3)) rfl rfl (dq jX7_copy 33 rfl) ?_
  refine rz_iconst G (v := 0) (dq jX7_copy 34 rfl) rfl ?_
  refine rz_aload_n G 0 rfl rfl (dq jX7_copy 35 rfl) ?_
  refine rz_getC G flX7_25 (sc_sh h_q0) (t := (q0 + 3)) rfl rfl (dq jX7_copy 36 rfl) ?_
  refine rz_iconst G (v := 0) (dq jX7_copy 37 rfl) rfl ?_
  refine rz_aload_n G 0 rfl rfl (dq jX7_copy 38 rfl) ?_
  refine rz_getC G flX7_25 (sc_sh h_q0) (t := (q0 + 3)) rfl rfl (dq jX7_copy 39 rfl) ?_
  refine rz_alen G (v := 40) (sc_s3 h_q0) (by decide) (by decide) (dq jX7_copy 40 rfl) ?_
  refine rz_copyi G 0 0 40 cpX7_37 (sc_s3 h_q1) (sc_s3 h_q0) (by decide) (by decide) (by decide) (by decide) (Nat.le_of_ble_eq_true rfl) (dq jX7_copy 41 rfl) ?_
  refine rz_aload_n G 1 rfl rfl (dq jX7_copy 42 rfl) ?_
  refine rz_getC G flX7_28 (sc_sh h_q1) (t := (q1 + 4)) rfl rfl (dq jX7_copy 43 rfl) ?_
  refine rz_iconst G (v := 0) (dq jX7_copy 44 rfl) rfl ?_
  refine rz_aload_n G 0 rfl rfl (dq jX7_copy 45 rfl) ?_
  refine rz_getC G flX7_28 (sc_sh h_q0) (t := (q0 + 4)) rfl rfl (dq jX7_copy 46 rfl) ?_
  refine rz_iconst G (v := 0) (dq jX7_copy 47 rfl) rfl ?_
  refine rz_aload_n G 0 rfl rfl (dq jX7_copy 48 rfl) ?_
  refine rz_getC G flX7_28 (sc_sh h_q0) (t := (q0 + 4)) rfl rfl (dq jX7_copy 49 rfl) ?_
  refine rz_alen G (v := 40) (sc_s4 h_q0) (by decide) (by decide) (dq jX7_copy 50 rfl) ?_
  refine rz_copyi G 0 0 40 cpX7_37 (sc_s4 h_q1) (sc_s4 h_q0) (by decide) (by decide) (by decide) (by decide) (Nat.le_of_ble_eq_true rfl) (dq jX7_copy 51 rfl) ?_
  refine rz_aload_n G 0 rfl rfl (dq jX7_copy 52 rfl) ?_
  refine rz_aload_n G 1 rfl rfl (dq jX7_copy 53 rfl) ?_
  refine rz_getI G flX7_47 (sc_sh h_q1) rfl (dq jX7_copy 54 rfl) (fun v4 => ?_)
  refine rz_putI G flX7_47 (sc_sh h_q0) rfl (dq jX7_copy 55 rfl) ?_
  refine rz_aload_n G 1 rfl rfl (dq jX7_copy 56 rfl) ?_
  refine rz_getC G flX7_31 (sc_sh h_q1) (t := (q1 + 5)) rfl rfl (dq jX7_copy 57 rfl) ?_
  refine rz_iconst G (v := 0) (dq jX7_copy 58 rfl) rfl ?_
  refine rz_aload_n G 0 rfl rfl (dq jX7_copy 59 rfl) ?_
  refine rz_getC G flX7_31 (sc_sh h_q0) (t := (q0 + 5)) rfl rfl (dq jX7_copy 60 rfl) ?_
  refine rz_iconst G (v := 0) (dq jX7_copy 61 rfl) rfl ?_
  refine rz_aload_n G 0 rfl rfl (dq jX7_copy 62 rfl) ?_
  refine rz_getC G flX7_31 (sc_sh h_q0) (t := (q0 + 5)) rfl rfl (dq jX7_copy 63 rfl) ?_
  refine rz_alen G (v := 20) (sc_s5 h_q0) (by decide) (by decide) (dq jX7_copy 64 rfl) ?_
  refine rz_copyi G 0 0 20 cpX7_37 (sc_s5 h_q1) (sc_s5 h_q0) (by decide) (by decide) (by decide) (by decide) (Nat.le_of_ble_eq_true rfl) (dq jX7_copy 65 rfl) ?_
  refine rz_aload_n G 0 rfl rfl (dq jX7_copy 66 rfl) ?_
  refine rz_aload_n G 1 rfl rfl (dq jX7_copy 67 rfl) ?_
  refine rz_getI G flX7_50 (sc_sh h_q1) rfl (dq jX7_copy 68 rfl) (fun v5 => ?_)
  refine rz_putI G flX7_50 (sc_sh h_q0) rfl (dq jX7_copy 69 rfl) ?_
  exact rz_vret G (dq jX7_copy 70 rfl)
theorem c_X7_put (l : Launch) (q0 : Nat) (x1 : Int32) (x2 : Int32) (x3 : Int32) : Ct l yX7_put cX7_put 6 (some .int) 1 encI [.ref q0, .int x1, .int x2, .int x3] (f_X7_put q0 x1 x2 x3) := by
  refine ct_of (own := RX7) (by decide) rfl (Nat.le_of_ble_eq_true rfl) (fun Γ hl G => ?_)
  show Rz Γ 6 (Qm Γ encI 0 0) 0 0 0 [(0, .ref q0), (1, .int x1), (2, .int x2), (3, .int x3)] [] _
  unfold f_X7_put
  refine rz_gd (fun h_q0 => ?_)
  refine rz_iconst G (v := (-1)) (dq jX7_put 0 rfl) rfl ?_
  refine rz_istore G (lv' := [(4, .int ((-1))), (0, .ref q0), (1, .int x1), (2, .int x2), (3, .int x3)]) (Nat.le_of_ble_eq_true rfl) rfl (dq jX7_put 1 rfl) ?_
  refine rz_iload_n G 2 rfl rfl (dq jX7_put 2 rfl) ?_
  refine rz_iconst G (v := 3) (dq jX7_put 3 rfl) rfl ?_
  refine rz_icmp_ne G (tgt := 22) rfl (dq jX7_put 4 rfl) (fun c1 => ?_) (fun c1 => ?_)
  · refine rz_aload_n G 1 rfl rfl (dq jX7_put 5 rfl) ?_
    refine rz_getI G flX7_15 (sc_sh h_q0) rfl (dq jX7_put 6 rfl) (fun v2 => ?_)
    refine rz_istore G (lv' := [(4, .int v2), (0, .ref q0), (1, .int x1), (2, .int x2), (3, .int x3)]) (Nat.le_of_ble_eq_true rfl) rfl (dq jX7_put 7 rfl) ?_
    refine rz_aload_n G 1 rfl rfl (dq jX7_put 8 rfl) ?_
    refine rz_iload_n G 4 rfl rfl (dq jX7_put 9 rfl) ?_
    refine rz_putI G flX7_15 (sc_sh h_q0) rfl (dq jX7_put 10 rfl) ?_
    refine rz_goto G (tgt := 83) rfl (dq jX7_put 11 rfl) ?_
    refine rz_iload G 0 rfl (dq jX7_put 47 rfl) ?_
    exact rz_iret G (dq jX7_put 48 rfl)
  · refine rz_iload_n G 2 rfl rfl (dq jX7_put 12 rfl) ?_
    refine rz_iconst G (v := 4) (dq jX7_put 13 rfl) rfl ?_
    refine rz_icmp_ne G (tgt := 41) rfl (dq jX7_put 14 rfl) (fun c3 => ?_) (fun c3 => ?_)
    · refine rz_aload_n G 1 rfl rfl (dq jX7_put 15 rfl) ?_
      refine rz_getI G flX7_19 (sc_sh h_q0) rfl (dq jX7_put 16 rfl) (fun v4 => ?_)
      refine rz_istore G (lv' := [(4, .int v4), (0, .ref q0), (1, .int x1), (2, .int x2), (3, .int x3)]) (Nat.le_of_ble_eq_true rfl) rfl (dq jX7_put 17 rfl) ?_
      refine rz_aload_n G 1 rfl rfl (dq jX7_put 18 rfl) ?_
      refine rz_iload_n G 4 rfl rfl (dq jX7_put 19 rfl) ?_
      refine rz_putI G flX7_19 (sc_sh h_q0) rfl (dq jX7_put 20 rfl) ?_
      refine rz_goto G (tgt := 83) rfl (dq jX7_put 21 rfl) ?_
      refine rz_iload G 0 rfl (dq jX7_put 47 rfl) ?_
      exact rz_iret G (dq jX7_put 48 rfl)
    · refine rz_iload_n G 3 rfl rfl (dq jX7_put 22 rfl) ?_
      refine rz_bipush G (v := 6) (dq jX7_put 23 rfl) (by decide) ?_
      refine rz_imul G (dq jX7_put 24 rfl) ?_
      refine rz_iconst G (v := 3) (dq jX7_put 25 rfl) rfl ?_
      refine rz_iadd G (dq jX7_put 26 rfl) ?_
      refine rz_iload_n G 2 rfl rfl (dq jX7_put 27 rfl) ?_
      refine rz_iadd G (dq jX7_put 28 rfl) ?_
      refine rz_lti (fun w5 e_w5 => ?_)
      refine rz_istore G (lv' := [(5, .int w5), (4, .int ((-1))), (0, .ref q0), (1, .int x1), (2, .int x2), (3, .int x3)]) (Nat.le_of_ble_eq_true rfl) rfl (dq jX7_put 29 rfl) ?_
      refine rz_iload G 0 rfl (dq jX7_put 30 rfl) ?_
      refine rz_if_lt G (tgt := 83) rfl (dq jX7_put 31 rfl) (fun c6 => ?_) (fun c6 => ?_)
      · refine rz_iload G 1 rfl (dq jX7_put 47 rfl) ?_
        exact rz_iret G (dq jX7_put 48 rfl)
      · refine rz_iload G 0 rfl (dq jX7_put 32 rfl) ?_
        refine rz_aload_n G 2 rfl rfl (dq jX7_put 33 rfl) ?_
        refine rz_getC G flX7_9 (sc_sh h_q0) (t := (q0 + 1)) rfl rfl (dq jX7_put 34 rfl) ?_
        refine rz_alen G (v := 24) (sc_s1 h_q0) (by decide) (by decide) (dq jX7_put 35 rfl) ?_
        refine rz_icmp_ge G (tgt := 83) rfl (dq jX7_put 36 rfl) (fun c7 => ?_) (fun c7 => ?_)
        · refine rz_iload G 1 rfl (dq jX7_put 47 rfl) ?_
          exact rz_iret G (dq jX7_put 48 rfl)
        · refine rz_aload_n G 2 rfl rfl (dq jX7_put 37 rfl) ?_
          refine rz_getC G flX7_9 (sc_sh h_q0) (t := (q0 + 1)) rfl rfl (dq jX7_put 38 rfl) ?_
          refine rz_iload G 0 rfl (dq jX7_put 39 rfl) ?_
          refine rz_iald G (sc_s1 h_q0) (dq jX7_put 40 rfl) (fun v8 => ?_)
          refine rz_istore G (lv' := [(4, .int v8), (5, .int w5), (0, .ref q0), (1, .int x1), (2, .int x2), (3, .int x3)]) (Nat.le_of_ble_eq_true rfl) rfl (dq jX7_put 41 rfl) ?_
          refine rz_aload_n G 2 rfl rfl (dq jX7_put 42 rfl) ?_
          refine rz_getC G flX7_9 (sc_sh h_q0) (t := (q0 + 1)) rfl rfl (dq jX7_put 43 rfl) ?_
          refine rz_iload G 1 rfl (dq jX7_put 44 rfl) ?_
          refine rz_iload_n G 5 rfl rfl (dq jX7_put 45 rfl) ?_
          refine rz_iast G (sc_s1 h_q0) (dq jX7_put 46 rfl) ?_
          refine rz_iload G 0 rfl (dq jX7_put 47 rfl) ?_
          exact rz_iret G (dq jX7_put 48 rfl)
theorem c_X7_dropOldestAct (l : Launch) (q0 : Nat) : Ct l yX7_dropOldestAct cX7_dropOldestAct 1 none 1 encV [.ref q0] (f_X7_dropOldestAct q0) := by
  refine ct_of (own := RX7) (by decide) rfl (Nat.le_of_ble_eq_true rfl) (fun Γ hl G => ?_)
  show Rz Γ 1 (Qm Γ encV 0 0) 0 0 0 [(0, .ref q0)] [] _
  unfold f_X7_dropOldestAct
  refine rz_gd (fun h_q0 => ?_)
  refine rz_aload_n G 0 rfl rfl (dq jX7_dropOldestAct 0 rfl) ?_
  refine rz_getC G flX7_22 (sc_sh h_q0) (t := (q0 + 2)) rfl rfl (dq jX7_dropOldestAct 1 rfl) ?_
  refine rz_iconst G (v := 1) (dq jX7_dropOldestAct 2 rfl) rfl ?_
  refine rz_aload_n G 0 rfl rfl (dq jX7_dropOldestAct 3 rfl) ?_
  refine rz_getC G flX7_22 (sc_sh h_q0) (t := (q0 + 2)) rfl rfl (dq jX7_dropOldestAct 4 rfl) ?_
  refine rz_iconst G (v := 0) (dq jX7_dropOldestAct 5 rfl) rfl ?_
  refine rz_bipush G (v := 39) (dq jX7_dropOldestAct 6 rfl) (by decide) ?_
  refine rz_copyi G 1 0 39 cpX7_37 (sc_s2 h_q0) (sc_s2 h_q0) (by decide) (by decide) (by decide) (by decide) (Nat.le_of_ble_eq_true rfl) (dq jX7_dropOldestAct 7 rfl) ?_
  refine rz_aload_n G 0 rfl rfl (dq jX7_dropOldestAct 8 rfl) ?_
  refine rz_getC G flX7_25 (sc_sh h_q0) (t := (q0 + 3)) rfl rfl (dq jX7_dropOldestAct 9 rfl) ?_
  refine rz_iconst G (v := 1) (dq jX7_dropOldestAct 10 rfl) rfl ?_
  refine rz_aload_n G 0 rfl rfl (dq jX7_dropOldestAct 11 rfl) ?_
  refine rz_getC G flX7_25 (sc_sh h_q0) (t := (q0 + 3)) rfl rfl (dq jX7_dropOldestAct 12 rfl) ?_
  refine rz_iconst G (v := 0) (dq jX7_dropOldestAct 13 rfl) rfl ?_
  refine rz_bipush G (v := 39) (dq jX7_dropOldestAct 14 rfl) (by decide) ?_
  refine rz_copyi G 1 0 39 cpX7_37 (sc_s3 h_q0) (sc_s3 h_q0) (by decide) (by decide) (by decide) (by decide) (Nat.le_of_ble_eq_true rfl) (dq jX7_dropOldestAct 15 rfl) ?_
  refine rz_aload_n G 0 rfl rfl (dq jX7_dropOldestAct 16 rfl) ?_
  refine rz_getC G flX7_28 (sc_sh h_q0) (t := (q0 + 4)) rfl rfl (dq jX7_dropOldestAct 17 rfl) ?_
  refine rz_iconst G (v := 1) (dq jX7_dropOldestAct 18 rfl) rfl ?_
  refine rz_aload_n G 0 rfl rfl (dq jX7_dropOldestAct 19 rfl) ?_
  refine rz_getC G flX7_28 (sc_sh h_q0) (t := (q0 + 4)) rfl rfl (dq jX7_dropOldestAct 20 rfl) ?_
  refine rz_iconst G (v := 0) (dq jX7_dropOldestAct 21 rfl) rfl ?_
  refine rz_bipush G (v := 39) (dq jX7_dropOldestAct 22 rfl) (by decide) ?_
  refine rz_copyi G 1 0 39 cpX7_37 (sc_s4 h_q0) (sc_s4 h_q0) (by decide) (by decide) (by decide) (by decide) (Nat.le_of_ble_eq_true rfl) (dq jX7_dropOldestAct 23 rfl) ?_
  refine rz_aload_n G 0 rfl rfl (dq jX7_dropOldestAct 24 rfl) ?_
  refine rz_bipush G (v := 39) (dq jX7_dropOldestAct 25 rfl) (by decide) ?_
  refine rz_putI G flX7_47 (sc_sh h_q0) rfl (dq jX7_dropOldestAct 26 rfl) ?_
  exact rz_vret G (dq jX7_dropOldestAct 27 rfl)
theorem z_X7_keepAct_b13 {Γ : Cx} (G : GG Γ RX7 cX7_keepAct 4 none 2 0 0) (q0 : Nat) (x1 : Int32) (x2 : Int32) (x3 : Int32) : Rz Γ 4 (Qm Γ encV 0 0) 0 0 13 [(0, .ref q0), (1, .int x1), (2, .int x2), (3, .int x3)] [] (f_X7_keepAct_b13 q0 x1 x2 x3) := by
  unfold f_X7_keepAct_b13
  refine rz_gd (fun h_q0 => ?_)
  refine rz_aload_n G 0 rfl rfl (dq jX7_keepAct 6 rfl) ?_
  refine rz_getI G flX7_47 (sc_sh h_q0) rfl (dq jX7_keepAct 7 rfl) (fun v1 => ?_)
  refine rz_if_lt G (tgt := 69) rfl (dq jX7_keepAct 8 rfl) (fun c2 => ?_) (fun c2 => ?_)
  · exact rz_vret G (dq jX7_keepAct 37 rfl)
  · refine rz_aload_n G 0 rfl rfl (dq jX7_keepAct 9 rfl) ?_
    refine rz_getI G flX7_47 (sc_sh h_q0) rfl (dq jX7_keepAct 10 rfl) (fun v3 => ?_)
    refine rz_bipush G (v := 40) (dq jX7_keepAct 11 rfl) (by decide) ?_
    refine rz_icmp_ge G (tgt := 69) rfl (dq jX7_keepAct 12 rfl) (fun c4 => ?_) (fun c4 => ?_)
    · exact rz_vret G (dq jX7_keepAct 37 rfl)
    · refine rz_aload_n G 0 rfl rfl (dq jX7_keepAct 13 rfl) ?_
      refine rz_getC G flX7_22 (sc_sh h_q0) (t := (q0 + 2)) rfl rfl (dq jX7_keepAct 14 rfl) ?_
      refine rz_aload_n G 0 rfl rfl (dq jX7_keepAct 15 rfl) ?_
      refine rz_getI G flX7_47 (sc_sh h_q0) rfl (dq jX7_keepAct 16 rfl) (fun v5 => ?_)
      refine rz_iload_n G 1 rfl rfl (dq jX7_keepAct 17 rfl) ?_
      refine rz_iast G (sc_s2 h_q0) (dq jX7_keepAct 18 rfl) ?_
      refine rz_aload_n G 0 rfl rfl (dq jX7_keepAct 19 rfl) ?_
      refine rz_getC G flX7_25 (sc_sh h_q0) (t := (q0 + 3)) rfl rfl (dq jX7_keepAct 20 rfl) ?_
      refine rz_aload_n G 0 rfl rfl (dq jX7_keepAct 21 rfl) ?_
      refine rz_getI G flX7_47 (sc_sh h_q0) rfl (dq jX7_keepAct 22 rfl) (fun v6 => ?_)
      refine rz_iload_n G 2 rfl rfl (dq jX7_keepAct 23 rfl) ?_
      refine rz_iast G (sc_s3 h_q0) (dq jX7_keepAct 24 rfl) ?_
      refine rz_aload_n G 0 rfl rfl (dq jX7_keepAct 25 rfl) ?_
      refine rz_getC G flX7_28 (sc_sh h_q0) (t := (q0 + 4)) rfl rfl (dq jX7_keepAct 26 rfl) ?_
      refine rz_aload_n G 0 rfl rfl (dq jX7_keepAct 27 rfl) ?_
      refine rz_getI G flX7_47 (sc_sh h_q0) rfl (dq jX7_keepAct 28 rfl) (fun v7 => ?_)
      refine rz_iload_n G 3 rfl rfl (dq jX7_keepAct 29 rfl) ?_
      refine rz_iast G (sc_s4 h_q0) (dq jX7_keepAct 30 rfl) ?_
      refine rz_aload_n G 0 rfl rfl (dq jX7_keepAct 31 rfl) ?_
      refine rz_dup G rfl (dq jX7_keepAct 32 rfl) ?_
      refine rz_getI G flX7_47 (sc_sh h_q0) rfl (dq jX7_keepAct 33 rfl) (fun v8 => ?_)
      refine rz_iconst G (v := 1) (dq jX7_keepAct 34 rfl) rfl ?_
      refine rz_iadd G (dq jX7_keepAct 35 rfl) ?_
      refine rz_putI G flX7_47 (sc_sh h_q0) rfl (dq jX7_keepAct 36 rfl) ?_
      exact rz_vret G (dq jX7_keepAct 37 rfl)
theorem c_X7_keepAct (l : Launch) (q0 : Nat) (x1 : Int32) (x2 : Int32) (x3 : Int32) : Ct l yX7_keepAct cX7_keepAct 4 none 2 encV [.ref q0, .int x1, .int x2, .int x3] (f_X7_keepAct q0 x1 x2 x3) := by
  refine ct_of (own := RX7) (by decide) rfl (Nat.le_of_ble_eq_true rfl) (fun Γ hl G => ?_)
  show Rz Γ 4 (Qm Γ encV 0 0) 0 0 0 [(0, .ref q0), (1, .int x1), (2, .int x2), (3, .int x3)] [] _
  unfold f_X7_keepAct
  refine rz_gd (fun h_q0 => ?_)
  refine rz_aload_n G 0 rfl rfl (dq jX7_keepAct 0 rfl) ?_
  refine rz_getI G flX7_47 (sc_sh h_q0) rfl (dq jX7_keepAct 1 rfl) (fun v1 => ?_)
  refine rz_bipush G (v := 40) (dq jX7_keepAct 2 rfl) (by decide) ?_
  refine rz_icmp_lt G (tgt := 13) rfl (dq jX7_keepAct 3 rfl) (fun c2 => ?_) (fun c2 => ?_)
  · exact rz_lv [0, 1, 2, 3] rfl (z_X7_keepAct_b13 G q0 x1 x2 x3)
  · refine rz_aload_n G 0 rfl rfl (dq jX7_keepAct 4 rfl) ?_
    refine rz_callVv G (st := []) (c_X7_dropOldestAct (cLn Γ) q0) lkX7_61 (sc_sh h_q0) rfl rfl rfl (Nat.le_of_ble_eq_true rfl) (Nat.le_of_ble_eq_true rfl) (dq jX7_keepAct 5 rfl) rfl (fun _ => ?_)
    exact rz_lv [0, 1, 2, 3] rfl (z_X7_keepAct_b13 G q0 x1 x2 x3)
theorem c_X7_act (l : Launch) (q0 : Nat) (x1 : Int32) (x2 : Int32) (x3 : Int32) : Ct l yX7_act cX7_act 5 (some .int) 3 encI [.ref q0, .int x1, .int x2, .int x3] (f_X7_act q0 x1 x2 x3) := by
  refine ct_of (own := RX7) (by decide) rfl (Nat.le_of_ble_eq_true rfl) (fun Γ hl G => ?_)
  show Rz Γ 5 (Qm Γ encI 0 0) 0 0 0 [(0, .ref q0), (1, .int x1), (2, .int x2), (3, .int x3)] [] _
  unfold f_X7_act
  refine rz_gd (fun h_q0 => ?_)
  refine rz_aload_n G 0 rfl rfl (dq jX7_act 0 rfl) ?_
  refine rz_iload_n G 1 rfl rfl (dq jX7_act 1 rfl) ?_
  refine rz_iload_n G 2 rfl rfl (dq jX7_act 2 rfl) ?_
  refine rz_iload_n G 3 rfl rfl (dq jX7_act 3 rfl) ?_
  refine rz_callVi G (st := []) (c_X7_put (cLn Γ) q0 x1 x2 x3) lkX7_53 (sc_sh h_q0) rfl rfl rfl (Nat.le_of_ble_eq_true rfl) (Nat.le_of_ble_eq_true rfl) (dq jX7_act 4 rfl) rfl (fun r1 => ?_)
  refine rz_istore G (lv' := [(4, .int r1), (0, .ref q0), (1, .int x1), (2, .int x2), (3, .int x3)]) (Nat.le_of_ble_eq_true rfl) rfl (dq jX7_act 5 rfl) ?_
  refine rz_aload_n G 1 rfl rfl (dq jX7_act 6 rfl) ?_
  refine rz_iload_n G 2 rfl rfl (dq jX7_act 7 rfl) ?_
  refine rz_iload_n G 3 rfl rfl (dq jX7_act 8 rfl) ?_
  refine rz_iload G 0 rfl (dq jX7_act 9 rfl) ?_
  refine rz_callVv G (st := []) (c_X7_keepAct (cLn Γ) q0 x1 x2 r1) lkX7_57 (sc_sh h_q0) rfl rfl rfl (Nat.le_of_ble_eq_true rfl) (Nat.le_of_ble_eq_true rfl) (dq jX7_act 10 rfl) rfl (fun _ => ?_)
  refine rz_iload G 0 rfl (dq jX7_act 11 rfl) ?_
  exact rz_iret G (dq jX7_act 12 rfl)
theorem c_X7_takeBack (l : Launch) (q0 : Nat) : Ct l yX7_takeBack cX7_takeBack 1 (some .boolean) 2 encI [.ref q0] (f_X7_takeBack q0) := by
  refine ct_of (own := RX7) (by decide) rfl (Nat.le_of_ble_eq_true rfl) (fun Γ hl G => ?_)
  show Rz Γ 1 (Qm Γ encI 0 0) 0 0 0 [(0, .ref q0)] [] _
  unfold f_X7_takeBack
  refine rz_gd (fun h_q0 => ?_)
  refine rz_aload_n G 0 rfl rfl (dq jX7_takeBack 0 rfl) ?_
  refine rz_getI G flX7_47 (sc_sh h_q0) rfl (dq jX7_takeBack 1 rfl) (fun v1 => ?_)
  refine rz_if_le G (tgt := 16) rfl (dq jX7_takeBack 2 rfl) (fun c2 => ?_) (fun c2 => ?_)
  · refine rz_iconst G (v := 0) (dq jX7_takeBack 7 rfl) rfl ?_
    exact rz_zret0 G (by decide) (dq jX7_takeBack 8 rfl)
  · refine rz_aload_n G 0 rfl rfl (dq jX7_takeBack 3 rfl) ?_
    refine rz_getI G flX7_47 (sc_sh h_q0) rfl (dq jX7_takeBack 4 rfl) (fun v3 => ?_)
    refine rz_bipush G (v := 40) (dq jX7_takeBack 5 rfl) (by decide) ?_
    refine rz_icmp_le G (tgt := 18) rfl (dq jX7_takeBack 6 rfl) (fun c4 => ?_) (fun c4 => ?_)
    · refine rz_aload_n G 0 rfl rfl (dq jX7_takeBack 9 rfl) ?_
      refine rz_dup G rfl (dq jX7_takeBack 10 rfl) ?_
      refine rz_getI G flX7_47 (sc_sh h_q0) rfl (dq jX7_takeBack 11 rfl) (fun v5 => ?_)
      refine rz_iconst G (v := 1) (dq jX7_takeBack 12 rfl) rfl ?_
      refine rz_isub G (dq jX7_takeBack 13 rfl) ?_
      refine rz_putI G flX7_47 (sc_sh h_q0) rfl (dq jX7_takeBack 14 rfl) ?_
      refine rz_aload_n G 0 rfl rfl (dq jX7_takeBack 15 rfl) ?_
      refine rz_aload_n G 0 rfl rfl (dq jX7_takeBack 16 rfl) ?_
      refine rz_getC G flX7_22 (sc_sh h_q0) (t := (q0 + 2)) rfl rfl (dq jX7_takeBack 17 rfl) ?_
      refine rz_aload_n G 0 rfl rfl (dq jX7_takeBack 18 rfl) ?_
      refine rz_getI G flX7_47 (sc_sh h_q0) rfl (dq jX7_takeBack 19 rfl) (fun v6 => ?_)
      refine rz_iald G (sc_s2 h_q0) (dq jX7_takeBack 20 rfl) (fun v7 => ?_)
      refine rz_aload_n G 0 rfl rfl (dq jX7_takeBack 21 rfl) ?_
      refine rz_getC G flX7_25 (sc_sh h_q0) (t := (q0 + 3)) rfl rfl (dq jX7_takeBack 22 rfl) ?_
      refine rz_aload_n G 0 rfl rfl (dq jX7_takeBack 23 rfl) ?_
      refine rz_getI G flX7_47 (sc_sh h_q0) rfl (dq jX7_takeBack 24 rfl) (fun v8 => ?_)
      refine rz_iald G (sc_s3 h_q0) (dq jX7_takeBack 25 rfl) (fun v9 => ?_)
      refine rz_aload_n G 0 rfl rfl (dq jX7_takeBack 26 rfl) ?_
      refine rz_getC G flX7_28 (sc_sh h_q0) (t := (q0 + 4)) rfl rfl (dq jX7_takeBack 27 rfl) ?_
      refine rz_aload_n G 0 rfl rfl (dq jX7_takeBack 28 rfl) ?_
      refine rz_getI G flX7_47 (sc_sh h_q0) rfl (dq jX7_takeBack 29 rfl) (fun v10 => ?_)
      refine rz_iald G (sc_s4 h_q0) (dq jX7_takeBack 30 rfl) (fun v11 => ?_)
      refine rz_callVi G (st := []) (c_X7_put (cLn Γ) q0 v7 v9 v11) lkX7_53 (sc_sh h_q0) rfl rfl rfl (Nat.le_of_ble_eq_true rfl) (Nat.le_of_ble_eq_true rfl) (dq jX7_takeBack 31 rfl) rfl (fun r12 => ?_)
      refine rz_pop G rfl (dq jX7_takeBack 32 rfl) ?_
      refine rz_iconst G (v := 1) (dq jX7_takeBack 33 rfl) rfl ?_
      exact rz_zret0 G (by decide) (dq jX7_takeBack 34 rfl)
    · refine rz_iconst G (v := 0) (dq jX7_takeBack 7 rfl) rfl ?_
      exact rz_zret0 G (by decide) (dq jX7_takeBack 8 rfl)
theorem c_X7_addPlace (l : Launch) (q0 : Nat) (x1 : Int32) : Ct l yX7_addPlace cX7_addPlace 2 (some .boolean) 1 encI [.ref q0, .int x1] (f_X7_addPlace q0 x1) := by
  refine ct_of (own := RX7) (by decide) rfl (Nat.le_of_ble_eq_true rfl) (fun Γ hl G => ?_)
  show Rz Γ 2 (Qm Γ encI 0 0) 0 0 0 [(0, .ref q0), (1, .int x1)] [] _
  unfold f_X7_addPlace
  refine rz_gd (fun h_q0 => ?_)
  refine rz_aload_n G 0 rfl rfl (dq jX7_addPlace 0 rfl) ?_
  refine rz_getI G flX7_50 (sc_sh h_q0) rfl (dq jX7_addPlace 1 rfl) (fun v1 => ?_)
  refine rz_if_lt G (tgt := 19) rfl (dq jX7_addPlace 2 rfl) (fun c2 => ?_) (fun c2 => ?_)
  · refine rz_iconst G (v := 0) (dq jX7_addPlace 9 rfl) rfl ?_
    exact rz_zret0 G (by decide) (dq jX7_addPlace 10 rfl)
  · refine rz_aload_n G 0 rfl rfl (dq jX7_addPlace 3 rfl) ?_
    refine rz_getI G flX7_50 (sc_sh h_q0) rfl (dq jX7_addPlace 4 rfl) (fun v3 => ?_)
    refine rz_aload_n G 0 rfl rfl (dq jX7_addPlace 5 rfl) ?_
    refine rz_getC G flX7_31 (sc_sh h_q0) (t := (q0 + 5)) rfl rfl (dq jX7_addPlace 6 rfl) ?_
    refine rz_alen G (v := 20) (sc_s5 h_q0) (by decide) (by decide) (dq jX7_addPlace 7 rfl) ?_
    refine rz_icmp_lt G (tgt := 21) rfl (dq jX7_addPlace 8 rfl) (fun c4 => ?_) (fun c4 => ?_)
    · refine rz_aload_n G 0 rfl rfl (dq jX7_addPlace 11 rfl) ?_
      refine rz_getC G flX7_31 (sc_sh h_q0) (t := (q0 + 5)) rfl rfl (dq jX7_addPlace 12 rfl) ?_
      refine rz_aload_n G 0 rfl rfl (dq jX7_addPlace 13 rfl) ?_
      refine rz_getI G flX7_50 (sc_sh h_q0) rfl (dq jX7_addPlace 14 rfl) (fun v5 => ?_)
      refine rz_iload_n G 1 rfl rfl (dq jX7_addPlace 15 rfl) ?_
      refine rz_iast G (sc_s5 h_q0) (dq jX7_addPlace 16 rfl) ?_
      refine rz_aload_n G 0 rfl rfl (dq jX7_addPlace 17 rfl) ?_
      refine rz_dup G rfl (dq jX7_addPlace 18 rfl) ?_
      refine rz_getI G flX7_50 (sc_sh h_q0) rfl (dq jX7_addPlace 19 rfl) (fun v6 => ?_)
      refine rz_iconst G (v := 1) (dq jX7_addPlace 20 rfl) rfl ?_
      refine rz_iadd G (dq jX7_addPlace 21 rfl) ?_
      refine rz_putI G flX7_50 (sc_sh h_q0) rfl (dq jX7_addPlace 22 rfl) ?_
      refine rz_iconst G (v := 1) (dq jX7_addPlace 23 rfl) rfl ?_
      exact rz_zret0 G (by decide) (dq jX7_addPlace 24 rfl)
    · refine rz_iconst G (v := 0) (dq jX7_addPlace 9 rfl) rfl ?_
      exact rz_zret0 G (by decide) (dq jX7_addPlace 10 rfl)
theorem z_X7_fitting_b87 {Γ : Cx} (G : GG Γ RX7 cX7_fitting 7 (some .int) 1 0 0) (k5 : Nat → Int32 → Int32 → Int32 → Sg → Option (Int32 × Sg)) (hk5 : ∀ (q0 : Nat) (x1 : Int32) (x2 : Int32) (x3 : Int32), Rz Γ 7 (Qm Γ encI 0 0) 0 0 5 [(0, .ref q0), (1, .int x1), (2, .int x2), (3, .int x3)] [] (k5 q0 x1 x2 x3)) (q0 : Nat) (x1 : Int32) (x3 : Int32) (xs0 : Int32) (xs1 : Int32) : Rz Γ 7 (Qm Γ encI 0 0) 0 0 87 [(0, .ref q0), (1, .int x1), (3, .int x3)] [.int xs0, .int xs1] (f_X7_fitting_b87 k5 q0 x1 x3 xs0 xs1) := by
  unfold f_X7_fitting_b87
  refine rz_gd (fun h_q0 => ?_)
  refine rz_iand G (dq jX7_fitting 53 rfl) ?_
  refine rz_istore_n G (lv' := [(2, .int (xs1 &&& xs0)), (0, .ref q0), (1, .int x1), (3, .int x3)]) rfl (Nat.le_of_ble_eq_true rfl) rfl (dq jX7_fitting 54 rfl) ?_
  refine rz_iinc G 3 (v := x3 + 1) (lv' := [(3, .int (x3 + 1)), (2, .int (xs1 &&& xs0)), (0, .ref q0), (1, .int x1)]) rfl (congrArg (HAdd.hAdd _) (by decide)) (Nat.le_of_ble_eq_true rfl) rfl (dq jX7_fitting 55 rfl) ?_
  refine rz_goto G (tgt := 5) rfl (dq jX7_fitting 56 rfl) ?_
  exact rz_lv [2, 3, 1, 0] rfl (hk5 q0 x1 (xs1 &&& xs0) (x3 + 1))
theorem z_X7_fitting_b69 {Γ : Cx} (G : GG Γ RX7 cX7_fitting 7 (some .int) 1 0 0) (k5 : Nat → Int32 → Int32 → Int32 → Sg → Option (Int32 × Sg)) (hk5 : ∀ (q0 : Nat) (x1 : Int32) (x2 : Int32) (x3 : Int32), Rz Γ 7 (Qm Γ encI 0 0) 0 0 5 [(0, .ref q0), (1, .int x1), (2, .int x2), (3, .int x3)] [] (k5 q0 x1 x2 x3)) (q0 : Nat) (x1 : Int32) (x2 : Int32) (x3 : Int32) (x5 : Int32) (xs0 : Int32) : Rz Γ 7 (Qm Γ encI 0 0) 0 0 69 [(0, .ref q0), (1, .int x1), (2, .int x2), (3, .int x3), (5, .int x5)] [.int xs0] (f_X7_fitting_b69 k5 q0 x1 x2 x3 x5 xs0) := by
  unfold f_X7_fitting_b69
  refine rz_gd (fun h_q0 => ?_)
  refine rz_istore G (lv' := [(6, .int xs0), (0, .ref q0), (1, .int x1), (2, .int x2), (3, .int x3), (5, .int x5)]) (Nat.le_of_ble_eq_true rfl) rfl (dq jX7_fitting 42 rfl) ?_
  refine rz_iload_n G 3 rfl rfl (dq jX7_fitting 43 rfl) ?_
  refine rz_iload G 0 rfl (dq jX7_fitting 44 rfl) ?_
  refine rz_if_eq G (tgt := 86) rfl (dq jX7_fitting 45 rfl) (fun c1 => ?_) (fun c1 => ?_)
  · refine rz_iconst G (v := 0) (dq jX7_fitting 52 rfl) rfl ?_
    exact rz_lv [1, 2, 4] rfl (z_X7_fitting_b87 G k5 hk5 q0 x1 x3 0 x2)
  · refine rz_iconst G (v := 1) (dq jX7_fitting 46 rfl) rfl ?_
    refine rz_iconst G (v := 3) (dq jX7_fitting 47 rfl) rfl ?_
    refine rz_iload G 5 rfl (dq jX7_fitting 48 rfl) ?_
    refine rz_iadd G (dq jX7_fitting 49 rfl) ?_
    refine rz_ishl G (dq jX7_fitting 50 rfl) ?_
    refine rz_goto G (tgt := 87) rfl (dq jX7_fitting 51 rfl) ?_
    exact rz_lv [1, 2, 4] rfl (z_X7_fitting_b87 G k5 hk5 q0 x1 x3 ((1 : Int32) <<< ((3 + x5) &&& 31)) x2)
theorem z_X7_fitting_b68 {Γ : Cx} (G : GG Γ RX7 cX7_fitting 7 (some .int) 1 0 0) (k5 : Nat → Int32 → Int32 → Int32 → Sg → Option (Int32 × Sg)) (hk5 : ∀ (q0 : Nat) (x1 : Int32) (x2 : Int32) (x3 : Int32), Rz Γ 7 (Qm Γ encI 0 0) 0 0 5 [(0, .ref q0), (1, .int x1), (2, .int x2), (3, .int x3)] [] (k5 q0 x1 x2 x3)) (q0 : Nat) (x1 : Int32) (x2 : Int32) (x3 : Int32) (x5 : Int32) : Rz Γ 7 (Qm Γ encI 0 0) 0 0 68 [(0, .ref q0), (1, .int x1), (2, .int x2), (3, .int x3), (5, .int x5)] [] (f_X7_fitting_b68 k5 q0 x1 x2 x3 x5) := by
  unfold f_X7_fitting_b68
  refine rz_gd (fun h_q0 => ?_)
  refine rz_iconst G (v := 0) (dq jX7_fitting 41 rfl) rfl ?_
  exact rz_lv [0, 1, 2, 3, 4] rfl (z_X7_fitting_b69 G k5 hk5 q0 x1 x2 x3 x5 0)
theorem z_X7_fitting_b5 {Γ : Cx} (G : GG Γ RX7 cX7_fitting 7 (some .int) 1 0 0) : ∀ (fu : Nat) (q0 : Nat) (x1 : Int32) (x2 : Int32) (x3 : Int32), Rz Γ 7 (Qm Γ encI 0 0) 0 0 5 [(0, .ref q0), (1, .int x1), (2, .int x2), (3, .int x3)] [] (f_X7_fitting_b5 fu q0 x1 x2 x3) := by
  intro fu
  induction fu with
  | zero => intro _ _ _ _; exact rz_none
  | succ fu ih =>
    intro q0 x1 x2 x3
    rw [f_X7_fitting_b5]
    refine rz_gd (fun h_q0 => ?_)
    refine rz_iload_n G 3 rfl rfl (dq jX7_fitting 4 rfl) ?_
    refine rz_aload_n G 0 rfl rfl (dq jX7_fitting 5 rfl) ?_
    refine rz_getI G flX7_50 (sc_sh h_q0) rfl (dq jX7_fitting 6 rfl) (fun v1 => ?_)
    refine rz_icmp_ge G (tgt := 95) rfl (dq jX7_fitting 7 rfl) (fun c2 => ?_) (fun c2 => ?_)
    · refine rz_iload_n G 2 rfl rfl (dq jX7_fitting 57 rfl) ?_
      exact rz_iret G (dq jX7_fitting 58 rfl)
    · refine rz_iload_n G 3 rfl rfl (dq jX7_fitting 8 rfl) ?_
      refine rz_aload_n G 0 rfl rfl (dq jX7_fitting 9 rfl) ?_
      refine rz_getC G flX7_31 (sc_sh h_q0) (t := (q0 + 5)) rfl rfl (dq jX7_fitting 10 rfl) ?_
      refine rz_alen G (v := 20) (sc_s5 h_q0) (by decide) (by decide) (dq jX7_fitting 11 rfl) ?_
      refine rz_icmp_ge G (tgt := 95) rfl (dq jX7_fitting 12 rfl) (fun c3 => ?_) (fun c3 => ?_)
      · refine rz_iload_n G 2 rfl rfl (dq jX7_fitting 57 rfl) ?_
        exact rz_iret G (dq jX7_fitting 58 rfl)
      · refine rz_aload_n G 0 rfl rfl (dq jX7_fitting 13 rfl) ?_
        refine rz_getC G flX7_31 (sc_sh h_q0) (t := (q0 + 5)) rfl rfl (dq jX7_fitting 14 rfl) ?_
        refine rz_iload_n G 3 rfl rfl (dq jX7_fitting 15 rfl) ?_
        refine rz_iconst G (v := 1) (dq jX7_fitting 16 rfl) rfl ?_
        refine rz_isub G (dq jX7_fitting 17 rfl) ?_
        refine rz_iald G (sc_s5 h_q0) (dq jX7_fitting 18 rfl) (fun v4 => ?_)
        refine rz_istore G (lv' := [(4, .int v4), (0, .ref q0), (1, .int x1), (2, .int x2), (3, .int x3)]) (Nat.le_of_ble_eq_true rfl) rfl (dq jX7_fitting 19 rfl) ?_
        refine rz_aload_n G 1 rfl rfl (dq jX7_fitting 20 rfl) ?_
        refine rz_getC G flX7_31 (sc_sh h_q0) (t := (q0 + 5)) rfl rfl (dq jX7_fitting 21 rfl) ?_
        refine rz_iload_n G 4 rfl rfl (dq jX7_fitting 22 rfl) ?_
        refine rz_iald G (sc_s5 h_q0) (dq jX7_fitting 23 rfl) (fun v5 => ?_)
        refine rz_iload G 0 rfl (dq jX7_fitting 24 rfl) ?_
        refine rz_isub G (dq jX7_fitting 25 rfl) ?_
        refine rz_iload G 0 rfl (dq jX7_fitting 26 rfl) ?_
        refine rz_iload_n G 2 rfl rfl (dq jX7_fitting 27 rfl) ?_
        refine rz_imul G (dq jX7_fitting 28 rfl) ?_
        refine rz_bipush G (v := 40) (dq jX7_fitting 29 rfl) (by decide) ?_
        refine rz_idivN G (by decide) (dq jX7_fitting 30 rfl) ?_
        refine rz_isub G (dq jX7_fitting 31 rfl) ?_
        refine rz_lti (fun w6 e_w6 => ?_)
        refine rz_istore G (lv' := [(5, .int w6), (4, .int v4), (0, .ref q0), (1, .int x1), (2, .int x2), (3, .int x3)]) (Nat.le_of_ble_eq_true rfl) rfl (dq jX7_fitting 32 rfl) ?_
        refine rz_iload G 0 rfl (dq jX7_fitting 33 rfl) ?_
        refine rz_bipush G (v := (-3)) (dq jX7_fitting 34 rfl) (by decide) ?_
        refine rz_icmp_lt G (tgt := 68) rfl (dq jX7_fitting 35 rfl) (fun c7 => ?_) (fun c7 => ?_)
        · exact rz_lv [2, 3, 4, 5, 0] rfl (z_X7_fitting_b68 G (f_X7_fitting_b5 fu) ih q0 x1 x2 x3 w6)
        · refine rz_iload G 0 rfl (dq jX7_fitting 36 rfl) ?_
          refine rz_iconst G (v := 3) (dq jX7_fitting 37 rfl) rfl ?_
          refine rz_icmp_gt G (tgt := 68) rfl (dq jX7_fitting 38 rfl) (fun c8 => ?_) (fun c8 => ?_)
          · exact rz_lv [2, 3, 4, 5, 0] rfl (z_X7_fitting_b68 G (f_X7_fitting_b5 fu) ih q0 x1 x2 x3 w6)
          · refine rz_iconst G (v := 1) (dq jX7_fitting 39 rfl) rfl ?_
            refine rz_goto G (tgt := 69) rfl (dq jX7_fitting 40 rfl) ?_
            exact rz_lv [2, 3, 4, 5, 0] rfl (z_X7_fitting_b69 G (f_X7_fitting_b5 fu) ih q0 x1 x2 x3 w6 1)
theorem c_X7_fitting (l : Launch) (q0 : Nat) (x1 : Int32) : Ct l yX7_fitting cX7_fitting 7 (some .int) 1 encI [.ref q0, .int x1] (f_X7_fitting q0 x1) := by
  refine ct_of (own := RX7) (by decide) rfl (Nat.le_of_ble_eq_true rfl) (fun Γ hl G => ?_)
  show Rz Γ 7 (Qm Γ encI 0 0) 0 0 0 [(0, .ref q0), (1, .int x1)] [] _
  unfold f_X7_fitting
  refine rz_gd (fun h_q0 => ?_)
  refine rz_bipush G (v := 127) (dq jX7_fitting 0 rfl) (by decide) ?_
  refine rz_istore_n G (lv' := [(2, .int 127), (0, .ref q0), (1, .int x1)]) rfl (Nat.le_of_ble_eq_true rfl) rfl (dq jX7_fitting 1 rfl) ?_
  refine rz_iconst G (v := 1) (dq jX7_fitting 2 rfl) rfl ?_
  refine rz_istore_n G (lv' := [(3, .int 1), (2, .int 127), (0, .ref q0), (1, .int x1)]) rfl (Nat.le_of_ble_eq_true rfl) rfl (dq jX7_fitting 3 rfl) ?_
  exact rz_lv [2, 3, 1, 0] rfl (z_X7_fitting_b5 G FU q0 x1 127 1)
theorem c_X8_fail (l : Launch) (x1 : Int32) : Ct l yX8_fail cX8_fail 2 (some .boolean) 1 encI [.ref 14, .int x1] (f_X8_fail x1) := by
  refine ct_of (own := RX8) (by decide) rfl (Nat.le_of_ble_eq_true rfl) (fun Γ hl G => ?_)
  show Rz Γ 2 (Qm Γ encI 0 0) 0 0 0 [(0, .ref 14), (1, .int x1)] [] _
  unfold f_X8_fail
  refine rz_aload_n G 0 rfl rfl (dq jX8_fail 0 rfl) ?_
  refine rz_iload_n G 1 rfl rfl (dq jX8_fail 1 rfl) ?_
  refine rz_putI G flX8_47 sh14 rfl (dq jX8_fail 2 rfl) ?_
  refine rz_aload_n G 0 rfl rfl (dq jX8_fail 3 rfl) ?_
  refine rz_aload_n G 0 rfl rfl (dq jX8_fail 4 rfl) ?_
  refine rz_getC G flX8_12 sh14 (t := 15) rfl rfl (dq jX8_fail 5 rfl) ?_
  refine rz_getI G flX8_93 sh15 rfl (dq jX8_fail 6 rfl) (fun v1 => ?_)
  refine rz_putI G flX8_96 sh14 rfl (dq jX8_fail 7 rfl) ?_
  refine rz_iconst G (v := 0) (dq jX8_fail 8 rfl) rfl ?_
  exact rz_zret0 G (by decide) (dq jX8_fail 9 rfl)
theorem c_X8_passOnce (l : Launch) (x1 : Int32) : Ct l yX8_passOnce cX8_passOnce 2 (some .boolean) 9 encI [.ref 14, .int x1] (f_X8_passOnce x1) := by
  refine ct_of (own := RX8) (by decide) rfl (Nat.le_of_ble_eq_true rfl) (fun Γ hl G => ?_)
  show Rz Γ 2 (Qm Γ encI 0 0) 0 0 0 [(0, .ref 14), (1, .int x1)] [] _
  unfold f_X8_passOnce
  refine rz_aload_n G 0 rfl rfl (dq jX8_passOnce 0 rfl) ?_
  refine rz_getI G flX8_28 sh14 rfl (dq jX8_passOnce 1 rfl) (fun v1 => ?_)
  refine rz_iload_n G 1 rfl rfl (dq jX8_passOnce 2 rfl) ?_
  refine rz_iand G (dq jX8_passOnce 3 rfl) ?_
  refine rz_if_eq G (tgt := 15) rfl (dq jX8_passOnce 4 rfl) (fun c2 => ?_) (fun c2 => ?_)
  · refine rz_aload_n G 0 rfl rfl (dq jX8_passOnce 9 rfl) ?_
    refine rz_dup G rfl (dq jX8_passOnce 10 rfl) ?_
    refine rz_getI G flX8_28 sh14 rfl (dq jX8_passOnce 11 rfl) (fun v3 => ?_)
    refine rz_iload_n G 1 rfl rfl (dq jX8_passOnce 12 rfl) ?_
    refine rz_ior G (dq jX8_passOnce 13 rfl) ?_
    refine rz_putI G flX8_28 sh14 rfl (dq jX8_passOnce 14 rfl) ?_
    refine rz_aload_n G 0 rfl rfl (dq jX8_passOnce 15 rfl) ?_
    refine rz_getC G flX8_12 sh14 (t := 15) rfl rfl (dq jX8_passOnce 16 rfl) ?_
    refine rz_callVv G (st := []) (c_X5_next (cLn Γ)) lkX8_99 sh15 rfl rfl rfl (Nat.le_of_ble_eq_true rfl) (Nat.le_of_ble_eq_true rfl) (dq jX8_passOnce 17 rfl) rfl (fun _ => ?_)
    refine rz_iconst G (v := 1) (dq jX8_passOnce 18 rfl) rfl ?_
    exact rz_zret0 G (by decide) (dq jX8_passOnce 19 rfl)
  · refine rz_aload_n G 0 rfl rfl (dq jX8_passOnce 5 rfl) ?_
    refine rz_iconst G (v := 5) (dq jX8_passOnce 6 rfl) rfl ?_
    refine rz_callVi G (st := []) (c_X8_fail (cLn Γ) 5) lkX8_89 sh14 rfl rfl rfl (Nat.le_of_ble_eq_true rfl) (Nat.le_of_ble_eq_true rfl) (dq jX8_passOnce 7 rfl) rfl (fun r4 => ?_)
    exact rz_zret G (dq jX8_passOnce 8 rfl)
theorem z_X8_number_b41 {Γ : Cx} (G : GG Γ RX8 cX8_number 3 (some .boolean) 9 0 0)  : Rz Γ 3 (Qm Γ encI 0 0) 0 0 41 [(0, .ref 14)] [] (f_X8_number_b41 ) := by
  unfold f_X8_number_b41
  refine rz_aload_n G 0 rfl rfl (dq jX8_number 19 rfl) ?_
  refine rz_iconst G (v := 2) (dq jX8_number 20 rfl) rfl ?_
  refine rz_callVi G (st := []) (c_X8_fail (cLn Γ) 2) lkX8_89 sh14 rfl rfl rfl (Nat.le_of_ble_eq_true rfl) (Nat.le_of_ble_eq_true rfl) (dq jX8_number 21 rfl) rfl (fun r1 => ?_)
  exact rz_zret G (dq jX8_number 22 rfl)
theorem c_X8_number (l : Launch) (x1 : Int32) (x2 : Int32) : Ct l yX8_number cX8_number 3 (some .boolean) 9 encI [.ref 14, .int x1, .int x2] (f_X8_number x1 x2) := by
  refine ct_of (own := RX8) (by decide) rfl (Nat.le_of_ble_eq_true rfl) (fun Γ hl G => ?_)
  show Rz Γ 3 (Qm Γ encI 0 0) 0 0 0 [(0, .ref 14), (1, .int x1), (2, .int x2)] [] _
  unfold f_X8_number
  refine rz_aload_n G 0 rfl rfl (dq jX8_number 0 rfl) ?_
  refine rz_getC G flX8_12 sh14 (t := 15) rfl rfl (dq jX8_number 1 rfl) ?_
  refine rz_getI G flX8_36 sh15 rfl (dq jX8_number 2 rfl) (fun v1 => ?_)
  refine rz_sipush G (v := 257) (dq jX8_number 3 rfl) (by decide) ?_
  refine rz_icmp_eq G (tgt := 19) rfl (dq jX8_number 4 rfl) (fun c2 => ?_) (fun c2 => ?_)
  · refine rz_aload_n G 0 rfl rfl (dq jX8_number 9 rfl) ?_
    refine rz_getC G flX8_12 sh14 (t := 15) rfl rfl (dq jX8_number 10 rfl) ?_
    refine rz_getI G flX8_102 sh15 rfl (dq jX8_number 11 rfl) (fun v3 => ?_)
    refine rz_iload_n G 1 rfl rfl (dq jX8_number 12 rfl) ?_
    refine rz_icmp_lt G (tgt := 41) rfl (dq jX8_number 13 rfl) (fun c4 => ?_) (fun c4 => ?_)
    · exact rz_lv [0] rfl (z_X8_number_b41 G)
    · refine rz_aload_n G 0 rfl rfl (dq jX8_number 14 rfl) ?_
      refine rz_getC G flX8_12 sh14 (t := 15) rfl rfl (dq jX8_number 15 rfl) ?_
      refine rz_getI G flX8_102 sh15 rfl (dq jX8_number 16 rfl) (fun v5 => ?_)
      refine rz_iload_n G 2 rfl rfl (dq jX8_number 17 rfl) ?_
      refine rz_icmp_le G (tgt := 47) rfl (dq jX8_number 18 rfl) (fun c6 => ?_) (fun c6 => ?_)
      · refine rz_aload_n G 0 rfl rfl (dq jX8_number 23 rfl) ?_
        refine rz_aload_n G 0 rfl rfl (dq jX8_number 24 rfl) ?_
        refine rz_getC G flX8_12 sh14 (t := 15) rfl rfl (dq jX8_number 25 rfl) ?_
        refine rz_getI G flX8_102 sh15 rfl (dq jX8_number 26 rfl) (fun v7 => ?_)
        refine rz_putI G flX8_105 sh14 rfl (dq jX8_number 27 rfl) ?_
        refine rz_aload_n G 0 rfl rfl (dq jX8_number 28 rfl) ?_
        refine rz_getC G flX8_12 sh14 (t := 15) rfl rfl (dq jX8_number 29 rfl) ?_
        refine rz_callVv G (st := []) (c_X5_next (cLn Γ)) lkX8_99 sh15 rfl rfl rfl (Nat.le_of_ble_eq_true rfl) (Nat.le_of_ble_eq_true rfl) (dq jX8_number 30 rfl) rfl (fun _ => ?_)
        refine rz_iconst G (v := 1) (dq jX8_number 31 rfl) rfl ?_
        exact rz_zret0 G (by decide) (dq jX8_number 32 rfl)
      · exact rz_lv [0] rfl (z_X8_number_b41 G)
  · refine rz_aload_n G 0 rfl rfl (dq jX8_number 5 rfl) ?_
    refine rz_iconst G (v := 1) (dq jX8_number 6 rfl) rfl ?_
    refine rz_callVi G (st := []) (c_X8_fail (cLn Γ) 1) lkX8_89 sh14 rfl rfl rfl (Nat.le_of_ble_eq_true rfl) (Nat.le_of_ble_eq_true rfl) (dq jX8_number 7 rfl) rfl (fun r8 => ?_)
    exact rz_zret G (dq jX8_number 8 rfl)
theorem c_X8_tellMat (l : Launch)  : Ct l yX8_tellMat cX8_tellMat 1 (some .boolean) 10 encI [.ref 14] (f_X8_tellMat ) := by
  refine ct_of (own := RX8) (by decide) rfl (Nat.le_of_ble_eq_true rfl) (fun Γ hl G => ?_)
  show Rz Γ 1 (Qm Γ encI 0 0) 0 0 0 [(0, .ref 14)] [] _
  unfold f_X8_tellMat
  refine rz_aload_n G 0 rfl rfl (dq jX8_tellMat 0 rfl) ?_
  refine rz_getR G flX8_21 sh14 rfl (dq jX8_tellMat 1 rfl) (fun u1 => ?_)
  refine rz_gd (fun h_u1 => ?_)
  refine rz_getI G flX8_112 (gd_sh h_u1) rfl (dq jX8_tellMat 2 rfl) (fun v2 => ?_)
  refine rz_if_le G (tgt := 16) rfl (dq jX8_tellMat 3 rfl) (fun c3 => ?_) (fun c3 => ?_)
  · refine rz_aload_n G 0 rfl rfl (dq jX8_tellMat 8 rfl) ?_
    refine rz_iconst G (v := 1) (dq jX8_tellMat 9 rfl) rfl ?_
    refine rz_callVi G (st := []) (c_X8_passOnce (cLn Γ) 1) lkX8_115 sh14 rfl rfl rfl (Nat.le_of_ble_eq_true rfl) (Nat.le_of_ble_eq_true rfl) (dq jX8_tellMat 10 rfl) rfl (fun r4 => ?_)
    refine rz_if_eq G (tgt := 34) rfl (dq jX8_tellMat 11 rfl) (fun c5 => ?_) (fun c5 => ?_)
    · refine rz_iconst G (v := 0) (dq jX8_tellMat 17 rfl) rfl ?_
      exact rz_zret0 G (by decide) (dq jX8_tellMat 18 rfl)
    · refine rz_aload_n G 0 rfl rfl (dq jX8_tellMat 12 rfl) ?_
      refine rz_iconst G (v := 1) (dq jX8_tellMat 13 rfl) rfl ?_
      refine rz_bipush G (v := 9) (dq jX8_tellMat 14 rfl) (by decide) ?_
      refine rz_callVi G (st := []) (c_X8_number (cLn Γ) 1 9) lkX8_108 sh14 rfl rfl rfl (Nat.le_of_ble_eq_true rfl) (Nat.le_of_ble_eq_true rfl) (dq jX8_tellMat 15 rfl) rfl (fun r6 => ?_)
      refine rz_if_ne G (tgt := 36) rfl (dq jX8_tellMat 16 rfl) (fun c7 => ?_) (fun c7 => ?_)
      · refine rz_iconst G (v := 0) (dq jX8_tellMat 17 rfl) rfl ?_
        exact rz_zret0 G (by decide) (dq jX8_tellMat 18 rfl)
      · refine rz_aload_n G 0 rfl rfl (dq jX8_tellMat 19 rfl) ?_
        refine rz_getR G flX8_21 sh14 rfl (dq jX8_tellMat 20 rfl) (fun u8 => ?_)
        refine rz_gd (fun h_u8 => ?_)
        refine rz_aload_n G 0 rfl rfl (dq jX8_tellMat 21 rfl) ?_
        refine rz_getI G flX8_105 sh14 rfl (dq jX8_tellMat 22 rfl) (fun v9 => ?_)
        refine rz_putI G flX8_118 (gd_sh h_u8) rfl (dq jX8_tellMat 23 rfl) ?_
        refine rz_aload_n G 0 rfl rfl (dq jX8_tellMat 24 rfl) ?_
        refine rz_iconst G (v := 3) (dq jX8_tellMat 25 rfl) rfl ?_
        refine rz_bipush G (v := 20) (dq jX8_tellMat 26 rfl) (by decide) ?_
        refine rz_callVi G (st := []) (c_X8_number (cLn Γ) 3 20) lkX8_108 sh14 rfl rfl rfl (Nat.le_of_ble_eq_true rfl) (Nat.le_of_ble_eq_true rfl) (dq jX8_tellMat 27 rfl) rfl (fun r10 => ?_)
        refine rz_if_ne G (tgt := 59) rfl (dq jX8_tellMat 28 rfl) (fun c11 => ?_) (fun c11 => ?_)
        · refine rz_iconst G (v := 0) (dq jX8_tellMat 29 rfl) rfl ?_
          exact rz_zret0 G (by decide) (dq jX8_tellMat 30 rfl)
        · refine rz_aload_n G 0 rfl rfl (dq jX8_tellMat 31 rfl) ?_
          refine rz_getR G flX8_21 sh14 rfl (dq jX8_tellMat 32 rfl) (fun u12 => ?_)
          refine rz_gd (fun h_u12 => ?_)
          refine rz_aload_n G 0 rfl rfl (dq jX8_tellMat 33 rfl) ?_
          refine rz_getI G flX8_105 sh14 rfl (dq jX8_tellMat 34 rfl) (fun v13 => ?_)
          refine rz_putI G flX8_121 (gd_sh h_u12) rfl (dq jX8_tellMat 35 rfl) ?_
          refine rz_aload_n G 0 rfl rfl (dq jX8_tellMat 36 rfl) ?_
          refine rz_bipush G (v := 10) (dq jX8_tellMat 37 rfl) (by decide) ?_
          refine rz_bipush G (v := 100) (dq jX8_tellMat 38 rfl) (by decide) ?_
          refine rz_callVi G (st := []) (c_X8_number (cLn Γ) 10 100) lkX8_108 sh14 rfl rfl rfl (Nat.le_of_ble_eq_true rfl) (Nat.le_of_ble_eq_true rfl) (dq jX8_tellMat 39 rfl) rfl (fun r14 => ?_)
          refine rz_if_ne G (tgt := 83) rfl (dq jX8_tellMat 40 rfl) (fun c15 => ?_) (fun c15 => ?_)
          · refine rz_iconst G (v := 0) (dq jX8_tellMat 41 rfl) rfl ?_
            exact rz_zret0 G (by decide) (dq jX8_tellMat 42 rfl)
          · refine rz_aload_n G 0 rfl rfl (dq jX8_tellMat 43 rfl) ?_
            refine rz_getR G flX8_21 sh14 rfl (dq jX8_tellMat 44 rfl) (fun u16 => ?_)
            refine rz_gd (fun h_u16 => ?_)
            refine rz_aload_n G 0 rfl rfl (dq jX8_tellMat 45 rfl) ?_
            refine rz_getI G flX8_105 sh14 rfl (dq jX8_tellMat 46 rfl) (fun v17 => ?_)
            refine rz_putI G flX8_124 (gd_sh h_u16) rfl (dq jX8_tellMat 47 rfl) ?_
            refine rz_iconst G (v := 1) (dq jX8_tellMat 48 rfl) rfl ?_
            exact rz_zret0 G (by decide) (dq jX8_tellMat 49 rfl)
  · refine rz_aload_n G 0 rfl rfl (dq jX8_tellMat 4 rfl) ?_
    refine rz_iconst G (v := 4) (dq jX8_tellMat 5 rfl) rfl ?_
    refine rz_callVi G (st := []) (c_X8_fail (cLn Γ) 4) lkX8_89 sh14 rfl rfl rfl (Nat.le_of_ble_eq_true rfl) (Nat.le_of_ble_eq_true rfl) (dq jX8_tellMat 6 rfl) rfl (fun r18 => ?_)
    exact rz_zret G (dq jX8_tellMat 7 rfl)
theorem z_X8_signed_b57 {Γ : Cx} (G : GG Γ RX8 cX8_signed 3 (some .boolean) 10 0 0) (xs0 : Int32) : Rz Γ 3 (Qm Γ encI 0 0) 0 0 57 [] [.int xs0, .ref 14] (f_X8_signed_b57 xs0) := by
  unfold f_X8_signed_b57
  refine rz_putI G flX8_105 sh14 rfl (dq jX8_signed 30 rfl) ?_
  refine rz_iconst G (v := 1) (dq jX8_signed 31 rfl) rfl ?_
  exact rz_zret0 G (by decide) (dq jX8_signed 32 rfl)
theorem z_X8_signed_b29 {Γ : Cx} (G : GG Γ RX8 cX8_signed 3 (some .boolean) 10 0 0) (x1 : Int32) (x2 : Int32) : Rz Γ 3 (Qm Γ encI 0 0) 0 0 29 [(0, .ref 14), (1, .int x1), (2, .int x2)] [] (f_X8_signed_b29 x1 x2) := by
  unfold f_X8_signed_b29
  refine rz_aload_n G 0 rfl rfl (dq jX8_signed 14 rfl) ?_
  refine rz_iconst G (v := 0) (dq jX8_signed 15 rfl) rfl ?_
  refine rz_iload_n G 1 rfl rfl (dq jX8_signed 16 rfl) ?_
  refine rz_callVi G (st := []) (c_X8_number (cLn Γ) 0 x1) lkX8_108 sh14 rfl rfl rfl (Nat.le_of_ble_eq_true rfl) (Nat.le_of_ble_eq_true rfl) (dq jX8_signed 17 rfl) rfl (fun r1 => ?_)
  refine rz_if_ne G (tgt := 40) rfl (dq jX8_signed 18 rfl) (fun c2 => ?_) (fun c2 => ?_)
  · refine rz_iconst G (v := 0) (dq jX8_signed 19 rfl) rfl ?_
    exact rz_zret0 G (by decide) (dq jX8_signed 20 rfl)
  · refine rz_aload_n G 0 rfl rfl (dq jX8_signed 21 rfl) ?_
    refine rz_iload_n G 2 rfl rfl (dq jX8_signed 22 rfl) ?_
    refine rz_if_eq G (tgt := 53) rfl (dq jX8_signed 23 rfl) (fun c3 => ?_) (fun c3 => ?_)
    · refine rz_aload_n G 0 rfl rfl (dq jX8_signed 28 rfl) ?_
      refine rz_getI G flX8_105 sh14 rfl (dq jX8_signed 29 rfl) (fun v4 => ?_)
      exact rz_lv [] rfl (z_X8_signed_b57 G v4)
    · refine rz_aload_n G 0 rfl rfl (dq jX8_signed 24 rfl) ?_
      refine rz_getI G flX8_105 sh14 rfl (dq jX8_signed 25 rfl) (fun v5 => ?_)
      refine rz_ineg G (dq jX8_signed 26 rfl) ?_
      refine rz_goto G (tgt := 57) rfl (dq jX8_signed 27 rfl) ?_
      exact rz_lv [] rfl (z_X8_signed_b57 G (-v5))
theorem z_X8_signed_b17 {Γ : Cx} (G : GG Γ RX8 cX8_signed 3 (some .boolean) 10 0 0) (x1 : Int32) (xs0 : Int32) : Rz Γ 3 (Qm Γ encI 0 0) 0 0 17 [(0, .ref 14), (1, .int x1)] [.int xs0] (f_X8_signed_b17 x1 xs0) := by
  unfold f_X8_signed_b17
  refine rz_istore_n G (lv' := [(2, .int xs0), (0, .ref 14), (1, .int x1)]) rfl (Nat.le_of_ble_eq_true rfl) rfl (dq jX8_signed 8 rfl) ?_
  refine rz_iload_n G 0 rfl rfl (dq jX8_signed 9 rfl) ?_
  refine rz_if_eq G (tgt := 29) rfl (dq jX8_signed 10 rfl) (fun c1 => ?_) (fun c1 => ?_)
  · exact rz_lv [1, 2, 0] rfl (z_X8_signed_b29 G x1 xs0)
  · refine rz_aload_n G 1 rfl rfl (dq jX8_signed 11 rfl) ?_
    refine rz_getC G flX8_12 sh14 (t := 15) rfl rfl (dq jX8_signed 12 rfl) ?_
    refine rz_callVv G (st := []) (c_X5_next (cLn Γ)) lkX8_99 sh15 rfl rfl rfl (Nat.le_of_ble_eq_true rfl) (Nat.le_of_ble_eq_true rfl) (dq jX8_signed 13 rfl) rfl (fun _ => ?_)
    exact rz_lv [1, 2, 0] rfl (z_X8_signed_b29 G x1 xs0)
theorem c_X8_signed (l : Launch) (x1 : Int32) : Ct l yX8_signed cX8_signed 3 (some .boolean) 10 encI [.ref 14, .int x1] (f_X8_signed x1) := by
  refine ct_of (own := RX8) (by decide) rfl (Nat.le_of_ble_eq_true rfl) (fun Γ hl G => ?_)
  show Rz Γ 3 (Qm Γ encI 0 0) 0 0 0 [(0, .ref 14), (1, .int x1)] [] _
  unfold f_X8_signed
  refine rz_aload_n G 0 rfl rfl (dq jX8_signed 0 rfl) ?_
  refine rz_getC G flX8_12 sh14 (t := 15) rfl rfl (dq jX8_signed 1 rfl) ?_
  refine rz_getI G flX8_36 sh15 rfl (dq jX8_signed 2 rfl) (fun v1 => ?_)
  refine rz_bipush G (v := 45) (dq jX8_signed 3 rfl) (by decide) ?_
  refine rz_icmp_ne G (tgt := 16) rfl (dq jX8_signed 4 rfl) (fun c2 => ?_) (fun c2 => ?_)
  · refine rz_iconst G (v := 1) (dq jX8_signed 5 rfl) rfl ?_
    refine rz_goto G (tgt := 17) rfl (dq jX8_signed 6 rfl) ?_
    exact rz_lv [0, 1] rfl (z_X8_signed_b17 G x1 1)
  · refine rz_iconst G (v := 0) (dq jX8_signed 7 rfl) rfl ?_
    exact rz_lv [0, 1] rfl (z_X8_signed_b17 G x1 0)
theorem c_X8_tellBroken (l : Launch)  : Ct l yX8_tellBroken cX8_tellBroken 1 (some .boolean) 11 encI [.ref 14] (f_X8_tellBroken ) := by
  refine ct_of (own := RX8) (by decide) rfl (Nat.le_of_ble_eq_true rfl) (fun Γ hl G => ?_)
  show Rz Γ 1 (Qm Γ encI 0 0) 0 0 0 [(0, .ref 14)] [] _
  unfold f_X8_tellBroken
  refine rz_aload_n G 0 rfl rfl (dq jX8_tellBroken 0 rfl) ?_
  refine rz_iconst G (v := 2) (dq jX8_tellBroken 1 rfl) rfl ?_
  refine rz_callVi G (st := []) (c_X8_passOnce (cLn Γ) 2) lkX8_115 sh14 rfl rfl rfl (Nat.le_of_ble_eq_true rfl) (Nat.le_of_ble_eq_true rfl) (dq jX8_tellBroken 2 rfl) rfl (fun r1 => ?_)
  refine rz_if_eq G (tgt := 16) rfl (dq jX8_tellBroken 3 rfl) (fun c2 => ?_) (fun c2 => ?_)
  · refine rz_iconst G (v := 0) (dq jX8_tellBroken 8 rfl) rfl ?_
    exact rz_zret0 G (by decide) (dq jX8_tellBroken 9 rfl)
  · refine rz_aload_n G 0 rfl rfl (dq jX8_tellBroken 4 rfl) ?_
    refine rz_iconst G (v := 3) (dq jX8_tellBroken 5 rfl) rfl ?_
    refine rz_callVi G (st := []) (c_X8_signed (cLn Γ) 3) lkX8_127 sh14 rfl rfl rfl (Nat.le_of_ble_eq_true rfl) (Nat.le_of_ble_eq_true rfl) (dq jX8_tellBroken 6 rfl) rfl (fun r3 => ?_)
    refine rz_if_ne G (tgt := 18) rfl (dq jX8_tellBroken 7 rfl) (fun c4 => ?_) (fun c4 => ?_)
    · refine rz_iconst G (v := 0) (dq jX8_tellBroken 8 rfl) rfl ?_
      exact rz_zret0 G (by decide) (dq jX8_tellBroken 9 rfl)
    · refine rz_aload_n G 0 rfl rfl (dq jX8_tellBroken 10 rfl) ?_
      refine rz_getR G flX8_21 sh14 rfl (dq jX8_tellBroken 11 rfl) (fun u5 => ?_)
      refine rz_gd (fun h_u5 => ?_)
      refine rz_aload_n G 0 rfl rfl (dq jX8_tellBroken 12 rfl) ?_
      refine rz_getI G flX8_105 sh14 rfl (dq jX8_tellBroken 13 rfl) (fun v6 => ?_)
      refine rz_putI G flX8_130 (gd_sh h_u5) rfl (dq jX8_tellBroken 14 rfl) ?_
      refine rz_iconst G (v := 1) (dq jX8_tellBroken 15 rfl) rfl ?_
      exact rz_zret0 G (by decide) (dq jX8_tellBroken 16 rfl)
theorem c_X8_tellNear (l : Launch)  : Ct l yX8_tellNear cX8_tellNear 1 (some .boolean) 10 encI [.ref 14] (f_X8_tellNear ) := by
  refine ct_of (own := RX8) (by decide) rfl (Nat.le_of_ble_eq_true rfl) (fun Γ hl G => ?_)
  show Rz Γ 1 (Qm Γ encI 0 0) 0 0 0 [(0, .ref 14)] [] _
  unfold f_X8_tellNear
  refine rz_aload_n G 0 rfl rfl (dq jX8_tellNear 0 rfl) ?_
  refine rz_iconst G (v := 4) (dq jX8_tellNear 1 rfl) rfl ?_
  refine rz_callVi G (st := []) (c_X8_passOnce (cLn Γ) 4) lkX8_115 sh14 rfl rfl rfl (Nat.le_of_ble_eq_true rfl) (Nat.le_of_ble_eq_true rfl) (dq jX8_tellNear 2 rfl) rfl (fun r1 => ?_)
  refine rz_if_eq G (tgt := 18) rfl (dq jX8_tellNear 3 rfl) (fun c2 => ?_) (fun c2 => ?_)
  · refine rz_iconst G (v := 0) (dq jX8_tellNear 9 rfl) rfl ?_
    exact rz_zret0 G (by decide) (dq jX8_tellNear 10 rfl)
  · refine rz_aload_n G 0 rfl rfl (dq jX8_tellNear 4 rfl) ?_
    refine rz_iconst G (v := 0) (dq jX8_tellNear 5 rfl) rfl ?_
    refine rz_bipush G (v := 9) (dq jX8_tellNear 6 rfl) (by decide) ?_
    refine rz_callVi G (st := []) (c_X8_number (cLn Γ) 0 9) lkX8_108 sh14 rfl rfl rfl (Nat.le_of_ble_eq_true rfl) (Nat.le_of_ble_eq_true rfl) (dq jX8_tellNear 7 rfl) rfl (fun r3 => ?_)
    refine rz_if_ne G (tgt := 20) rfl (dq jX8_tellNear 8 rfl) (fun c4 => ?_) (fun c4 => ?_)
    · refine rz_iconst G (v := 0) (dq jX8_tellNear 9 rfl) rfl ?_
      exact rz_zret0 G (by decide) (dq jX8_tellNear 10 rfl)
    · refine rz_aload_n G 0 rfl rfl (dq jX8_tellNear 11 rfl) ?_
      refine rz_getR G flX8_21 sh14 rfl (dq jX8_tellNear 12 rfl) (fun u5 => ?_)
      refine rz_gd (fun h_u5 => ?_)
      refine rz_aload_n G 0 rfl rfl (dq jX8_tellNear 13 rfl) ?_
      refine rz_getI G flX8_105 sh14 rfl (dq jX8_tellNear 14 rfl) (fun v6 => ?_)
      refine rz_putI G flX8_132 (gd_sh h_u5) rfl (dq jX8_tellNear 15 rfl) ?_
      refine rz_iconst G (v := 1) (dq jX8_tellNear 16 rfl) rfl ?_
      exact rz_zret0 G (by decide) (dq jX8_tellNear 17 rfl)
theorem z_X8_tellSlips_b78 {Γ : Cx} (G : GG Γ RX8 cX8_tellSlips 2 (some .boolean) 10 0 0) (xs0 : Int32) : Rz Γ 2 (Qm Γ encI 0 0) 0 0 78 [(0, .ref 14)] [.int xs0] (f_X8_tellSlips_b78 xs0) := by
  unfold f_X8_tellSlips_b78
  refine rz_istore_n G (lv' := [(1, .int xs0), (0, .ref 14)]) rfl (Nat.le_of_ble_eq_true rfl) rfl (dq jX8_tellSlips 39 rfl) ?_
  refine rz_aload_n G 1 rfl rfl (dq jX8_tellSlips 40 rfl) ?_
  refine rz_iload_n G 0 rfl rfl (dq jX8_tellSlips 41 rfl) ?_
  refine rz_bipush G (v := 9) (dq jX8_tellSlips 42 rfl) (by decide) ?_
  refine rz_callVi G (st := []) (c_X8_number (cLn Γ) xs0 9) lkX8_108 sh14 rfl rfl rfl (Nat.le_of_ble_eq_true rfl) (Nat.le_of_ble_eq_true rfl) (dq jX8_tellSlips 43 rfl) rfl (fun r1 => ?_)
  refine rz_if_ne G (tgt := 91) rfl (dq jX8_tellSlips 44 rfl) (fun c2 => ?_) (fun c2 => ?_)
  · refine rz_iconst G (v := 0) (dq jX8_tellSlips 45 rfl) rfl ?_
    exact rz_zret0 G (by decide) (dq jX8_tellSlips 46 rfl)
  · refine rz_aload_n G 1 rfl rfl (dq jX8_tellSlips 47 rfl) ?_
    refine rz_getR G flX8_21 sh14 rfl (dq jX8_tellSlips 48 rfl) (fun u3 => ?_)
    refine rz_gd (fun h_u3 => ?_)
    refine rz_aload_n G 1 rfl rfl (dq jX8_tellSlips 49 rfl) ?_
    refine rz_getI G flX8_105 sh14 rfl (dq jX8_tellSlips 50 rfl) (fun v4 => ?_)
    refine rz_putI G flX8_140 (gd_sh h_u3) rfl (dq jX8_tellSlips 51 rfl) ?_
    refine rz_iconst G (v := 1) (dq jX8_tellSlips 52 rfl) rfl ?_
    exact rz_zret0 G (by decide) (dq jX8_tellSlips 53 rfl)
theorem c_X8_tellSlips (l : Launch)  : Ct l yX8_tellSlips cX8_tellSlips 2 (some .boolean) 10 encI [.ref 14] (f_X8_tellSlips ) := by
  refine ct_of (own := RX8) (by decide) rfl (Nat.le_of_ble_eq_true rfl) (fun Γ hl G => ?_)
  show Rz Γ 2 (Qm Γ encI 0 0) 0 0 0 [(0, .ref 14)] [] _
  unfold f_X8_tellSlips
  refine rz_aload_n G 0 rfl rfl (dq jX8_tellSlips 0 rfl) ?_
  refine rz_bipush G (v := 8) (dq jX8_tellSlips 1 rfl) (by decide) ?_
  refine rz_callVi G (st := []) (c_X8_passOnce (cLn Γ) 8) lkX8_115 sh14 rfl rfl rfl (Nat.le_of_ble_eq_true rfl) (Nat.le_of_ble_eq_true rfl) (dq jX8_tellSlips 2 rfl) rfl (fun r1 => ?_)
  refine rz_if_eq G (tgt := 19) rfl (dq jX8_tellSlips 3 rfl) (fun c2 => ?_) (fun c2 => ?_)
  · refine rz_iconst G (v := 0) (dq jX8_tellSlips 9 rfl) rfl ?_
    exact rz_zret0 G (by decide) (dq jX8_tellSlips 10 rfl)
  · refine rz_aload_n G 0 rfl rfl (dq jX8_tellSlips 4 rfl) ?_
    refine rz_iconst G (v := 0) (dq jX8_tellSlips 5 rfl) rfl ?_
    refine rz_bipush G (v := 9) (dq jX8_tellSlips 6 rfl) (by decide) ?_
    refine rz_callVi G (st := []) (c_X8_number (cLn Γ) 0 9) lkX8_108 sh14 rfl rfl rfl (Nat.le_of_ble_eq_true rfl) (Nat.le_of_ble_eq_true rfl) (dq jX8_tellSlips 7 rfl) rfl (fun r3 => ?_)
    refine rz_if_ne G (tgt := 21) rfl (dq jX8_tellSlips 8 rfl) (fun c4 => ?_) (fun c4 => ?_)
    · refine rz_iconst G (v := 0) (dq jX8_tellSlips 9 rfl) rfl ?_
      exact rz_zret0 G (by decide) (dq jX8_tellSlips 10 rfl)
    · refine rz_aload_n G 0 rfl rfl (dq jX8_tellSlips 11 rfl) ?_
      refine rz_getR G flX8_21 sh14 rfl (dq jX8_tellSlips 12 rfl) (fun u5 => ?_)
      refine rz_gd (fun h_u5 => ?_)
      refine rz_aload_n G 0 rfl rfl (dq jX8_tellSlips 13 rfl) ?_
      refine rz_getI G flX8_105 sh14 rfl (dq jX8_tellSlips 14 rfl) (fun v6 => ?_)
      refine rz_putI G flX8_134 (gd_sh h_u5) rfl (dq jX8_tellSlips 15 rfl) ?_
      refine rz_aload_n G 0 rfl rfl (dq jX8_tellSlips 16 rfl) ?_
      refine rz_iconst G (v := 0) (dq jX8_tellSlips 17 rfl) rfl ?_
      refine rz_bipush G (v := 9) (dq jX8_tellSlips 18 rfl) (by decide) ?_
      refine rz_callVi G (st := []) (c_X8_number (cLn Γ) 0 9) lkX8_108 sh14 rfl rfl rfl (Nat.le_of_ble_eq_true rfl) (Nat.le_of_ble_eq_true rfl) (dq jX8_tellSlips 19 rfl) rfl (fun r7 => ?_)
      refine rz_if_ne G (tgt := 44) rfl (dq jX8_tellSlips 20 rfl) (fun c8 => ?_) (fun c8 => ?_)
      · refine rz_iconst G (v := 0) (dq jX8_tellSlips 21 rfl) rfl ?_
        exact rz_zret0 G (by decide) (dq jX8_tellSlips 22 rfl)
      · refine rz_aload_n G 0 rfl rfl (dq jX8_tellSlips 23 rfl) ?_
        refine rz_getR G flX8_21 sh14 rfl (dq jX8_tellSlips 24 rfl) (fun u9 => ?_)
        refine rz_gd (fun h_u9 => ?_)
        refine rz_aload_n G 0 rfl rfl (dq jX8_tellSlips 25 rfl) ?_
        refine rz_getI G flX8_105 sh14 rfl (dq jX8_tellSlips 26 rfl) (fun v10 => ?_)
        refine rz_putI G flX8_137 (gd_sh h_u9) rfl (dq jX8_tellSlips 27 rfl) ?_
        refine rz_aload_n G 0 rfl rfl (dq jX8_tellSlips 28 rfl) ?_
        refine rz_getR G flX8_21 sh14 rfl (dq jX8_tellSlips 29 rfl) (fun u11 => ?_)
        refine rz_gd (fun h_u11 => ?_)
        refine rz_getI G flX8_134 (gd_sh h_u11) rfl (dq jX8_tellSlips 30 rfl) (fun v12 => ?_)
        refine rz_aload_n G 0 rfl rfl (dq jX8_tellSlips 31 rfl) ?_
        refine rz_getR G flX8_21 sh14 rfl (dq jX8_tellSlips 32 rfl) (fun u13 => ?_)
        refine rz_gd (fun h_u13 => ?_)
        refine rz_getI G flX8_137 (gd_sh h_u13) rfl (dq jX8_tellSlips 33 rfl) (fun v14 => ?_)
        refine rz_iadd G (dq jX8_tellSlips 34 rfl) ?_
        refine rz_if_le G (tgt := 77) rfl (dq jX8_tellSlips 35 rfl) (fun c15 => ?_) (fun c15 => ?_)
        · refine rz_iconst G (v := 1) (dq jX8_tellSlips 38 rfl) rfl ?_
          exact rz_lv [0] rfl (z_X8_tellSlips_b78 G 1)
        · refine rz_iconst G (v := 0) (dq jX8_tellSlips 36 rfl) rfl ?_
          refine rz_goto G (tgt := 78) rfl (dq jX8_tellSlips 37 rfl) ?_
          exact rz_lv [0] rfl (z_X8_tellSlips_b78 G 0)
theorem c_X8_numberOfLast (l : Launch) (x1 : Int32) (x2 : Int32) (x3 : Int32) : Ct l yX8_numberOfLast cX8_numberOfLast 4 (some .boolean) 10 encI [.ref 14, .int x1, .int x2, .int x3] (f_X8_numberOfLast x1 x2 x3) := by
  refine ct_of (own := RX8) (by decide) rfl (Nat.le_of_ble_eq_true rfl) (fun Γ hl G => ?_)
  show Rz Γ 4 (Qm Γ encI 0 0) 0 0 0 [(0, .ref 14), (1, .int x1), (2, .int x2), (3, .int x3)] [] _
  unfold f_X8_numberOfLast
  refine rz_aload_n G 0 rfl rfl (dq jX8_numberOfLast 0 rfl) ?_
  refine rz_iload_n G 2 rfl rfl (dq jX8_numberOfLast 1 rfl) ?_
  refine rz_iload_n G 3 rfl rfl (dq jX8_numberOfLast 2 rfl) ?_
  refine rz_callVi G (st := []) (c_X8_number (cLn Γ) x2 x3) lkX8_108 sh14 rfl rfl rfl (Nat.le_of_ble_eq_true rfl) (Nat.le_of_ble_eq_true rfl) (dq jX8_numberOfLast 3 rfl) rfl (fun r1 => ?_)
  refine rz_if_ne G (tgt := 11) rfl (dq jX8_numberOfLast 4 rfl) (fun c2 => ?_) (fun c2 => ?_)
  · refine rz_iconst G (v := 0) (dq jX8_numberOfLast 5 rfl) rfl ?_
    exact rz_zret0 G (by decide) (dq jX8_numberOfLast 6 rfl)
  · refine rz_aload_n G 0 rfl rfl (dq jX8_numberOfLast 7 rfl) ?_
    refine rz_getR G flX8_21 sh14 rfl (dq jX8_numberOfLast 8 rfl) (fun u3 => ?_)
    refine rz_gd (fun h_u3 => ?_)
    refine rz_iload_n G 1 rfl rfl (dq jX8_numberOfLast 9 rfl) ?_
    refine rz_aload_n G 0 rfl rfl (dq jX8_numberOfLast 10 rfl) ?_
    refine rz_getI G flX8_105 sh14 rfl (dq jX8_numberOfLast 11 rfl) (fun v4 => ?_)
    refine rz_callVv G (st := []) (c_X2_tellOfLast (cLn Γ) u3 x1 v4) lkX8_147 (gd_sh h_u3) rfl rfl rfl (Nat.le_of_ble_eq_true rfl) (Nat.le_of_ble_eq_true rfl) (dq jX8_numberOfLast 12 rfl) rfl (fun _ => ?_)
    refine rz_iconst G (v := 1) (dq jX8_numberOfLast 13 rfl) rfl ?_
    exact rz_zret0 G (by decide) (dq jX8_numberOfLast 14 rfl)
theorem c_X8_tellJumper (l : Launch)  : Ct l yX8_tellJumper cX8_tellJumper 1 (some .boolean) 11 encI [.ref 14] (f_X8_tellJumper ) := by
  refine ct_of (own := RX8) (by decide) rfl (Nat.le_of_ble_eq_true rfl) (fun Γ hl G => ?_)
  show Rz Γ 1 (Qm Γ encI 0 0) 0 0 0 [(0, .ref 14)] [] _
  unfold f_X8_tellJumper
  refine rz_aload_n G 0 rfl rfl (dq jX8_tellJumper 0 rfl) ?_
  refine rz_getR G flX8_21 sh14 rfl (dq jX8_tellJumper 1 rfl) (fun u1 => ?_)
  refine rz_gd (fun h_u1 => ?_)
  refine rz_getI G flX8_112 (gd_sh h_u1) rfl (dq jX8_tellJumper 2 rfl) (fun v2 => ?_)
  refine rz_iconst G (v := 4) (dq jX8_tellJumper 3 rfl) rfl ?_
  refine rz_icmp_lt G (tgt := 17) rfl (dq jX8_tellJumper 4 rfl) (fun c3 => ?_) (fun c3 => ?_)
  · refine rz_aload_n G 0 rfl rfl (dq jX8_tellJumper 9 rfl) ?_
    refine rz_getC G flX8_12 sh14 (t := 15) rfl rfl (dq jX8_tellJumper 10 rfl) ?_
    refine rz_callVv G (st := []) (c_X5_next (cLn Γ)) lkX8_99 sh15 rfl rfl rfl (Nat.le_of_ble_eq_true rfl) (Nat.le_of_ble_eq_true rfl) (dq jX8_tellJumper 11 rfl) rfl (fun _ => ?_)
    refine rz_aload_n G 0 rfl rfl (dq jX8_tellJumper 12 rfl) ?_
    refine rz_getR G flX8_21 sh14 rfl (dq jX8_tellJumper 13 rfl) (fun u4 => ?_)
    refine rz_gd (fun h_u4 => ?_)
    refine rz_dup G rfl (dq jX8_tellJumper 14 rfl) ?_
    refine rz_getI G flX8_112 (gd_sh h_u4) rfl (dq jX8_tellJumper 15 rfl) (fun v5 => ?_)
    refine rz_iconst G (v := 1) (dq jX8_tellJumper 16 rfl) rfl ?_
    refine rz_iadd G (dq jX8_tellJumper 17 rfl) ?_
    refine rz_putI G flX8_112 (gd_sh h_u4) rfl (dq jX8_tellJumper 18 rfl) ?_
    refine rz_aload_n G 0 rfl rfl (dq jX8_tellJumper 19 rfl) ?_
    refine rz_iconst G (v := 0) (dq jX8_tellJumper 20 rfl) rfl ?_
    refine rz_iconst G (v := 1) (dq jX8_tellJumper 21 rfl) rfl ?_
    refine rz_bipush G (v := 99) (dq jX8_tellJumper 22 rfl) (by decide) ?_
    refine rz_callVi G (st := []) (c_X8_numberOfLast (cLn Γ) 0 1 99) lkX8_143 sh14 rfl rfl rfl (Nat.le_of_ble_eq_true rfl) (Nat.le_of_ble_eq_true rfl) (dq jX8_tellJumper 23 rfl) rfl (fun r6 => ?_)
    refine rz_if_eq G (tgt := 73) rfl (dq jX8_tellJumper 24 rfl) (fun c7 => ?_) (fun c7 => ?_)
    · refine rz_iconst G (v := 0) (dq jX8_tellJumper 37 rfl) rfl ?_
      exact rz_zret0 G (by decide) (dq jX8_tellJumper 38 rfl)
    · refine rz_aload_n G 0 rfl rfl (dq jX8_tellJumper 25 rfl) ?_
      refine rz_iconst G (v := 1) (dq jX8_tellJumper 26 rfl) rfl ?_
      refine rz_iconst G (v := 0) (dq jX8_tellJumper 27 rfl) rfl ?_
      refine rz_bipush G (v := 30) (dq jX8_tellJumper 28 rfl) (by decide) ?_
      refine rz_callVi G (st := []) (c_X8_numberOfLast (cLn Γ) 1 0 30) lkX8_143 sh14 rfl rfl rfl (Nat.le_of_ble_eq_true rfl) (Nat.le_of_ble_eq_true rfl) (dq jX8_tellJumper 29 rfl) rfl (fun r8 => ?_)
      refine rz_if_eq G (tgt := 73) rfl (dq jX8_tellJumper 30 rfl) (fun c9 => ?_) (fun c9 => ?_)
      · refine rz_iconst G (v := 0) (dq jX8_tellJumper 37 rfl) rfl ?_
        exact rz_zret0 G (by decide) (dq jX8_tellJumper 38 rfl)
      · refine rz_aload_n G 0 rfl rfl (dq jX8_tellJumper 31 rfl) ?_
        refine rz_aload_n G 0 rfl rfl (dq jX8_tellJumper 32 rfl) ?_
        refine rz_getR G flX8_21 sh14 rfl (dq jX8_tellJumper 33 rfl) (fun u10 => ?_)
        refine rz_gd (fun h_u10 => ?_)
        refine rz_getI G flX8_121 (gd_sh h_u10) rfl (dq jX8_tellJumper 34 rfl) (fun v11 => ?_)
        refine rz_callVi G (st := []) (c_X8_signed (cLn Γ) v11) lkX8_127 sh14 rfl rfl rfl (Nat.le_of_ble_eq_true rfl) (Nat.le_of_ble_eq_true rfl) (dq jX8_tellJumper 35 rfl) rfl (fun r12 => ?_)
        refine rz_if_ne G (tgt := 75) rfl (dq jX8_tellJumper 36 rfl) (fun c13 => ?_) (fun c13 => ?_)
        · refine rz_iconst G (v := 0) (dq jX8_tellJumper 37 rfl) rfl ?_
          exact rz_zret0 G (by decide) (dq jX8_tellJumper 38 rfl)
        · refine rz_aload_n G 0 rfl rfl (dq jX8_tellJumper 39 rfl) ?_
          refine rz_getR G flX8_21 sh14 rfl (dq jX8_tellJumper 40 rfl) (fun u14 => ?_)
          refine rz_gd (fun h_u14 => ?_)
          refine rz_iconst G (v := 2) (dq jX8_tellJumper 41 rfl) rfl ?_
          refine rz_aload_n G 0 rfl rfl (dq jX8_tellJumper 42 rfl) ?_
          refine rz_getI G flX8_105 sh14 rfl (dq jX8_tellJumper 43 rfl) (fun v15 => ?_)
          refine rz_callVv G (st := []) (c_X2_tellOfLast (cLn Γ) u14 2 v15) lkX8_147 (gd_sh h_u14) rfl rfl rfl (Nat.le_of_ble_eq_true rfl) (Nat.le_of_ble_eq_true rfl) (dq jX8_tellJumper 44 rfl) rfl (fun _ => ?_)
          refine rz_aload_n G 0 rfl rfl (dq jX8_tellJumper 45 rfl) ?_
          refine rz_getR G flX8_21 sh14 rfl (dq jX8_tellJumper 46 rfl) (fun u16 => ?_)
          refine rz_gd (fun h_u16 => ?_)
          refine rz_iconst G (v := 5) (dq jX8_tellJumper 47 rfl) rfl ?_
          refine rz_iconst G (v := 0) (dq jX8_tellJumper 48 rfl) rfl ?_
          refine rz_callVv G (st := []) (c_X2_tellOfLast (cLn Γ) u16 5 0) lkX8_147 (gd_sh h_u16) rfl rfl rfl (Nat.le_of_ble_eq_true rfl) (Nat.le_of_ble_eq_true rfl) (dq jX8_tellJumper 49 rfl) rfl (fun _ => ?_)
          refine rz_aload_n G 0 rfl rfl (dq jX8_tellJumper 50 rfl) ?_
          refine rz_iconst G (v := 3) (dq jX8_tellJumper 51 rfl) rfl ?_
          refine rz_iconst G (v := 0) (dq jX8_tellJumper 52 rfl) rfl ?_
          refine rz_bipush G (v := 99) (dq jX8_tellJumper 53 rfl) (by decide) ?_
          refine rz_callVi G (st := []) (c_X8_numberOfLast (cLn Γ) 3 0 99) lkX8_143 sh14 rfl rfl rfl (Nat.le_of_ble_eq_true rfl) (Nat.le_of_ble_eq_true rfl) (dq jX8_tellJumper 54 rfl) rfl (fun r17 => ?_)
          refine rz_if_eq G (tgt := 118) rfl (dq jX8_tellJumper 55 rfl) (fun c18 => ?_) (fun c18 => ?_)
          · refine rz_iconst G (v := 0) (dq jX8_tellJumper 62 rfl) rfl ?_
            exact rz_zret0 G (by decide) (dq jX8_tellJumper 63 rfl)
          · refine rz_aload_n G 0 rfl rfl (dq jX8_tellJumper 56 rfl) ?_
            refine rz_iconst G (v := 4) (dq jX8_tellJumper 57 rfl) rfl ?_
            refine rz_iconst G (v := 0) (dq jX8_tellJumper 58 rfl) rfl ?_
            refine rz_bipush G (v := 60) (dq jX8_tellJumper 59 rfl) (by decide) ?_
            refine rz_callVi G (st := []) (c_X8_numberOfLast (cLn Γ) 4 0 60) lkX8_143 sh14 rfl rfl rfl (Nat.le_of_ble_eq_true rfl) (Nat.le_of_ble_eq_true rfl) (dq jX8_tellJumper 60 rfl) rfl (fun r19 => ?_)
            refine rz_if_ne G (tgt := 120) rfl (dq jX8_tellJumper 61 rfl) (fun c20 => ?_) (fun c20 => ?_)
            · refine rz_iconst G (v := 0) (dq jX8_tellJumper 62 rfl) rfl ?_
              exact rz_zret0 G (by decide) (dq jX8_tellJumper 63 rfl)
            · refine rz_aload_n G 0 rfl rfl (dq jX8_tellJumper 64 rfl) ?_
              refine rz_getC G flX8_12 sh14 (t := 15) rfl rfl (dq jX8_tellJumper 65 rfl) ?_
              refine rz_ldcS G (List.mem_of_getElem? (l := ldcL) (i := 7) rfl) (dq jX8_tellJumper 66 rfl) ?_
              refine rz_callVi G (st := []) (c_X5_isWord (cLn Γ) 7) lkX8_52 sh15 rfl rfl rfl (Nat.le_of_ble_eq_true rfl) (Nat.le_of_ble_eq_true rfl) (dq jX8_tellJumper 67 rfl) rfl (fun r21 => ?_)
              refine rz_if_ne G (tgt := 134) rfl (dq jX8_tellJumper 68 rfl) (fun c22 => ?_) (fun c22 => ?_)
              · refine rz_iconst G (v := 1) (dq jX8_tellJumper 69 rfl) rfl ?_
                exact rz_zret0 G (by decide) (dq jX8_tellJumper 70 rfl)
              · refine rz_aload_n G 0 rfl rfl (dq jX8_tellJumper 71 rfl) ?_
                refine rz_getC G flX8_12 sh14 (t := 15) rfl rfl (dq jX8_tellJumper 72 rfl) ?_
                refine rz_callVv G (st := []) (c_X5_next (cLn Γ)) lkX8_99 sh15 rfl rfl rfl (Nat.le_of_ble_eq_true rfl) (Nat.le_of_ble_eq_true rfl) (dq jX8_tellJumper 73 rfl) rfl (fun _ => ?_)
                refine rz_aload_n G 0 rfl rfl (dq jX8_tellJumper 74 rfl) ?_
                refine rz_iconst G (v := 5) (dq jX8_tellJumper 75 rfl) rfl ?_
                refine rz_iconst G (v := 0) (dq jX8_tellJumper 76 rfl) rfl ?_
                refine rz_bipush G (v := 9) (dq jX8_tellJumper 77 rfl) (by decide) ?_
                refine rz_callVi G (st := []) (c_X8_numberOfLast (cLn Γ) 5 0 9) lkX8_143 sh14 rfl rfl rfl (Nat.le_of_ble_eq_true rfl) (Nat.le_of_ble_eq_true rfl) (dq jX8_tellJumper 78 rfl) rfl (fun r23 => ?_)
                exact rz_zret G (dq jX8_tellJumper 79 rfl)
  · refine rz_aload_n G 0 rfl rfl (dq jX8_tellJumper 5 rfl) ?_
    refine rz_iconst G (v := 2) (dq jX8_tellJumper 6 rfl) rfl ?_
    refine rz_callVi G (st := []) (c_X8_fail (cLn Γ) 2) lkX8_89 sh14 rfl rfl rfl (Nat.le_of_ble_eq_true rfl) (Nat.le_of_ble_eq_true rfl) (dq jX8_tellJumper 7 rfl) rfl (fun r24 => ?_)
    exact rz_zret G (dq jX8_tellJumper 8 rfl)
theorem z_X8_mayBeginPart_b38 {Γ : Cx} (G : GG Γ RX8 cX8_mayBeginPart 1 (some .boolean) 1 0 0)  : Rz Γ 1 (Qm Γ encI 0 0) 0 0 38 [] [] (f_X8_mayBeginPart_b38 ) := by
  unfold f_X8_mayBeginPart_b38
  refine rz_iconst G (v := 1) (dq jX8_mayBeginPart 15 rfl) rfl ?_
  refine rz_goto G (tgt := 43) rfl (dq jX8_mayBeginPart 16 rfl) ?_
  exact rz_zret0 G (by decide) (dq jX8_mayBeginPart 18 rfl)
theorem c_X8_mayBeginPart (l : Launch)  : Ct l yX8_mayBeginPart cX8_mayBeginPart 1 (some .boolean) 1 encI [.ref 14] (f_X8_mayBeginPart ) := by
  refine ct_of (own := RX8) (by decide) rfl (Nat.le_of_ble_eq_true rfl) (fun Γ hl G => ?_)
  show Rz Γ 1 (Qm Γ encI 0 0) 0 0 0 [(0, .ref 14)] [] _
  unfold f_X8_mayBeginPart
  refine rz_aload_n G 0 rfl rfl (dq jX8_mayBeginPart 0 rfl) ?_
  refine rz_getC G flX8_12 sh14 (t := 15) rfl rfl (dq jX8_mayBeginPart 1 rfl) ?_
  refine rz_getI G flX8_36 sh15 rfl (dq jX8_mayBeginPart 2 rfl) (fun v1 => ?_)
  refine rz_sipush G (v := 257) (dq jX8_mayBeginPart 3 rfl) (by decide) ?_
  refine rz_icmp_eq G (tgt := 38) rfl (dq jX8_mayBeginPart 4 rfl) (fun c2 => ?_) (fun c2 => ?_)
  · exact rz_lv [] rfl (z_X8_mayBeginPart_b38 G)
  · refine rz_aload_n G 0 rfl rfl (dq jX8_mayBeginPart 5 rfl) ?_
    refine rz_getC G flX8_12 sh14 (t := 15) rfl rfl (dq jX8_mayBeginPart 6 rfl) ?_
    refine rz_getI G flX8_36 sh15 rfl (dq jX8_mayBeginPart 7 rfl) (fun v3 => ?_)
    refine rz_sipush G (v := 256) (dq jX8_mayBeginPart 8 rfl) (by decide) ?_
    refine rz_icmp_eq G (tgt := 38) rfl (dq jX8_mayBeginPart 9 rfl) (fun c4 => ?_) (fun c4 => ?_)
    · exact rz_lv [] rfl (z_X8_mayBeginPart_b38 G)
    · refine rz_aload_n G 0 rfl rfl (dq jX8_mayBeginPart 10 rfl) ?_
      refine rz_getC G flX8_12 sh14 (t := 15) rfl rfl (dq jX8_mayBeginPart 11 rfl) ?_
      refine rz_getI G flX8_36 sh15 rfl (dq jX8_mayBeginPart 12 rfl) (fun v5 => ?_)
      refine rz_bipush G (v := 40) (dq jX8_mayBeginPart 13 rfl) (by decide) ?_
      refine rz_icmp_ne G (tgt := 42) rfl (dq jX8_mayBeginPart 14 rfl) (fun c6 => ?_) (fun c6 => ?_)
      · exact rz_lv [] rfl (z_X8_mayBeginPart_b38 G)
      · refine rz_iconst G (v := 0) (dq jX8_mayBeginPart 17 rfl) rfl ?_
        exact rz_zret0 G (by decide) (dq jX8_mayBeginPart 18 rfl)
theorem c_X8_pass (l : Launch) (x1 : Int32) : Ct l yX8_pass cX8_pass 2 (some .boolean) 9 encI [.ref 14, .int x1] (f_X8_pass x1) := by
  refine ct_of (own := RX8) (by decide) rfl (Nat.le_of_ble_eq_true rfl) (fun Γ hl G => ?_)
  show Rz Γ 2 (Qm Γ encI 0 0) 0 0 0 [(0, .ref 14), (1, .int x1)] [] _
  unfold f_X8_pass
  refine rz_aload_n G 0 rfl rfl (dq jX8_pass 0 rfl) ?_
  refine rz_getC G flX8_12 sh14 (t := 15) rfl rfl (dq jX8_pass 1 rfl) ?_
  refine rz_getI G flX8_36 sh15 rfl (dq jX8_pass 2 rfl) (fun v1 => ?_)
  refine rz_iload_n G 1 rfl rfl (dq jX8_pass 3 rfl) ?_
  refine rz_icmp_eq G (tgt := 17) rfl (dq jX8_pass 4 rfl) (fun c2 => ?_) (fun c2 => ?_)
  · refine rz_aload_n G 0 rfl rfl (dq jX8_pass 9 rfl) ?_
    refine rz_getC G flX8_12 sh14 (t := 15) rfl rfl (dq jX8_pass 10 rfl) ?_
    refine rz_callVv G (st := []) (c_X5_next (cLn Γ)) lkX8_99 sh15 rfl rfl rfl (Nat.le_of_ble_eq_true rfl) (Nat.le_of_ble_eq_true rfl) (dq jX8_pass 11 rfl) rfl (fun _ => ?_)
    refine rz_iconst G (v := 1) (dq jX8_pass 12 rfl) rfl ?_
    exact rz_zret0 G (by decide) (dq jX8_pass 13 rfl)
  · refine rz_aload_n G 0 rfl rfl (dq jX8_pass 5 rfl) ?_
    refine rz_iconst G (v := 1) (dq jX8_pass 6 rfl) rfl ?_
    refine rz_callVi G (st := []) (c_X8_fail (cLn Γ) 1) lkX8_89 sh14 rfl rfl rfl (Nat.le_of_ble_eq_true rfl) (Nat.le_of_ble_eq_true rfl) (dq jX8_pass 7 rfl) rfl (fun r3 => ?_)
    exact rz_zret G (dq jX8_pass 8 rfl)
theorem c_X8_valueTold (l : Launch)  : Ct l yX8_valueTold cX8_valueTold 1 (some .int) 9 encI [.ref 14] (f_X8_valueTold ) := by
  refine ct_of (own := RX8) (by decide) rfl (Nat.le_of_ble_eq_true rfl) (fun Γ hl G => ?_)
  show Rz Γ 1 (Qm Γ encI 0 0) 0 0 0 [(0, .ref 14)] [] _
  unfold f_X8_valueTold
  refine rz_aload_n G 0 rfl rfl (dq jX8_valueTold 0 rfl) ?_
  refine rz_getC G flX8_12 sh14 (t := 15) rfl rfl (dq jX8_valueTold 1 rfl) ?_
  refine rz_ldcS G (List.mem_of_getElem? (l := ldcL) (i := 10) rfl) (dq jX8_valueTold 2 rfl) ?_
  refine rz_callVi G (st := []) (c_X5_isWord (cLn Γ) 10) lkX8_52 sh15 rfl rfl rfl (Nat.le_of_ble_eq_true rfl) (Nat.le_of_ble_eq_true rfl) (dq jX8_valueTold 3 rfl) rfl (fun r1 => ?_)
  refine rz_if_eq G (tgt := 14) rfl (dq jX8_valueTold 4 rfl) (fun c2 => ?_) (fun c2 => ?_)
  · refine rz_aload_n G 0 rfl rfl (dq jX8_valueTold 7 rfl) ?_
    refine rz_getC G flX8_12 sh14 (t := 15) rfl rfl (dq jX8_valueTold 8 rfl) ?_
    refine rz_ldcS G (List.mem_of_getElem? (l := ldcL) (i := 11) rfl) (dq jX8_valueTold 9 rfl) ?_
    refine rz_callVi G (st := []) (c_X5_isWord (cLn Γ) 11) lkX8_52 sh15 rfl rfl rfl (Nat.le_of_ble_eq_true rfl) (Nat.le_of_ble_eq_true rfl) (dq jX8_valueTold 10 rfl) rfl (fun r3 => ?_)
    refine rz_if_eq G (tgt := 28) rfl (dq jX8_valueTold 11 rfl) (fun c4 => ?_) (fun c4 => ?_)
    · refine rz_aload_n G 0 rfl rfl (dq jX8_valueTold 14 rfl) ?_
      refine rz_getC G flX8_12 sh14 (t := 15) rfl rfl (dq jX8_valueTold 15 rfl) ?_
      refine rz_ldcS G (List.mem_of_getElem? (l := ldcL) (i := 12) rfl) (dq jX8_valueTold 16 rfl) ?_
      refine rz_callVi G (st := []) (c_X5_isWord (cLn Γ) 12) lkX8_52 sh15 rfl rfl rfl (Nat.le_of_ble_eq_true rfl) (Nat.le_of_ble_eq_true rfl) (dq jX8_valueTold 17 rfl) rfl (fun r5 => ?_)
      refine rz_if_eq G (tgt := 42) rfl (dq jX8_valueTold 18 rfl) (fun c6 => ?_) (fun c6 => ?_)
      · refine rz_aload_n G 0 rfl rfl (dq jX8_valueTold 21 rfl) ?_
        refine rz_getC G flX8_12 sh14 (t := 15) rfl rfl (dq jX8_valueTold 22 rfl) ?_
        refine rz_ldcS G (List.mem_of_getElem? (l := ldcL) (i := 13) rfl) (dq jX8_valueTold 23 rfl) ?_
        refine rz_callVi G (st := []) (c_X5_isWord (cLn Γ) 13) lkX8_52 sh15 rfl rfl rfl (Nat.le_of_ble_eq_true rfl) (Nat.le_of_ble_eq_true rfl) (dq jX8_valueTold 24 rfl) rfl (fun r7 => ?_)
        refine rz_if_eq G (tgt := 56) rfl (dq jX8_valueTold 25 rfl) (fun c8 => ?_) (fun c8 => ?_)
        · refine rz_aload_n G 0 rfl rfl (dq jX8_valueTold 28 rfl) ?_
          refine rz_getC G flX8_12 sh14 (t := 15) rfl rfl (dq jX8_valueTold 29 rfl) ?_
          refine rz_ldcS G (List.mem_of_getElem? (l := ldcL) (i := 14) rfl) (dq jX8_valueTold 30 rfl) ?_
          refine rz_callVi G (st := []) (c_X5_isWord (cLn Γ) 14) lkX8_52 sh15 rfl rfl rfl (Nat.le_of_ble_eq_true rfl) (Nat.le_of_ble_eq_true rfl) (dq jX8_valueTold 31 rfl) rfl (fun r9 => ?_)
          refine rz_if_eq G (tgt := 70) rfl (dq jX8_valueTold 32 rfl) (fun c10 => ?_) (fun c10 => ?_)
          · refine rz_aload_n G 0 rfl rfl (dq jX8_valueTold 35 rfl) ?_
            refine rz_getC G flX8_12 sh14 (t := 15) rfl rfl (dq jX8_valueTold 36 rfl) ?_
            refine rz_ldcS G (List.mem_of_getElem? (l := ldcL) (i := 15) rfl) (dq jX8_valueTold 37 rfl) ?_
            refine rz_callVi G (st := []) (c_X5_isWord (cLn Γ) 15) lkX8_52 sh15 rfl rfl rfl (Nat.le_of_ble_eq_true rfl) (Nat.le_of_ble_eq_true rfl) (dq jX8_valueTold 38 rfl) rfl (fun r11 => ?_)
            refine rz_if_eq G (tgt := 84) rfl (dq jX8_valueTold 39 rfl) (fun c12 => ?_) (fun c12 => ?_)
            · refine rz_aload_n G 0 rfl rfl (dq jX8_valueTold 42 rfl) ?_
              refine rz_getC G flX8_12 sh14 (t := 15) rfl rfl (dq jX8_valueTold 43 rfl) ?_
              refine rz_ldcS G (List.mem_of_getElem? (l := ldcL) (i := 16) rfl) (dq jX8_valueTold 44 rfl) ?_
              refine rz_callVi G (st := []) (c_X5_isWord (cLn Γ) 16) lkX8_52 sh15 rfl rfl rfl (Nat.le_of_ble_eq_true rfl) (Nat.le_of_ble_eq_true rfl) (dq jX8_valueTold 45 rfl) rfl (fun r13 => ?_)
              refine rz_if_eq G (tgt := 99) rfl (dq jX8_valueTold 46 rfl) (fun c14 => ?_) (fun c14 => ?_)
              · refine rz_aload_n G 0 rfl rfl (dq jX8_valueTold 49 rfl) ?_
                refine rz_getC G flX8_12 sh14 (t := 15) rfl rfl (dq jX8_valueTold 50 rfl) ?_
                refine rz_ldcS G (List.mem_of_getElem? (l := ldcL) (i := 17) rfl) (dq jX8_valueTold 51 rfl) ?_
                refine rz_callVi G (st := []) (c_X5_isWord (cLn Γ) 17) lkX8_52 sh15 rfl rfl rfl (Nat.le_of_ble_eq_true rfl) (Nat.le_of_ble_eq_true rfl) (dq jX8_valueTold 52 rfl) rfl (fun r15 => ?_)
                refine rz_if_eq G (tgt := 116) rfl (dq jX8_valueTold 53 rfl) (fun c16 => ?_) (fun c16 => ?_)
                · refine rz_iconst G (v := (-1)) (dq jX8_valueTold 56 rfl) rfl ?_
                  exact rz_iret G (dq jX8_valueTold 57 rfl)
                · refine rz_bipush G (v := 7) (dq jX8_valueTold 54 rfl) (by decide) ?_
                  refine rz_goto G (tgt := 117) rfl (dq jX8_valueTold 55 rfl) ?_
                  exact rz_iret G (dq jX8_valueTold 57 rfl)
              · refine rz_bipush G (v := 6) (dq jX8_valueTold 47 rfl) (by decide) ?_
                exact rz_iret G (dq jX8_valueTold 48 rfl)
            · refine rz_iconst G (v := 5) (dq jX8_valueTold 40 rfl) rfl ?_
              exact rz_iret G (dq jX8_valueTold 41 rfl)
          · refine rz_iconst G (v := 4) (dq jX8_valueTold 33 rfl) rfl ?_
            exact rz_iret G (dq jX8_valueTold 34 rfl)
        · refine rz_iconst G (v := 3) (dq jX8_valueTold 26 rfl) rfl ?_
          exact rz_iret G (dq jX8_valueTold 27 rfl)
      · refine rz_iconst G (v := 2) (dq jX8_valueTold 19 rfl) rfl ?_
        exact rz_iret G (dq jX8_valueTold 20 rfl)
    · refine rz_iconst G (v := 1) (dq jX8_valueTold 12 rfl) rfl ?_
      exact rz_iret G (dq jX8_valueTold 13 rfl)
  · refine rz_iconst G (v := 0) (dq jX8_valueTold 5 rfl) rfl ?_
    exact rz_iret G (dq jX8_valueTold 6 rfl)
theorem c_X8_part (l : Launch) (kE : Int32 → Sg → Option (Int32 × Sg)) {he : Nat} (hE : ∀ a, Ct l yX8_either cX8_either 3 (some .boolean) he encI [.ref 14, .int a] (kE a)) (x1 : Int32) : Ct l yX8_part cX8_part 3 (some .boolean) (he + 10) encI [.ref 14, .int x1] (f_X8_part kE x1) := by
  refine ct_of (own := RX8) (by decide) rfl (Nat.le_of_ble_eq_true rfl) (fun Γ hl G => ?_)
  subst hl
  show Rz Γ 3 (Qm Γ encI 0 0) 0 0 0 [(0, .ref 14), (1, .int x1)] [] _
  unfold f_X8_part
  refine rz_aload_n G 0 rfl rfl (dq jX8_part 0 rfl) ?_
  refine rz_getC G flX8_12 sh14 (t := 15) rfl rfl (dq jX8_part 1 rfl) ?_
  refine rz_getI G flX8_36 sh15 rfl (dq jX8_part 2 rfl) (fun v1 => ?_)
  refine rz_sipush G (v := 257) (dq jX8_part 3 rfl) (by decide) ?_
  refine rz_icmp_ne G (tgt := 42) rfl (dq jX8_part 4 rfl) (fun c2 => ?_) (fun c2 => ?_)
  · refine rz_aload_n G 0 rfl rfl (dq jX8_part 5 rfl) ?_
    refine rz_iconst G (v := 0) (dq jX8_part 6 rfl) rfl ?_
    refine rz_sipush G (v := 9999) (dq jX8_part 7 rfl) (by decide) ?_
    refine rz_callVi G (st := []) (c_X8_number (cLn Γ) 0 9999) lkX8_108 sh14 rfl rfl rfl (by omega) (Nat.le_of_ble_eq_true rfl) (dq jX8_part 8 rfl) rfl (fun r3 => ?_)
    refine rz_if_ne G (tgt := 26) rfl (dq jX8_part 9 rfl) (fun c4 => ?_) (fun c4 => ?_)
    · refine rz_iconst G (v := 0) (dq jX8_part 10 rfl) rfl ?_
      exact rz_zret0 G (by decide) (dq jX8_part 11 rfl)
    · refine rz_aload_n G 0 rfl rfl (dq jX8_part 12 rfl) ?_
      refine rz_getR G flX8_21 sh14 rfl (dq jX8_part 13 rfl) (fun u5 => ?_)
      refine rz_gd (fun h_u5 => ?_)
      refine rz_getC G flX8_160 (gd_sh h_u5) (t := (u5 + 3)) rfl rfl (dq jX8_part 14 rfl) ?_
      refine rz_aload_n G 0 rfl rfl (dq jX8_part 15 rfl) ?_
      refine rz_getI G flX8_105 sh14 rfl (dq jX8_part 16 rfl) (fun v6 => ?_)
      refine rz_callVv G (st := []) (c_X6_add (cLn Γ) (u5 + 3) v6) lkX8_183 (gd_s3 h_u5) rfl rfl rfl (by omega) (Nat.le_of_ble_eq_true rfl) (dq jX8_part 17 rfl) rfl (fun _ => ?_)
      refine rz_iconst G (v := 1) (dq jX8_part 18 rfl) rfl ?_
      exact rz_zret0 G (by decide) (dq jX8_part 19 rfl)
  · refine rz_aload_n G 0 rfl rfl (dq jX8_part 20 rfl) ?_
    refine rz_getC G flX8_12 sh14 (t := 15) rfl rfl (dq jX8_part 21 rfl) ?_
    refine rz_getI G flX8_36 sh15 rfl (dq jX8_part 22 rfl) (fun v7 => ?_)
    refine rz_sipush G (v := 256) (dq jX8_part 23 rfl) (by decide) ?_
    refine rz_icmp_ne G (tgt := 94) rfl (dq jX8_part 24 rfl) (fun c8 => ?_) (fun c8 => ?_)
    · refine rz_aload_n G 0 rfl rfl (dq jX8_part 25 rfl) ?_
      refine rz_callVi G (st := []) (c_X8_valueTold (cLn Γ)) lkX8_205 sh14 rfl rfl rfl (by omega) (Nat.le_of_ble_eq_true rfl) (dq jX8_part 26 rfl) rfl (fun r9 => ?_)
      refine rz_istore_n G (lv' := [(2, .int r9), (0, .ref 14), (1, .int x1)]) rfl (Nat.le_of_ble_eq_true rfl) rfl (dq jX8_part 27 rfl) ?_
      refine rz_iload_n G 0 rfl rfl (dq jX8_part 28 rfl) ?_
      refine rz_iconst G (v := (-1)) (dq jX8_part 29 rfl) rfl ?_
      refine rz_icmp_ne G (tgt := 71) rfl (dq jX8_part 30 rfl) (fun c10 => ?_) (fun c10 => ?_)
      · refine rz_aload_n G 1 rfl rfl (dq jX8_part 31 rfl) ?_
        refine rz_iconst G (v := 3) (dq jX8_part 32 rfl) rfl ?_
        refine rz_callVi G (st := []) (c_X8_fail (cLn Γ) 3) lkX8_89 sh14 rfl rfl rfl (by omega) (Nat.le_of_ble_eq_true rfl) (dq jX8_part 33 rfl) rfl (fun r11 => ?_)
        exact rz_zret G (dq jX8_part 34 rfl)
      · refine rz_aload_n G 1 rfl rfl (dq jX8_part 35 rfl) ?_
        refine rz_getR G flX8_21 sh14 rfl (dq jX8_part 36 rfl) (fun u12 => ?_)
        refine rz_gd (fun h_u12 => ?_)
        refine rz_getC G flX8_160 (gd_sh h_u12) (t := (u12 + 3)) rfl rfl (dq jX8_part 37 rfl) ?_
        refine rz_bipush G (v := (-10)) (dq jX8_part 38 rfl) (by decide) ?_
        refine rz_iload_n G 0 rfl rfl (dq jX8_part 39 rfl) ?_
        refine rz_isub G (dq jX8_part 40 rfl) ?_
        refine rz_callVv G (st := []) (c_X6_add (cLn Γ) (u12 + 3) (((-10)) - r9)) lkX8_183 (gd_s3 h_u12) rfl rfl rfl (by omega) (Nat.le_of_ble_eq_true rfl) (dq jX8_part 41 rfl) rfl (fun _ => ?_)
        refine rz_aload_n G 1 rfl rfl (dq jX8_part 42 rfl) ?_
        refine rz_getC G flX8_12 sh14 (t := 15) rfl rfl (dq jX8_part 43 rfl) ?_
        refine rz_callVv G (st := []) (c_X5_next (cLn Γ)) lkX8_99 sh15 rfl rfl rfl (by omega) (Nat.le_of_ble_eq_true rfl) (dq jX8_part 44 rfl) rfl (fun _ => ?_)
        refine rz_iconst G (v := 1) (dq jX8_part 45 rfl) rfl ?_
        exact rz_zret0 G (by decide) (dq jX8_part 46 rfl)
    · refine rz_aload_n G 0 rfl rfl (dq jX8_part 47 rfl) ?_
      refine rz_bipush G (v := 40) (dq jX8_part 48 rfl) (by decide) ?_
      refine rz_callVi G (st := []) (c_X8_pass (cLn Γ) 40) lkX8_43 sh14 rfl rfl rfl (by omega) (Nat.le_of_ble_eq_true rfl) (dq jX8_part 49 rfl) rfl (fun r13 => ?_)
      refine rz_if_eq G (tgt := 126) rfl (dq jX8_part 50 rfl) (fun c14 => ?_) (fun c14 => ?_)
      · refine rz_iconst G (v := 0) (dq jX8_part 63 rfl) rfl ?_
        exact rz_zret0 G (by decide) (dq jX8_part 64 rfl)
      · refine rz_aload_n G 0 rfl rfl (dq jX8_part 51 rfl) ?_
        refine rz_iload_n G 1 rfl rfl (dq jX8_part 52 rfl) ?_
        refine rz_iconst G (v := 1) (dq jX8_part 53 rfl) rfl ?_
        refine rz_iadd G (dq jX8_part 54 rfl) ?_
        refine rz_callVi G (st := []) (hE (x1 + 1)) lkX8_169 sh14 rfl rfl rfl (by omega) (Nat.le_of_ble_eq_true rfl) (dq jX8_part 55 rfl) rfl (fun r15 => ?_)
        refine rz_if_eq G (tgt := 126) rfl (dq jX8_part 56 rfl) (fun c16 => ?_) (fun c16 => ?_)
        · refine rz_iconst G (v := 0) (dq jX8_part 63 rfl) rfl ?_
          exact rz_zret0 G (by decide) (dq jX8_part 64 rfl)
        · refine rz_aload_n G 0 rfl rfl (dq jX8_part 57 rfl) ?_
          refine rz_bipush G (v := 41) (dq jX8_part 58 rfl) (by decide) ?_
          refine rz_callVi G (st := []) (c_X8_pass (cLn Γ) 41) lkX8_43 sh14 rfl rfl rfl (by omega) (Nat.le_of_ble_eq_true rfl) (dq jX8_part 59 rfl) rfl (fun r17 => ?_)
          refine rz_if_eq G (tgt := 126) rfl (dq jX8_part 60 rfl) (fun c18 => ?_) (fun c18 => ?_)
          · refine rz_iconst G (v := 0) (dq jX8_part 63 rfl) rfl ?_
            exact rz_zret0 G (by decide) (dq jX8_part 64 rfl)
          · refine rz_iconst G (v := 1) (dq jX8_part 61 rfl) rfl ?_
            refine rz_goto G (tgt := 127) rfl (dq jX8_part 62 rfl) ?_
            exact rz_zret0 G (by decide) (dq jX8_part 64 rfl)
theorem z_X8_product_b88 {Γ : Cx} (kE : Int32 → Sg → Option (Int32 × Sg)) {he : Nat} (hE : ∀ a, Ct (cLn Γ) yX8_either cX8_either 3 (some .boolean) he encI [.ref 14, .int a] (kE a)) (G : GG Γ RX8 cX8_product 4 (some .boolean) (he + 11) 0 0) (k12 : Int32 → Int32 → Sg → Option (Int32 × Sg)) (hk12 : ∀ (x1 : Int32) (x2 : Int32), Rz Γ 4 (Qm Γ encI 0 0) 0 0 12 [(0, .ref 14), (1, .int x1), (2, .int x2)] [] (k12 x1 x2)) (x1 : Int32) (x2 : Int32) (xs0 : Int32) (qs1 : Nat) : Rz Γ 4 (Qm Γ encI 0 0) 0 0 88 [(0, .ref 14), (1, .int x1), (2, .int x2)] [.int xs0, .ref qs1] (f_X8_product_b88 kE k12 x1 x2 xs0 qs1) := by
  unfold f_X8_product_b88
  refine rz_gd (fun h_qs1 => ?_)
  refine rz_callVv G (st := []) (c_X6_add (cLn Γ) qs1 xs0) lkX8_183 (ru_sh h_qs1) rfl rfl rfl (by omega) (Nat.le_of_ble_eq_true rfl) (dq jX8_product 43 rfl) rfl (fun _ => ?_)
  refine rz_iinc G 2 (v := x2 + 1) (lv' := [(2, .int (x2 + 1)), (0, .ref 14), (1, .int x1)]) rfl (congrArg (HAdd.hAdd _) (by decide)) (Nat.le_of_ble_eq_true rfl) rfl (dq jX8_product 44 rfl) ?_
  refine rz_goto G (tgt := 12) rfl (dq jX8_product 45 rfl) ?_
  exact rz_lv [1, 2, 0] rfl (hk12 x1 (x2 + 1))
theorem z_X8_product_b43 {Γ : Cx} (kE : Int32 → Sg → Option (Int32 × Sg)) {he : Nat} (hE : ∀ a, Ct (cLn Γ) yX8_either cX8_either 3 (some .boolean) he encI [.ref 14, .int a] (kE a)) (G : GG Γ RX8 cX8_product 4 (some .boolean) (he + 11) 0 0) (k12 : Int32 → Int32 → Sg → Option (Int32 × Sg)) (hk12 : ∀ (x1 : Int32) (x2 : Int32), Rz Γ 4 (Qm Γ encI 0 0) 0 0 12 [(0, .ref 14), (1, .int x1), (2, .int x2)] [] (k12 x1 x2)) (x1 : Int32) (x2 : Int32) : Rz Γ 4 (Qm Γ encI 0 0) 0 0 43 [(0, .ref 14), (1, .int x1), (2, .int x2)] [] (f_X8_product_b43 kE k12 x1 x2) := by
  unfold f_X8_product_b43
  refine rz_aload_n G 0 rfl rfl (dq jX8_product 21 rfl) ?_
  refine rz_getC G flX8_12 sh14 (t := 15) rfl rfl (dq jX8_product 22 rfl) ?_
  refine rz_getI G flX8_36 sh15 rfl (dq jX8_product 23 rfl) (fun v1 => ?_)
  refine rz_istore_n G (lv' := [(3, .int v1), (0, .ref 14), (1, .int x1), (2, .int x2)]) rfl (Nat.le_of_ble_eq_true rfl) rfl (dq jX8_product 24 rfl) ?_
  refine rz_aload_n G 1 rfl rfl (dq jX8_product 25 rfl) ?_
  refine rz_getC G flX8_12 sh14 (t := 15) rfl rfl (dq jX8_product 26 rfl) ?_
  refine rz_callVv G (st := []) (c_X5_next (cLn Γ)) lkX8_99 sh15 rfl rfl rfl (by omega) (Nat.le_of_ble_eq_true rfl) (dq jX8_product 27 rfl) rfl (fun _ => ?_)
  refine rz_aload_n G 1 rfl rfl (dq jX8_product 28 rfl) ?_
  refine rz_iload_n G 2 rfl rfl (dq jX8_product 29 rfl) ?_
  refine rz_callVi G (st := []) (c_X8_part (cLn Γ) kE hE x1) lkX8_202 sh14 rfl rfl rfl (by omega) (Nat.le_of_ble_eq_true rfl) (dq jX8_product 30 rfl) rfl (fun r2 => ?_)
  refine rz_if_ne G (tgt := 68) rfl (dq jX8_product 31 rfl) (fun c3 => ?_) (fun c3 => ?_)
  · refine rz_iconst G (v := 0) (dq jX8_product 32 rfl) rfl ?_
    exact rz_zret0 G (by decide) (dq jX8_product 33 rfl)
  · refine rz_aload_n G 1 rfl rfl (dq jX8_product 34 rfl) ?_
    refine rz_getR G flX8_21 sh14 rfl (dq jX8_product 35 rfl) (fun u4 => ?_)
    refine rz_gd (fun h_u4 => ?_)
    refine rz_getC G flX8_160 (gd_sh h_u4) (t := (u4 + 3)) rfl rfl (dq jX8_product 36 rfl) ?_
    refine rz_iload_n G 0 rfl rfl (dq jX8_product 37 rfl) ?_
    refine rz_bipush G (v := 42) (dq jX8_product 38 rfl) (by decide) ?_
    refine rz_icmp_ne G (tgt := 86) rfl (dq jX8_product 39 rfl) (fun c5 => ?_) (fun c5 => ?_)
    · refine rz_bipush G (v := (-8)) (dq jX8_product 40 rfl) (by decide) ?_
      refine rz_goto G (tgt := 88) rfl (dq jX8_product 41 rfl) ?_
      exact rz_lv [1, 2, 3] rfl (z_X8_product_b88 kE hE G k12 hk12 x1 x2 ((-8)) (u4 + 3))
    · refine rz_bipush G (v := (-9)) (dq jX8_product 42 rfl) (by decide) ?_
      exact rz_lv [1, 2, 3] rfl (z_X8_product_b88 kE hE G k12 hk12 x1 x2 ((-9)) (u4 + 3))
theorem z_X8_product_b12 {Γ : Cx} (kE : Int32 → Sg → Option (Int32 × Sg)) {he : Nat} (hE : ∀ a, Ct (cLn Γ) yX8_either cX8_either 3 (some .boolean) he encI [.ref 14, .int a] (kE a)) (G : GG Γ RX8 cX8_product 4 (some .boolean) (he + 11) 0 0) : ∀ (fu : Nat) (x1 : Int32) (x2 : Int32), Rz Γ 4 (Qm Γ encI 0 0) 0 0 12 [(0, .ref 14), (1, .int x1), (2, .int x2)] [] (f_X8_product_b12 kE fu x1 x2) := by
  intro fu
  induction fu with
  | zero => intro _ _; exact rz_none
  | succ fu ih =>
    intro x1 x2
    rw [f_X8_product_b12]
    refine rz_iload_n G 2 rfl rfl (dq jX8_product 8 rfl) ?_
    refine rz_sipush G (v := 600) (dq jX8_product 9 rfl) (by decide) ?_
    refine rz_icmp_ge G (tgt := 97) rfl (dq jX8_product 10 rfl) (fun c1 => ?_) (fun c1 => ?_)
    · refine rz_iconst G (v := 1) (dq jX8_product 46 rfl) rfl ?_
      exact rz_zret0 G (by decide) (dq jX8_product 47 rfl)
    · refine rz_aload_n G 0 rfl rfl (dq jX8_product 11 rfl) ?_
      refine rz_getC G flX8_12 sh14 (t := 15) rfl rfl (dq jX8_product 12 rfl) ?_
      refine rz_getI G flX8_36 sh15 rfl (dq jX8_product 13 rfl) (fun v2 => ?_)
      refine rz_bipush G (v := 42) (dq jX8_product 14 rfl) (by decide) ?_
      refine rz_icmp_eq G (tgt := 43) rfl (dq jX8_product 15 rfl) (fun c3 => ?_) (fun c3 => ?_)
      · exact rz_lv [0, 1, 2] rfl (z_X8_product_b43 kE hE G (f_X8_product_b12 kE fu) ih x1 x2)
      · refine rz_aload_n G 0 rfl rfl (dq jX8_product 16 rfl) ?_
        refine rz_getC G flX8_12 sh14 (t := 15) rfl rfl (dq jX8_product 17 rfl) ?_
        refine rz_getI G flX8_36 sh15 rfl (dq jX8_product 18 rfl) (fun v4 => ?_)
        refine rz_bipush G (v := 47) (dq jX8_product 19 rfl) (by decide) ?_
        refine rz_icmp_ne G (tgt := 97) rfl (dq jX8_product 20 rfl) (fun c5 => ?_) (fun c5 => ?_)
        · exact rz_lv [0, 1, 2] rfl (z_X8_product_b43 kE hE G (f_X8_product_b12 kE fu) ih x1 x2)
        · refine rz_iconst G (v := 1) (dq jX8_product 46 rfl) rfl ?_
          exact rz_zret0 G (by decide) (dq jX8_product 47 rfl)
theorem c_X8_product (l : Launch) (kE : Int32 → Sg → Option (Int32 × Sg)) {he : Nat} (hE : ∀ a, Ct l yX8_either cX8_either 3 (some .boolean) he encI [.ref 14, .int a] (kE a)) (x1 : Int32) : Ct l yX8_product cX8_product 4 (some .boolean) (he + 11) encI [.ref 14, .int x1] (f_X8_product kE x1) := by
  refine ct_of (own := RX8) (by decide) rfl (Nat.le_of_ble_eq_true rfl) (fun Γ hl G => ?_)
  subst hl
  show Rz Γ 4 (Qm Γ encI 0 0) 0 0 0 [(0, .ref 14), (1, .int x1)] [] _
  unfold f_X8_product
  refine rz_aload_n G 0 rfl rfl (dq jX8_product 0 rfl) ?_
  refine rz_iload_n G 1 rfl rfl (dq jX8_product 1 rfl) ?_
  refine rz_callVi G (st := []) (c_X8_part (cLn Γ) kE hE x1) lkX8_202 sh14 rfl rfl rfl (by omega) (Nat.le_of_ble_eq_true rfl) (dq jX8_product 2 rfl) rfl (fun r1 => ?_)
  refine rz_if_ne G (tgt := 10) rfl (dq jX8_product 3 rfl) (fun c2 => ?_) (fun c2 => ?_)
  · refine rz_iconst G (v := 0) (dq jX8_product 4 rfl) rfl ?_
    exact rz_zret0 G (by decide) (dq jX8_product 5 rfl)
  · refine rz_iconst G (v := 0) (dq jX8_product 6 rfl) rfl ?_
    refine rz_istore_n G (lv' := [(2, .int 0), (0, .ref 14), (1, .int x1)]) rfl (Nat.le_of_ble_eq_true rfl) rfl (dq jX8_product 7 rfl) ?_
    exact rz_lv [1, 2, 0] rfl (z_X8_product_b12 kE hE G FU x1 0)
theorem z_X8_sum_b88 {Γ : Cx} (kE : Int32 → Sg → Option (Int32 × Sg)) {he : Nat} (hE : ∀ a, Ct (cLn Γ) yX8_either cX8_either 3 (some .boolean) he encI [.ref 14, .int a] (kE a)) (G : GG Γ RX8 cX8_sum 4 (some .boolean) (he + 12) 0 0) (k12 : Int32 → Int32 → Sg → Option (Int32 × Sg)) (hk12 : ∀ (x1 : Int32) (x2 : Int32), Rz Γ 4 (Qm Γ encI 0 0) 0 0 12 [(0, .ref 14), (1, .int x1), (2, .int x2)] [] (k12 x1 x2)) (x1 : Int32) (x2 : Int32) (xs0 : Int32) (qs1 : Nat) : Rz Γ 4 (Qm Γ encI 0 0) 0 0 88 [(0, .ref 14), (1, .int x1), (2, .int x2)] [.int xs0, .ref qs1] (f_X8_sum_b88 kE k12 x1 x2 xs0 qs1) := by
  unfold f_X8_sum_b88
  refine rz_gd (fun h_qs1 => ?_)
  refine rz_callVv G (st := []) (c_X6_add (cLn Γ) qs1 xs0) lkX8_183 (ru_sh h_qs1) rfl rfl rfl (by omega) (Nat.le_of_ble_eq_true rfl) (dq jX8_sum 43 rfl) rfl (fun _ => ?_)
  refine rz_iinc G 2 (v := x2 + 1) (lv' := [(2, .int (x2 + 1)), (0, .ref 14), (1, .int x1)]) rfl (congrArg (HAdd.hAdd _) (by decide)) (Nat.le_of_ble_eq_true rfl) rfl (dq jX8_sum 44 rfl) ?_
  refine rz_goto G (tgt := 12) rfl (dq jX8_sum 45 rfl) ?_
  exact rz_lv [1, 2, 0] rfl (hk12 x1 (x2 + 1))
theorem z_X8_sum_b43 {Γ : Cx} (kE : Int32 → Sg → Option (Int32 × Sg)) {he : Nat} (hE : ∀ a, Ct (cLn Γ) yX8_either cX8_either 3 (some .boolean) he encI [.ref 14, .int a] (kE a)) (G : GG Γ RX8 cX8_sum 4 (some .boolean) (he + 12) 0 0) (k12 : Int32 → Int32 → Sg → Option (Int32 × Sg)) (hk12 : ∀ (x1 : Int32) (x2 : Int32), Rz Γ 4 (Qm Γ encI 0 0) 0 0 12 [(0, .ref 14), (1, .int x1), (2, .int x2)] [] (k12 x1 x2)) (x1 : Int32) (x2 : Int32) : Rz Γ 4 (Qm Γ encI 0 0) 0 0 43 [(0, .ref 14), (1, .int x1), (2, .int x2)] [] (f_X8_sum_b43 kE k12 x1 x2) := by
  unfold f_X8_sum_b43
  refine rz_aload_n G 0 rfl rfl (dq jX8_sum 21 rfl) ?_
  refine rz_getC G flX8_12 sh14 (t := 15) rfl rfl (dq jX8_sum 22 rfl) ?_
  refine rz_getI G flX8_36 sh15 rfl (dq jX8_sum 23 rfl) (fun v1 => ?_)
  refine rz_istore_n G (lv' := [(3, .int v1), (0, .ref 14), (1, .int x1), (2, .int x2)]) rfl (Nat.le_of_ble_eq_true rfl) rfl (dq jX8_sum 24 rfl) ?_
  refine rz_aload_n G 1 rfl rfl (dq jX8_sum 25 rfl) ?_
  refine rz_getC G flX8_12 sh14 (t := 15) rfl rfl (dq jX8_sum 26 rfl) ?_
  refine rz_callVv G (st := []) (c_X5_next (cLn Γ)) lkX8_99 sh15 rfl rfl rfl (by omega) (Nat.le_of_ble_eq_true rfl) (dq jX8_sum 27 rfl) rfl (fun _ => ?_)
  refine rz_aload_n G 1 rfl rfl (dq jX8_sum 28 rfl) ?_
  refine rz_iload_n G 2 rfl rfl (dq jX8_sum 29 rfl) ?_
  refine rz_callVi G (st := []) (c_X8_product (cLn Γ) kE hE x1) lkX8_199 sh14 rfl rfl rfl (by omega) (Nat.le_of_ble_eq_true rfl) (dq jX8_sum 30 rfl) rfl (fun r2 => ?_)
  refine rz_if_ne G (tgt := 68) rfl (dq jX8_sum 31 rfl) (fun c3 => ?_) (fun c3 => ?_)
  · refine rz_iconst G (v := 0) (dq jX8_sum 32 rfl) rfl ?_
    exact rz_zret0 G (by decide) (dq jX8_sum 33 rfl)
  · refine rz_aload_n G 1 rfl rfl (dq jX8_sum 34 rfl) ?_
    refine rz_getR G flX8_21 sh14 rfl (dq jX8_sum 35 rfl) (fun u4 => ?_)
    refine rz_gd (fun h_u4 => ?_)
    refine rz_getC G flX8_160 (gd_sh h_u4) (t := (u4 + 3)) rfl rfl (dq jX8_sum 36 rfl) ?_
    refine rz_iload_n G 0 rfl rfl (dq jX8_sum 37 rfl) ?_
    refine rz_bipush G (v := 43) (dq jX8_sum 38 rfl) (by decide) ?_
    refine rz_icmp_ne G (tgt := 86) rfl (dq jX8_sum 39 rfl) (fun c5 => ?_) (fun c5 => ?_)
    · refine rz_bipush G (v := (-6)) (dq jX8_sum 40 rfl) (by decide) ?_
      refine rz_goto G (tgt := 88) rfl (dq jX8_sum 41 rfl) ?_
      exact rz_lv [1, 2, 3] rfl (z_X8_sum_b88 kE hE G k12 hk12 x1 x2 ((-6)) (u4 + 3))
    · refine rz_bipush G (v := (-7)) (dq jX8_sum 42 rfl) (by decide) ?_
      exact rz_lv [1, 2, 3] rfl (z_X8_sum_b88 kE hE G k12 hk12 x1 x2 ((-7)) (u4 + 3))
theorem z_X8_sum_b12 {Γ : Cx} (kE : Int32 → Sg → Option (Int32 × Sg)) {he : Nat} (hE : ∀ a, Ct (cLn Γ) yX8_either cX8_either 3 (some .boolean) he encI [.ref 14, .int a] (kE a)) (G : GG Γ RX8 cX8_sum 4 (some .boolean) (he + 12) 0 0) : ∀ (fu : Nat) (x1 : Int32) (x2 : Int32), Rz Γ 4 (Qm Γ encI 0 0) 0 0 12 [(0, .ref 14), (1, .int x1), (2, .int x2)] [] (f_X8_sum_b12 kE fu x1 x2) := by
  intro fu
  induction fu with
  | zero => intro _ _; exact rz_none
  | succ fu ih =>
    intro x1 x2
    rw [f_X8_sum_b12]
    refine rz_iload_n G 2 rfl rfl (dq jX8_sum 8 rfl) ?_
    refine rz_sipush G (v := 600) (dq jX8_sum 9 rfl) (by decide) ?_
    refine rz_icmp_ge G (tgt := 97) rfl (dq jX8_sum 10 rfl) (fun c1 => ?_) (fun c1 => ?_)
    · refine rz_iconst G (v := 1) (dq jX8_sum 46 rfl) rfl ?_
      exact rz_zret0 G (by decide) (dq jX8_sum 47 rfl)
    · refine rz_aload_n G 0 rfl rfl (dq jX8_sum 11 rfl) ?_
      refine rz_getC G flX8_12 sh14 (t := 15) rfl rfl (dq jX8_sum 12 rfl) ?_
      refine rz_getI G flX8_36 sh15 rfl (dq jX8_sum 13 rfl) (fun v2 => ?_)
      refine rz_bipush G (v := 43) (dq jX8_sum 14 rfl) (by decide) ?_
      refine rz_icmp_eq G (tgt := 43) rfl (dq jX8_sum 15 rfl) (fun c3 => ?_) (fun c3 => ?_)
      · exact rz_lv [0, 1, 2] rfl (z_X8_sum_b43 kE hE G (f_X8_sum_b12 kE fu) ih x1 x2)
      · refine rz_aload_n G 0 rfl rfl (dq jX8_sum 16 rfl) ?_
        refine rz_getC G flX8_12 sh14 (t := 15) rfl rfl (dq jX8_sum 17 rfl) ?_
        refine rz_getI G flX8_36 sh15 rfl (dq jX8_sum 18 rfl) (fun v4 => ?_)
        refine rz_bipush G (v := 45) (dq jX8_sum 19 rfl) (by decide) ?_
        refine rz_icmp_ne G (tgt := 97) rfl (dq jX8_sum 20 rfl) (fun c5 => ?_) (fun c5 => ?_)
        · exact rz_lv [0, 1, 2] rfl (z_X8_sum_b43 kE hE G (f_X8_sum_b12 kE fu) ih x1 x2)
        · refine rz_iconst G (v := 1) (dq jX8_sum 46 rfl) rfl ?_
          exact rz_zret0 G (by decide) (dq jX8_sum 47 rfl)
theorem c_X8_sum (l : Launch) (kE : Int32 → Sg → Option (Int32 × Sg)) {he : Nat} (hE : ∀ a, Ct l yX8_either cX8_either 3 (some .boolean) he encI [.ref 14, .int a] (kE a)) (x1 : Int32) : Ct l yX8_sum cX8_sum 4 (some .boolean) (he + 12) encI [.ref 14, .int x1] (f_X8_sum kE x1) := by
  refine ct_of (own := RX8) (by decide) rfl (Nat.le_of_ble_eq_true rfl) (fun Γ hl G => ?_)
  subst hl
  show Rz Γ 4 (Qm Γ encI 0 0) 0 0 0 [(0, .ref 14), (1, .int x1)] [] _
  unfold f_X8_sum
  refine rz_aload_n G 0 rfl rfl (dq jX8_sum 0 rfl) ?_
  refine rz_iload_n G 1 rfl rfl (dq jX8_sum 1 rfl) ?_
  refine rz_callVi G (st := []) (c_X8_product (cLn Γ) kE hE x1) lkX8_199 sh14 rfl rfl rfl (by omega) (Nat.le_of_ble_eq_true rfl) (dq jX8_sum 2 rfl) rfl (fun r1 => ?_)
  refine rz_if_ne G (tgt := 10) rfl (dq jX8_sum 3 rfl) (fun c2 => ?_) (fun c2 => ?_)
  · refine rz_iconst G (v := 0) (dq jX8_sum 4 rfl) rfl ?_
    exact rz_zret0 G (by decide) (dq jX8_sum 5 rfl)
  · refine rz_iconst G (v := 0) (dq jX8_sum 6 rfl) rfl ?_
    refine rz_istore_n G (lv' := [(2, .int 0), (0, .ref 14), (1, .int x1)]) rfl (Nat.le_of_ble_eq_true rfl) rfl (dq jX8_sum 7 rfl) ?_
    exact rz_lv [1, 2, 0] rfl (z_X8_sum_b12 kE hE G FU x1 0)
theorem z_X8_test_b69 {Γ : Cx} (kE : Int32 → Sg → Option (Int32 × Sg)) {he : Nat} (hE : ∀ a, Ct (cLn Γ) yX8_either cX8_either 3 (some .boolean) he encI [.ref 14, .int a] (kE a)) (G : GG Γ RX8 cX8_test 3 (some .boolean) (he + 13) 0 0) (xs0 : Int32) (qs1 : Nat) : Rz Γ 3 (Qm Γ encI 0 0) 0 0 69 [] [.int xs0, .ref qs1] (f_X8_test_b69 kE xs0 qs1) := by
  unfold f_X8_test_b69
  refine rz_gd (fun h_qs1 => ?_)
  refine rz_callVv G (st := []) (c_X6_add (cLn Γ) qs1 xs0) lkX8_183 (ru_sh h_qs1) rfl rfl rfl (by omega) (Nat.le_of_ble_eq_true rfl) (dq jX8_test 36 rfl) rfl (fun _ => ?_)
  refine rz_iconst G (v := 1) (dq jX8_test 37 rfl) rfl ?_
  exact rz_zret0 G (by decide) (dq jX8_test 38 rfl)
theorem z_X8_test_b32 {Γ : Cx} (kE : Int32 → Sg → Option (Int32 × Sg)) {he : Nat} (hE : ∀ a, Ct (cLn Γ) yX8_either cX8_either 3 (some .boolean) he encI [.ref 14, .int a] (kE a)) (G : GG Γ RX8 cX8_test 3 (some .boolean) (he + 13) 0 0) (x1 : Int32) (x2 : Int32) : Rz Γ 3 (Qm Γ encI 0 0) 0 0 32 [(0, .ref 14), (1, .int x1), (2, .int x2)] [] (f_X8_test_b32 kE x1 x2) := by
  unfold f_X8_test_b32
  refine rz_aload_n G 0 rfl rfl (dq jX8_test 18 rfl) ?_
  refine rz_getC G flX8_12 sh14 (t := 15) rfl rfl (dq jX8_test 19 rfl) ?_
  refine rz_callVv G (st := []) (c_X5_next (cLn Γ)) lkX8_99 sh15 rfl rfl rfl (by omega) (Nat.le_of_ble_eq_true rfl) (dq jX8_test 20 rfl) rfl (fun _ => ?_)
  refine rz_aload_n G 0 rfl rfl (dq jX8_test 21 rfl) ?_
  refine rz_iload_n G 1 rfl rfl (dq jX8_test 22 rfl) ?_
  refine rz_callVi G (st := []) (c_X8_sum (cLn Γ) kE hE x1) lkX8_196 sh14 rfl rfl rfl (by omega) (Nat.le_of_ble_eq_true rfl) (dq jX8_test 23 rfl) rfl (fun r1 => ?_)
  refine rz_if_ne G (tgt := 49) rfl (dq jX8_test 24 rfl) (fun c2 => ?_) (fun c2 => ?_)
  · refine rz_iconst G (v := 0) (dq jX8_test 25 rfl) rfl ?_
    exact rz_zret0 G (by decide) (dq jX8_test 26 rfl)
  · refine rz_aload_n G 0 rfl rfl (dq jX8_test 27 rfl) ?_
    refine rz_getR G flX8_21 sh14 rfl (dq jX8_test 28 rfl) (fun u3 => ?_)
    refine rz_gd (fun h_u3 => ?_)
    refine rz_getC G flX8_160 (gd_sh h_u3) (t := (u3 + 3)) rfl rfl (dq jX8_test 29 rfl) ?_
    refine rz_iload_n G 2 rfl rfl (dq jX8_test 30 rfl) ?_
    refine rz_bipush G (v := 60) (dq jX8_test 31 rfl) (by decide) ?_
    refine rz_icmp_ne G (tgt := 67) rfl (dq jX8_test 32 rfl) (fun c4 => ?_) (fun c4 => ?_)
    · refine rz_bipush G (v := (-4)) (dq jX8_test 33 rfl) (by decide) ?_
      refine rz_goto G (tgt := 69) rfl (dq jX8_test 34 rfl) ?_
      exact rz_lv [] rfl (z_X8_test_b69 kE hE G ((-4)) (u3 + 3))
    · refine rz_bipush G (v := (-5)) (dq jX8_test 35 rfl) (by decide) ?_
      exact rz_lv [] rfl (z_X8_test_b69 kE hE G ((-5)) (u3 + 3))
theorem c_X8_test (l : Launch) (kE : Int32 → Sg → Option (Int32 × Sg)) {he : Nat} (hE : ∀ a, Ct l yX8_either cX8_either 3 (some .boolean) he encI [.ref 14, .int a] (kE a)) (x1 : Int32) : Ct l yX8_test cX8_test 3 (some .boolean) (he + 13) encI [.ref 14, .int x1] (f_X8_test kE x1) := by
  refine ct_of (own := RX8) (by decide) rfl (Nat.le_of_ble_eq_true rfl) (fun Γ hl G => ?_)
  subst hl
  show Rz Γ 3 (Qm Γ encI 0 0) 0 0 0 [(0, .ref 14), (1, .int x1)] [] _
  unfold f_X8_test
  refine rz_aload_n G 0 rfl rfl (dq jX8_test 0 rfl) ?_
  refine rz_iload_n G 1 rfl rfl (dq jX8_test 1 rfl) ?_
  refine rz_callVi G (st := []) (c_X8_sum (cLn Γ) kE hE x1) lkX8_196 sh14 rfl rfl rfl (by omega) (Nat.le_of_ble_eq_true rfl) (dq jX8_test 2 rfl) rfl (fun r1 => ?_)
  refine rz_if_ne G (tgt := 10) rfl (dq jX8_test 3 rfl) (fun c2 => ?_) (fun c2 => ?_)
  · refine rz_iconst G (v := 0) (dq jX8_test 4 rfl) rfl ?_
    exact rz_zret0 G (by decide) (dq jX8_test 5 rfl)
  · refine rz_aload_n G 0 rfl rfl (dq jX8_test 6 rfl) ?_
    refine rz_getC G flX8_12 sh14 (t := 15) rfl rfl (dq jX8_test 7 rfl) ?_
    refine rz_getI G flX8_36 sh15 rfl (dq jX8_test 8 rfl) (fun v3 => ?_)
    refine rz_istore_n G (lv' := [(2, .int v3), (0, .ref 14), (1, .int x1)]) rfl (Nat.le_of_ble_eq_true rfl) rfl (dq jX8_test 9 rfl) ?_
    refine rz_iload_n G 0 rfl rfl (dq jX8_test 10 rfl) ?_
    refine rz_bipush G (v := 60) (dq jX8_test 11 rfl) (by decide) ?_
    refine rz_icmp_eq G (tgt := 32) rfl (dq jX8_test 12 rfl) (fun c4 => ?_) (fun c4 => ?_)
    · exact rz_lv [1, 2, 0] rfl (z_X8_test_b32 kE hE G x1 v3)
    · refine rz_iload_n G 0 rfl rfl (dq jX8_test 13 rfl) ?_
      refine rz_bipush G (v := 61) (dq jX8_test 14 rfl) (by decide) ?_
      refine rz_icmp_eq G (tgt := 32) rfl (dq jX8_test 15 rfl) (fun c5 => ?_) (fun c5 => ?_)
      · exact rz_lv [1, 2, 0] rfl (z_X8_test_b32 kE hE G x1 v3)
      · refine rz_iconst G (v := 1) (dq jX8_test 16 rfl) rfl ?_
        exact rz_zret0 G (by decide) (dq jX8_test 17 rfl)
theorem z_X8_denied_b28 {Γ : Cx} (kE : Int32 → Sg → Option (Int32 × Sg)) {he : Nat} (hE : ∀ a, Ct (cLn Γ) yX8_either cX8_either 3 (some .boolean) he encI [.ref 14, .int a] (kE a)) (G : GG Γ RX8 cX8_denied 4 (some .boolean) (he + 14) 0 0)  : Rz Γ 4 (Qm Γ encI 0 0) 0 0 28 [(0, .ref 14)] [] (f_X8_denied_b28 kE ) := by
  unfold f_X8_denied_b28
  refine rz_aload_n G 0 rfl rfl (dq jX8_denied 15 rfl) ?_
  refine rz_iconst G (v := 2) (dq jX8_denied 16 rfl) rfl ?_
  refine rz_callVi G (st := []) (c_X8_fail (cLn Γ) 2) lkX8_89 sh14 rfl rfl rfl (by omega) (Nat.le_of_ble_eq_true rfl) (dq jX8_denied 17 rfl) rfl (fun r1 => ?_)
  exact rz_zret G (dq jX8_denied 18 rfl)
theorem z_X8_denied_b62 {Γ : Cx} (kE : Int32 → Sg → Option (Int32 × Sg)) {he : Nat} (hE : ∀ a, Ct (cLn Γ) yX8_either cX8_either 3 (some .boolean) he encI [.ref 14, .int a] (kE a)) (G : GG Γ RX8 cX8_denied 4 (some .boolean) (he + 14) 0 0) : ∀ (fu : Nat) (x2 : Int32) (x3 : Int32), Rz Γ 4 (Qm Γ encI 0 0) 0 0 62 [(0, .ref 14), (2, .int x2), (3, .int x3)] [] (f_X8_denied_b62 kE fu x2 x3) := by
  intro fu
  induction fu with
  | zero => intro _ _; exact rz_none
  | succ fu ih =>
    intro x2 x3
    rw [f_X8_denied_b62]
    refine rz_iload_n G 2 rfl rfl (dq jX8_denied 33 rfl) ?_
    refine rz_iload_n G 1 rfl rfl (dq jX8_denied 34 rfl) ?_
    refine rz_icmp_ge G (tgt := 85) rfl (dq jX8_denied 35 rfl) (fun c1 => ?_) (fun c1 => ?_)
    · refine rz_iconst G (v := 1) (dq jX8_denied 43 rfl) rfl ?_
      exact rz_zret0 G (by decide) (dq jX8_denied 44 rfl)
    · refine rz_aload_n G 0 rfl rfl (dq jX8_denied 36 rfl) ?_
      refine rz_getR G flX8_21 sh14 rfl (dq jX8_denied 37 rfl) (fun u2 => ?_)
      refine rz_gd (fun h_u2 => ?_)
      refine rz_getC G flX8_160 (gd_sh h_u2) (t := (u2 + 3)) rfl rfl (dq jX8_denied 38 rfl) ?_
      refine rz_bipush G (v := (-3)) (dq jX8_denied 39 rfl) (by decide) ?_
      refine rz_callVv G (st := []) (c_X6_add (cLn Γ) (u2 + 3) ((-3))) lkX8_183 (gd_s3 h_u2) rfl rfl rfl (by omega) (Nat.le_of_ble_eq_true rfl) (dq jX8_denied 40 rfl) rfl (fun _ => ?_)
      refine rz_iinc G 2 (v := x3 + 1) (lv' := [(3, .int (x3 + 1)), (0, .ref 14), (2, .int x2)]) rfl (congrArg (HAdd.hAdd _) (by decide)) (Nat.le_of_ble_eq_true rfl) rfl (dq jX8_denied 41 rfl) ?_
      refine rz_goto G (tgt := 62) rfl (dq jX8_denied 42 rfl) ?_
      exact rz_lv [1, 2, 0] rfl (ih x2 (x3 + 1))
theorem z_X8_denied_b50 {Γ : Cx} (kE : Int32 → Sg → Option (Int32 × Sg)) {he : Nat} (hE : ∀ a, Ct (cLn Γ) yX8_either cX8_either 3 (some .boolean) he encI [.ref 14, .int a] (kE a)) (G : GG Γ RX8 cX8_denied 4 (some .boolean) (he + 14) 0 0) (x1 : Int32) (x2 : Int32) : Rz Γ 4 (Qm Γ encI 0 0) 0 0 50 [(0, .ref 14), (1, .int x1), (2, .int x2)] [] (f_X8_denied_b50 kE x1 x2) := by
  unfold f_X8_denied_b50
  refine rz_aload_n G 0 rfl rfl (dq jX8_denied 25 rfl) ?_
  refine rz_iload_n G 1 rfl rfl (dq jX8_denied 26 rfl) ?_
  refine rz_callVi G (st := []) (c_X8_test (cLn Γ) kE hE x1) lkX8_193 sh14 rfl rfl rfl (by omega) (Nat.le_of_ble_eq_true rfl) (dq jX8_denied 27 rfl) rfl (fun r1 => ?_)
  refine rz_if_ne G (tgt := 60) rfl (dq jX8_denied 28 rfl) (fun c2 => ?_) (fun c2 => ?_)
  · refine rz_iconst G (v := 0) (dq jX8_denied 29 rfl) rfl ?_
    exact rz_zret0 G (by decide) (dq jX8_denied 30 rfl)
  · refine rz_iconst G (v := 0) (dq jX8_denied 31 rfl) rfl ?_
    refine rz_istore_n G (lv' := [(3, .int 0), (0, .ref 14), (1, .int x1), (2, .int x2)]) rfl (Nat.le_of_ble_eq_true rfl) rfl (dq jX8_denied 32 rfl) ?_
    exact rz_lv [1, 3, 0] rfl (z_X8_denied_b62 kE hE G FU x2 0)
theorem z_X8_denied_b4 {Γ : Cx} (kE : Int32 → Sg → Option (Int32 × Sg)) {he : Nat} (hE : ∀ a, Ct (cLn Γ) yX8_either cX8_either 3 (some .boolean) he encI [.ref 14, .int a] (kE a)) (G : GG Γ RX8 cX8_denied 4 (some .boolean) (he + 14) 0 0) : ∀ (fu : Nat) (x1 : Int32) (x2 : Int32) (x3 : Int32), Rz Γ 4 (Qm Γ encI 0 0) 0 0 4 [(0, .ref 14), (1, .int x1), (2, .int x2), (3, .int x3)] [] (f_X8_denied_b4 kE fu x1 x2 x3) := by
  intro fu
  induction fu with
  | zero => intro _ _ _; exact rz_none
  | succ fu ih =>
    intro x1 x2 x3
    rw [f_X8_denied_b4]
    refine rz_iload_n G 3 rfl rfl (dq jX8_denied 4 rfl) ?_
    refine rz_bipush G (v := 6) (dq jX8_denied 5 rfl) (by decide) ?_
    refine rz_icmp_gt G (tgt := 50) rfl (dq jX8_denied 6 rfl) (fun c1 => ?_) (fun c1 => ?_)
    · exact rz_lv [0, 1, 2] rfl (z_X8_denied_b50 kE hE G x1 x2)
    · refine rz_aload_n G 0 rfl rfl (dq jX8_denied 7 rfl) ?_
      refine rz_getC G flX8_12 sh14 (t := 15) rfl rfl (dq jX8_denied 8 rfl) ?_
      refine rz_ldcS G (List.mem_of_getElem? (l := ldcL) (i := 9) rfl) (dq jX8_denied 9 rfl) ?_
      refine rz_callVi G (st := []) (c_X5_isWord (cLn Γ) 9) lkX8_52 sh15 rfl rfl rfl (by omega) (Nat.le_of_ble_eq_true rfl) (dq jX8_denied 10 rfl) rfl (fun r2 => ?_)
      refine rz_if_eq G (tgt := 50) rfl (dq jX8_denied 11 rfl) (fun c3 => ?_) (fun c3 => ?_)
      · exact rz_lv [0, 1, 2] rfl (z_X8_denied_b50 kE hE G x1 x2)
      · refine rz_iload_n G 3 rfl rfl (dq jX8_denied 12 rfl) ?_
        refine rz_bipush G (v := 6) (dq jX8_denied 13 rfl) (by decide) ?_
        refine rz_icmp_ne G (tgt := 34) rfl (dq jX8_denied 14 rfl) (fun c4 => ?_) (fun c4 => ?_)
        · exact rz_lv [0] rfl (z_X8_denied_b28 kE hE G)
        · refine rz_aload_n G 0 rfl rfl (dq jX8_denied 19 rfl) ?_
          refine rz_getC G flX8_12 sh14 (t := 15) rfl rfl (dq jX8_denied 20 rfl) ?_
          refine rz_callVv G (st := []) (c_X5_next (cLn Γ)) lkX8_99 sh15 rfl rfl rfl (by omega) (Nat.le_of_ble_eq_true rfl) (dq jX8_denied 21 rfl) rfl (fun _ => ?_)
          refine rz_iinc G 2 (v := x2 + 1) (lv' := [(2, .int (x2 + 1)), (0, .ref 14), (1, .int x1), (3, .int x3)]) rfl (congrArg (HAdd.hAdd _) (by decide)) (Nat.le_of_ble_eq_true rfl) rfl (dq jX8_denied 22 rfl) ?_
          refine rz_iinc G 3 (v := x3 + 1) (lv' := [(3, .int (x3 + 1)), (2, .int (x2 + 1)), (0, .ref 14), (1, .int x1)]) rfl (congrArg (HAdd.hAdd _) (by decide)) (Nat.le_of_ble_eq_true rfl) rfl (dq jX8_denied 23 rfl) ?_
          refine rz_goto G (tgt := 4) rfl (dq jX8_denied 24 rfl) ?_
          exact rz_lv [2, 3, 1, 0] rfl (ih x1 (x2 + 1) (x3 + 1))
theorem c_X8_denied (l : Launch) (kE : Int32 → Sg → Option (Int32 × Sg)) {he : Nat} (hE : ∀ a, Ct l yX8_either cX8_either 3 (some .boolean) he encI [.ref 14, .int a] (kE a)) (x1 : Int32) : Ct l yX8_denied cX8_denied 4 (some .boolean) (he + 14) encI [.ref 14, .int x1] (f_X8_denied kE x1) := by
  refine ct_of (own := RX8) (by decide) rfl (Nat.le_of_ble_eq_true rfl) (fun Γ hl G => ?_)
  subst hl
  show Rz Γ 4 (Qm Γ encI 0 0) 0 0 0 [(0, .ref 14), (1, .int x1)] [] _
  unfold f_X8_denied
  refine rz_iconst G (v := 0) (dq jX8_denied 0 rfl) rfl ?_
  refine rz_istore_n G (lv' := [(2, .int 0), (0, .ref 14), (1, .int x1)]) rfl (Nat.le_of_ble_eq_true rfl) rfl (dq jX8_denied 1 rfl) ?_
  refine rz_iconst G (v := 0) (dq jX8_denied 2 rfl) rfl ?_
  refine rz_istore_n G (lv' := [(3, .int 0), (2, .int 0), (0, .ref 14), (1, .int x1)]) rfl (Nat.le_of_ble_eq_true rfl) rfl (dq jX8_denied 3 rfl) ?_
  exact rz_lv [2, 3, 1, 0] rfl (z_X8_denied_b4 kE hE G FU x1 0 0)
