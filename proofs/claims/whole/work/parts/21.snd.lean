theorem z_X4_landAll_b47 {Γ : Cx} (G : GG Γ RX4 cX4_landAll 3 none 4 0 0) (k2 : Int32 → Int32 → Sg → Option (Unit × Sg)) (hk2 : ∀ (x1 : Int32) (x2 : Int32), Rz Γ 3 (Qm Γ encV 0 0) 0 0 2 [(0, .ref 17), (1, .int x1), (2, .int x2)] [] (k2 x1 x2)) (x1 : Int32) (x2 : Int32) : Rz Γ 3 (Qm Γ encV 0 0) 0 0 47 [(0, .ref 17), (1, .int x1), (2, .int x2)] [] (f_X4_landAll_b47 k2 x1 x2) := by
  unfold f_X4_landAll_b47
  refine rz_iinc G 2 (v := x2 + 1) (lv' := [(2, .int (x2 + 1)), (0, .ref 17), (1, .int x1)]) rfl (congrArg (HAdd.hAdd _) (by decide)) (Nat.le_of_ble_eq_true rfl) rfl (dq jX4_landAll 27 rfl) ?_
  refine rz_goto G (tgt := 2) rfl (dq jX4_landAll 28 rfl) ?_
  exact rz_lv [1, 2, 0] rfl (hk2 x1 (x2 + 1))
theorem z_X4_landAll_b2 {Γ : Cx} (G : GG Γ RX4 cX4_landAll 3 none 4 0 0) : ∀ (fu : Nat) (x1 : Int32) (x2 : Int32), Rz Γ 3 (Qm Γ encV 0 0) 0 0 2 [(0, .ref 17), (1, .int x1), (2, .int x2)] [] (f_X4_landAll_b2 fu x1 x2) := by
  intro fu
  induction fu with
  | zero => intro _ _; exact rz_none
  | succ fu ih =>
    intro x1 x2
    rw [f_X4_landAll_b2]
    refine rz_iload_n G 2 rfl rfl (dq jX4_landAll 2 rfl) ?_
    refine rz_aload_n G 0 rfl rfl (dq jX4_landAll 3 rfl) ?_
    refine rz_getC G flX4_11 sh17 (t := 18) rfl rfl (dq jX4_landAll 4 rfl) ?_
    refine rz_alen G (v := 4) sh18 (by decide) (by decide) (dq jX4_landAll 5 rfl) ?_
    refine rz_icmp_ge G (tgt := 53) rfl (dq jX4_landAll 6 rfl) (fun c1 => ?_) (fun c1 => ?_)
    · exact rz_vret G (dq jX4_landAll 29 rfl)
    · refine rz_aload_n G 0 rfl rfl (dq jX4_landAll 7 rfl) ?_
      refine rz_getC G flX4_11 sh17 (t := 18) rfl rfl (dq jX4_landAll 8 rfl) ?_
      refine rz_iload_n G 2 rfl rfl (dq jX4_landAll 9 rfl) ?_
      refine rz_aald G sh18 (dq jX4_landAll 10 rfl) ?_
      refine rz_ltr (fun u2 e_u2 => ?_)
      refine rz_gd (fun h_u2 => ?_)
      refine rz_callVi G (st := []) (c_X1_isComing (cLn Γ) u2) lkX4_118 (fl_sh h_u2) rfl rfl rfl (Nat.le_of_ble_eq_true rfl) (Nat.le_of_ble_eq_true rfl) (dq jX4_landAll 11 rfl) rfl (fun r3 => ?_)
      refine rz_if_eq G (tgt := 47) rfl (dq jX4_landAll 12 rfl) (fun c4 => ?_) (fun c4 => ?_)
      · exact rz_lv [0, 1, 2] rfl (z_X4_landAll_b47 G (f_X4_landAll_b2 fu) ih x1 x2)
      · refine rz_aload_n G 0 rfl rfl (dq jX4_landAll 13 rfl) ?_
        refine rz_getC G flX4_11 sh17 (t := 18) rfl rfl (dq jX4_landAll 14 rfl) ?_
        refine rz_iload_n G 2 rfl rfl (dq jX4_landAll 15 rfl) ?_
        refine rz_aald G sh18 (dq jX4_landAll 16 rfl) ?_
        refine rz_ltr (fun u5 e_u5 => ?_)
        refine rz_gd (fun h_u5 => ?_)
        refine rz_getI G flX4_122 (fl_sh h_u5) rfl (dq jX4_landAll 17 rfl) (fun v6 => ?_)
        refine rz_iload_n G 1 rfl rfl (dq jX4_landAll 18 rfl) ?_
        refine rz_icmp_ne G (tgt := 47) rfl (dq jX4_landAll 19 rfl) (fun c7 => ?_) (fun c7 => ?_)
        · refine rz_aload_n G 0 rfl rfl (dq jX4_landAll 20 rfl) ?_
          refine rz_aload_n G 0 rfl rfl (dq jX4_landAll 21 rfl) ?_
          refine rz_getC G flX4_11 sh17 (t := 18) rfl rfl (dq jX4_landAll 22 rfl) ?_
          refine rz_iload_n G 2 rfl rfl (dq jX4_landAll 23 rfl) ?_
          refine rz_aald G sh18 (dq jX4_landAll 24 rfl) ?_
          refine rz_ltr (fun u8 e_u8 => ?_)
          refine rz_gd (fun h_u8 => ?_)
          refine rz_iload_n G 1 rfl rfl (dq jX4_landAll 25 rfl) ?_
          refine rz_callVv G (st := []) (c_X4_land (cLn Γ) u8 x1) lkX4_142 sh17 rfl rfl rfl (Nat.le_of_ble_eq_true rfl) (Nat.le_of_ble_eq_true rfl) (dq jX4_landAll 26 rfl) rfl (fun _ => ?_)
          exact rz_lv [0, 1, 2] rfl (z_X4_landAll_b47 G (f_X4_landAll_b2 fu) ih x1 x2)
        · exact rz_lv [0, 1, 2] rfl (z_X4_landAll_b47 G (f_X4_landAll_b2 fu) ih x1 x2)
theorem c_X4_landAll (l : Launch) (x1 : Int32) : Ct l yX4_landAll cX4_landAll 3 none 4 encV [.ref 17, .int x1] (f_X4_landAll x1) := by
  refine ct_of (own := RX4) (by decide) rfl (Nat.le_of_ble_eq_true rfl) (fun Γ hl G => ?_)
  show Rz Γ 3 (Qm Γ encV 0 0) 0 0 0 [(0, .ref 17), (1, .int x1)] [] _
  unfold f_X4_landAll
  refine rz_iconst G (v := 0) (dq jX4_landAll 0 rfl) rfl ?_
  refine rz_istore_n G (lv' := [(2, .int 0), (0, .ref 17), (1, .int x1)]) rfl (Nat.le_of_ble_eq_true rfl) rfl (dq jX4_landAll 1 rfl) ?_
  exact rz_lv [1, 2, 0] rfl (z_X4_landAll_b2 G FU x1 0)
theorem c_X4_riseEnds (l : Launch)  : Ct l yX4_riseEnds cX4_riseEnds 1 (some .int) 1 encI [.ref 17] (f_X4_riseEnds ) := by
  refine ct_of (own := RX4) (by decide) rfl (Nat.le_of_ble_eq_true rfl) (fun Γ hl G => ?_)
  show Rz Γ 1 (Qm Γ encI 0 0) 0 0 0 [(0, .ref 17)] [] _
  unfold f_X4_riseEnds
  refine rz_aload_n G 0 rfl rfl (dq jX4_riseEnds 0 rfl) ?_
  refine rz_getI G flX4_74 sh17 rfl (dq jX4_riseEnds 1 rfl) (fun v1 => ?_)
  refine rz_iconst G (v := 2) (dq jX4_riseEnds 2 rfl) rfl ?_
  refine rz_aload_n G 0 rfl rfl (dq jX4_riseEnds 3 rfl) ?_
  refine rz_getR G flX4_33 sh17 rfl (dq jX4_riseEnds 4 rfl) (fun u2 => ?_)
  refine rz_gd (fun h_u2 => ?_)
  refine rz_getI G flX4_133 (gd_sh h_u2) rfl (dq jX4_riseEnds 5 rfl) (fun v3 => ?_)
  refine rz_imul G (dq jX4_riseEnds 6 rfl) ?_
  refine rz_iadd G (dq jX4_riseEnds 7 rfl) ?_
  exact rz_iret G (dq jX4_riseEnds 8 rfl)
theorem z_X4_countOthers_b90 {Γ : Cx} (G : GG Γ RX4 cX4_countOthers 7 none 1 0 0) (k10 : Nat → Int32 → Int32 → Int32 → Int32 → Sg → Option (Unit × Sg)) (hk10 : ∀ (q1 : Nat) (x2 : Int32) (x3 : Int32) (x4 : Int32) (x5 : Int32), Rz Γ 7 (Qm Γ encV 0 0) 0 0 10 [(0, .ref 17), (1, .ref q1), (2, .int x2), (3, .int x3), (4, .int x4), (5, .int x5)] [] (k10 q1 x2 x3 x4 x5)) (q1 : Nat) (x2 : Int32) (x3 : Int32) (x4 : Int32) (x5 : Int32) : Rz Γ 7 (Qm Γ encV 0 0) 0 0 90 [(0, .ref 17), (1, .ref q1), (2, .int x2), (3, .int x3), (4, .int x4), (5, .int x5)] [] (f_X4_countOthers_b90 k10 q1 x2 x3 x4 x5) := by
  unfold f_X4_countOthers_b90
  refine rz_gd (fun h_q1 => ?_)
  refine rz_iinc G 5 (v := x5 + 1) (lv' := [(5, .int (x5 + 1)), (0, .ref 17), (1, .ref q1), (2, .int x2), (3, .int x3), (4, .int x4)]) rfl (congrArg (HAdd.hAdd _) (by decide)) (Nat.le_of_ble_eq_true rfl) rfl (dq jX4_countOthers 45 rfl) ?_
  refine rz_goto G (tgt := 10) rfl (dq jX4_countOthers 46 rfl) ?_
  exact rz_lv [1, 2, 3, 4, 5, 0] rfl (hk10 q1 x2 x3 x4 (x5 + 1))
theorem z_X4_countOthers_b87 {Γ : Cx} (G : GG Γ RX4 cX4_countOthers 7 none 1 0 0) (k10 : Nat → Int32 → Int32 → Int32 → Int32 → Sg → Option (Unit × Sg)) (hk10 : ∀ (q1 : Nat) (x2 : Int32) (x3 : Int32) (x4 : Int32) (x5 : Int32), Rz Γ 7 (Qm Γ encV 0 0) 0 0 10 [(0, .ref 17), (1, .ref q1), (2, .int x2), (3, .int x3), (4, .int x4), (5, .int x5)] [] (k10 q1 x2 x3 x4 x5)) (q1 : Nat) (x2 : Int32) (x3 : Int32) (x5 : Int32) (xs0 : Int32) (xs1 : Int32) : Rz Γ 7 (Qm Γ encV 0 0) 0 0 87 [(0, .ref 17), (1, .ref q1), (2, .int x2), (3, .int x3), (5, .int x5)] [.int xs0, .int xs1] (f_X4_countOthers_b87 k10 q1 x2 x3 x5 xs0 xs1) := by
  unfold f_X4_countOthers_b87
  refine rz_gd (fun h_q1 => ?_)
  refine rz_iadd G (dq jX4_countOthers 43 rfl) ?_
  refine rz_istore G (lv' := [(4, .int (xs1 + xs0)), (0, .ref 17), (1, .ref q1), (2, .int x2), (3, .int x3), (5, .int x5)]) (Nat.le_of_ble_eq_true rfl) rfl (dq jX4_countOthers 44 rfl) ?_
  exact rz_lv [1, 2, 3, 4, 0, 5] rfl (z_X4_countOthers_b90 G k10 hk10 q1 x2 x3 (xs1 + xs0) x5)
theorem z_X4_countOthers_b96 {Γ : Cx} (G : GG Γ RX4 cX4_countOthers 7 none 1 0 0) (x2 : Int32) (x3 : Int32) (x4 : Int32) : Rz Γ 7 (Qm Γ encV 0 0) 0 0 96 [(0, .ref 17), (2, .int x2), (3, .int x3), (4, .int x4)] [] (f_X4_countOthers_b96 x2 x3 x4) := by
  unfold f_X4_countOthers_b96
  refine rz_aload_n G 0 rfl rfl (dq jX4_countOthers 47 rfl) ?_
  refine rz_getC G flX4_19 sh17 (t := 27) rfl rfl (dq jX4_countOthers 48 rfl) ?_
  refine rz_iconst G (v := 5) (dq jX4_countOthers 49 rfl) rfl ?_
  refine rz_iload_n G 1 rfl rfl (dq jX4_countOthers 50 rfl) ?_
  refine rz_iastN G (by decide) sh27 (dq jX4_countOthers 51 rfl) ?_
  refine rz_aload_n G 0 rfl rfl (dq jX4_countOthers 52 rfl) ?_
  refine rz_getC G flX4_19 sh17 (t := 27) rfl rfl (dq jX4_countOthers 53 rfl) ?_
  refine rz_bipush G (v := 6) (dq jX4_countOthers 54 rfl) (by decide) ?_
  refine rz_iload_n G 2 rfl rfl (dq jX4_countOthers 55 rfl) ?_
  refine rz_iastN G (by decide) sh27 (dq jX4_countOthers 56 rfl) ?_
  refine rz_aload_n G 0 rfl rfl (dq jX4_countOthers 57 rfl) ?_
  refine rz_getC G flX4_19 sh17 (t := 27) rfl rfl (dq jX4_countOthers 58 rfl) ?_
  refine rz_bipush G (v := 7) (dq jX4_countOthers 59 rfl) (by decide) ?_
  refine rz_iload G 3 rfl (dq jX4_countOthers 60 rfl) ?_
  refine rz_iastN G (by decide) sh27 (dq jX4_countOthers 61 rfl) ?_
  exact rz_vret G (dq jX4_countOthers 62 rfl)
theorem z_X4_countOthers_b10 {Γ : Cx} (G : GG Γ RX4 cX4_countOthers 7 none 1 0 0) : ∀ (fu : Nat) (q1 : Nat) (x2 : Int32) (x3 : Int32) (x4 : Int32) (x5 : Int32), Rz Γ 7 (Qm Γ encV 0 0) 0 0 10 [(0, .ref 17), (1, .ref q1), (2, .int x2), (3, .int x3), (4, .int x4), (5, .int x5)] [] (f_X4_countOthers_b10 fu q1 x2 x3 x4 x5) := by
  intro fu
  induction fu with
  | zero => intro _ _ _ _ _; exact rz_none
  | succ fu ih =>
    intro q1 x2 x3 x4 x5
    rw [f_X4_countOthers_b10]
    refine rz_gd (fun h_q1 => ?_)
    refine rz_iload G 5 rfl (dq jX4_countOthers 8 rfl) ?_
    refine rz_aload_n G 0 rfl rfl (dq jX4_countOthers 9 rfl) ?_
    refine rz_getC G flX4_11 sh17 (t := 18) rfl rfl (dq jX4_countOthers 10 rfl) ?_
    refine rz_alen G (v := 4) sh18 (by decide) (by decide) (dq jX4_countOthers 11 rfl) ?_
    refine rz_icmp_ge G (tgt := 96) rfl (dq jX4_countOthers 12 rfl) (fun c1 => ?_) (fun c1 => ?_)
    · exact rz_lv [0, 2, 3, 4] rfl (z_X4_countOthers_b96 G x2 x3 x4)
    · refine rz_aload_n G 0 rfl rfl (dq jX4_countOthers 13 rfl) ?_
      refine rz_getC G flX4_11 sh17 (t := 18) rfl rfl (dq jX4_countOthers 14 rfl) ?_
      refine rz_iload G 5 rfl (dq jX4_countOthers 15 rfl) ?_
      refine rz_aald G sh18 (dq jX4_countOthers 16 rfl) ?_
      refine rz_ltr (fun u2 e_u2 => ?_)
      refine rz_gd (fun h_u2 => ?_)
      refine rz_astore G (lv' := [(6, .ref u2), (0, .ref 17), (1, .ref q1), (2, .int x2), (3, .int x3), (4, .int x4), (5, .int x5)]) (Nat.le_of_ble_eq_true rfl) rfl (dq jX4_countOthers 17 rfl) ?_
      refine rz_iload G 6 rfl (dq jX4_countOthers 18 rfl) ?_
      refine rz_aload_n G 2 rfl rfl (dq jX4_countOthers 19 rfl) ?_
      refine rz_getI G flX4_172 (fl_sh h_q1) rfl (dq jX4_countOthers 20 rfl) (fun v3 => ?_)
      refine rz_icmp_ne G (tgt := 41) rfl (dq jX4_countOthers 21 rfl) (fun c4 => ?_) (fun c4 => ?_)
      · refine rz_goto G (tgt := 90) rfl (dq jX4_countOthers 22 rfl) ?_
        exact rz_lv [1, 2, 3, 4, 5, 6] rfl (z_X4_countOthers_b90 G (f_X4_countOthers_b10 fu) ih q1 x2 x3 x4 x5)
      · refine rz_aload G 0 rfl (dq jX4_countOthers 23 rfl) ?_
        refine rz_getI G flX4_98 (fl_sh h_u2) rfl (dq jX4_countOthers 24 rfl) (fun v5 => ?_)
        refine rz_iconst G (v := 1) (dq jX4_countOthers 25 rfl) rfl ?_
        refine rz_icmp_ne G (tgt := 56) rfl (dq jX4_countOthers 26 rfl) (fun c6 => ?_) (fun c6 => ?_)
        · refine rz_iinc G 3 (v := x2 + 1) (lv' := [(2, .int (x2 + 1)), (6, .ref u2), (0, .ref 17), (1, .ref q1), (3, .int x3), (4, .int x4), (5, .int x5)]) rfl (congrArg (HAdd.hAdd _) (by decide)) (Nat.le_of_ble_eq_true rfl) rfl (dq jX4_countOthers 27 rfl) ?_
          refine rz_goto G (tgt := 90) rfl (dq jX4_countOthers 28 rfl) ?_
          exact rz_lv [2, 3, 0, 4, 5, 6] rfl (z_X4_countOthers_b90 G (f_X4_countOthers_b10 fu) ih q1 (x2 + 1) x3 x4 x5)
        · refine rz_aload G 0 rfl (dq jX4_countOthers 29 rfl) ?_
          refine rz_getI G flX4_98 (fl_sh h_u2) rfl (dq jX4_countOthers 30 rfl) (fun v7 => ?_)
          refine rz_iconst G (v := 2) (dq jX4_countOthers 31 rfl) rfl ?_
          refine rz_icmp_ne G (tgt := 90) rfl (dq jX4_countOthers 32 rfl) (fun c8 => ?_) (fun c8 => ?_)
          · refine rz_iinc G 4 (v := x3 + 1) (lv' := [(3, .int (x3 + 1)), (6, .ref u2), (0, .ref 17), (1, .ref q1), (2, .int x2), (4, .int x4), (5, .int x5)]) rfl (congrArg (HAdd.hAdd _) (by decide)) (Nat.le_of_ble_eq_true rfl) rfl (dq jX4_countOthers 33 rfl) ?_
            refine rz_iload G 5 rfl (dq jX4_countOthers 34 rfl) ?_
            refine rz_aload G 1 rfl (dq jX4_countOthers 35 rfl) ?_
            refine rz_getI G flX4_146 (fl_sh h_u2) rfl (dq jX4_countOthers 36 rfl) (fun v9 => ?_)
            refine rz_aload_n G 3 rfl rfl (dq jX4_countOthers 37 rfl) ?_
            refine rz_getI G flX4_146 (fl_sh h_q1) rfl (dq jX4_countOthers 38 rfl) (fun v10 => ?_)
            refine rz_icmp_le G (tgt := 86) rfl (dq jX4_countOthers 39 rfl) (fun c11 => ?_) (fun c11 => ?_)
            · refine rz_iconst G (v := 0) (dq jX4_countOthers 42 rfl) rfl ?_
              exact rz_lv [2, 3, 4, 0, 6] rfl (z_X4_countOthers_b87 G (f_X4_countOthers_b10 fu) ih q1 x2 (x3 + 1) x5 0 x4)
            · refine rz_iconst G (v := 1) (dq jX4_countOthers 40 rfl) rfl ?_
              refine rz_goto G (tgt := 87) rfl (dq jX4_countOthers 41 rfl) ?_
              exact rz_lv [2, 3, 4, 0, 6] rfl (z_X4_countOthers_b87 G (f_X4_countOthers_b10 fu) ih q1 x2 (x3 + 1) x5 1 x4)
          · exact rz_lv [1, 2, 3, 4, 5, 6] rfl (z_X4_countOthers_b90 G (f_X4_countOthers_b10 fu) ih q1 x2 x3 x4 x5)
theorem c_X4_countOthers (l : Launch) (q1 : Nat) : Ct l yX4_countOthers cX4_countOthers 7 none 1 encV [.ref 17, .ref q1] (f_X4_countOthers q1) := by
  refine ct_of (own := RX4) (by decide) rfl (Nat.le_of_ble_eq_true rfl) (fun Γ hl G => ?_)
  show Rz Γ 7 (Qm Γ encV 0 0) 0 0 0 [(0, .ref 17), (1, .ref q1)] [] _
  unfold f_X4_countOthers
  refine rz_gd (fun h_q1 => ?_)
  refine rz_iconst G (v := 0) (dq jX4_countOthers 0 rfl) rfl ?_
  refine rz_istore_n G (lv' := [(2, .int 0), (0, .ref 17), (1, .ref q1)]) rfl (Nat.le_of_ble_eq_true rfl) rfl (dq jX4_countOthers 1 rfl) ?_
  refine rz_iconst G (v := 0) (dq jX4_countOthers 2 rfl) rfl ?_
  refine rz_istore_n G (lv' := [(3, .int 0), (2, .int 0), (0, .ref 17), (1, .ref q1)]) rfl (Nat.le_of_ble_eq_true rfl) rfl (dq jX4_countOthers 3 rfl) ?_
  refine rz_iconst G (v := 0) (dq jX4_countOthers 4 rfl) rfl ?_
  refine rz_istore G (lv' := [(4, .int 0), (3, .int 0), (2, .int 0), (0, .ref 17), (1, .ref q1)]) (Nat.le_of_ble_eq_true rfl) rfl (dq jX4_countOthers 5 rfl) ?_
  refine rz_iconst G (v := 0) (dq jX4_countOthers 6 rfl) rfl ?_
  refine rz_istore G (lv' := [(5, .int 0), (4, .int 0), (3, .int 0), (2, .int 0), (0, .ref 17), (1, .ref q1)]) (Nat.le_of_ble_eq_true rfl) rfl (dq jX4_countOthers 7 rfl) ?_
  exact rz_lv [4, 5, 3, 2, 1, 0] rfl (z_X4_countOthers_b10 G FU q1 0 0 0 0)
theorem z_X6_join_b56 {Γ : Cx} (G : GG Γ RX6 cX6_join 3 (some .int) 1 0 0)  : Rz Γ 3 (Qm Γ encI 0 0) 0 0 56 [] [] (f_X6_join_b56 ) := by
  unfold f_X6_join_b56
  refine rz_iconst G (v := 1) (dq jX6_join_s1 4 rfl) rfl ?_
  refine rz_goto G (tgt := 61) rfl (dq jX6_join_s1 5 rfl) ?_
  exact rz_iret G (dq jX6_join_s1 7 rfl)
theorem c_X6_join (l : Launch) (x0 : Int32) (x1 : Int32) (x2 : Int32) : Ct l yX6_join cX6_join 3 (some .int) 1 encI [.int x0, .int x1, .int x2] (f_X6_join x0 x1 x2) := by
  refine ct_of (own := RX6) (by decide) rfl (Nat.le_of_ble_eq_true rfl) (fun Γ hl G => ?_)
  show Rz Γ 3 (Qm Γ encI 0 0) 0 0 0 [(0, .int x0), (1, .int x1), (2, .int x2)] [] _
  unfold f_X6_join
  refine rz_iload_n G 0 rfl rfl (dq jX6_join 0 rfl) ?_
  refine rz_br (fun c1 => ?_) (fun c1 => ?_)
  · refine rz_tableIn G 0 (tgt := 106) swX6_join_1 (by rw [c1]; rfl) (by decide) rfl rfl ?_
    refine rz_iload_n G 1 rfl rfl (dq jX6_join_s1 38 rfl) ?_
    refine rz_iload_n G 2 rfl rfl (dq jX6_join_s1 39 rfl) ?_
    refine rz_imul G (dq jX6_join_s1 40 rfl) ?_
    exact rz_iret G (dq jX6_join_s1 41 rfl)
  · refine rz_br (fun c2 => ?_) (fun c2 => ?_)
    · refine rz_tableIn G 1 (tgt := 102) swX6_join_1 (by rw [c2]; rfl) (by decide) rfl rfl ?_
      refine rz_iload_n G 1 rfl rfl (dq jX6_join_s1 34 rfl) ?_
      refine rz_iload_n G 2 rfl rfl (dq jX6_join_s1 35 rfl) ?_
      refine rz_isub G (dq jX6_join_s1 36 rfl) ?_
      exact rz_iret G (dq jX6_join_s1 37 rfl)
    · refine rz_br (fun c3 => ?_) (fun c3 => ?_)
      · refine rz_tableIn G 2 (tgt := 98) swX6_join_1 (by rw [c3]; rfl) (by decide) rfl rfl ?_
        refine rz_iload_n G 1 rfl rfl (dq jX6_join_s1 30 rfl) ?_
        refine rz_iload_n G 2 rfl rfl (dq jX6_join_s1 31 rfl) ?_
        refine rz_iadd G (dq jX6_join_s1 32 rfl) ?_
        exact rz_iret G (dq jX6_join_s1 33 rfl)
      · refine rz_br (fun c4 => ?_) (fun c4 => ?_)
        · refine rz_tableIn G 3 (tgt := 87) swX6_join_1 (by rw [c4]; rfl) (by decide) rfl rfl ?_
          refine rz_iload_n G 1 rfl rfl (dq jX6_join_s1 23 rfl) ?_
          refine rz_iload_n G 2 rfl rfl (dq jX6_join_s1 24 rfl) ?_
          refine rz_icmp_ne G (tgt := 96) rfl (dq jX6_join_s1 25 rfl) (fun c5 => ?_) (fun c5 => ?_)
          · refine rz_iconst G (v := 1) (dq jX6_join_s1 26 rfl) rfl ?_
            refine rz_goto G (tgt := 97) rfl (dq jX6_join_s1 27 rfl) ?_
            exact rz_iret G (dq jX6_join_s1 29 rfl)
          · refine rz_iconst G (v := 0) (dq jX6_join_s1 28 rfl) rfl ?_
            exact rz_iret G (dq jX6_join_s1 29 rfl)
        · refine rz_br (fun c6 => ?_) (fun c6 => ?_)
          · refine rz_tableIn G 4 (tgt := 76) swX6_join_1 (by rw [c6]; rfl) (by decide) rfl rfl ?_
            refine rz_iload_n G 1 rfl rfl (dq jX6_join_s1 16 rfl) ?_
            refine rz_iload_n G 2 rfl rfl (dq jX6_join_s1 17 rfl) ?_
            refine rz_icmp_ge G (tgt := 85) rfl (dq jX6_join_s1 18 rfl) (fun c7 => ?_) (fun c7 => ?_)
            · refine rz_iconst G (v := 0) (dq jX6_join_s1 21 rfl) rfl ?_
              exact rz_iret G (dq jX6_join_s1 22 rfl)
            · refine rz_iconst G (v := 1) (dq jX6_join_s1 19 rfl) rfl ?_
              refine rz_goto G (tgt := 86) rfl (dq jX6_join_s1 20 rfl) ?_
              exact rz_iret G (dq jX6_join_s1 22 rfl)
          · refine rz_br (fun c8 => ?_) (fun c8 => ?_)
            · refine rz_tableIn G 5 (tgt := 110) swX6_join_1 (by rw [c8]; rfl) (by decide) rfl rfl ?_
              refine rz_iload_n G 2 rfl rfl (dq jX6_join_s1 42 rfl) ?_
              refine rz_if_ne G (tgt := 118) rfl (dq jX6_join_s1 43 rfl) (fun c9 => ?_) (fun c9 => ?_)
              · refine rz_iconst G (v := 0) (dq jX6_join_s1 44 rfl) rfl ?_
                refine rz_goto G (tgt := 121) rfl (dq jX6_join_s1 45 rfl) ?_
                exact rz_iret G (dq jX6_join_s1 49 rfl)
              · refine rz_iload_n G 1 rfl rfl (dq jX6_join_s1 46 rfl) ?_
                refine rz_iload_n G 2 rfl rfl (dq jX6_join_s1 47 rfl) ?_
                refine rz_idiv G (dq jX6_join_s1 48 rfl) ?_
                exact rz_iret G (dq jX6_join_s1 49 rfl)
            · refine rz_br (fun c10 => ?_) (fun c10 => ?_)
              · refine rz_tableIn G 6 (tgt := 62) swX6_join_1 (by rw [c10]; rfl) (by decide) rfl rfl ?_
                refine rz_iload_n G 1 rfl rfl (dq jX6_join_s1 8 rfl) ?_
                refine rz_if_eq G (tgt := 74) rfl (dq jX6_join_s1 9 rfl) (fun c11 => ?_) (fun c11 => ?_)
                · refine rz_iconst G (v := 0) (dq jX6_join_s1 14 rfl) rfl ?_
                  exact rz_iret G (dq jX6_join_s1 15 rfl)
                · refine rz_iload_n G 2 rfl rfl (dq jX6_join_s1 10 rfl) ?_
                  refine rz_if_eq G (tgt := 74) rfl (dq jX6_join_s1 11 rfl) (fun c12 => ?_) (fun c12 => ?_)
                  · refine rz_iconst G (v := 0) (dq jX6_join_s1 14 rfl) rfl ?_
                    exact rz_iret G (dq jX6_join_s1 15 rfl)
                  · refine rz_iconst G (v := 1) (dq jX6_join_s1 12 rfl) rfl ?_
                    refine rz_goto G (tgt := 75) rfl (dq jX6_join_s1 13 rfl) ?_
                    exact rz_iret G (dq jX6_join_s1 15 rfl)
              · refine rz_br (fun c13 => ?_) (fun c13 => ?_)
                · refine rz_tableIn G 7 (tgt := 48) swX6_join_1 (by rw [c13]; rfl) (by decide) rfl rfl ?_
                  refine rz_iload_n G 1 rfl rfl (dq jX6_join_s1 0 rfl) ?_
                  refine rz_if_ne G (tgt := 56) rfl (dq jX6_join_s1 1 rfl) (fun c14 => ?_) (fun c14 => ?_)
                  · refine rz_iload_n G 2 rfl rfl (dq jX6_join_s1 2 rfl) ?_
                    refine rz_if_eq G (tgt := 60) rfl (dq jX6_join_s1 3 rfl) (fun c15 => ?_) (fun c15 => ?_)
                    · refine rz_iconst G (v := 0) (dq jX6_join_s1 6 rfl) rfl ?_
                      exact rz_iret G (dq jX6_join_s1 7 rfl)
                    · exact rz_lv [] rfl (z_X6_join_b56 G)
                  · exact rz_lv [] rfl (z_X6_join_b56 G)
                · have n_c1 := ne_toInt (z := -8) (by decide) c1; have n_c2 := ne_toInt (z := -7) (by decide) c2; have n_c3 := ne_toInt (z := -6) (by decide) c3; have n_c4 := ne_toInt (z := -5) (by decide) c4; have n_c6 := ne_toInt (z := -4) (by decide) c6; have n_c8 := ne_toInt (z := -3) (by decide) c8; have n_c10 := ne_toInt (z := -2) (by decide) c10; have n_c13 := ne_toInt (z := -1) (by decide) c13
                  refine rz_tableOut G (tgt := 110) swX6_join_1 (by omega) rfl ?_
                  refine rz_iload_n G 2 rfl rfl (dq jX6_join_s1 42 rfl) ?_
                  refine rz_if_ne G (tgt := 118) rfl (dq jX6_join_s1 43 rfl) (fun c16 => ?_) (fun c16 => ?_)
                  · refine rz_iconst G (v := 0) (dq jX6_join_s1 44 rfl) rfl ?_
                    refine rz_goto G (tgt := 121) rfl (dq jX6_join_s1 45 rfl) ?_
                    exact rz_iret G (dq jX6_join_s1 49 rfl)
                  · refine rz_iload_n G 1 rfl rfl (dq jX6_join_s1 46 rfl) ?_
                    refine rz_iload_n G 2 rfl rfl (dq jX6_join_s1 47 rfl) ?_
                    refine rz_idiv G (dq jX6_join_s1 48 rfl) ?_
                    exact rz_iret G (dq jX6_join_s1 49 rfl)
theorem z_X6_holds_b218 {Γ : Cx} (G : GG Γ RX6 cX6_holds 8 (some .boolean) 2 0 0) (k43 : Nat → Int32 → Int32 → Int32 → Sg → Option (Int32 × Sg)) (hk43 : ∀ (q0 : Nat) (x1 : Int32) (x3 : Int32) (x4 : Int32), Rz Γ 8 (Qm Γ encI 0 0) 0 0 43 [(0, .ref q0), (1, .int x1), (2, .ref 27), (3, .int x3), (4, .int x4)] [] (k43 q0 x1 x3 x4)) (q0 : Nat) (x1 : Int32) (x3 : Int32) (x4 : Int32) : Rz Γ 8 (Qm Γ encI 0 0) 0 0 218 [(0, .ref q0), (1, .int x1), (2, .ref 27), (3, .int x3), (4, .int x4)] [] (f_X6_holds_b218 k43 q0 x1 x3 x4) := by
  unfold f_X6_holds_b218
  refine rz_gd (fun h_q0 => ?_)
  refine rz_iinc G 4 (v := x4 + 1) (lv' := [(4, .int (x4 + 1)), (0, .ref q0), (1, .int x1), (2, .ref 27), (3, .int x3)]) rfl (congrArg (HAdd.hAdd _) (by decide)) (Nat.le_of_ble_eq_true rfl) rfl (dq jX6_holds 127 rfl) ?_
  refine rz_goto G (tgt := 43) rfl (dq jX6_holds 128 rfl) ?_
  exact rz_lv [1, 2, 3, 4, 0] rfl (hk43 q0 x1 x3 (x4 + 1))
theorem z_X6_holds_b115 {Γ : Cx} (G : GG Γ RX6 cX6_holds 8 (some .boolean) 2 0 0) (k43 : Nat → Int32 → Int32 → Int32 → Sg → Option (Int32 × Sg)) (hk43 : ∀ (q0 : Nat) (x1 : Int32) (x3 : Int32) (x4 : Int32), Rz Γ 8 (Qm Γ encI 0 0) 0 0 43 [(0, .ref q0), (1, .int x1), (2, .ref 27), (3, .int x3), (4, .int x4)] [] (k43 q0 x1 x3 x4)) (q0 : Nat) (x1 : Int32) (x3 : Int32) (x4 : Int32) (xs0 : Int32) : Rz Γ 8 (Qm Γ encI 0 0) 0 0 115 [(0, .ref q0), (1, .int x1), (2, .ref 27), (3, .int x3), (4, .int x4)] [.int xs0] (f_X6_holds_b115 k43 q0 x1 x3 x4 xs0) := by
  unfold f_X6_holds_b115
  refine rz_gd (fun h_q0 => ?_)
  refine rz_istore G (lv' := [(7, .int xs0), (0, .ref q0), (1, .int x1), (2, .ref 27), (3, .int x3), (4, .int x4)]) (Nat.le_of_ble_eq_true rfl) rfl (dq jX6_holds 63 rfl) ?_
  refine rz_iload_n G 4 rfl rfl (dq jX6_holds 64 rfl) ?_
  refine rz_iconst G (v := 1) (dq jX6_holds 65 rfl) rfl ?_
  refine rz_iadd G (dq jX6_holds 66 rfl) ?_
  refine rz_aload_n G 1 rfl rfl (dq jX6_holds 67 rfl) ?_
  refine rz_getC G flX6_18 (ru_sh h_q0) (t := (q0 + 3)) rfl rfl (dq jX6_holds 68 rfl) ?_
  refine rz_alen G (v := 40) (ru_s3 h_q0) (by decide) (by decide) (dq jX6_holds 69 rfl) ?_
  refine rz_mmin G mtX6_28 (by decide) (Nat.le_of_ble_eq_true rfl) (dq jX6_holds 70 rfl) ?_
  refine rz_lti (fun w1 e_w1 => ?_)
  refine rz_istore_n G (lv' := [(3, .int w1), (7, .int xs0), (0, .ref q0), (1, .int x1), (2, .ref 27), (4, .int x4)]) rfl (Nat.le_of_ble_eq_true rfl) rfl (dq jX6_holds 71 rfl) ?_
  refine rz_aload_n G 2 rfl rfl (dq jX6_holds 72 rfl) ?_
  refine rz_getC G flX6_18 (ru_sh h_q0) (t := (q0 + 3)) rfl rfl (dq jX6_holds 73 rfl) ?_
  refine rz_iload_n G 0 rfl rfl (dq jX6_holds 74 rfl) ?_
  refine rz_iconst G (v := 1) (dq jX6_holds 75 rfl) rfl ?_
  refine rz_isub G (dq jX6_holds 76 rfl) ?_
  refine rz_iload G 1 rfl (dq jX6_holds 77 rfl) ?_
  refine rz_iast G (ru_s3 h_q0) (dq jX6_holds 78 rfl) ?_
  refine rz_goto G (tgt := 218) rfl (dq jX6_holds 79 rfl) ?_
  exact rz_lv [2, 3, 4, 0, 5] rfl (z_X6_holds_b218 G k43 hk43 q0 x1 w1 x4)
theorem z_X6_holds_b90 {Γ : Cx} (G : GG Γ RX6 cX6_holds 8 (some .boolean) 2 0 0) (k43 : Nat → Int32 → Int32 → Int32 → Sg → Option (Int32 × Sg)) (hk43 : ∀ (q0 : Nat) (x1 : Int32) (x3 : Int32) (x4 : Int32), Rz Γ 8 (Qm Γ encI 0 0) 0 0 43 [(0, .ref q0), (1, .int x1), (2, .ref 27), (3, .int x3), (4, .int x4)] [] (k43 q0 x1 x3 x4)) (q0 : Nat) (x1 : Int32) (x3 : Int32) (x4 : Int32) (x5 : Int32) (x6 : Int32) : Rz Γ 8 (Qm Γ encI 0 0) 0 0 90 [(0, .ref q0), (1, .int x1), (2, .ref 27), (3, .int x3), (4, .int x4), (5, .int x5), (6, .int x6)] [] (f_X6_holds_b90 k43 q0 x1 x3 x4 x5 x6) := by
  unfold f_X6_holds_b90
  refine rz_gd (fun h_q0 => ?_)
  refine rz_iload G 5 rfl (dq jX6_holds 50 rfl) ?_
  refine rz_if_lt G (tgt := 100) rfl (dq jX6_holds 51 rfl) (fun c1 => ?_) (fun c1 => ?_)
  · refine rz_iload G 6 rfl (dq jX6_holds 54 rfl) ?_
    refine rz_aload_n G 2 rfl rfl (dq jX6_holds 55 rfl) ?_
    refine rz_alen G (v := 8) sh27 (by decide) (by decide) (dq jX6_holds 56 rfl) ?_
    refine rz_icmp_ge G (tgt := 114) rfl (dq jX6_holds 57 rfl) (fun c2 => ?_) (fun c2 => ?_)
    · refine rz_iconst G (v := 0) (dq jX6_holds 62 rfl) rfl ?_
      exact rz_lv [0, 1, 2, 3, 4] rfl (z_X6_holds_b115 G k43 hk43 q0 x1 x3 x4 0)
    · refine rz_aload_n G 2 rfl rfl (dq jX6_holds 58 rfl) ?_
      refine rz_iload G 6 rfl (dq jX6_holds 59 rfl) ?_
      refine rz_iald G sh27 (dq jX6_holds 60 rfl) (fun v3 => ?_)
      refine rz_goto G (tgt := 115) rfl (dq jX6_holds 61 rfl) ?_
      exact rz_lv [0, 1, 2, 3, 4] rfl (z_X6_holds_b115 G k43 hk43 q0 x1 x3 x4 v3)
  · refine rz_iload G 5 rfl (dq jX6_holds 52 rfl) ?_
    refine rz_goto G (tgt := 115) rfl (dq jX6_holds 53 rfl) ?_
    exact rz_lv [0, 1, 2, 3, 4] rfl (z_X6_holds_b115 G k43 hk43 q0 x1 x3 x4 x5)
theorem z_X6_holds_b177 {Γ : Cx} (G : GG Γ RX6 cX6_holds 8 (some .boolean) 2 0 0) (k43 : Nat → Int32 → Int32 → Int32 → Sg → Option (Int32 × Sg)) (hk43 : ∀ (q0 : Nat) (x1 : Int32) (x3 : Int32) (x4 : Int32), Rz Γ 8 (Qm Γ encI 0 0) 0 0 43 [(0, .ref q0), (1, .int x1), (2, .ref 27), (3, .int x3), (4, .int x4)] [] (k43 q0 x1 x3 x4)) (q0 : Nat) (x1 : Int32) (x3 : Int32) (x4 : Int32) (xs0 : Int32) (xs1 : Int32) : Rz Γ 8 (Qm Γ encI 0 0) 0 0 177 [(0, .ref q0), (1, .int x1), (2, .ref 27), (3, .int x3), (4, .int x4)] [.int xs0, .int xs1, .ref (q0 + 3)] (f_X6_holds_b177 k43 q0 x1 x3 x4 xs0 xs1) := by
  unfold f_X6_holds_b177
  refine rz_gd (fun h_q0 => ?_)
  refine rz_iast G (ru_s3 h_q0) (dq jX6_holds 101 rfl) ?_
  refine rz_goto G (tgt := 218) rfl (dq jX6_holds 102 rfl) ?_
  exact rz_lv [0, 1, 2, 3, 4] rfl (z_X6_holds_b218 G k43 hk43 q0 x1 x3 x4)
theorem z_X6_holds_b181 {Γ : Cx} (G : GG Γ RX6 cX6_holds 8 (some .boolean) 2 0 0) (k43 : Nat → Int32 → Int32 → Int32 → Sg → Option (Int32 × Sg)) (hk43 : ∀ (q0 : Nat) (x1 : Int32) (x3 : Int32) (x4 : Int32), Rz Γ 8 (Qm Γ encI 0 0) 0 0 43 [(0, .ref q0), (1, .int x1), (2, .ref 27), (3, .int x3), (4, .int x4)] [] (k43 q0 x1 x3 x4)) (q0 : Nat) (x1 : Int32) (x3 : Int32) (x4 : Int32) (x5 : Int32) : Rz Γ 8 (Qm Γ encI 0 0) 0 0 181 [(0, .ref q0), (1, .int x1), (2, .ref 27), (3, .int x3), (4, .int x4), (5, .int x5)] [] (f_X6_holds_b181 k43 q0 x1 x3 x4 x5) := by
  unfold f_X6_holds_b181
  refine rz_gd (fun h_q0 => ?_)
  refine rz_iload_n G 3 rfl rfl (dq jX6_holds 103 rfl) ?_
  refine rz_iconst G (v := 2) (dq jX6_holds 104 rfl) rfl ?_
  refine rz_icmp_lt G (tgt := 218) rfl (dq jX6_holds 105 rfl) (fun c1 => ?_) (fun c1 => ?_)
  · exact rz_lv [0, 1, 2, 3, 4] rfl (z_X6_holds_b218 G k43 hk43 q0 x1 x3 x4)
  · refine rz_aload_n G 0 rfl rfl (dq jX6_holds 106 rfl) ?_
    refine rz_getC G flX6_18 (ru_sh h_q0) (t := (q0 + 3)) rfl rfl (dq jX6_holds 107 rfl) ?_
    refine rz_iload_n G 3 rfl rfl (dq jX6_holds 108 rfl) ?_
    refine rz_iconst G (v := 2) (dq jX6_holds 109 rfl) rfl ?_
    refine rz_isub G (dq jX6_holds 110 rfl) ?_
    refine rz_iload G 5 rfl (dq jX6_holds 111 rfl) ?_
    refine rz_aload_n G 0 rfl rfl (dq jX6_holds 112 rfl) ?_
    refine rz_getC G flX6_18 (ru_sh h_q0) (t := (q0 + 3)) rfl rfl (dq jX6_holds 113 rfl) ?_
    refine rz_iload_n G 3 rfl rfl (dq jX6_holds 114 rfl) ?_
    refine rz_iconst G (v := 2) (dq jX6_holds 115 rfl) rfl ?_
    refine rz_isub G (dq jX6_holds 116 rfl) ?_
    refine rz_iald G (ru_s3 h_q0) (dq jX6_holds 117 rfl) (fun v2 => ?_)
    refine rz_aload_n G 0 rfl rfl (dq jX6_holds 118 rfl) ?_
    refine rz_getC G flX6_18 (ru_sh h_q0) (t := (q0 + 3)) rfl rfl (dq jX6_holds 119 rfl) ?_
    refine rz_iload_n G 3 rfl rfl (dq jX6_holds 120 rfl) ?_
    refine rz_iconst G (v := 1) (dq jX6_holds 121 rfl) rfl ?_
    refine rz_isub G (dq jX6_holds 122 rfl) ?_
    refine rz_iald G (ru_s3 h_q0) (dq jX6_holds 123 rfl) (fun v3 => ?_)
    refine rz_callSi G (st := [.int (x3 - 2), .ref (q0 + 3)]) (c_X6_join (cLn Γ) x5 v2 v3) lkX6_34 rfl (Nat.le_of_ble_eq_true rfl) (Nat.le_of_ble_eq_true rfl) (dq jX6_holds 124 rfl) rfl (fun r4 => ?_)
    refine rz_iast G (ru_s3 h_q0) (dq jX6_holds 125 rfl) ?_
    refine rz_iinc G 3 (v := x3 + (-1)) (lv' := [(3, .int (x3 + (-1))), (0, .ref q0), (1, .int x1), (2, .ref 27), (4, .int x4), (5, .int x5)]) rfl (congrArg (HAdd.hAdd _) (by decide)) (Nat.le_of_ble_eq_true rfl) rfl (dq jX6_holds 126 rfl) ?_
    exact rz_lv [1, 2, 3, 0, 4] rfl (z_X6_holds_b218 G k43 hk43 q0 x1 (x3 + (-1)) x4)
theorem z_X6_holds_b224 {Γ : Cx} (G : GG Γ RX6 cX6_holds 8 (some .boolean) 2 0 0) (q0 : Nat) (x3 : Int32) : Rz Γ 8 (Qm Γ encI 0 0) 0 0 224 [(0, .ref q0), (3, .int x3)] [] (f_X6_holds_b224 q0 x3) := by
  unfold f_X6_holds_b224
  refine rz_gd (fun h_q0 => ?_)
  refine rz_iload_n G 1 rfl rfl (dq jX6_holds 129 rfl) ?_
  refine rz_iconst G (v := 1) (dq jX6_holds 130 rfl) rfl ?_
  refine rz_icmp_lt G (tgt := 244) rfl (dq jX6_holds 131 rfl) (fun c1 => ?_) (fun c1 => ?_)
  · refine rz_iconst G (v := 0) (dq jX6_holds 141 rfl) rfl ?_
    exact rz_zret0 G (by decide) (dq jX6_holds 142 rfl)
  · refine rz_aload_n G 0 rfl rfl (dq jX6_holds 132 rfl) ?_
    refine rz_getC G flX6_18 (ru_sh h_q0) (t := (q0 + 3)) rfl rfl (dq jX6_holds 133 rfl) ?_
    refine rz_iload_n G 1 rfl rfl (dq jX6_holds 134 rfl) ?_
    refine rz_iconst G (v := 1) (dq jX6_holds 135 rfl) rfl ?_
    refine rz_isub G (dq jX6_holds 136 rfl) ?_
    refine rz_iald G (ru_s3 h_q0) (dq jX6_holds 137 rfl) (fun v2 => ?_)
    refine rz_if_eq G (tgt := 244) rfl (dq jX6_holds 138 rfl) (fun c3 => ?_) (fun c3 => ?_)
    · refine rz_iconst G (v := 0) (dq jX6_holds 141 rfl) rfl ?_
      exact rz_zret0 G (by decide) (dq jX6_holds 142 rfl)
    · refine rz_iconst G (v := 1) (dq jX6_holds 139 rfl) rfl ?_
      refine rz_goto G (tgt := 245) rfl (dq jX6_holds 140 rfl) ?_
      exact rz_zret0 G (by decide) (dq jX6_holds 142 rfl)
theorem z_X6_holds_b43 {Γ : Cx} (G : GG Γ RX6 cX6_holds 8 (some .boolean) 2 0 0) : ∀ (fu : Nat) (q0 : Nat) (x1 : Int32) (x3 : Int32) (x4 : Int32), Rz Γ 8 (Qm Γ encI 0 0) 0 0 43 [(0, .ref q0), (1, .int x1), (2, .ref 27), (3, .int x3), (4, .int x4)] [] (f_X6_holds_b43 fu q0 x1 x3 x4) := by
  intro fu
  induction fu with
  | zero => intro _ _ _ _; exact rz_none
  | succ fu ih =>
    intro q0 x1 x3 x4
    rw [f_X6_holds_b43]
    refine rz_gd (fun h_q0 => ?_)
    refine rz_iload G 4 rfl (dq jX6_holds 26 rfl) ?_
    refine rz_aload_n G 0 rfl rfl (dq jX6_holds 27 rfl) ?_
    refine rz_getC G flX6_15 (ru_sh h_q0) (t := (q0 + 2)) rfl rfl (dq jX6_holds 28 rfl) ?_
    refine rz_iload_n G 1 rfl rfl (dq jX6_holds 29 rfl) ?_
    refine rz_iald G (ru_s2 h_q0) (dq jX6_holds 30 rfl) (fun v1 => ?_)
    refine rz_icmp_ge G (tgt := 224) rfl (dq jX6_holds 31 rfl) (fun c2 => ?_) (fun c2 => ?_)
    · exact rz_lv [0, 3] rfl (z_X6_holds_b224 G q0 x3)
    · refine rz_iload G 4 rfl (dq jX6_holds 32 rfl) ?_
      refine rz_aload_n G 0 rfl rfl (dq jX6_holds 33 rfl) ?_
      refine rz_getC G flX6_9 (ru_sh h_q0) (t := (q0 + 1)) rfl rfl (dq jX6_holds 34 rfl) ?_
      refine rz_alen G (v := 600) (ru_s1 h_q0) (by decide) (by decide) (dq jX6_holds 35 rfl) ?_
      refine rz_icmp_ge G (tgt := 224) rfl (dq jX6_holds 36 rfl) (fun c3 => ?_) (fun c3 => ?_)
      · exact rz_lv [0, 3] rfl (z_X6_holds_b224 G q0 x3)
      · refine rz_aload_n G 0 rfl rfl (dq jX6_holds 37 rfl) ?_
        refine rz_getC G flX6_9 (ru_sh h_q0) (t := (q0 + 1)) rfl rfl (dq jX6_holds 38 rfl) ?_
        refine rz_iload G 4 rfl (dq jX6_holds 39 rfl) ?_
        refine rz_iald G (ru_s1 h_q0) (dq jX6_holds 40 rfl) (fun v4 => ?_)
        refine rz_istore G (lv' := [(5, .int v4), (0, .ref q0), (1, .int x1), (2, .ref 27), (3, .int x3), (4, .int x4)]) (Nat.le_of_ble_eq_true rfl) rfl (dq jX6_holds 41 rfl) ?_
        refine rz_bipush G (v := (-10)) (dq jX6_holds 42 rfl) (by decide) ?_
        refine rz_iload G 0 rfl (dq jX6_holds 43 rfl) ?_
        refine rz_isub G (dq jX6_holds 44 rfl) ?_
        refine rz_istore G (lv' := [(6, .int (((-10)) - v4)), (5, .int v4), (0, .ref q0), (1, .int x1), (2, .ref 27), (3, .int x3), (4, .int x4)]) (Nat.le_of_ble_eq_true rfl) rfl (dq jX6_holds 45 rfl) ?_
        refine rz_iload G 1 rfl (dq jX6_holds 46 rfl) ?_
        refine rz_if_ge G (tgt := 90) rfl (dq jX6_holds 47 rfl) (fun c5 => ?_) (fun c5 => ?_)
        · exact rz_lv [2, 3, 4, 5, 6, 1, 0] rfl (z_X6_holds_b90 G (f_X6_holds_b43 fu) ih q0 x1 x3 x4 v4 (((-10)) - v4))
        · refine rz_iload G 0 rfl (dq jX6_holds 48 rfl) ?_
          refine rz_if_lt G (tgt := 142) rfl (dq jX6_holds 49 rfl) (fun c6 => ?_) (fun c6 => ?_)
          · refine rz_iload G 1 rfl (dq jX6_holds 80 rfl) ?_
            refine rz_bipush G (v := (-3)) (dq jX6_holds 81 rfl) (by decide) ?_
            refine rz_icmp_ne G (tgt := 181) rfl (dq jX6_holds 82 rfl) (fun c7 => ?_) (fun c7 => ?_)
            · refine rz_iload_n G 5 rfl rfl (dq jX6_holds 83 rfl) ?_
              refine rz_iconst G (v := 1) (dq jX6_holds 84 rfl) rfl ?_
              refine rz_icmp_lt G (tgt := 181) rfl (dq jX6_holds 85 rfl) (fun c8 => ?_) (fun c8 => ?_)
              · exact rz_lv [2, 3, 4, 5, 6, 1] rfl (z_X6_holds_b181 G (f_X6_holds_b43 fu) ih q0 x1 x3 x4 v4)
              · refine rz_aload_n G 2 rfl rfl (dq jX6_holds 86 rfl) ?_
                refine rz_getC G flX6_18 (ru_sh h_q0) (t := (q0 + 3)) rfl rfl (dq jX6_holds 87 rfl) ?_
                refine rz_iload_n G 5 rfl rfl (dq jX6_holds 88 rfl) ?_
                refine rz_iconst G (v := 1) (dq jX6_holds 89 rfl) rfl ?_
                refine rz_isub G (dq jX6_holds 90 rfl) ?_
                refine rz_aload_n G 2 rfl rfl (dq jX6_holds 91 rfl) ?_
                refine rz_getC G flX6_18 (ru_sh h_q0) (t := (q0 + 3)) rfl rfl (dq jX6_holds 92 rfl) ?_
                refine rz_iload_n G 5 rfl rfl (dq jX6_holds 93 rfl) ?_
                refine rz_iconst G (v := 1) (dq jX6_holds 94 rfl) rfl ?_
                refine rz_isub G (dq jX6_holds 95 rfl) ?_
                refine rz_iald G (ru_s3 h_q0) (dq jX6_holds 96 rfl) (fun v9 => ?_)
                refine rz_if_ne G (tgt := 176) rfl (dq jX6_holds 97 rfl) (fun c10 => ?_) (fun c10 => ?_)
                · refine rz_iconst G (v := 1) (dq jX6_holds 98 rfl) rfl ?_
                  refine rz_goto G (tgt := 177) rfl (dq jX6_holds 99 rfl) ?_
                  exact rz_lv [2, 3, 4, 5, 6] rfl (z_X6_holds_b177 G (f_X6_holds_b43 fu) ih q0 x1 x3 x4 1 (x3 - 1))
                · refine rz_iconst G (v := 0) (dq jX6_holds 100 rfl) rfl ?_
                  exact rz_lv [2, 3, 4, 5, 6] rfl (z_X6_holds_b177 G (f_X6_holds_b43 fu) ih q0 x1 x3 x4 0 (x3 - 1))
            · exact rz_lv [2, 3, 4, 5, 6, 1] rfl (z_X6_holds_b181 G (f_X6_holds_b43 fu) ih q0 x1 x3 x4 v4)
          · exact rz_lv [2, 3, 4, 5, 6, 1, 0] rfl (z_X6_holds_b90 G (f_X6_holds_b43 fu) ih q0 x1 x3 x4 v4 (((-10)) - v4))
theorem z_X6_holds_b41 {Γ : Cx} (G : GG Γ RX6 cX6_holds 8 (some .boolean) 2 0 0) (q0 : Nat) (x1 : Int32) (x3 : Int32) (xs0 : Int32) : Rz Γ 8 (Qm Γ encI 0 0) 0 0 41 [(0, .ref q0), (1, .int x1), (2, .ref 27), (3, .int x3)] [.int xs0] (f_X6_holds_b41 q0 x1 x3 xs0) := by
  unfold f_X6_holds_b41
  refine rz_gd (fun h_q0 => ?_)
  refine rz_istore G (lv' := [(4, .int xs0), (0, .ref q0), (1, .int x1), (2, .ref 27), (3, .int x3)]) (Nat.le_of_ble_eq_true rfl) rfl (dq jX6_holds 25 rfl) ?_
  exact rz_lv [1, 2, 3, 4, 0] rfl (z_X6_holds_b43 G FU q0 x1 x3 xs0)
theorem c_X6_holds (l : Launch) (q0 : Nat) (x1 : Int32) : Ct l yX6_holds cX6_holds 8 (some .boolean) 2 encI [.ref q0, .int x1, .ref 27] (f_X6_holds q0 x1) := by
  refine ct_of (own := RX6) (by decide) rfl (Nat.le_of_ble_eq_true rfl) (fun Γ hl G => ?_)
  show Rz Γ 8 (Qm Γ encI 0 0) 0 0 0 [(0, .ref q0), (1, .int x1), (2, .ref 27)] [] _
  unfold f_X6_holds
  refine rz_gd (fun h_q0 => ?_)
  refine rz_iload_n G 1 rfl rfl (dq jX6_holds 0 rfl) ?_
  refine rz_if_lt G (tgt := 21) rfl (dq jX6_holds 1 rfl) (fun c1 => ?_) (fun c1 => ?_)
  · refine rz_iconst G (v := 1) (dq jX6_holds 11 rfl) rfl ?_
    exact rz_zret0 G (by decide) (dq jX6_holds 12 rfl)
  · refine rz_iload_n G 1 rfl rfl (dq jX6_holds 2 rfl) ?_
    refine rz_aload_n G 0 rfl rfl (dq jX6_holds 3 rfl) ?_
    refine rz_getI G flX6_25 (ru_sh h_q0) rfl (dq jX6_holds 4 rfl) (fun v2 => ?_)
    refine rz_icmp_ge G (tgt := 21) rfl (dq jX6_holds 5 rfl) (fun c3 => ?_) (fun c3 => ?_)
    · refine rz_iconst G (v := 1) (dq jX6_holds 11 rfl) rfl ?_
      exact rz_zret0 G (by decide) (dq jX6_holds 12 rfl)
    · refine rz_iload_n G 1 rfl rfl (dq jX6_holds 6 rfl) ?_
      refine rz_aload_n G 0 rfl rfl (dq jX6_holds 7 rfl) ?_
      refine rz_getC G flX6_15 (ru_sh h_q0) (t := (q0 + 2)) rfl rfl (dq jX6_holds 8 rfl) ?_
      refine rz_alen G (v := 4) (ru_s2 h_q0) (by decide) (by decide) (dq jX6_holds 9 rfl) ?_
      refine rz_icmp_lt G (tgt := 23) rfl (dq jX6_holds 10 rfl) (fun c4 => ?_) (fun c4 => ?_)
      · refine rz_iconst G (v := 0) (dq jX6_holds 13 rfl) rfl ?_
        refine rz_istore_n G (lv' := [(3, .int 0), (0, .ref q0), (1, .int x1), (2, .ref 27)]) rfl (Nat.le_of_ble_eq_true rfl) rfl (dq jX6_holds 14 rfl) ?_
        refine rz_iload_n G 2 rfl rfl (dq jX6_holds 15 rfl) ?_
        refine rz_if_ne G (tgt := 33) rfl (dq jX6_holds 16 rfl) (fun c5 => ?_) (fun c5 => ?_)
        · refine rz_iconst G (v := 0) (dq jX6_holds 17 rfl) rfl ?_
          refine rz_goto G (tgt := 41) rfl (dq jX6_holds 18 rfl) ?_
          exact rz_lv [1, 2, 3, 0] rfl (z_X6_holds_b41 G q0 x1 0 0)
        · refine rz_aload_n G 1 rfl rfl (dq jX6_holds 19 rfl) ?_
          refine rz_getC G flX6_15 (ru_sh h_q0) (t := (q0 + 2)) rfl rfl (dq jX6_holds 20 rfl) ?_
          refine rz_iload_n G 2 rfl rfl (dq jX6_holds 21 rfl) ?_
          refine rz_iconst G (v := 1) (dq jX6_holds 22 rfl) rfl ?_
          refine rz_isub G (dq jX6_holds 23 rfl) ?_
          refine rz_iald G (ru_s2 h_q0) (dq jX6_holds 24 rfl) (fun v6 => ?_)
          exact rz_lv [1, 2, 3, 0] rfl (z_X6_holds_b41 G q0 x1 0 v6)
      · refine rz_iconst G (v := 1) (dq jX6_holds 11 rfl) rfl ?_
        exact rz_zret0 G (by decide) (dq jX6_holds 12 rfl)
theorem c_X4_mayGo (l : Launch) (q1 : Nat) (x2 : Int32) (x3 : Int32) : Ct l yX4_mayGo cX4_mayGo 4 (some .boolean) 3 encI [.ref 17, .ref q1, .int x2, .int x3] (f_X4_mayGo q1 x2 x3) := by
  refine ct_of (own := RX4) (by decide) rfl (Nat.le_of_ble_eq_true rfl) (fun Γ hl G => ?_)
  show Rz Γ 4 (Qm Γ encI 0 0) 0 0 0 [(0, .ref 17), (1, .ref q1), (2, .int x2), (3, .int x3)] [] _
  unfold f_X4_mayGo
  refine rz_gd (fun h_q1 => ?_)
  refine rz_aload_n G 0 rfl rfl (dq jX4_mayGo 0 rfl) ?_
  refine rz_getI G flX4_59 sh17 rfl (dq jX4_mayGo 1 rfl) (fun v1 => ?_)
  refine rz_iconst G (v := (-1)) (dq jX4_mayGo 2 rfl) rfl ?_
  refine rz_icmp_ne G (tgt := 10) rfl (dq jX4_mayGo 3 rfl) (fun c2 => ?_) (fun c2 => ?_)
  · refine rz_iconst G (v := 1) (dq jX4_mayGo 4 rfl) rfl ?_
    exact rz_zret0 G (by decide) (dq jX4_mayGo 5 rfl)
  · refine rz_aload_n G 0 rfl rfl (dq jX4_mayGo 6 rfl) ?_
    refine rz_getC G flX4_19 sh17 (t := 27) rfl rfl (dq jX4_mayGo 7 rfl) ?_
    refine rz_iconst G (v := 0) (dq jX4_mayGo 8 rfl) rfl ?_
    refine rz_aload_n G 1 rfl rfl (dq jX4_mayGo 9 rfl) ?_
    refine rz_getI G flX4_172 (fl_sh h_q1) rfl (dq jX4_mayGo 10 rfl) (fun v3 => ?_)
    refine rz_iastN G (by decide) sh27 (dq jX4_mayGo 11 rfl) ?_
    refine rz_aload_n G 0 rfl rfl (dq jX4_mayGo 12 rfl) ?_
    refine rz_getC G flX4_19 sh17 (t := 27) rfl rfl (dq jX4_mayGo 13 rfl) ?_
    refine rz_iconst G (v := 1) (dq jX4_mayGo 14 rfl) rfl ?_
    refine rz_aload_n G 1 rfl rfl (dq jX4_mayGo 15 rfl) ?_
    refine rz_getI G flX4_146 (fl_sh h_q1) rfl (dq jX4_mayGo 16 rfl) (fun v4 => ?_)
    refine rz_iastN G (by decide) sh27 (dq jX4_mayGo 17 rfl) ?_
    refine rz_aload_n G 0 rfl rfl (dq jX4_mayGo 18 rfl) ?_
    refine rz_getC G flX4_19 sh17 (t := 27) rfl rfl (dq jX4_mayGo 19 rfl) ?_
    refine rz_iconst G (v := 2) (dq jX4_mayGo 20 rfl) rfl ?_
    refine rz_iload_n G 2 rfl rfl (dq jX4_mayGo 21 rfl) ?_
    refine rz_iastN G (by decide) sh27 (dq jX4_mayGo 22 rfl) ?_
    refine rz_aload_n G 0 rfl rfl (dq jX4_mayGo 23 rfl) ?_
    refine rz_getC G flX4_19 sh17 (t := 27) rfl rfl (dq jX4_mayGo 24 rfl) ?_
    refine rz_iconst G (v := 3) (dq jX4_mayGo 25 rfl) rfl ?_
    refine rz_aload_n G 1 rfl rfl (dq jX4_mayGo 26 rfl) ?_
    refine rz_getI G flX4_152 (fl_sh h_q1) rfl (dq jX4_mayGo 27 rfl) (fun v5 => ?_)
    refine rz_iastN G (by decide) sh27 (dq jX4_mayGo 28 rfl) ?_
    refine rz_aload_n G 0 rfl rfl (dq jX4_mayGo 29 rfl) ?_
    refine rz_getC G flX4_19 sh17 (t := 27) rfl rfl (dq jX4_mayGo 30 rfl) ?_
    refine rz_iconst G (v := 4) (dq jX4_mayGo 31 rfl) rfl ?_
    refine rz_iload_n G 3 rfl rfl (dq jX4_mayGo 32 rfl) ?_
    refine rz_iastN G (by decide) sh27 (dq jX4_mayGo 33 rfl) ?_
    refine rz_aload_n G 0 rfl rfl (dq jX4_mayGo 34 rfl) ?_
    refine rz_aload_n G 1 rfl rfl (dq jX4_mayGo 35 rfl) ?_
    refine rz_callVv G (st := []) (c_X4_countOthers (cLn Γ) q1) lkX4_214 sh17 rfl rfl rfl (Nat.le_of_ble_eq_true rfl) (Nat.le_of_ble_eq_true rfl) (dq jX4_mayGo 36 rfl) rfl (fun _ => ?_)
    refine rz_aload_n G 0 rfl rfl (dq jX4_mayGo 37 rfl) ?_
    refine rz_getR G flX4_33 sh17 rfl (dq jX4_mayGo 38 rfl) (fun u6 => ?_)
    refine rz_gd (fun h_u6 => ?_)
    refine rz_getC G flX4_218 (gd_sh h_u6) (t := (u6 + 3)) rfl rfl (dq jX4_mayGo 39 rfl) ?_
    refine rz_aload_n G 0 rfl rfl (dq jX4_mayGo 40 rfl) ?_
    refine rz_getI G flX4_59 sh17 rfl (dq jX4_mayGo 41 rfl) (fun v7 => ?_)
    refine rz_aload_n G 0 rfl rfl (dq jX4_mayGo 42 rfl) ?_
    refine rz_getC G flX4_19 sh17 (t := 27) rfl rfl (dq jX4_mayGo 43 rfl) ?_
    refine rz_callVi G (st := []) (c_X6_holds (cLn Γ) (u6 + 3) v7) lkX4_222 (gd_s3 h_u6) rfl rfl rfl (Nat.le_of_ble_eq_true rfl) (Nat.le_of_ble_eq_true rfl) (dq jX4_mayGo 44 rfl) rfl (fun r8 => ?_)
    exact rz_zret G (dq jX4_mayGo 45 rfl)
theorem c_X4_send (l : Launch) (q1 : Nat) (x2 : Int32) (x3 : Int32) : Ct l yX4_send cX4_send 4 none 3 encV [.ref 17, .ref q1, .int x2, .int x3] (f_X4_send q1 x2 x3) := by
  refine ct_of (own := RX4) (by decide) rfl (Nat.le_of_ble_eq_true rfl) (fun Γ hl G => ?_)
  show Rz Γ 4 (Qm Γ encV 0 0) 0 0 0 [(0, .ref 17), (1, .ref q1), (2, .int x2), (3, .int x3)] [] _
  unfold f_X4_send
  refine rz_gd (fun h_q1 => ?_)
  refine rz_aload_n G 1 rfl rfl (dq jX4_send 0 rfl) ?_
  refine rz_iload_n G 2 rfl rfl (dq jX4_send 1 rfl) ?_
  refine rz_iload_n G 3 rfl rfl (dq jX4_send 2 rfl) ?_
  refine rz_aload_n G 0 rfl rfl (dq jX4_send 3 rfl) ?_
  refine rz_getR G flX4_33 sh17 rfl (dq jX4_send 4 rfl) (fun u1 => ?_)
  refine rz_gd (fun h_u1 => ?_)
  refine rz_aload_n G 1 rfl rfl (dq jX4_send 5 rfl) ?_
  refine rz_getI G flX4_152 (fl_sh h_q1) rfl (dq jX4_send 6 rfl) (fun v2 => ?_)
  refine rz_iload_n G 2 rfl rfl (dq jX4_send 7 rfl) ?_
  refine rz_aload_n G 1 rfl rfl (dq jX4_send 8 rfl) ?_
  refine rz_getI G flX4_203 (fl_sh h_q1) rfl (dq jX4_send 9 rfl) (fun v3 => ?_)
  refine rz_callVi G (st := [.int x3, .int x2, .ref q1]) (c_X2_comesTo (cLn Γ) u1 v2 x2 v3) lkX4_206 (gd_sh h_u1) rfl rfl rfl (Nat.le_of_ble_eq_true rfl) (Nat.le_of_ble_eq_true rfl) (dq jX4_send 10 rfl) rfl (fun r4 => ?_)
  refine rz_callVv G (st := []) (c_X1_rise (cLn Γ) q1 x2 x3 r4) lkX4_210 (fl_sh h_q1) rfl rfl rfl (Nat.le_of_ble_eq_true rfl) (Nat.le_of_ble_eq_true rfl) (dq jX4_send 11 rfl) rfl (fun _ => ?_)
  exact rz_vret G (dq jX4_send 12 rfl)
theorem z_X4_endRise_b52 {Γ : Cx} (G : GG Γ RX4 cX4_endRise 5 none 4 0 0) (x1 : Int32) (q2 : Nat) (xs0 : Int32) : Rz Γ 5 (Qm Γ encV 0 0) 0 0 52 [(0, .ref 17), (1, .int x1), (2, .ref q2)] [.int xs0] (f_X4_endRise_b52 x1 q2 xs0) := by
  unfold f_X4_endRise_b52
  refine rz_gd (fun h_q2 => ?_)
  refine rz_istore_n G (lv' := [(3, .int xs0), (0, .ref 17), (1, .int x1), (2, .ref q2)]) rfl (Nat.le_of_ble_eq_true rfl) rfl (dq jX4_endRise 27 rfl) ?_
  refine rz_iload_n G 0 rfl rfl (dq jX4_endRise 28 rfl) ?_
  refine rz_aload_n G 3 rfl rfl (dq jX4_endRise 29 rfl) ?_
  refine rz_getI G flX4_139 (fl_sh h_q2) rfl (dq jX4_endRise 30 rfl) (fun v1 => ?_)
  refine rz_iadd G (dq jX4_endRise 31 rfl) ?_
  refine rz_sipush G (v := 999) (dq jX4_endRise 32 rfl) (by decide) ?_
  refine rz_mmin G mtX4_44 (by decide) (Nat.le_of_ble_eq_true rfl) (dq jX4_endRise 33 rfl) ?_
  refine rz_lti (fun w2 e_w2 => ?_)
  refine rz_istore G (lv' := [(4, .int w2), (3, .int xs0), (0, .ref 17), (1, .int x1), (2, .ref q2)]) (Nat.le_of_ble_eq_true rfl) rfl (dq jX4_endRise 34 rfl) ?_
  refine rz_aload_n G 2 rfl rfl (dq jX4_endRise 35 rfl) ?_
  refine rz_iconst G (v := 0) (dq jX4_endRise 36 rfl) rfl ?_
  refine rz_putI G flX4_77 sh17 rfl (dq jX4_endRise 37 rfl) ?_
  refine rz_aload_n G 2 rfl rfl (dq jX4_endRise 38 rfl) ?_
  refine rz_iconst G (v := 1) (dq jX4_endRise 39 rfl) rfl ?_
  refine rz_putZ G (by decide) flX4_70 sh17 rfl (dq jX4_endRise 40 rfl) ?_
  refine rz_aload_n G 2 rfl rfl (dq jX4_endRise 41 rfl) ?_
  refine rz_dup G rfl (dq jX4_endRise 42 rfl) ?_
  refine rz_getI G flX4_89 sh17 rfl (dq jX4_endRise 43 rfl) (fun v3 => ?_)
  refine rz_iconst G (v := 1) (dq jX4_endRise 44 rfl) rfl ?_
  refine rz_iadd G (dq jX4_endRise 45 rfl) ?_
  refine rz_putI G flX4_89 sh17 rfl (dq jX4_endRise 46 rfl) ?_
  refine rz_aload_n G 2 rfl rfl (dq jX4_endRise 47 rfl) ?_
  refine rz_aload_n G 4 rfl rfl (dq jX4_endRise 48 rfl) ?_
  refine rz_iload G 0 rfl (dq jX4_endRise 49 rfl) ?_
  refine rz_iload_n G 3 rfl rfl (dq jX4_endRise 50 rfl) ?_
  refine rz_callVi G (st := []) (c_X4_mayGo (cLn Γ) q2 w2 x1) lkX4_195 sh17 rfl rfl rfl (Nat.le_of_ble_eq_true rfl) (Nat.le_of_ble_eq_true rfl) (dq jX4_endRise 51 rfl) rfl (fun r4 => ?_)
  refine rz_if_eq G (tgt := 121) rfl (dq jX4_endRise 52 rfl) (fun c5 => ?_) (fun c5 => ?_)
  · exact rz_vret G (dq jX4_endRise 67 rfl)
  · refine rz_aload_n G 2 rfl rfl (dq jX4_endRise 53 rfl) ?_
    refine rz_dup G rfl (dq jX4_endRise 54 rfl) ?_
    refine rz_getI G flX4_86 sh17 rfl (dq jX4_endRise 55 rfl) (fun v6 => ?_)
    refine rz_iload_n G 1 rfl rfl (dq jX4_endRise 56 rfl) ?_
    refine rz_aload_n G 4 rfl rfl (dq jX4_endRise 57 rfl) ?_
    refine rz_getI G flX4_146 (fl_sh h_q2) rfl (dq jX4_endRise 58 rfl) (fun v7 => ?_)
    refine rz_imul G (dq jX4_endRise 59 rfl) ?_
    refine rz_iadd G (dq jX4_endRise 60 rfl) ?_
    refine rz_putI G flX4_86 sh17 rfl (dq jX4_endRise 61 rfl) ?_
    refine rz_aload_n G 2 rfl rfl (dq jX4_endRise 62 rfl) ?_
    refine rz_aload_n G 4 rfl rfl (dq jX4_endRise 63 rfl) ?_
    refine rz_iload G 0 rfl (dq jX4_endRise 64 rfl) ?_
    refine rz_iload_n G 3 rfl rfl (dq jX4_endRise 65 rfl) ?_
    refine rz_callVv G (st := []) (c_X4_send (cLn Γ) q2 w2 x1) lkX4_199 sh17 rfl rfl rfl (Nat.le_of_ble_eq_true rfl) (Nat.le_of_ble_eq_true rfl) (dq jX4_endRise 66 rfl) rfl (fun _ => ?_)
    exact rz_vret G (dq jX4_endRise 67 rfl)
theorem c_X4_endRise (l : Launch) (x1 : Int32) : Ct l yX4_endRise cX4_endRise 5 none 4 encV [.ref 17, .int x1] (f_X4_endRise x1) := by
  refine ct_of (own := RX4) (by decide) rfl (Nat.le_of_ble_eq_true rfl) (fun Γ hl G => ?_)
  show Rz Γ 5 (Qm Γ encV 0 0) 0 0 0 [(0, .ref 17), (1, .int x1)] [] _
  unfold f_X4_endRise
  refine rz_aload_n G 0 rfl rfl (dq jX4_endRise 0 rfl) ?_
  refine rz_getI G flX4_70 sh17 rfl (dq jX4_endRise 1 rfl) (fun v1 => ?_)
  refine rz_if_ne G (tgt := 15) rfl (dq jX4_endRise 2 rfl) (fun c2 => ?_) (fun c2 => ?_)
  · refine rz_iload_n G 1 rfl rfl (dq jX4_endRise 3 rfl) ?_
    refine rz_aload_n G 0 rfl rfl (dq jX4_endRise 4 rfl) ?_
    refine rz_callVi G (st := [.int x1]) (c_X4_riseEnds (cLn Γ)) lkX4_115 sh17 rfl rfl rfl (Nat.le_of_ble_eq_true rfl) (Nat.le_of_ble_eq_true rfl) (dq jX4_endRise 5 rfl) rfl (fun r3 => ?_)
    refine rz_icmp_ge G (tgt := 16) rfl (dq jX4_endRise 6 rfl) (fun c4 => ?_) (fun c4 => ?_)
    · refine rz_aload_n G 0 rfl rfl (dq jX4_endRise 8 rfl) ?_
      refine rz_getR G flX4_40 sh17 rfl (dq jX4_endRise 9 rfl) (fun u5 => ?_)
      refine rz_gd (fun h_u5 => ?_)
      refine rz_astore_n G (lv' := [(2, .ref u5), (0, .ref 17), (1, .int x1)]) rfl (Nat.le_of_ble_eq_true rfl) rfl (dq jX4_endRise 10 rfl) ?_
      refine rz_aload_n G 0 rfl rfl (dq jX4_endRise 11 rfl) ?_
      refine rz_getI G flX4_146 (fl_sh h_u5) rfl (dq jX4_endRise 12 rfl) (fun v6 => ?_)
      refine rz_if_le G (tgt := 51) rfl (dq jX4_endRise 13 rfl) (fun c7 => ?_) (fun c7 => ?_)
      · refine rz_iconst G (v := 0) (dq jX4_endRise 26 rfl) rfl ?_
        exact rz_lv [1, 2, 0] rfl (z_X4_endRise_b52 G x1 u5 0)
      · refine rz_aload_n G 1 rfl rfl (dq jX4_endRise 14 rfl) ?_
        refine rz_getI G flX4_77 sh17 rfl (dq jX4_endRise 15 rfl) (fun v8 => ?_)
        refine rz_aload_n G 1 rfl rfl (dq jX4_endRise 16 rfl) ?_
        refine rz_getR G flX4_33 sh17 rfl (dq jX4_endRise 17 rfl) (fun u9 => ?_)
        refine rz_gd (fun h_u9 => ?_)
        refine rz_getI G flX4_192 (gd_sh h_u9) rfl (dq jX4_endRise 18 rfl) (fun v10 => ?_)
        refine rz_imul G (dq jX4_endRise 19 rfl) ?_
        refine rz_bipush G (v := 100) (dq jX4_endRise 20 rfl) (by decide) ?_
        refine rz_idivN G (by decide) (dq jX4_endRise 21 rfl) ?_
        refine rz_aload_n G 0 rfl rfl (dq jX4_endRise 22 rfl) ?_
        refine rz_getI G flX4_146 (fl_sh h_u5) rfl (dq jX4_endRise 23 rfl) (fun v11 => ?_)
        refine rz_idiv G (dq jX4_endRise 24 rfl) ?_
        refine rz_goto G (tgt := 52) rfl (dq jX4_endRise 25 rfl) ?_
        exact rz_lv [1, 2, 0] rfl (z_X4_endRise_b52 G x1 u5 (((v8 * v10) / 100) / v11))
    · exact rz_vret G (dq jX4_endRise 7 rfl)
  · exact rz_vret G (dq jX4_endRise 7 rfl)
theorem c_X4_restEnds (l : Launch) (q1 : Nat) : Ct l yX4_restEnds cX4_restEnds 2 (some .int) 1 encI [.ref 17, .ref q1] (f_X4_restEnds q1) := by
  refine ct_of (own := RX4) (by decide) rfl (Nat.le_of_ble_eq_true rfl) (fun Γ hl G => ?_)
  show Rz Γ 2 (Qm Γ encI 0 0) 0 0 0 [(0, .ref 17), (1, .ref q1)] [] _
  unfold f_X4_restEnds
  refine rz_gd (fun h_q1 => ?_)
  refine rz_aload_n G 1 rfl rfl (dq jX4_restEnds 0 rfl) ?_
  refine rz_getI G flX4_136 (fl_sh h_q1) rfl (dq jX4_restEnds 1 rfl) (fun v1 => ?_)
  refine rz_iconst G (v := 2) (dq jX4_restEnds 2 rfl) rfl ?_
  refine rz_aload_n G 0 rfl rfl (dq jX4_restEnds 3 rfl) ?_
  refine rz_getR G flX4_33 sh17 rfl (dq jX4_restEnds 4 rfl) (fun u2 => ?_)
  refine rz_gd (fun h_u2 => ?_)
  refine rz_getI G flX4_133 (gd_sh h_u2) rfl (dq jX4_restEnds 5 rfl) (fun v3 => ?_)
  refine rz_imul G (dq jX4_restEnds 6 rfl) ?_
  refine rz_iadd G (dq jX4_restEnds 7 rfl) ?_
  exact rz_iret G (dq jX4_restEnds 8 rfl)
theorem c_X4_canPush (l : Launch) (q0 : Nat) : Ct l yX4_canPush cX4_canPush 1 (some .boolean) 1 encI [.ref q0] (f_X4_canPush q0) := by
  refine ct_of (own := RX4) (by decide) rfl (Nat.le_of_ble_eq_true rfl) (fun Γ hl G => ?_)
  show Rz Γ 1 (Qm Γ encI 0 0) 0 0 0 [(0, .ref q0)] [] _
  unfold f_X4_canPush
  refine rz_gd (fun h_q0 => ?_)
  refine rz_aload_n G 0 rfl rfl (dq jX4_canPush 0 rfl) ?_
  refine rz_getI G flX4_98 (fl_sh h_q0) rfl (dq jX4_canPush 1 rfl) (fun v1 => ?_)
  refine rz_iconst G (v := 2) (dq jX4_canPush 2 rfl) rfl ?_
  refine rz_icmp_ne G (tgt := 19) rfl (dq jX4_canPush 3 rfl) (fun c2 => ?_) (fun c2 => ?_)
  · refine rz_aload_n G 0 rfl rfl (dq jX4_canPush 4 rfl) ?_
    refine rz_getI G flX4_139 (fl_sh h_q0) rfl (dq jX4_canPush 5 rfl) (fun v3 => ?_)
    refine rz_if_le G (tgt := 19) rfl (dq jX4_canPush 6 rfl) (fun c4 => ?_) (fun c4 => ?_)
    · refine rz_iconst G (v := 0) (dq jX4_canPush 9 rfl) rfl ?_
      exact rz_zret0 G (by decide) (dq jX4_canPush 10 rfl)
    · refine rz_iconst G (v := 1) (dq jX4_canPush 7 rfl) rfl ?_
      refine rz_goto G (tgt := 20) rfl (dq jX4_canPush 8 rfl) ?_
      exact rz_zret0 G (by decide) (dq jX4_canPush 10 rfl)
  · refine rz_iconst G (v := 0) (dq jX4_canPush 9 rfl) rfl ?_
    exact rz_zret0 G (by decide) (dq jX4_canPush 10 rfl)
theorem z_X4_sendOthers_b77 {Γ : Cx} (G : GG Γ RX4 cX4_sendOthers 5 none 4 0 0) (k10 : Int32 → Int32 → Sg → Option (Unit × Sg)) (hk10 : ∀ (x1 : Int32) (x2 : Int32), Rz Γ 5 (Qm Γ encV 0 0) 0 0 10 [(0, .ref 17), (1, .int x1), (2, .int x2)] [] (k10 x1 x2)) (x1 : Int32) (x2 : Int32) : Rz Γ 5 (Qm Γ encV 0 0) 0 0 77 [(0, .ref 17), (1, .int x1), (2, .int x2)] [] (f_X4_sendOthers_b77 k10 x1 x2) := by
  unfold f_X4_sendOthers_b77
  refine rz_iinc G 2 (v := x2 + 1) (lv' := [(2, .int (x2 + 1)), (0, .ref 17), (1, .int x1)]) rfl (congrArg (HAdd.hAdd _) (by decide)) (Nat.le_of_ble_eq_true rfl) rfl (dq jX4_sendOthers 43 rfl) ?_
  refine rz_goto G (tgt := 10) rfl (dq jX4_sendOthers 44 rfl) ?_
  exact rz_lv [1, 2, 0] rfl (hk10 x1 (x2 + 1))
theorem z_X4_sendOthers_b40 {Γ : Cx} (G : GG Γ RX4 cX4_sendOthers 5 none 4 0 0) (k10 : Int32 → Int32 → Sg → Option (Unit × Sg)) (hk10 : ∀ (x1 : Int32) (x2 : Int32), Rz Γ 5 (Qm Γ encV 0 0) 0 0 10 [(0, .ref 17), (1, .int x1), (2, .int x2)] [] (k10 x1 x2)) (x1 : Int32) (x2 : Int32) (q3 : Nat) (xs0 : Int32) : Rz Γ 5 (Qm Γ encV 0 0) 0 0 40 [(0, .ref 17), (1, .int x1), (2, .int x2), (3, .ref q3)] [.int xs0] (f_X4_sendOthers_b40 k10 x1 x2 q3 xs0) := by
  unfold f_X4_sendOthers_b40
  refine rz_gd (fun h_q3 => ?_)
  refine rz_istore G (lv' := [(4, .int xs0), (0, .ref 17), (1, .int x1), (2, .int x2), (3, .ref q3)]) (Nat.le_of_ble_eq_true rfl) rfl (dq jX4_sendOthers 24 rfl) ?_
  refine rz_aload_n G 4 rfl rfl (dq jX4_sendOthers 25 rfl) ?_
  refine rz_callSi G (st := []) (c_X4_canPush (cLn Γ) q3) lkX4_125 rfl (Nat.le_of_ble_eq_true rfl) (Nat.le_of_ble_eq_true rfl) (dq jX4_sendOthers 26 rfl) rfl (fun r1 => ?_)
  refine rz_if_eq G (tgt := 77) rfl (dq jX4_sendOthers 27 rfl) (fun c2 => ?_) (fun c2 => ?_)
  · exact rz_lv [1, 2, 3] rfl (z_X4_sendOthers_b77 G k10 hk10 x1 x2)
  · refine rz_iload G 0 rfl (dq jX4_sendOthers 28 rfl) ?_
    refine rz_if_eq G (tgt := 77) rfl (dq jX4_sendOthers 29 rfl) (fun c3 => ?_) (fun c3 => ?_)
    · exact rz_lv [1, 2, 3] rfl (z_X4_sendOthers_b77 G k10 hk10 x1 x2)
    · refine rz_aload_n G 1 rfl rfl (dq jX4_sendOthers 30 rfl) ?_
      refine rz_aload_n G 4 rfl rfl (dq jX4_sendOthers 31 rfl) ?_
      refine rz_aload_n G 4 rfl rfl (dq jX4_sendOthers 32 rfl) ?_
      refine rz_getI G flX4_139 (fl_sh h_q3) rfl (dq jX4_sendOthers 33 rfl) (fun v4 => ?_)
      refine rz_iload_n G 2 rfl rfl (dq jX4_sendOthers 34 rfl) ?_
      refine rz_callVi G (st := []) (c_X4_mayGo (cLn Γ) q3 v4 x1) lkX4_195 sh17 rfl rfl rfl (Nat.le_of_ble_eq_true rfl) (Nat.le_of_ble_eq_true rfl) (dq jX4_sendOthers 35 rfl) rfl (fun r5 => ?_)
      refine rz_if_eq G (tgt := 77) rfl (dq jX4_sendOthers 36 rfl) (fun c6 => ?_) (fun c6 => ?_)
      · exact rz_lv [1, 2, 3] rfl (z_X4_sendOthers_b77 G k10 hk10 x1 x2)
      · refine rz_aload_n G 1 rfl rfl (dq jX4_sendOthers 37 rfl) ?_
        refine rz_aload_n G 4 rfl rfl (dq jX4_sendOthers 38 rfl) ?_
        refine rz_aload_n G 4 rfl rfl (dq jX4_sendOthers 39 rfl) ?_
        refine rz_getI G flX4_139 (fl_sh h_q3) rfl (dq jX4_sendOthers 40 rfl) (fun v7 => ?_)
        refine rz_iload_n G 2 rfl rfl (dq jX4_sendOthers 41 rfl) ?_
        refine rz_callVv G (st := []) (c_X4_send (cLn Γ) q3 v7 x1) lkX4_199 sh17 rfl rfl rfl (Nat.le_of_ble_eq_true rfl) (Nat.le_of_ble_eq_true rfl) (dq jX4_sendOthers 42 rfl) rfl (fun _ => ?_)
        exact rz_lv [1, 2, 3] rfl (z_X4_sendOthers_b77 G k10 hk10 x1 x2)
theorem z_X4_sendOthers_b10 {Γ : Cx} (G : GG Γ RX4 cX4_sendOthers 5 none 4 0 0) : ∀ (fu : Nat) (x1 : Int32) (x2 : Int32), Rz Γ 5 (Qm Γ encV 0 0) 0 0 10 [(0, .ref 17), (1, .int x1), (2, .int x2)] [] (f_X4_sendOthers_b10 fu x1 x2) := by
  intro fu
  induction fu with
  | zero => intro _ _; exact rz_none
  | succ fu ih =>
    intro x1 x2
    rw [f_X4_sendOthers_b10]
    refine rz_iload_n G 2 rfl rfl (dq jX4_sendOthers 6 rfl) ?_
    refine rz_aload_n G 0 rfl rfl (dq jX4_sendOthers 7 rfl) ?_
    refine rz_getC G flX4_11 sh17 (t := 18) rfl rfl (dq jX4_sendOthers 8 rfl) ?_
    refine rz_alen G (v := 4) sh18 (by decide) (by decide) (dq jX4_sendOthers 9 rfl) ?_
    refine rz_icmp_ge G (tgt := 83) rfl (dq jX4_sendOthers 10 rfl) (fun c1 => ?_) (fun c1 => ?_)
    · exact rz_vret G (dq jX4_sendOthers 45 rfl)
    · refine rz_aload_n G 0 rfl rfl (dq jX4_sendOthers 11 rfl) ?_
      refine rz_getC G flX4_11 sh17 (t := 18) rfl rfl (dq jX4_sendOthers 12 rfl) ?_
      refine rz_iload_n G 2 rfl rfl (dq jX4_sendOthers 13 rfl) ?_
      refine rz_aald G sh18 (dq jX4_sendOthers 14 rfl) ?_
      refine rz_ltr (fun u2 e_u2 => ?_)
      refine rz_gd (fun h_u2 => ?_)
      refine rz_astore_n G (lv' := [(3, .ref u2), (0, .ref 17), (1, .int x1), (2, .int x2)]) rfl (Nat.le_of_ble_eq_true rfl) rfl (dq jX4_sendOthers 15 rfl) ?_
      refine rz_iload_n G 2 rfl rfl (dq jX4_sendOthers 16 rfl) ?_
      refine rz_aload_n G 1 rfl rfl (dq jX4_sendOthers 17 rfl) ?_
      refine rz_aload_n G 0 rfl rfl (dq jX4_sendOthers 18 rfl) ?_
      refine rz_callVi G (st := [.int x1]) (c_X4_restEnds (cLn Γ) u2) lkX4_129 sh17 rfl rfl rfl (Nat.le_of_ble_eq_true rfl) (Nat.le_of_ble_eq_true rfl) (dq jX4_sendOthers 19 rfl) rfl (fun r3 => ?_)
      refine rz_icmp_lt G (tgt := 39) rfl (dq jX4_sendOthers 20 rfl) (fun c4 => ?_) (fun c4 => ?_)
      · refine rz_iconst G (v := 0) (dq jX4_sendOthers 23 rfl) rfl ?_
        exact rz_lv [1, 2, 3, 0] rfl (z_X4_sendOthers_b40 G (f_X4_sendOthers_b10 fu) ih x1 x2 u2 0)
      · refine rz_iconst G (v := 1) (dq jX4_sendOthers 21 rfl) rfl ?_
        refine rz_goto G (tgt := 40) rfl (dq jX4_sendOthers 22 rfl) ?_
        exact rz_lv [1, 2, 3, 0] rfl (z_X4_sendOthers_b40 G (f_X4_sendOthers_b10 fu) ih x1 x2 u2 1)
theorem c_X4_sendOthers (l : Launch) (x1 : Int32) : Ct l yX4_sendOthers cX4_sendOthers 5 none 4 encV [.ref 17, .int x1] (f_X4_sendOthers x1) := by
  refine ct_of (own := RX4) (by decide) rfl (Nat.le_of_ble_eq_true rfl) (fun Γ hl G => ?_)
  show Rz Γ 5 (Qm Γ encV 0 0) 0 0 0 [(0, .ref 17), (1, .int x1)] [] _
  unfold f_X4_sendOthers
  refine rz_aload_n G 0 rfl rfl (dq jX4_sendOthers 0 rfl) ?_
  refine rz_getI G flX4_70 sh17 rfl (dq jX4_sendOthers 1 rfl) (fun v1 => ?_)
  refine rz_if_ne G (tgt := 8) rfl (dq jX4_sendOthers 2 rfl) (fun c2 => ?_) (fun c2 => ?_)
  · exact rz_vret G (dq jX4_sendOthers 3 rfl)
  · refine rz_iconst G (v := 0) (dq jX4_sendOthers 4 rfl) rfl ?_
    refine rz_istore_n G (lv' := [(2, .int 0), (0, .ref 17), (1, .int x1)]) rfl (Nat.le_of_ble_eq_true rfl) rfl (dq jX4_sendOthers 5 rfl) ?_
    exact rz_lv [1, 2, 0] rfl (z_X4_sendOthers_b10 G FU x1 0)
theorem z_X4_nextDue_b78 {Γ : Cx} (G : GG Γ RX4 cX4_nextDue 4 (some .int) 2 0 0) (k19 : Int32 → Int32 → Sg → Option (Int32 × Sg)) (hk19 : ∀ (x1 : Int32) (x2 : Int32), Rz Γ 4 (Qm Γ encI 0 0) 0 0 19 [(0, .ref 17), (1, .int x1), (2, .int x2)] [] (k19 x1 x2)) (x1 : Int32) (x2 : Int32) : Rz Γ 4 (Qm Γ encI 0 0) 0 0 78 [(0, .ref 17), (1, .int x1), (2, .int x2)] [] (f_X4_nextDue_b78 k19 x1 x2) := by
  unfold f_X4_nextDue_b78
  refine rz_iinc G 2 (v := x2 + 1) (lv' := [(2, .int (x2 + 1)), (0, .ref 17), (1, .int x1)]) rfl (congrArg (HAdd.hAdd _) (by decide)) (Nat.le_of_ble_eq_true rfl) rfl (dq jX4_nextDue 41 rfl) ?_
  refine rz_goto G (tgt := 19) rfl (dq jX4_nextDue 42 rfl) ?_
  exact rz_lv [1, 2, 0] rfl (hk19 x1 (x2 + 1))
theorem z_X4_nextDue_b19 {Γ : Cx} (G : GG Γ RX4 cX4_nextDue 4 (some .int) 2 0 0) : ∀ (fu : Nat) (x1 : Int32) (x2 : Int32), Rz Γ 4 (Qm Γ encI 0 0) 0 0 19 [(0, .ref 17), (1, .int x1), (2, .int x2)] [] (f_X4_nextDue_b19 fu x1 x2) := by
  intro fu
  induction fu with
  | zero => intro _ _; exact rz_none
  | succ fu ih =>
    intro x1 x2
    rw [f_X4_nextDue_b19]
    refine rz_iload_n G 2 rfl rfl (dq jX4_nextDue 10 rfl) ?_
    refine rz_aload_n G 0 rfl rfl (dq jX4_nextDue 11 rfl) ?_
    refine rz_getC G flX4_11 sh17 (t := 18) rfl rfl (dq jX4_nextDue 12 rfl) ?_
    refine rz_alen G (v := 4) sh18 (by decide) (by decide) (dq jX4_nextDue 13 rfl) ?_
    refine rz_icmp_ge G (tgt := 84) rfl (dq jX4_nextDue 14 rfl) (fun c1 => ?_) (fun c1 => ?_)
    · refine rz_iload_n G 1 rfl rfl (dq jX4_nextDue 43 rfl) ?_
      exact rz_iret G (dq jX4_nextDue 44 rfl)
    · refine rz_aload_n G 0 rfl rfl (dq jX4_nextDue 15 rfl) ?_
      refine rz_getC G flX4_11 sh17 (t := 18) rfl rfl (dq jX4_nextDue 16 rfl) ?_
      refine rz_iload_n G 2 rfl rfl (dq jX4_nextDue 17 rfl) ?_
      refine rz_aald G sh18 (dq jX4_nextDue 18 rfl) ?_
      refine rz_ltr (fun u2 e_u2 => ?_)
      refine rz_gd (fun h_u2 => ?_)
      refine rz_astore_n G (lv' := [(3, .ref u2), (0, .ref 17), (1, .int x1), (2, .int x2)]) rfl (Nat.le_of_ble_eq_true rfl) rfl (dq jX4_nextDue 19 rfl) ?_
      refine rz_aload_n G 0 rfl rfl (dq jX4_nextDue 20 rfl) ?_
      refine rz_callVi G (st := []) (c_X1_isComing (cLn Γ) u2) lkX4_118 (fl_sh h_u2) rfl rfl rfl (Nat.le_of_ble_eq_true rfl) (Nat.le_of_ble_eq_true rfl) (dq jX4_nextDue 21 rfl) rfl (fun r3 => ?_)
      refine rz_if_eq G (tgt := 54) rfl (dq jX4_nextDue 22 rfl) (fun c4 => ?_) (fun c4 => ?_)
      · refine rz_aload_n G 1 rfl rfl (dq jX4_nextDue 29 rfl) ?_
        refine rz_getI G flX4_70 sh17 rfl (dq jX4_nextDue 30 rfl) (fun v5 => ?_)
        refine rz_if_eq G (tgt := 78) rfl (dq jX4_nextDue 31 rfl) (fun c6 => ?_) (fun c6 => ?_)
        · exact rz_lv [1, 2, 3] rfl (z_X4_nextDue_b78 G (f_X4_nextDue_b19 fu) ih x1 x2)
        · refine rz_aload_n G 0 rfl rfl (dq jX4_nextDue 32 rfl) ?_
          refine rz_callSi G (st := []) (c_X4_canPush (cLn Γ) u2) lkX4_125 rfl (Nat.le_of_ble_eq_true rfl) (Nat.le_of_ble_eq_true rfl) (dq jX4_nextDue 33 rfl) rfl (fun r7 => ?_)
          refine rz_if_eq G (tgt := 78) rfl (dq jX4_nextDue 34 rfl) (fun c8 => ?_) (fun c8 => ?_)
          · exact rz_lv [1, 2, 3] rfl (z_X4_nextDue_b78 G (f_X4_nextDue_b19 fu) ih x1 x2)
          · refine rz_iload_n G 2 rfl rfl (dq jX4_nextDue 35 rfl) ?_
            refine rz_aload_n G 1 rfl rfl (dq jX4_nextDue 36 rfl) ?_
            refine rz_aload_n G 0 rfl rfl (dq jX4_nextDue 37 rfl) ?_
            refine rz_callVi G (st := [.int x1]) (c_X4_restEnds (cLn Γ) u2) lkX4_129 sh17 rfl rfl rfl (Nat.le_of_ble_eq_true rfl) (Nat.le_of_ble_eq_true rfl) (dq jX4_nextDue 38 rfl) rfl (fun r9 => ?_)
            refine rz_mmin G mtX4_44 (by decide) (Nat.le_of_ble_eq_true rfl) (dq jX4_nextDue 39 rfl) ?_
            refine rz_lti (fun w10 e_w10 => ?_)
            refine rz_istore_n G (lv' := [(1, .int w10), (3, .ref u2), (0, .ref 17), (2, .int x2)]) rfl (Nat.le_of_ble_eq_true rfl) rfl (dq jX4_nextDue 40 rfl) ?_
            exact rz_lv [2, 0, 3] rfl (z_X4_nextDue_b78 G (f_X4_nextDue_b19 fu) ih w10 x2)
      · refine rz_iload_n G 2 rfl rfl (dq jX4_nextDue 23 rfl) ?_
        refine rz_aload_n G 0 rfl rfl (dq jX4_nextDue 24 rfl) ?_
        refine rz_getI G flX4_122 (fl_sh h_u2) rfl (dq jX4_nextDue 25 rfl) (fun v11 => ?_)
        refine rz_mmin G mtX4_44 (by decide) (Nat.le_of_ble_eq_true rfl) (dq jX4_nextDue 26 rfl) ?_
        refine rz_lti (fun w12 e_w12 => ?_)
        refine rz_istore_n G (lv' := [(1, .int w12), (3, .ref u2), (0, .ref 17), (2, .int x2)]) rfl (Nat.le_of_ble_eq_true rfl) rfl (dq jX4_nextDue 27 rfl) ?_
        refine rz_goto G (tgt := 78) rfl (dq jX4_nextDue 28 rfl) ?_
        exact rz_lv [2, 0, 3] rfl (z_X4_nextDue_b78 G (f_X4_nextDue_b19 fu) ih w12 x2)
theorem z_X4_nextDue_b16 {Γ : Cx} (G : GG Γ RX4 cX4_nextDue 4 (some .int) 2 0 0) (xs0 : Int32) : Rz Γ 4 (Qm Γ encI 0 0) 0 0 16 [(0, .ref 17)] [.int xs0] (f_X4_nextDue_b16 xs0) := by
  unfold f_X4_nextDue_b16
  refine rz_istore_n G (lv' := [(1, .int xs0), (0, .ref 17)]) rfl (Nat.le_of_ble_eq_true rfl) rfl (dq jX4_nextDue 7 rfl) ?_
  refine rz_iconst G (v := 0) (dq jX4_nextDue 8 rfl) rfl ?_
  refine rz_istore_n G (lv' := [(2, .int 0), (1, .int xs0), (0, .ref 17)]) rfl (Nat.le_of_ble_eq_true rfl) rfl (dq jX4_nextDue 9 rfl) ?_
  exact rz_lv [2, 1, 0] rfl (z_X4_nextDue_b19 G FU xs0 0)
theorem c_X4_nextDue (l : Launch)  : Ct l yX4_nextDue cX4_nextDue 4 (some .int) 2 encI [.ref 17] (f_X4_nextDue ) := by
  refine ct_of (own := RX4) (by decide) rfl (Nat.le_of_ble_eq_true rfl) (fun Γ hl G => ?_)
  show Rz Γ 4 (Qm Γ encI 0 0) 0 0 0 [(0, .ref 17)] [] _
  unfold f_X4_nextDue
  refine rz_aload_n G 0 rfl rfl (dq jX4_nextDue 0 rfl) ?_
  refine rz_getI G flX4_70 sh17 rfl (dq jX4_nextDue 1 rfl) (fun v1 => ?_)
  refine rz_if_eq G (tgt := 12) rfl (dq jX4_nextDue 2 rfl) (fun c2 => ?_) (fun c2 => ?_)
  · refine rz_aload_n G 0 rfl rfl (dq jX4_nextDue 5 rfl) ?_
    refine rz_callVi G (st := []) (c_X4_riseEnds (cLn Γ)) lkX4_115 sh17 rfl rfl rfl (Nat.le_of_ble_eq_true rfl) (Nat.le_of_ble_eq_true rfl) (dq jX4_nextDue 6 rfl) rfl (fun r3 => ?_)
    exact rz_lv [0] rfl (z_X4_nextDue_b16 G r3)
  · refine rz_ldc G kX4_114 (dq jX4_nextDue 3 rfl) ?_
    refine rz_goto G (tgt := 16) rfl (dq jX4_nextDue 4 rfl) ?_
    exact rz_lv [0] rfl (z_X4_nextDue_b16 G 1000000)
theorem z_X4_go_b38 {Γ : Cx} (G : GG Γ RX4 cX4_go 4 none 5 0 0) (k2 : Int32 → Int32 → Sg → Option (Unit × Sg)) (hk2 : ∀ (x2 : Int32) (x3 : Int32), Rz Γ 4 (Qm Γ encV 0 0) 0 0 2 [(0, .ref 17), (2, .int x2), (3, .int x3)] [] (k2 x2 x3)) (x2 : Int32) (x3 : Int32) : Rz Γ 4 (Qm Γ encV 0 0) 0 0 38 [(0, .ref 17), (2, .int x2), (3, .int x3)] [] (f_X4_go_b38 k2 x2 x3) := by
  unfold f_X4_go_b38
  refine rz_iinc G 2 (v := x3 + 1) (lv' := [(3, .int (x3 + 1)), (0, .ref 17), (2, .int x2)]) rfl (congrArg (HAdd.hAdd _) (by decide)) (Nat.le_of_ble_eq_true rfl) rfl (dq jX4_go 22 rfl) ?_
  refine rz_goto G (tgt := 2) rfl (dq jX4_go 23 rfl) ?_
  exact rz_lv [1, 2, 0] rfl (hk2 x2 (x3 + 1))
theorem z_X4_go_b2 {Γ : Cx} (G : GG Γ RX4 cX4_go 4 none 5 0 0) : ∀ (fu : Nat) (x2 : Int32) (x3 : Int32), Rz Γ 4 (Qm Γ encV 0 0) 0 0 2 [(0, .ref 17), (2, .int x2), (3, .int x3)] [] (f_X4_go_b2 fu x2 x3) := by
  intro fu
  induction fu with
  | zero => intro _ _; exact rz_none
  | succ fu ih =>
    intro x2 x3
    rw [f_X4_go_b2]
    refine rz_iload_n G 2 rfl rfl (dq jX4_go 2 rfl) ?_
    refine rz_iload_n G 1 rfl rfl (dq jX4_go 3 rfl) ?_
    refine rz_icmp_ge G (tgt := 44) rfl (dq jX4_go 4 rfl) (fun c1 => ?_) (fun c1 => ?_)
    · exact rz_vret G (dq jX4_go 24 rfl)
    · refine rz_iload_n G 2 rfl rfl (dq jX4_go 5 rfl) ?_
      refine rz_aload_n G 0 rfl rfl (dq jX4_go 6 rfl) ?_
      refine rz_getI G flX4_67 sh17 rfl (dq jX4_go 7 rfl) (fun v2 => ?_)
      refine rz_icmp_lt G (tgt := 38) rfl (dq jX4_go 8 rfl) (fun c3 => ?_) (fun c3 => ?_)
      · exact rz_lv [0, 1, 2] rfl (z_X4_go_b38 G (f_X4_go_b2 fu) ih x2 x3)
      · refine rz_aload_n G 0 rfl rfl (dq jX4_go 9 rfl) ?_
        refine rz_iload_n G 2 rfl rfl (dq jX4_go 10 rfl) ?_
        refine rz_callVv G (st := []) (c_X4_landAll (cLn Γ) x3) lkX4_101 sh17 rfl rfl rfl (Nat.le_of_ble_eq_true rfl) (Nat.le_of_ble_eq_true rfl) (dq jX4_go 11 rfl) rfl (fun _ => ?_)
        refine rz_aload_n G 0 rfl rfl (dq jX4_go 12 rfl) ?_
        refine rz_iload_n G 2 rfl rfl (dq jX4_go 13 rfl) ?_
        refine rz_callVv G (st := []) (c_X4_endRise (cLn Γ) x3) lkX4_104 sh17 rfl rfl rfl (Nat.le_of_ble_eq_true rfl) (Nat.le_of_ble_eq_true rfl) (dq jX4_go 14 rfl) rfl (fun _ => ?_)
        refine rz_aload_n G 0 rfl rfl (dq jX4_go 15 rfl) ?_
        refine rz_iload_n G 2 rfl rfl (dq jX4_go 16 rfl) ?_
        refine rz_callVv G (st := []) (c_X4_sendOthers (cLn Γ) x3) lkX4_107 sh17 rfl rfl rfl (Nat.le_of_ble_eq_true rfl) (Nat.le_of_ble_eq_true rfl) (dq jX4_go 17 rfl) rfl (fun _ => ?_)
        refine rz_aload_n G 0 rfl rfl (dq jX4_go 18 rfl) ?_
        refine rz_aload_n G 0 rfl rfl (dq jX4_go 19 rfl) ?_
        refine rz_callVi G (st := [.ref 17]) (c_X4_nextDue (cLn Γ)) lkX4_110 sh17 rfl rfl rfl (Nat.le_of_ble_eq_true rfl) (Nat.le_of_ble_eq_true rfl) (dq jX4_go 20 rfl) rfl (fun r4 => ?_)
        refine rz_putI G flX4_67 sh17 rfl (dq jX4_go 21 rfl) ?_
        exact rz_lv [0, 1, 2] rfl (z_X4_go_b38 G (f_X4_go_b2 fu) ih x2 x3)
theorem c_X4_go (l : Launch) (x1 : Int32) (x2 : Int32) : Ct l yX4_go cX4_go 4 none 5 encV [.ref 17, .int x1, .int x2] (f_X4_go x1 x2) := by
  refine ct_of (own := RX4) (by decide) rfl (Nat.le_of_ble_eq_true rfl) (fun Γ hl G => ?_)
  show Rz Γ 4 (Qm Γ encV 0 0) 0 0 0 [(0, .ref 17), (1, .int x1), (2, .int x2)] [] _
  unfold f_X4_go
  refine rz_iload_n G 1 rfl rfl (dq jX4_go 0 rfl) ?_
  refine rz_istore_n G (lv' := [(3, .int x1), (0, .ref 17), (1, .int x1), (2, .int x2)]) rfl (Nat.le_of_ble_eq_true rfl) rfl (dq jX4_go 1 rfl) ?_
  exact rz_lv [1, 3, 0] rfl (z_X4_go_b2 G FU x2 x1)
theorem z_X4_hurtsOfAll_b4 {Γ : Cx} (G : GG Γ RX4 cX4_hurtsOfAll 3 (some .int) 1 0 0) : ∀ (fu : Nat) (x1 : Int32) (x2 : Int32), Rz Γ 3 (Qm Γ encI 0 0) 0 0 4 [(0, .ref 17), (1, .int x1), (2, .int x2)] [] (f_X4_hurtsOfAll_b4 fu x1 x2) := by
  intro fu
  induction fu with
  | zero => intro _ _; exact rz_none
  | succ fu ih =>
    intro x1 x2
    rw [f_X4_hurtsOfAll_b4]
    refine rz_iload_n G 2 rfl rfl (dq jX4_hurtsOfAll 4 rfl) ?_
    refine rz_aload_n G 0 rfl rfl (dq jX4_hurtsOfAll 5 rfl) ?_
    refine rz_getC G flX4_11 sh17 (t := 18) rfl rfl (dq jX4_hurtsOfAll 6 rfl) ?_
    refine rz_alen G (v := 4) sh18 (by decide) (by decide) (dq jX4_hurtsOfAll 7 rfl) ?_
    refine rz_icmp_ge G (tgt := 31) rfl (dq jX4_hurtsOfAll 8 rfl) (fun c1 => ?_) (fun c1 => ?_)
    · refine rz_iload_n G 1 rfl rfl (dq jX4_hurtsOfAll 19 rfl) ?_
      exact rz_iret G (dq jX4_hurtsOfAll 20 rfl)
    · refine rz_iload_n G 1 rfl rfl (dq jX4_hurtsOfAll 9 rfl) ?_
      refine rz_aload_n G 0 rfl rfl (dq jX4_hurtsOfAll 10 rfl) ?_
      refine rz_getC G flX4_11 sh17 (t := 18) rfl rfl (dq jX4_hurtsOfAll 11 rfl) ?_
      refine rz_iload_n G 2 rfl rfl (dq jX4_hurtsOfAll 12 rfl) ?_
      refine rz_aald G sh18 (dq jX4_hurtsOfAll 13 rfl) ?_
      refine rz_ltr (fun u2 e_u2 => ?_)
      refine rz_gd (fun h_u2 => ?_)
      refine rz_getI G flX4_179 (fl_sh h_u2) rfl (dq jX4_hurtsOfAll 14 rfl) (fun v3 => ?_)
      refine rz_iadd G (dq jX4_hurtsOfAll 15 rfl) ?_
      refine rz_istore_n G (lv' := [(1, .int (x1 + v3)), (0, .ref 17), (2, .int x2)]) rfl (Nat.le_of_ble_eq_true rfl) rfl (dq jX4_hurtsOfAll 16 rfl) ?_
      refine rz_iinc G 2 (v := x2 + 1) (lv' := [(2, .int (x2 + 1)), (1, .int (x1 + v3)), (0, .ref 17)]) rfl (congrArg (HAdd.hAdd _) (by decide)) (Nat.le_of_ble_eq_true rfl) rfl (dq jX4_hurtsOfAll 17 rfl) ?_
      refine rz_goto G (tgt := 4) rfl (dq jX4_hurtsOfAll 18 rfl) ?_
      exact rz_lv [2, 1, 0] rfl (ih (x1 + v3) (x2 + 1))
theorem c_X4_hurtsOfAll (l : Launch)  : Ct l yX4_hurtsOfAll cX4_hurtsOfAll 3 (some .int) 1 encI [.ref 17] (f_X4_hurtsOfAll ) := by
  refine ct_of (own := RX4) (by decide) rfl (Nat.le_of_ble_eq_true rfl) (fun Γ hl G => ?_)
  show Rz Γ 3 (Qm Γ encI 0 0) 0 0 0 [(0, .ref 17)] [] _
  unfold f_X4_hurtsOfAll
  refine rz_iconst G (v := 0) (dq jX4_hurtsOfAll 0 rfl) rfl ?_
  refine rz_istore_n G (lv' := [(1, .int 0), (0, .ref 17)]) rfl (Nat.le_of_ble_eq_true rfl) rfl (dq jX4_hurtsOfAll 1 rfl) ?_
  refine rz_iconst G (v := 0) (dq jX4_hurtsOfAll 2 rfl) rfl ?_
  refine rz_istore_n G (lv' := [(2, .int 0), (1, .int 0), (0, .ref 17)]) rfl (Nat.le_of_ble_eq_true rfl) rfl (dq jX4_hurtsOfAll 3 rfl) ?_
  exact rz_lv [2, 1, 0] rfl (z_X4_hurtsOfAll_b4 G FU 0 0)
theorem z_X4_funOfAll_b4 {Γ : Cx} (G : GG Γ RX4 cX4_funOfAll 3 (some .int) 1 0 0) : ∀ (fu : Nat) (x1 : Int32) (x2 : Int32), Rz Γ 3 (Qm Γ encI 0 0) 0 0 4 [(0, .ref 17), (1, .int x1), (2, .int x2)] [] (f_X4_funOfAll_b4 fu x1 x2) := by
  intro fu
  induction fu with
  | zero => intro _ _; exact rz_none
  | succ fu ih =>
    intro x1 x2
    rw [f_X4_funOfAll_b4]
    refine rz_iload_n G 2 rfl rfl (dq jX4_funOfAll 4 rfl) ?_
    refine rz_aload_n G 0 rfl rfl (dq jX4_funOfAll 5 rfl) ?_
    refine rz_getC G flX4_11 sh17 (t := 18) rfl rfl (dq jX4_funOfAll 6 rfl) ?_
    refine rz_alen G (v := 4) sh18 (by decide) (by decide) (dq jX4_funOfAll 7 rfl) ?_
    refine rz_icmp_ge G (tgt := 31) rfl (dq jX4_funOfAll 8 rfl) (fun c1 => ?_) (fun c1 => ?_)
    · refine rz_iload_n G 1 rfl rfl (dq jX4_funOfAll 19 rfl) ?_
      exact rz_iret G (dq jX4_funOfAll 20 rfl)
    · refine rz_iload_n G 1 rfl rfl (dq jX4_funOfAll 9 rfl) ?_
      refine rz_aload_n G 0 rfl rfl (dq jX4_funOfAll 10 rfl) ?_
      refine rz_getC G flX4_11 sh17 (t := 18) rfl rfl (dq jX4_funOfAll 11 rfl) ?_
      refine rz_iload_n G 2 rfl rfl (dq jX4_funOfAll 12 rfl) ?_
      refine rz_aald G sh18 (dq jX4_funOfAll 13 rfl) ?_
      refine rz_ltr (fun u2 e_u2 => ?_)
      refine rz_gd (fun h_u2 => ?_)
      refine rz_getI G flX4_226 (fl_sh h_u2) rfl (dq jX4_funOfAll 14 rfl) (fun v3 => ?_)
      refine rz_iadd G (dq jX4_funOfAll 15 rfl) ?_
      refine rz_istore_n G (lv' := [(1, .int (x1 + v3)), (0, .ref 17), (2, .int x2)]) rfl (Nat.le_of_ble_eq_true rfl) rfl (dq jX4_funOfAll 16 rfl) ?_
      refine rz_iinc G 2 (v := x2 + 1) (lv' := [(2, .int (x2 + 1)), (1, .int (x1 + v3)), (0, .ref 17)]) rfl (congrArg (HAdd.hAdd _) (by decide)) (Nat.le_of_ble_eq_true rfl) rfl (dq jX4_funOfAll 17 rfl) ?_
      refine rz_goto G (tgt := 4) rfl (dq jX4_funOfAll 18 rfl) ?_
      exact rz_lv [2, 1, 0] rfl (ih (x1 + v3) (x2 + 1))
theorem c_X4_funOfAll (l : Launch)  : Ct l yX4_funOfAll cX4_funOfAll 3 (some .int) 1 encI [.ref 17] (f_X4_funOfAll ) := by
  refine ct_of (own := RX4) (by decide) rfl (Nat.le_of_ble_eq_true rfl) (fun Γ hl G => ?_)
  show Rz Γ 3 (Qm Γ encI 0 0) 0 0 0 [(0, .ref 17)] [] _
  unfold f_X4_funOfAll
  refine rz_iconst G (v := 0) (dq jX4_funOfAll 0 rfl) rfl ?_
  refine rz_istore_n G (lv' := [(1, .int 0), (0, .ref 17)]) rfl (Nat.le_of_ble_eq_true rfl) rfl (dq jX4_funOfAll 1 rfl) ?_
  refine rz_iconst G (v := 0) (dq jX4_funOfAll 2 rfl) rfl ?_
  refine rz_istore_n G (lv' := [(2, .int 0), (1, .int 0), (0, .ref 17)]) rfl (Nat.le_of_ble_eq_true rfl) rfl (dq jX4_funOfAll 3 rfl) ?_
  exact rz_lv [2, 1, 0] rfl (z_X4_funOfAll_b4 G FU 0 0)
theorem z_X5_behindBlanks_b50 {Γ : Cx} (G : GG Γ RX5 cX5_behindBlanks 2 (some .int) 1 0 0) (k5 : Int32 → Sg → Option (Int32 × Sg)) (hk5 : ∀ (x1 : Int32), Rz Γ 2 (Qm Γ encI 0 0) 0 0 5 [(0, .ref 15), (1, .int x1)] [] (k5 x1)) (x1 : Int32) : Rz Γ 2 (Qm Γ encI 0 0) 0 0 50 [(0, .ref 15), (1, .int x1)] [] (f_X5_behindBlanks_b50 k5 x1) := by
  unfold f_X5_behindBlanks_b50
  refine rz_iinc G 1 (v := x1 + 1) (lv' := [(1, .int (x1 + 1)), (0, .ref 15)]) rfl (congrArg (HAdd.hAdd _) (by decide)) (Nat.le_of_ble_eq_true rfl) rfl (dq jX5_behindBlanks 28 rfl) ?_
  refine rz_goto G (tgt := 5) rfl (dq jX5_behindBlanks 29 rfl) ?_
  exact rz_lv [1, 0] rfl (hk5 (x1 + 1))
theorem z_X5_behindBlanks_b5 {Γ : Cx} (G : GG Γ RX5 cX5_behindBlanks 2 (some .int) 1 0 0) : ∀ (fu : Nat) (x1 : Int32), Rz Γ 2 (Qm Γ encI 0 0) 0 0 5 [(0, .ref 15), (1, .int x1)] [] (f_X5_behindBlanks_b5 fu x1) := by
  intro fu
  induction fu with
  | zero => intro _; exact rz_none
  | succ fu ih =>
    intro x1
    rw [f_X5_behindBlanks_b5]
    refine rz_iload_n G 1 rfl rfl (dq jX5_behindBlanks 3 rfl) ?_
    refine rz_if_lt G (tgt := 56) rfl (dq jX5_behindBlanks 4 rfl) (fun c1 => ?_) (fun c1 => ?_)
    · refine rz_aload_n G 0 rfl rfl (dq jX5_behindBlanks 30 rfl) ?_
      refine rz_getI G flX5_19 sh15 rfl (dq jX5_behindBlanks 31 rfl) (fun v2 => ?_)
      exact rz_iret G (dq jX5_behindBlanks 32 rfl)
    · refine rz_iload_n G 1 rfl rfl (dq jX5_behindBlanks 5 rfl) ?_
      refine rz_aload_n G 0 rfl rfl (dq jX5_behindBlanks 6 rfl) ?_
      refine rz_getI G flX5_19 sh15 rfl (dq jX5_behindBlanks 7 rfl) (fun v3 => ?_)
      refine rz_icmp_ge G (tgt := 56) rfl (dq jX5_behindBlanks 8 rfl) (fun c4 => ?_) (fun c4 => ?_)
      · refine rz_aload_n G 0 rfl rfl (dq jX5_behindBlanks 30 rfl) ?_
        refine rz_getI G flX5_19 sh15 rfl (dq jX5_behindBlanks 31 rfl) (fun v5 => ?_)
        exact rz_iret G (dq jX5_behindBlanks 32 rfl)
      · refine rz_iload_n G 1 rfl rfl (dq jX5_behindBlanks 9 rfl) ?_
        refine rz_aload_n G 0 rfl rfl (dq jX5_behindBlanks 10 rfl) ?_
        refine rz_getR G flX5_7 sh15 rfl (dq jX5_behindBlanks 11 rfl) (fun u6 => ?_)
        refine rz_gd (fun e_u6 => ?_)
        subst e_u6
        refine rz_alen G (v := 600) sh1 (by decide) (by decide) (dq jX5_behindBlanks 12 rfl) ?_
        refine rz_icmp_ge G (tgt := 56) rfl (dq jX5_behindBlanks 13 rfl) (fun c7 => ?_) (fun c7 => ?_)
        · refine rz_aload_n G 0 rfl rfl (dq jX5_behindBlanks 30 rfl) ?_
          refine rz_getI G flX5_19 sh15 rfl (dq jX5_behindBlanks 31 rfl) (fun v8 => ?_)
          exact rz_iret G (dq jX5_behindBlanks 32 rfl)
        · refine rz_aload_n G 0 rfl rfl (dq jX5_behindBlanks 14 rfl) ?_
          refine rz_getR G flX5_7 sh15 rfl (dq jX5_behindBlanks 15 rfl) (fun u9 => ?_)
          refine rz_gd (fun e_u9 => ?_)
          subst e_u9
          refine rz_iload_n G 1 rfl rfl (dq jX5_behindBlanks 16 rfl) ?_
          refine rz_bald G sh1 (dq jX5_behindBlanks 17 rfl) (fun v10 => ?_)
          refine rz_bipush G (v := 32) (dq jX5_behindBlanks 18 rfl) (by decide) ?_
          refine rz_icmp_eq G (tgt := 50) rfl (dq jX5_behindBlanks 19 rfl) (fun c11 => ?_) (fun c11 => ?_)
          · exact rz_lv [0, 1] rfl (z_X5_behindBlanks_b50 G (f_X5_behindBlanks_b5 fu) ih x1)
          · refine rz_aload_n G 0 rfl rfl (dq jX5_behindBlanks 20 rfl) ?_
            refine rz_getR G flX5_7 sh15 rfl (dq jX5_behindBlanks 21 rfl) (fun u12 => ?_)
            refine rz_gd (fun e_u12 => ?_)
            subst e_u12
            refine rz_iload_n G 1 rfl rfl (dq jX5_behindBlanks 22 rfl) ?_
            refine rz_bald G sh1 (dq jX5_behindBlanks 23 rfl) (fun v13 => ?_)
            refine rz_bipush G (v := 10) (dq jX5_behindBlanks 24 rfl) (by decide) ?_
            refine rz_icmp_eq G (tgt := 50) rfl (dq jX5_behindBlanks 25 rfl) (fun c14 => ?_) (fun c14 => ?_)
            · exact rz_lv [0, 1] rfl (z_X5_behindBlanks_b50 G (f_X5_behindBlanks_b5 fu) ih x1)
            · refine rz_iload_n G 1 rfl rfl (dq jX5_behindBlanks 26 rfl) ?_
              exact rz_iret G (dq jX5_behindBlanks 27 rfl)
theorem c_X5_behindBlanks (l : Launch)  : Ct l yX5_behindBlanks cX5_behindBlanks 2 (some .int) 1 encI [.ref 15] (f_X5_behindBlanks ) := by
  refine ct_of (own := RX5) (by decide) rfl (Nat.le_of_ble_eq_true rfl) (fun Γ hl G => ?_)
  show Rz Γ 2 (Qm Γ encI 0 0) 0 0 0 [(0, .ref 15)] [] _
  unfold f_X5_behindBlanks
  refine rz_aload_n G 0 rfl rfl (dq jX5_behindBlanks 0 rfl) ?_
  refine rz_getI G flX5_23 sh15 rfl (dq jX5_behindBlanks 1 rfl) (fun v1 => ?_)
  refine rz_istore_n G (lv' := [(1, .int v1), (0, .ref 15)]) rfl (Nat.le_of_ble_eq_true rfl) rfl (dq jX5_behindBlanks 2 rfl) ?_
  exact rz_lv [1, 0] rfl (z_X5_behindBlanks_b5 G FU v1)
theorem z_X5_behindRow_b5 {Γ : Cx} (G : GG Γ RX5 cX5_behindRow 4 (some .int) 1 0 0) : ∀ (fu : Nat) (x1 : Int32) (x2 : Int32) (x3 : Int32), Rz Γ 4 (Qm Γ encI 0 0) 0 0 5 [(0, .ref 15), (1, .int x1), (2, .int x2), (3, .int x3)] [] (f_X5_behindRow_b5 fu x1 x2 x3) := by
  intro fu
  induction fu with
  | zero => intro _ _ _; exact rz_none
  | succ fu ih =>
    intro x1 x2 x3
    rw [f_X5_behindRow_b5]
    refine rz_iload_n G 3 rfl rfl (dq jX5_behindRow 3 rfl) ?_
    refine rz_if_lt G (tgt := 54) rfl (dq jX5_behindRow 4 rfl) (fun c1 => ?_) (fun c1 => ?_)
    · refine rz_aload_n G 0 rfl rfl (dq jX5_behindRow 30 rfl) ?_
      refine rz_getI G flX5_19 sh15 rfl (dq jX5_behindRow 31 rfl) (fun v2 => ?_)
      exact rz_iret G (dq jX5_behindRow 32 rfl)
    · refine rz_iload_n G 3 rfl rfl (dq jX5_behindRow 5 rfl) ?_
      refine rz_aload_n G 0 rfl rfl (dq jX5_behindRow 6 rfl) ?_
      refine rz_getI G flX5_19 sh15 rfl (dq jX5_behindRow 7 rfl) (fun v3 => ?_)
      refine rz_icmp_ge G (tgt := 54) rfl (dq jX5_behindRow 8 rfl) (fun c4 => ?_) (fun c4 => ?_)
      · refine rz_aload_n G 0 rfl rfl (dq jX5_behindRow 30 rfl) ?_
        refine rz_getI G flX5_19 sh15 rfl (dq jX5_behindRow 31 rfl) (fun v5 => ?_)
        exact rz_iret G (dq jX5_behindRow 32 rfl)
      · refine rz_iload_n G 3 rfl rfl (dq jX5_behindRow 9 rfl) ?_
        refine rz_aload_n G 0 rfl rfl (dq jX5_behindRow 10 rfl) ?_
        refine rz_getR G flX5_7 sh15 rfl (dq jX5_behindRow 11 rfl) (fun u6 => ?_)
        refine rz_gd (fun e_u6 => ?_)
        subst e_u6
        refine rz_alen G (v := 600) sh1 (by decide) (by decide) (dq jX5_behindRow 12 rfl) ?_
        refine rz_icmp_ge G (tgt := 54) rfl (dq jX5_behindRow 13 rfl) (fun c7 => ?_) (fun c7 => ?_)
        · refine rz_aload_n G 0 rfl rfl (dq jX5_behindRow 30 rfl) ?_
          refine rz_getI G flX5_19 sh15 rfl (dq jX5_behindRow 31 rfl) (fun v8 => ?_)
          exact rz_iret G (dq jX5_behindRow 32 rfl)
        · refine rz_aload_n G 0 rfl rfl (dq jX5_behindRow 14 rfl) ?_
          refine rz_getR G flX5_7 sh15 rfl (dq jX5_behindRow 15 rfl) (fun u9 => ?_)
          refine rz_gd (fun e_u9 => ?_)
          subst e_u9
          refine rz_iload_n G 3 rfl rfl (dq jX5_behindRow 16 rfl) ?_
          refine rz_bald G sh1 (dq jX5_behindRow 17 rfl) (fun v10 => ?_)
          refine rz_iload_n G 1 rfl rfl (dq jX5_behindRow 18 rfl) ?_
          refine rz_icmp_lt G (tgt := 46) rfl (dq jX5_behindRow 19 rfl) (fun c11 => ?_) (fun c11 => ?_)
          · refine rz_iload_n G 3 rfl rfl (dq jX5_behindRow 26 rfl) ?_
            exact rz_iret G (dq jX5_behindRow 27 rfl)
          · refine rz_aload_n G 0 rfl rfl (dq jX5_behindRow 20 rfl) ?_
            refine rz_getR G flX5_7 sh15 rfl (dq jX5_behindRow 21 rfl) (fun u12 => ?_)
            refine rz_gd (fun e_u12 => ?_)
            subst e_u12
            refine rz_iload_n G 3 rfl rfl (dq jX5_behindRow 22 rfl) ?_
            refine rz_bald G sh1 (dq jX5_behindRow 23 rfl) (fun v13 => ?_)
            refine rz_iload_n G 2 rfl rfl (dq jX5_behindRow 24 rfl) ?_
            refine rz_icmp_le G (tgt := 48) rfl (dq jX5_behindRow 25 rfl) (fun c14 => ?_) (fun c14 => ?_)
            · refine rz_iinc G 3 (v := x3 + 1) (lv' := [(3, .int (x3 + 1)), (0, .ref 15), (1, .int x1), (2, .int x2)]) rfl (congrArg (HAdd.hAdd _) (by decide)) (Nat.le_of_ble_eq_true rfl) rfl (dq jX5_behindRow 28 rfl) ?_
              refine rz_goto G (tgt := 5) rfl (dq jX5_behindRow 29 rfl) ?_
              exact rz_lv [1, 2, 3, 0] rfl (ih x1 x2 (x3 + 1))
            · refine rz_iload_n G 3 rfl rfl (dq jX5_behindRow 26 rfl) ?_
              exact rz_iret G (dq jX5_behindRow 27 rfl)
theorem c_X5_behindRow (l : Launch) (x1 : Int32) (x2 : Int32) : Ct l yX5_behindRow cX5_behindRow 4 (some .int) 1 encI [.ref 15, .int x1, .int x2] (f_X5_behindRow x1 x2) := by
  refine ct_of (own := RX5) (by decide) rfl (Nat.le_of_ble_eq_true rfl) (fun Γ hl G => ?_)
  show Rz Γ 4 (Qm Γ encI 0 0) 0 0 0 [(0, .ref 15), (1, .int x1), (2, .int x2)] [] _
  unfold f_X5_behindRow
  refine rz_aload_n G 0 rfl rfl (dq jX5_behindRow 0 rfl) ?_
  refine rz_getI G flX5_33 sh15 rfl (dq jX5_behindRow 1 rfl) (fun v1 => ?_)
  refine rz_istore_n G (lv' := [(3, .int v1), (0, .ref 15), (1, .int x1), (2, .int x2)]) rfl (Nat.le_of_ble_eq_true rfl) rfl (dq jX5_behindRow 2 rfl) ?_
  exact rz_lv [1, 2, 3, 0] rfl (z_X5_behindRow_b5 G FU x1 x2 v1)
theorem z_X5_valueOfRow_b24 {Γ : Cx} (G : GG Γ RX5 cX5_valueOfRow 3 (some .int) 1 0 0) : ∀ (fu : Nat) (x1 : Int32) (x2 : Int32), Rz Γ 3 (Qm Γ encI 0 0) 0 0 24 [(0, .ref 15), (1, .int x1), (2, .int x2)] [] (f_X5_valueOfRow_b24 fu x1 x2) := by
  intro fu
  induction fu with
  | zero => intro _ _; exact rz_none
  | succ fu ih =>
    intro x1 x2
    rw [f_X5_valueOfRow_b24]
    refine rz_iload_n G 2 rfl rfl (dq jX5_valueOfRow 14 rfl) ?_
    refine rz_if_lt G (tgt := 66) rfl (dq jX5_valueOfRow 15 rfl) (fun c1 => ?_) (fun c1 => ?_)
    · refine rz_iload_n G 1 rfl rfl (dq jX5_valueOfRow 38 rfl) ?_
      exact rz_iret G (dq jX5_valueOfRow 39 rfl)
    · refine rz_iload_n G 2 rfl rfl (dq jX5_valueOfRow 16 rfl) ?_
      refine rz_aload_n G 0 rfl rfl (dq jX5_valueOfRow 17 rfl) ?_
      refine rz_getI G flX5_23 sh15 rfl (dq jX5_valueOfRow 18 rfl) (fun v2 => ?_)
      refine rz_icmp_ge G (tgt := 66) rfl (dq jX5_valueOfRow 19 rfl) (fun c3 => ?_) (fun c3 => ?_)
      · refine rz_iload_n G 1 rfl rfl (dq jX5_valueOfRow 38 rfl) ?_
        exact rz_iret G (dq jX5_valueOfRow 39 rfl)
      · refine rz_iload_n G 2 rfl rfl (dq jX5_valueOfRow 20 rfl) ?_
        refine rz_aload_n G 0 rfl rfl (dq jX5_valueOfRow 21 rfl) ?_
        refine rz_getR G flX5_7 sh15 rfl (dq jX5_valueOfRow 22 rfl) (fun u4 => ?_)
        refine rz_gd (fun e_u4 => ?_)
        subst e_u4
        refine rz_alen G (v := 600) sh1 (by decide) (by decide) (dq jX5_valueOfRow 23 rfl) ?_
        refine rz_icmp_ge G (tgt := 66) rfl (dq jX5_valueOfRow 24 rfl) (fun c5 => ?_) (fun c5 => ?_)
        · refine rz_iload_n G 1 rfl rfl (dq jX5_valueOfRow 38 rfl) ?_
          exact rz_iret G (dq jX5_valueOfRow 39 rfl)
        · refine rz_iload_n G 1 rfl rfl (dq jX5_valueOfRow 25 rfl) ?_
          refine rz_bipush G (v := 10) (dq jX5_valueOfRow 26 rfl) (by decide) ?_
          refine rz_imul G (dq jX5_valueOfRow 27 rfl) ?_
          refine rz_aload_n G 0 rfl rfl (dq jX5_valueOfRow 28 rfl) ?_
          refine rz_getR G flX5_7 sh15 rfl (dq jX5_valueOfRow 29 rfl) (fun u6 => ?_)
          refine rz_gd (fun e_u6 => ?_)
          subst e_u6
          refine rz_iload_n G 2 rfl rfl (dq jX5_valueOfRow 30 rfl) ?_
          refine rz_bald G sh1 (dq jX5_valueOfRow 31 rfl) (fun v7 => ?_)
          refine rz_iadd G (dq jX5_valueOfRow 32 rfl) ?_
          refine rz_bipush G (v := 48) (dq jX5_valueOfRow 33 rfl) (by decide) ?_
          refine rz_isub G (dq jX5_valueOfRow 34 rfl) ?_
          refine rz_lti (fun w8 e_w8 => ?_)
          refine rz_istore_n G (lv' := [(1, .int w8), (0, .ref 15), (2, .int x2)]) rfl (Nat.le_of_ble_eq_true rfl) rfl (dq jX5_valueOfRow 35 rfl) ?_
          refine rz_iinc G 2 (v := x2 + 1) (lv' := [(2, .int (x2 + 1)), (1, .int w8), (0, .ref 15)]) rfl (congrArg (HAdd.hAdd _) (by decide)) (Nat.le_of_ble_eq_true rfl) rfl (dq jX5_valueOfRow 36 rfl) ?_
          refine rz_goto G (tgt := 24) rfl (dq jX5_valueOfRow 37 rfl) ?_
          exact rz_lv [2, 1, 0] rfl (ih w8 (x2 + 1))
theorem c_X5_valueOfRow (l : Launch)  : Ct l yX5_valueOfRow cX5_valueOfRow 3 (some .int) 1 encI [.ref 15] (f_X5_valueOfRow ) := by
  refine ct_of (own := RX5) (by decide) rfl (Nat.le_of_ble_eq_true rfl) (fun Γ hl G => ?_)
  show Rz Γ 3 (Qm Γ encI 0 0) 0 0 0 [(0, .ref 15)] [] _
  unfold f_X5_valueOfRow
  refine rz_aload_n G 0 rfl rfl (dq jX5_valueOfRow 0 rfl) ?_
  refine rz_getI G flX5_23 sh15 rfl (dq jX5_valueOfRow 1 rfl) (fun v1 => ?_)
  refine rz_aload_n G 0 rfl rfl (dq jX5_valueOfRow 2 rfl) ?_
  refine rz_getI G flX5_33 sh15 rfl (dq jX5_valueOfRow 3 rfl) (fun v2 => ?_)
  refine rz_isub G (dq jX5_valueOfRow 4 rfl) ?_
  refine rz_iconst G (v := 4) (dq jX5_valueOfRow 5 rfl) rfl ?_
  refine rz_icmp_le G (tgt := 17) rfl (dq jX5_valueOfRow 6 rfl) (fun c3 => ?_) (fun c3 => ?_)
  · refine rz_iconst G (v := 0) (dq jX5_valueOfRow 9 rfl) rfl ?_
    refine rz_istore_n G (lv' := [(1, .int 0), (0, .ref 15)]) rfl (Nat.le_of_ble_eq_true rfl) rfl (dq jX5_valueOfRow 10 rfl) ?_
    refine rz_aload_n G 1 rfl rfl (dq jX5_valueOfRow 11 rfl) ?_
    refine rz_getI G flX5_33 sh15 rfl (dq jX5_valueOfRow 12 rfl) (fun v4 => ?_)
    refine rz_istore_n G (lv' := [(2, .int v4), (1, .int 0), (0, .ref 15)]) rfl (Nat.le_of_ble_eq_true rfl) rfl (dq jX5_valueOfRow 13 rfl) ?_
    exact rz_lv [2, 1, 0] rfl (z_X5_valueOfRow_b24 G FU 0 v4)
  · refine rz_sipush G (v := 10000) (dq jX5_valueOfRow 7 rfl) (by decide) ?_
    exact rz_iret G (dq jX5_valueOfRow 8 rfl)
theorem z_X5_next_b46 {Γ : Cx} (G : GG Γ RX5 cX5_next 2 none 8 0 0)  : Rz Γ 2 (Qm Γ encV 0 0) 0 0 46 [(0, .ref 15)] [] (f_X5_next_b46 ) := by
  unfold f_X5_next_b46
  refine rz_aload_n G 0 rfl rfl (dq jX5_next 22 rfl) ?_
  refine rz_sipush G (v := 258) (dq jX5_next 23 rfl) (by decide) ?_
  refine rz_putI G flX5_36 sh15 rfl (dq jX5_next 24 rfl) ?_
  exact rz_vret G (dq jX5_next 25 rfl)
theorem z_X5_next_b162 {Γ : Cx} (G : GG Γ RX5 cX5_next 2 none 8 0 0) (xs0 : Int32) : Rz Γ 2 (Qm Γ encV 0 0) 0 0 162 [(0, .ref 15)] [.int xs0, .ref 15] (f_X5_next_b162 xs0) := by
  unfold f_X5_next_b162
  refine rz_putI G flX5_36 sh15 rfl (dq jX5_next 79 rfl) ?_
  refine rz_aload_n G 0 rfl rfl (dq jX5_next 80 rfl) ?_
  refine rz_aload_n G 0 rfl rfl (dq jX5_next 81 rfl) ?_
  refine rz_getI G flX5_33 sh15 rfl (dq jX5_next 82 rfl) (fun v1 => ?_)
  refine rz_iconst G (v := 1) (dq jX5_next 83 rfl) rfl ?_
  refine rz_iadd G (dq jX5_next 84 rfl) ?_
  refine rz_putI G flX5_23 sh15 rfl (dq jX5_next 85 rfl) ?_
  exact rz_vret G (dq jX5_next 86 rfl)
theorem z_X5_next_b145 {Γ : Cx} (G : GG Γ RX5 cX5_next 2 none 8 0 0) (x1 : Int32) : Rz Γ 2 (Qm Γ encV 0 0) 0 0 145 [(0, .ref 15), (1, .int x1)] [] (f_X5_next_b145 x1) := by
  unfold f_X5_next_b145
  refine rz_aload_n G 0 rfl rfl (dq jX5_next 71 rfl) ?_
  refine rz_ldcS G (List.mem_of_getElem? (l := ldcL) (i := 1) rfl) (dq jX5_next 72 rfl) ?_
  refine rz_iload_n G 1 rfl rfl (dq jX5_next 73 rfl) ?_
  refine rz_callVSi G (st := [.ref 15]) (c_Sidx (cLn Γ) 1 x1) lkX5_51 (by decide) rfl rfl (Nat.le_of_ble_eq_true rfl) (Nat.le_of_ble_eq_true rfl) (dq jX5_next 74 rfl) rfl (fun r1 => ?_)
  refine rz_if_lt G (tgt := 159) rfl (dq jX5_next 75 rfl) (fun c2 => ?_) (fun c2 => ?_)
  · refine rz_sipush G (v := 259) (dq jX5_next 78 rfl) (by decide) ?_
    exact rz_lv [0] rfl (z_X5_next_b162 G 259)
  · refine rz_iload_n G 1 rfl rfl (dq jX5_next 76 rfl) ?_
    refine rz_goto G (tgt := 162) rfl (dq jX5_next 77 rfl) ?_
    exact rz_lv [0] rfl (z_X5_next_b162 G x1)
theorem z_X5_next_b103 {Γ : Cx} (G : GG Γ RX5 cX5_next 2 none 8 0 0) (x1 : Int32) : Rz Γ 2 (Qm Γ encV 0 0) 0 0 103 [(0, .ref 15), (1, .int x1)] [] (f_X5_next_b103 x1) := by
  unfold f_X5_next_b103
  refine rz_iload_n G 1 rfl rfl (dq jX5_next 51 rfl) ?_
  refine rz_bipush G (v := 48) (dq jX5_next 52 rfl) (by decide) ?_
  refine rz_icmp_lt G (tgt := 145) rfl (dq jX5_next 53 rfl) (fun c1 => ?_) (fun c1 => ?_)
  · exact rz_lv [0, 1] rfl (z_X5_next_b145 G x1)
  · refine rz_iload_n G 1 rfl rfl (dq jX5_next 54 rfl) ?_
    refine rz_bipush G (v := 57) (dq jX5_next 55 rfl) (by decide) ?_
    refine rz_icmp_gt G (tgt := 145) rfl (dq jX5_next 56 rfl) (fun c2 => ?_) (fun c2 => ?_)
    · exact rz_lv [0, 1] rfl (z_X5_next_b145 G x1)
    · refine rz_aload_n G 0 rfl rfl (dq jX5_next 57 rfl) ?_
      refine rz_sipush G (v := 257) (dq jX5_next 58 rfl) (by decide) ?_
      refine rz_putI G flX5_36 sh15 rfl (dq jX5_next 59 rfl) ?_
      refine rz_aload_n G 0 rfl rfl (dq jX5_next 60 rfl) ?_
      refine rz_aload_n G 0 rfl rfl (dq jX5_next 61 rfl) ?_
      refine rz_bipush G (v := 48) (dq jX5_next 62 rfl) (by decide) ?_
      refine rz_bipush G (v := 57) (dq jX5_next 63 rfl) (by decide) ?_
      refine rz_callVi G (st := [.ref 15]) (c_X5_behindRow (cLn Γ) 48 57) lkX5_39 sh15 rfl rfl rfl (Nat.le_of_ble_eq_true rfl) (Nat.le_of_ble_eq_true rfl) (dq jX5_next 64 rfl) rfl (fun r3 => ?_)
      refine rz_putI G flX5_23 sh15 rfl (dq jX5_next 65 rfl) ?_
      refine rz_aload_n G 0 rfl rfl (dq jX5_next 66 rfl) ?_
      refine rz_aload_n G 0 rfl rfl (dq jX5_next 67 rfl) ?_
      refine rz_callVi G (st := [.ref 15]) (c_X5_valueOfRow (cLn Γ)) lkX5_43 sh15 rfl rfl rfl (Nat.le_of_ble_eq_true rfl) (Nat.le_of_ble_eq_true rfl) (dq jX5_next 68 rfl) rfl (fun r4 => ?_)
      refine rz_putI G flX5_46 sh15 rfl (dq jX5_next 69 rfl) ?_
      refine rz_goto G (tgt := 175) rfl (dq jX5_next 70 rfl) ?_
      exact rz_vret G (dq jX5_next 86 rfl)
theorem c_X5_next (l : Launch)  : Ct l yX5_next cX5_next 2 none 8 encV [.ref 15] (f_X5_next ) := by
  refine ct_of (own := RX5) (by decide) rfl (Nat.le_of_ble_eq_true rfl) (fun Γ hl G => ?_)
  show Rz Γ 2 (Qm Γ encV 0 0) 0 0 0 [(0, .ref 15)] [] _
  unfold f_X5_next
  refine rz_aload_n G 0 rfl rfl (dq jX5_next 0 rfl) ?_
  refine rz_aload_n G 0 rfl rfl (dq jX5_next 1 rfl) ?_
  refine rz_callVi G (st := [.ref 15]) (c_X5_behindBlanks (cLn Γ)) lkX5_29 sh15 rfl rfl rfl (Nat.le_of_ble_eq_true rfl) (Nat.le_of_ble_eq_true rfl) (dq jX5_next 2 rfl) rfl (fun r1 => ?_)
  refine rz_putI G flX5_33 sh15 rfl (dq jX5_next 3 rfl) ?_
  refine rz_aload_n G 0 rfl rfl (dq jX5_next 4 rfl) ?_
  refine rz_aload_n G 0 rfl rfl (dq jX5_next 5 rfl) ?_
  refine rz_getI G flX5_33 sh15 rfl (dq jX5_next 6 rfl) (fun v2 => ?_)
  refine rz_putI G flX5_23 sh15 rfl (dq jX5_next 7 rfl) ?_
  refine rz_aload_n G 0 rfl rfl (dq jX5_next 8 rfl) ?_
  refine rz_getI G flX5_33 sh15 rfl (dq jX5_next 9 rfl) (fun v3 => ?_)
  refine rz_if_lt G (tgt := 46) rfl (dq jX5_next 10 rfl) (fun c4 => ?_) (fun c4 => ?_)
  · exact rz_lv [0] rfl (z_X5_next_b46 G)
  · refine rz_aload_n G 0 rfl rfl (dq jX5_next 11 rfl) ?_
    refine rz_getI G flX5_33 sh15 rfl (dq jX5_next 12 rfl) (fun v5 => ?_)
    refine rz_aload_n G 0 rfl rfl (dq jX5_next 13 rfl) ?_
    refine rz_getI G flX5_19 sh15 rfl (dq jX5_next 14 rfl) (fun v6 => ?_)
    refine rz_icmp_ge G (tgt := 46) rfl (dq jX5_next 15 rfl) (fun c7 => ?_) (fun c7 => ?_)
    · exact rz_lv [0] rfl (z_X5_next_b46 G)
    · refine rz_aload_n G 0 rfl rfl (dq jX5_next 16 rfl) ?_
      refine rz_getI G flX5_33 sh15 rfl (dq jX5_next 17 rfl) (fun v8 => ?_)
      refine rz_aload_n G 0 rfl rfl (dq jX5_next 18 rfl) ?_
      refine rz_getR G flX5_7 sh15 rfl (dq jX5_next 19 rfl) (fun u9 => ?_)
      refine rz_gd (fun e_u9 => ?_)
      subst e_u9
      refine rz_alen G (v := 600) sh1 (by decide) (by decide) (dq jX5_next 20 rfl) ?_
      refine rz_icmp_lt G (tgt := 54) rfl (dq jX5_next 21 rfl) (fun c10 => ?_) (fun c10 => ?_)
      · refine rz_aload_n G 0 rfl rfl (dq jX5_next 26 rfl) ?_
        refine rz_getR G flX5_7 sh15 rfl (dq jX5_next 27 rfl) (fun u11 => ?_)
        refine rz_gd (fun e_u11 => ?_)
        subst e_u11
        refine rz_aload_n G 0 rfl rfl (dq jX5_next 28 rfl) ?_
        refine rz_getI G flX5_33 sh15 rfl (dq jX5_next 29 rfl) (fun v12 => ?_)
        refine rz_bald G sh1 (dq jX5_next 30 rfl) (fun v13 => ?_)
        refine rz_sipush G (v := 255) (dq jX5_next 31 rfl) (by decide) ?_
        refine rz_iand G (dq jX5_next 32 rfl) ?_
        refine rz_i2c G (dq jX5_next 33 rfl) ?_
        refine rz_lti (fun w14 e_w14 => ?_)
        refine rz_istore_n G (lv' := [(1, .int w14), (0, .ref 15)]) rfl (Nat.le_of_ble_eq_true rfl) rfl (dq jX5_next 34 rfl) ?_
        refine rz_iload_n G 0 rfl rfl (dq jX5_next 35 rfl) ?_
        refine rz_bipush G (v := 97) (dq jX5_next 36 rfl) (by decide) ?_
        refine rz_icmp_lt G (tgt := 103) rfl (dq jX5_next 37 rfl) (fun c15 => ?_) (fun c15 => ?_)
        · exact rz_lv [1, 0] rfl (z_X5_next_b103 G w14)
        · refine rz_iload_n G 0 rfl rfl (dq jX5_next 38 rfl) ?_
          refine rz_bipush G (v := 122) (dq jX5_next 39 rfl) (by decide) ?_
          refine rz_icmp_gt G (tgt := 103) rfl (dq jX5_next 40 rfl) (fun c16 => ?_) (fun c16 => ?_)
          · exact rz_lv [1, 0] rfl (z_X5_next_b103 G w14)
          · refine rz_aload_n G 1 rfl rfl (dq jX5_next 41 rfl) ?_
            refine rz_sipush G (v := 256) (dq jX5_next 42 rfl) (by decide) ?_
            refine rz_putI G flX5_36 sh15 rfl (dq jX5_next 43 rfl) ?_
            refine rz_aload_n G 1 rfl rfl (dq jX5_next 44 rfl) ?_
            refine rz_aload_n G 1 rfl rfl (dq jX5_next 45 rfl) ?_
            refine rz_bipush G (v := 97) (dq jX5_next 46 rfl) (by decide) ?_
            refine rz_bipush G (v := 122) (dq jX5_next 47 rfl) (by decide) ?_
            refine rz_callVi G (st := [.ref 15]) (c_X5_behindRow (cLn Γ) 97 122) lkX5_39 sh15 rfl rfl rfl (Nat.le_of_ble_eq_true rfl) (Nat.le_of_ble_eq_true rfl) (dq jX5_next 48 rfl) rfl (fun r17 => ?_)
            refine rz_putI G flX5_23 sh15 rfl (dq jX5_next 49 rfl) ?_
            refine rz_goto G (tgt := 175) rfl (dq jX5_next 50 rfl) ?_
            exact rz_vret G (dq jX5_next 86 rfl)
      · exact rz_lv [0] rfl (z_X5_next_b46 G)
theorem c_X5_begin (l : Launch) (q1 : Nat) (x2 : Int32) : Ct l yX5_begin cX5_begin 3 none 9 encV [.ref 15, .ref q1, .int x2] (f_X5_begin q1 x2) := by
  refine ct_of (own := RX5) (by decide) rfl (Nat.le_of_ble_eq_true rfl) (fun Γ hl G => ?_)
  show Rz Γ 3 (Qm Γ encV 0 0) 0 0 0 [(0, .ref 15), (1, .ref q1), (2, .int x2)] [] _
  unfold f_X5_begin
  refine rz_gd (fun e_q1 => ?_)
  subst e_q1
  refine rz_aload_n G 0 rfl rfl (dq jX5_begin 0 rfl) ?_
  refine rz_aload_n G 1 rfl rfl (dq jX5_begin 1 rfl) ?_
  refine rz_putA G flX5_7 sh15 rfl (dq jX5_begin 2 rfl) ?_
  refine rz_aload_n G 0 rfl rfl (dq jX5_begin 3 rfl) ?_
  refine rz_iload_n G 2 rfl rfl (dq jX5_begin 4 rfl) ?_
  refine rz_aload_n G 1 rfl rfl (dq jX5_begin 5 rfl) ?_
  refine rz_alen G (v := 600) sh1 (by decide) (by decide) (dq jX5_begin 6 rfl) ?_
  refine rz_mmin G mtX5_13 (by decide) (Nat.le_of_ble_eq_true rfl) (dq jX5_begin 7 rfl) ?_
  refine rz_lti (fun w1 e_w1 => ?_)
  refine rz_putI G flX5_19 sh15 rfl (dq jX5_begin 8 rfl) ?_
  refine rz_aload_n G 0 rfl rfl (dq jX5_begin 9 rfl) ?_
  refine rz_iconst G (v := 0) (dq jX5_begin 10 rfl) rfl ?_
  refine rz_putI G flX5_23 sh15 rfl (dq jX5_begin 11 rfl) ?_
  refine rz_aload_n G 0 rfl rfl (dq jX5_begin 12 rfl) ?_
  refine rz_callVv G (st := []) (c_X5_next (cLn Γ)) lkX5_26 sh15 rfl rfl rfl (Nat.le_of_ble_eq_true rfl) (Nat.le_of_ble_eq_true rfl) (dq jX5_begin 13 rfl) rfl (fun _ => ?_)
  exact rz_vret G (dq jX5_begin 14 rfl)
theorem z_X5_isWord_b30 {Γ : Cx} (G : GG Γ RX5 cX5_isWord 4 (some .boolean) 8 0 0) : ∀ (fu : Nat) (q1 : Nat) (x2 : Int32), Rz Γ 4 (Qm Γ encI 0 0) 0 0 30 [(0, .ref 15), (1, .ref ((1000 + 2 * q1))), (2, .int x2)] [] (f_X5_isWord_b30 fu q1 x2) := by
  intro fu
  induction fu with
  | zero => intro _ _; exact rz_none
  | succ fu ih =>
    intro q1 x2
    rw [f_X5_isWord_b30]
    refine rz_iload_n G 2 rfl rfl (dq jX5_isWord 16 rfl) ?_
    refine rz_aload_n G 1 rfl rfl (dq jX5_isWord 17 rfl) ?_
    refine rz_gd (fun h9_q1 => ?_)
    refine rz_callVSi G (st := [.int x2]) (c_Slen (cLn Γ) q1) lkX5_57 h9_q1 rfl rfl (Nat.le_of_ble_eq_true rfl) (Nat.le_of_ble_eq_true rfl) (dq jX5_isWord 18 rfl) rfl (fun r1 => ?_)
    refine rz_icmp_ge G (tgt := 80) rfl (dq jX5_isWord 19 rfl) (fun c2 => ?_) (fun c2 => ?_)
    · refine rz_iconst G (v := 1) (dq jX5_isWord 44 rfl) rfl ?_
      exact rz_zret0 G (by decide) (dq jX5_isWord 45 rfl)
    · refine rz_aload_n G 0 rfl rfl (dq jX5_isWord 20 rfl) ?_
      refine rz_getI G flX5_33 sh15 rfl (dq jX5_isWord 21 rfl) (fun v3 => ?_)
      refine rz_iload_n G 2 rfl rfl (dq jX5_isWord 22 rfl) ?_
      refine rz_iadd G (dq jX5_isWord 23 rfl) ?_
      refine rz_istore_n G (lv' := [(3, .int (v3 + x2)), (0, .ref 15), (1, .ref ((1000 + 2 * q1))), (2, .int x2)]) rfl (Nat.le_of_ble_eq_true rfl) rfl (dq jX5_isWord 24 rfl) ?_
      refine rz_iload_n G 0 rfl rfl (dq jX5_isWord 25 rfl) ?_
      refine rz_if_lt G (tgt := 72) rfl (dq jX5_isWord 26 rfl) (fun c4 => ?_) (fun c4 => ?_)
      · refine rz_iconst G (v := 0) (dq jX5_isWord 40 rfl) rfl ?_
        exact rz_zret0 G (by decide) (dq jX5_isWord 41 rfl)
      · refine rz_iload_n G 0 rfl rfl (dq jX5_isWord 27 rfl) ?_
        refine rz_aload_n G 1 rfl rfl (dq jX5_isWord 28 rfl) ?_
        refine rz_getR G flX5_7 sh15 rfl (dq jX5_isWord 29 rfl) (fun u5 => ?_)
        refine rz_gd (fun e_u5 => ?_)
        subst e_u5
        refine rz_alen G (v := 600) sh1 (by decide) (by decide) (dq jX5_isWord 30 rfl) ?_
        refine rz_icmp_ge G (tgt := 72) rfl (dq jX5_isWord 31 rfl) (fun c6 => ?_) (fun c6 => ?_)
        · refine rz_iconst G (v := 0) (dq jX5_isWord 40 rfl) rfl ?_
          exact rz_zret0 G (by decide) (dq jX5_isWord 41 rfl)
        · refine rz_aload_n G 1 rfl rfl (dq jX5_isWord 32 rfl) ?_
          refine rz_getR G flX5_7 sh15 rfl (dq jX5_isWord 33 rfl) (fun u7 => ?_)
          refine rz_gd (fun e_u7 => ?_)
          subst e_u7
          refine rz_iload_n G 0 rfl rfl (dq jX5_isWord 34 rfl) ?_
          refine rz_bald G sh1 (dq jX5_isWord 35 rfl) (fun v8 => ?_)
          refine rz_aload_n G 2 rfl rfl (dq jX5_isWord 36 rfl) ?_
          refine rz_iload_n G 3 rfl rfl (dq jX5_isWord 37 rfl) ?_
          refine rz_gd (fun h9_q1 => ?_)
          refine rz_callVSi G (st := [.int v8]) (c_SchAt (cLn Γ) q1 x2) lkX5_59 h9_q1 rfl rfl (Nat.le_of_ble_eq_true rfl) (Nat.le_of_ble_eq_true rfl) (dq jX5_isWord 38 rfl) rfl (fun r9 => ?_)
          refine rz_icmp_eq G (tgt := 74) rfl (dq jX5_isWord 39 rfl) (fun c10 => ?_) (fun c10 => ?_)
          · refine rz_iinc G 3 (v := x2 + 1) (lv' := [(2, .int (x2 + 1)), (3, .int (v3 + x2)), (0, .ref 15), (1, .ref ((1000 + 2 * q1)))]) rfl (congrArg (HAdd.hAdd _) (by decide)) (Nat.le_of_ble_eq_true rfl) rfl (dq jX5_isWord 42 rfl) ?_
            refine rz_goto G (tgt := 30) rfl (dq jX5_isWord 43 rfl) ?_
            exact rz_lv [2, 3, 0] rfl (ih q1 (x2 + 1))
          · refine rz_iconst G (v := 0) (dq jX5_isWord 40 rfl) rfl ?_
            exact rz_zret0 G (by decide) (dq jX5_isWord 41 rfl)
theorem c_X5_isWord (l : Launch) (q1 : Nat) : Ct l yX5_isWord cX5_isWord 4 (some .boolean) 8 encI [.ref 15, .ref (1000 + 2 * q1)] (f_X5_isWord q1) := by
  refine ct_of (own := RX5) (by decide) rfl (Nat.le_of_ble_eq_true rfl) (fun Γ hl G => ?_)
  show Rz Γ 4 (Qm Γ encI 0 0) 0 0 0 [(0, .ref 15), (1, .ref (1000 + 2 * q1))] [] _
  unfold f_X5_isWord
  refine rz_aload_n G 0 rfl rfl (dq jX5_isWord 0 rfl) ?_
  refine rz_getI G flX5_36 sh15 rfl (dq jX5_isWord 1 rfl) (fun v1 => ?_)
  refine rz_sipush G (v := 256) (dq jX5_isWord 2 rfl) (by decide) ?_
  refine rz_icmp_ne G (tgt := 26) rfl (dq jX5_isWord 3 rfl) (fun c2 => ?_) (fun c2 => ?_)
  · refine rz_aload_n G 0 rfl rfl (dq jX5_isWord 4 rfl) ?_
    refine rz_getI G flX5_23 sh15 rfl (dq jX5_isWord 5 rfl) (fun v3 => ?_)
    refine rz_aload_n G 0 rfl rfl (dq jX5_isWord 6 rfl) ?_
    refine rz_getI G flX5_33 sh15 rfl (dq jX5_isWord 7 rfl) (fun v4 => ?_)
    refine rz_isub G (dq jX5_isWord 8 rfl) ?_
    refine rz_aload_n G 1 rfl rfl (dq jX5_isWord 9 rfl) ?_
    refine rz_gd (fun h9_q1 => ?_)
    refine rz_callVSi G (st := [.int (v3 - v4)]) (c_Slen (cLn Γ) q1) lkX5_57 h9_q1 rfl rfl (Nat.le_of_ble_eq_true rfl) (Nat.le_of_ble_eq_true rfl) (dq jX5_isWord 10 rfl) rfl (fun r5 => ?_)
    refine rz_icmp_eq G (tgt := 28) rfl (dq jX5_isWord 11 rfl) (fun c6 => ?_) (fun c6 => ?_)
    · refine rz_iconst G (v := 0) (dq jX5_isWord 14 rfl) rfl ?_
      refine rz_istore_n G (lv' := [(2, .int 0), (0, .ref 15), (1, .ref ((1000 + 2 * q1)))]) rfl (Nat.le_of_ble_eq_true rfl) rfl (dq jX5_isWord 15 rfl) ?_
      exact rz_lv [1, 2, 0] rfl (z_X5_isWord_b30 G FU q1 0)
    · refine rz_iconst G (v := 0) (dq jX5_isWord 12 rfl) rfl ?_
      exact rz_zret0 G (by decide) (dq jX5_isWord 13 rfl)
  · refine rz_iconst G (v := 0) (dq jX5_isWord 12 rfl) rfl ?_
    exact rz_zret0 G (by decide) (dq jX5_isWord 13 rfl)
theorem c_X6_add (l : Launch) (q0 : Nat) (x1 : Int32) : Ct l yX6_add cX6_add 2 none 1 encV [.ref q0, .int x1] (f_X6_add q0 x1) := by
  refine ct_of (own := RX6) (by decide) rfl (Nat.le_of_ble_eq_true rfl) (fun Γ hl G => ?_)
  show Rz Γ 2 (Qm Γ encV 0 0) 0 0 0 [(0, .ref q0), (1, .int x1)] [] _
  unfold f_X6_add
  refine rz_gd (fun h_q0 => ?_)
  refine rz_aload_n G 0 rfl rfl (dq jX6_add 0 rfl) ?_
  refine rz_getI G flX6_21 (ru_sh h_q0) rfl (dq jX6_add 1 rfl) (fun v1 => ?_)
  refine rz_if_lt G (tgt := 39) rfl (dq jX6_add 2 rfl) (fun c2 => ?_) (fun c2 => ?_)
  · exact rz_vret G (dq jX6_add 21 rfl)
  · refine rz_aload_n G 0 rfl rfl (dq jX6_add 3 rfl) ?_
    refine rz_getI G flX6_21 (ru_sh h_q0) rfl (dq jX6_add 4 rfl) (fun v3 => ?_)
    refine rz_aload_n G 0 rfl rfl (dq jX6_add 5 rfl) ?_
    refine rz_getC G flX6_9 (ru_sh h_q0) (t := (q0 + 1)) rfl rfl (dq jX6_add 6 rfl) ?_
    refine rz_alen G (v := 600) (ru_s1 h_q0) (by decide) (by decide) (dq jX6_add 7 rfl) ?_
    refine rz_icmp_ge G (tgt := 39) rfl (dq jX6_add 8 rfl) (fun c4 => ?_) (fun c4 => ?_)
    · exact rz_vret G (dq jX6_add 21 rfl)
    · refine rz_aload_n G 0 rfl rfl (dq jX6_add 9 rfl) ?_
      refine rz_getC G flX6_9 (ru_sh h_q0) (t := (q0 + 1)) rfl rfl (dq jX6_add 10 rfl) ?_
      refine rz_aload_n G 0 rfl rfl (dq jX6_add 11 rfl) ?_
      refine rz_getI G flX6_21 (ru_sh h_q0) rfl (dq jX6_add 12 rfl) (fun v5 => ?_)
      refine rz_iload_n G 1 rfl rfl (dq jX6_add 13 rfl) ?_
      refine rz_iast G (ru_s1 h_q0) (dq jX6_add 14 rfl) ?_
      refine rz_aload_n G 0 rfl rfl (dq jX6_add 15 rfl) ?_
      refine rz_dup G rfl (dq jX6_add 16 rfl) ?_
      refine rz_getI G flX6_21 (ru_sh h_q0) rfl (dq jX6_add 17 rfl) (fun v6 => ?_)
      refine rz_iconst G (v := 1) (dq jX6_add 18 rfl) rfl ?_
      refine rz_iadd G (dq jX6_add 19 rfl) ?_
      refine rz_putI G flX6_21 (ru_sh h_q0) rfl (dq jX6_add 20 rfl) ?_
      exact rz_vret G (dq jX6_add 21 rfl)
