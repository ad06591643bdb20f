theorem c_X11_high (l : Launch) (x1 : Int32) (x2 : Int32) : Ct l yX11_high cX11_high 5 (some .int) 1 encI [.ref 56, .int x1, .int x2] (f_X11_high x1 x2) := by
  refine ct_of (own := RX11) (by decide) rfl (Nat.le_of_ble_eq_true rfl) (fun Γ hl G => ?_)
  show Rz Γ 5 (Qm Γ encI 0 0) 0 0 0 [(0, .ref 56), (1, .int x1), (2, .int x2)] [] _
  unfold f_X11_high
  refine rz_aload_n G 0 rfl rfl (dq jX11_high 0 rfl) ?_
  refine rz_getC G flX11_81 sh56 (t := 73) rfl rfl (dq jX11_high 1 rfl) ?_
  refine rz_iload_n G 1 rfl rfl (dq jX11_high 2 rfl) ?_
  refine rz_iald G sh73 (dq jX11_high 3 rfl) (fun v1 => ?_)
  refine rz_if_ne G (tgt := 16) rfl (dq jX11_high 4 rfl) (fun c2 => ?_) (fun c2 => ?_)
  · refine rz_aload_n G 0 rfl rfl (dq jX11_high 5 rfl) ?_
    refine rz_getC G flX11_90 sh56 (t := 76) rfl rfl (dq jX11_high 6 rfl) ?_
    refine rz_iload_n G 1 rfl rfl (dq jX11_high 7 rfl) ?_
    refine rz_iald G sh76 (dq jX11_high 8 rfl) (fun v3 => ?_)
    exact rz_iret G (dq jX11_high 9 rfl)
  · refine rz_aload_n G 0 rfl rfl (dq jX11_high 10 rfl) ?_
    refine rz_getC G flX11_81 sh56 (t := 73) rfl rfl (dq jX11_high 11 rfl) ?_
    refine rz_iload_n G 1 rfl rfl (dq jX11_high 12 rfl) ?_
    refine rz_iald G sh73 (dq jX11_high 13 rfl) (fun v4 => ?_)
    refine rz_iconst G (v := 1) (dq jX11_high 14 rfl) rfl ?_
    refine rz_icmp_eq G (tgt := 28) rfl (dq jX11_high 15 rfl) (fun c5 => ?_) (fun c5 => ?_)
    · refine rz_aload_n G 0 rfl rfl (dq jX11_high 18 rfl) ?_
      refine rz_getC G flX11_87 sh56 (t := 75) rfl rfl (dq jX11_high 19 rfl) ?_
      refine rz_iload_n G 1 rfl rfl (dq jX11_high 20 rfl) ?_
      refine rz_iald G sh75 (dq jX11_high 21 rfl) (fun v6 => ?_)
      refine rz_aload_n G 0 rfl rfl (dq jX11_high 22 rfl) ?_
      refine rz_getC G flX11_93 sh56 (t := 77) rfl rfl (dq jX11_high 23 rfl) ?_
      refine rz_iload_n G 1 rfl rfl (dq jX11_high 24 rfl) ?_
      refine rz_iald G sh77 (dq jX11_high 25 rfl) (fun v7 => ?_)
      refine rz_isub G (dq jX11_high 26 rfl) ?_
      refine rz_istore_n G (lv' := [(3, .int (v6 - v7)), (0, .ref 56), (1, .int x1), (2, .int x2)]) rfl (Nat.le_of_ble_eq_true rfl) rfl (dq jX11_high 27 rfl) ?_
      refine rz_iload_n G 3 rfl rfl (dq jX11_high 28 rfl) ?_
      refine rz_aload_n G 1 rfl rfl (dq jX11_high 29 rfl) ?_
      refine rz_getC G flX11_93 sh56 (t := 77) rfl rfl (dq jX11_high 30 rfl) ?_
      refine rz_iload_n G 2 rfl rfl (dq jX11_high 31 rfl) ?_
      refine rz_iald G sh77 (dq jX11_high 32 rfl) (fun v8 => ?_)
      refine rz_isub G (dq jX11_high 33 rfl) ?_
      refine rz_istore G (lv' := [(4, .int (x2 - v8)), (3, .int (v6 - v7)), (0, .ref 56), (1, .int x1), (2, .int x2)]) (Nat.le_of_ble_eq_true rfl) rfl (dq jX11_high 34 rfl) ?_
      refine rz_iconst G (v := 4) (dq jX11_high 35 rfl) rfl ?_
      refine rz_aload_n G 2 rfl rfl (dq jX11_high 36 rfl) ?_
      refine rz_getC G flX11_90 sh56 (t := 76) rfl rfl (dq jX11_high 37 rfl) ?_
      refine rz_iload_n G 3 rfl rfl (dq jX11_high 38 rfl) ?_
      refine rz_iald G sh76 (dq jX11_high 39 rfl) (fun v9 => ?_)
      refine rz_imul G (dq jX11_high 40 rfl) ?_
      refine rz_iload G 0 rfl (dq jX11_high 41 rfl) ?_
      refine rz_imul G (dq jX11_high 42 rfl) ?_
      refine rz_iload_n G 1 rfl rfl (dq jX11_high 43 rfl) ?_
      refine rz_iload G 0 rfl (dq jX11_high 44 rfl) ?_
      refine rz_isub G (dq jX11_high 45 rfl) ?_
      refine rz_imul G (dq jX11_high 46 rfl) ?_
      refine rz_iload_n G 1 rfl rfl (dq jX11_high 47 rfl) ?_
      refine rz_iload_n G 1 rfl rfl (dq jX11_high 48 rfl) ?_
      refine rz_imul G (dq jX11_high 49 rfl) ?_
      refine rz_idiv G (dq jX11_high 50 rfl) ?_
      exact rz_iret G (dq jX11_high 51 rfl)
    · refine rz_iconst G (v := 0) (dq jX11_high 16 rfl) rfl ?_
      exact rz_iret G (dq jX11_high 17 rfl)
theorem z_X11_runs_b60 {Γ : Cx} (G : GG Γ RX11 cX11_runs 5 none 4 0 0) (k7 : Int32 → Sg → Option (Unit × Sg)) (hk7 : ∀ (x2 : Int32), Rz Γ 5 (Qm Γ encV 0 0) 0 0 7 [(0, .ref 56), (2, .int x2)] [] (k7 x2)) (k17 : Int32 → Int32 → Sg → Option (Unit × Sg)) (hk17 : ∀ (x2 : Int32) (x3 : Int32), Rz Γ 5 (Qm Γ encV 0 0) 0 0 17 [(0, .ref 56), (2, .int x2), (3, .int x3)] [] (k17 x2 x3)) (x2 : Int32) (x3 : Int32) : Rz Γ 5 (Qm Γ encV 0 0) 0 0 60 [(0, .ref 56), (2, .int x2), (3, .int x3)] [] (f_X11_runs_b60 k7 k17 x2 x3) := by
  unfold f_X11_runs_b60
  refine rz_iinc G 2 (v := x3 + 1) (lv' := [(3, .int (x3 + 1)), (0, .ref 56), (2, .int x2)]) rfl (congrArg (HAdd.hAdd _) (by decide)) (Nat.le_of_ble_eq_true rfl) rfl (dq jX11_runs 36 rfl) ?_
  refine rz_goto G (tgt := 17) rfl (dq jX11_runs 37 rfl) ?_
  exact rz_lv [1, 2, 0] rfl (hk17 x2 (x3 + 1))
theorem z_X11_runs_b44 {Γ : Cx} (G : GG Γ RX11 cX11_runs 5 none 4 0 0) (k7 : Int32 → Sg → Option (Unit × Sg)) (hk7 : ∀ (x2 : Int32), Rz Γ 5 (Qm Γ encV 0 0) 0 0 7 [(0, .ref 56), (2, .int x2)] [] (k7 x2)) (k17 : Int32 → Int32 → Sg → Option (Unit × Sg)) (hk17 : ∀ (x2 : Int32) (x3 : Int32), Rz Γ 5 (Qm Γ encV 0 0) 0 0 17 [(0, .ref 56), (2, .int x2), (3, .int x3)] [] (k17 x2 x3)) (x2 : Int32) (x3 : Int32) : Rz Γ 5 (Qm Γ encV 0 0) 0 0 44 [(0, .ref 56), (2, .int x2), (3, .int x3)] [] (f_X11_runs_b44 k7 k17 x2 x3) := by
  unfold f_X11_runs_b44
  refine rz_aload_n G 0 rfl rfl (dq jX11_runs 26 rfl) ?_
  refine rz_getC G flX11_87 sh56 (t := 75) rfl rfl (dq jX11_runs 27 rfl) ?_
  refine rz_iload_n G 2 rfl rfl (dq jX11_runs 28 rfl) ?_
  refine rz_iald G sh75 (dq jX11_runs 29 rfl) (fun v1 => ?_)
  refine rz_iload_n G 1 rfl rfl (dq jX11_runs 30 rfl) ?_
  refine rz_icmp_ne G (tgt := 60) rfl (dq jX11_runs 31 rfl) (fun c2 => ?_) (fun c2 => ?_)
  · refine rz_aload_n G 0 rfl rfl (dq jX11_runs 32 rfl) ?_
    refine rz_iload_n G 2 rfl rfl (dq jX11_runs 33 rfl) ?_
    refine rz_iload_n G 1 rfl rfl (dq jX11_runs 34 rfl) ?_
    refine rz_callVv G (st := []) (c_X11_comesDown (cLn Γ) x3 x2) lkX11_421 sh56 rfl rfl rfl (Nat.le_of_ble_eq_true rfl) (Nat.le_of_ble_eq_true rfl) (dq jX11_runs 35 rfl) rfl (fun _ => ?_)
    exact rz_lv [0, 1, 2] rfl (z_X11_runs_b60 G k7 hk7 k17 hk17 x2 x3)
  · exact rz_lv [0, 1, 2] rfl (z_X11_runs_b60 G k7 hk7 k17 hk17 x2 x3)
theorem z_X11_runs_b288 {Γ : Cx} (G : GG Γ RX11 cX11_runs 5 none 4 0 0) (k7 : Int32 → Sg → Option (Unit × Sg)) (hk7 : ∀ (x2 : Int32), Rz Γ 5 (Qm Γ encV 0 0) 0 0 7 [(0, .ref 56), (2, .int x2)] [] (k7 x2)) (k208 : Int32 → Int32 → Sg → Option (Unit × Sg)) (hk208 : ∀ (x2 : Int32) (x3 : Int32), Rz Γ 5 (Qm Γ encV 0 0) 0 0 208 [(0, .ref 56), (2, .int x2), (3, .int x3)] [] (k208 x2 x3)) (x2 : Int32) (x3 : Int32) : Rz Γ 5 (Qm Γ encV 0 0) 0 0 288 [(0, .ref 56), (2, .int x2), (3, .int x3)] [] (f_X11_runs_b288 k7 k208 x2 x3) := by
  unfold f_X11_runs_b288
  refine rz_iinc G 2 (v := x3 + 1) (lv' := [(3, .int (x3 + 1)), (0, .ref 56), (2, .int x2)]) rfl (congrArg (HAdd.hAdd _) (by decide)) (Nat.le_of_ble_eq_true rfl) rfl (dq jX11_runs_s1 16 rfl) ?_
  refine rz_goto G (tgt := 208) rfl (dq jX11_runs_s1 17 rfl) ?_
  exact rz_lv [1, 2, 0] rfl (hk208 x2 (x3 + 1))
theorem z_X11_runs_b328 {Γ : Cx} (G : GG Γ RX11 cX11_runs 5 none 4 0 0) (k7 : Int32 → Sg → Option (Unit × Sg)) (hk7 : ∀ (x2 : Int32), Rz Γ 5 (Qm Γ encV 0 0) 0 0 7 [(0, .ref 56), (2, .int x2)] [] (k7 x2)) (x2 : Int32) : Rz Γ 5 (Qm Γ encV 0 0) 0 0 328 [(0, .ref 56), (2, .int x2)] [] (f_X11_runs_b328 k7 x2) := by
  unfold f_X11_runs_b328
  refine rz_iinc G 1 (v := x2 + 1) (lv' := [(2, .int (x2 + 1)), (0, .ref 56)]) rfl (congrArg (HAdd.hAdd _) (by decide)) (Nat.le_of_ble_eq_true rfl) rfl (dq jX11_runs_s1 38 rfl) ?_
  refine rz_goto G (tgt := 7) rfl (dq jX11_runs_s1 39 rfl) ?_
  exact rz_lv [1, 0] rfl (hk7 (x2 + 1))
theorem z_X11_runs_b296 {Γ : Cx} (G : GG Γ RX11 cX11_runs 5 none 4 0 0) (k7 : Int32 → Sg → Option (Unit × Sg)) (hk7 : ∀ (x2 : Int32), Rz Γ 5 (Qm Γ encV 0 0) 0 0 7 [(0, .ref 56), (2, .int x2)] [] (k7 x2)) : ∀ (fu : Nat) (x2 : Int32) (x3 : Int32), Rz Γ 5 (Qm Γ encV 0 0) 0 0 296 [(0, .ref 56), (2, .int x2), (3, .int x3)] [] (f_X11_runs_b296 k7 fu x2 x3) := by
  intro fu
  induction fu with
  | zero => intro _ _; exact rz_none
  | succ fu ih =>
    intro x2 x3
    rw [f_X11_runs_b296]
    refine rz_iload_n G 2 rfl rfl (dq jX11_runs_s1 20 rfl) ?_
    refine rz_aload_n G 0 rfl rfl (dq jX11_runs_s1 21 rfl) ?_
    refine rz_getI G flX11_323 sh56 rfl (dq jX11_runs_s1 22 rfl) (fun v1 => ?_)
    refine rz_icmp_ge G (tgt := 328) rfl (dq jX11_runs_s1 23 rfl) (fun c2 => ?_) (fun c2 => ?_)
    · exact rz_lv [0, 1] rfl (z_X11_runs_b328 G k7 hk7 x2)
    · refine rz_aload_n G 0 rfl rfl (dq jX11_runs_s1 24 rfl) ?_
      refine rz_getC G flX11_114 sh56 (t := 84) rfl rfl (dq jX11_runs_s1 25 rfl) ?_
      refine rz_sipush G (v := 600) (dq jX11_runs_s1 26 rfl) (by decide) ?_
      refine rz_iload_n G 2 rfl rfl (dq jX11_runs_s1 27 rfl) ?_
      refine rz_imul G (dq jX11_runs_s1 28 rfl) ?_
      refine rz_iload_n G 1 rfl rfl (dq jX11_runs_s1 29 rfl) ?_
      refine rz_iadd G (dq jX11_runs_s1 30 rfl) ?_
      refine rz_aload_n G 0 rfl rfl (dq jX11_runs_s1 31 rfl) ?_
      refine rz_iload_n G 2 rfl rfl (dq jX11_runs_s1 32 rfl) ?_
      refine rz_iload_n G 1 rfl rfl (dq jX11_runs_s1 33 rfl) ?_
      refine rz_callVi G (st := [.int ((600 * x3) + x2), .ref 84]) (c_X11_high (cLn Γ) x3 x2) lkX11_431 sh56 rfl rfl rfl (Nat.le_of_ble_eq_true rfl) (Nat.le_of_ble_eq_true rfl) (dq jX11_runs_s1 34 rfl) rfl (fun r3 => ?_)
      refine rz_iast G sh84 (dq jX11_runs_s1 35 rfl) ?_
      refine rz_iinc G 2 (v := x3 + 1) (lv' := [(3, .int (x3 + 1)), (0, .ref 56), (2, .int x2)]) rfl (congrArg (HAdd.hAdd _) (by decide)) (Nat.le_of_ble_eq_true rfl) rfl (dq jX11_runs_s1 36 rfl) ?_
      refine rz_goto G (tgt := 296) rfl (dq jX11_runs_s1 37 rfl) ?_
      exact rz_lv [1, 2, 0] rfl (ih x2 (x3 + 1))
theorem z_X11_runs_b294 {Γ : Cx} (G : GG Γ RX11 cX11_runs 5 none 4 0 0) (k7 : Int32 → Sg → Option (Unit × Sg)) (hk7 : ∀ (x2 : Int32), Rz Γ 5 (Qm Γ encV 0 0) 0 0 7 [(0, .ref 56), (2, .int x2)] [] (k7 x2)) (x2 : Int32) : Rz Γ 5 (Qm Γ encV 0 0) 0 0 294 [(0, .ref 56), (2, .int x2)] [] (f_X11_runs_b294 k7 x2) := by
  unfold f_X11_runs_b294
  refine rz_iconst G (v := 0) (dq jX11_runs_s1 18 rfl) rfl ?_
  refine rz_istore_n G (lv' := [(3, .int 0), (0, .ref 56), (2, .int x2)]) rfl (Nat.le_of_ble_eq_true rfl) rfl (dq jX11_runs_s1 19 rfl) ?_
  exact rz_lv [1, 2, 0] rfl (z_X11_runs_b296 G k7 hk7 FU x2 0)
theorem z_X11_runs_b208 {Γ : Cx} (G : GG Γ RX11 cX11_runs 5 none 4 0 0) (k7 : Int32 → Sg → Option (Unit × Sg)) (hk7 : ∀ (x2 : Int32), Rz Γ 5 (Qm Γ encV 0 0) 0 0 7 [(0, .ref 56), (2, .int x2)] [] (k7 x2)) : ∀ (fu : Nat) (x2 : Int32) (x3 : Int32), Rz Γ 5 (Qm Γ encV 0 0) 0 0 208 [(0, .ref 56), (2, .int x2), (3, .int x3)] [] (f_X11_runs_b208 k7 fu x2 x3) := by
  intro fu
  induction fu with
  | zero => intro _ _; exact rz_none
  | succ fu ih =>
    intro x2 x3
    rw [f_X11_runs_b208]
    refine rz_iload_n G 2 rfl rfl (dq jX11_runs 119 rfl) ?_
    refine rz_aload_n G 0 rfl rfl (dq jX11_runs 120 rfl) ?_
    refine rz_getI G flX11_323 sh56 rfl (dq jX11_runs 121 rfl) (fun v1 => ?_)
    refine rz_icmp_ge G (tgt := 294) rfl (dq jX11_runs 122 rfl) (fun c2 => ?_) (fun c2 => ?_)
    · exact rz_lv [0, 1] rfl (z_X11_runs_b294 G k7 hk7 x2)
    · refine rz_aload_n G 0 rfl rfl (dq jX11_runs 123 rfl) ?_
      refine rz_getI G flX11_394 sh56 rfl (dq jX11_runs 124 rfl) (fun v3 => ?_)
      refine rz_iconst G (v := (-1)) (dq jX11_runs 125 rfl) rfl ?_
      refine rz_icmp_ne G (tgt := 294) rfl (dq jX11_runs 126 rfl) (fun c4 => ?_) (fun c4 => ?_)
      · refine rz_aload_n G 0 rfl rfl (dq jX11_runs 127 rfl) ?_
        refine rz_getC G flX11_26 sh56 (t := 58) rfl rfl (dq jX11_runs 128 rfl) ?_
        refine rz_bipush G (v := 6) (dq jX11_runs 129 rfl) (by decide) ?_
        refine rz_iload_n G 2 rfl rfl (dq jX11_runs 130 rfl) ?_
        refine rz_imul G (dq jX11_runs 131 rfl) ?_
        refine rz_iconst G (v := 1) (dq jX11_runs 132 rfl) rfl ?_
        refine rz_iadd G (dq jX11_runs 133 rfl) ?_
        refine rz_iald G sh58 (dq jX11_runs 134 rfl) (fun v5 => ?_)
        refine rz_istore G (lv' := [(4, .int v5), (0, .ref 56), (2, .int x2), (3, .int x3)]) (Nat.le_of_ble_eq_true rfl) rfl (dq jX11_runs 135 rfl) ?_
        refine rz_aload_n G 1 rfl rfl (dq jX11_runs 136 rfl) ?_
        refine rz_getC G flX11_81 sh56 (t := 73) rfl rfl (dq jX11_runs 137 rfl) ?_
        refine rz_iload_n G 3 rfl rfl (dq jX11_runs 138 rfl) ?_
        refine rz_iald G sh73 (dq jX11_runs 139 rfl) (fun v6 => ?_)
        refine rz_iconst G (v := 2) (dq jX11_runs 140 rfl) rfl ?_
        refine rz_icmp_ne G (tgt := 288) rfl (dq jX11_runs 141 rfl) (fun c7 => ?_) (fun c7 => ?_)
        · refine rz_iload_n G 2 rfl rfl (dq jX11_runs 142 rfl) ?_
          refine rz_aload_n G 1 rfl rfl (dq jX11_runs 143 rfl) ?_
          refine rz_getC G flX11_93 sh56 (t := 77) rfl rfl (dq jX11_runs 144 rfl) ?_
          refine rz_iload_n G 3 rfl rfl (dq jX11_runs 145 rfl) ?_
          refine rz_iald G sh77 (dq jX11_runs 146 rfl) (fun v8 => ?_)
          refine rz_isub G (dq jX11_runs 147 rfl) ?_
          refine rz_iconst G (v := 2) (dq jX11_runs 148 rfl) rfl ?_
          refine rz_aload_n G 1 rfl rfl (dq jX11_runs 149 rfl) ?_
          refine rz_getI G flX11_7 sh56 rfl (dq jX11_runs_s1 0 rfl) (fun v9 => ?_)
          refine rz_imul G (dq jX11_runs_s1 1 rfl) ?_
          refine rz_icmp_lt G (tgt := 288) rfl (dq jX11_runs_s1 2 rfl) (fun c10 => ?_) (fun c10 => ?_)
          · exact rz_lv [1, 2, 3] rfl (z_X11_runs_b288 G k7 hk7 (f_X11_runs_b208 k7 fu) ih x2 x3)
          · refine rz_iload G 0 rfl (dq jX11_runs_s1 3 rfl) ?_
            refine rz_if_le G (tgt := 288) rfl (dq jX11_runs_s1 4 rfl) (fun c11 => ?_) (fun c11 => ?_)
            · exact rz_lv [1, 2, 3] rfl (z_X11_runs_b288 G k7 hk7 (f_X11_runs_b208 k7 fu) ih x2 x3)
            · refine rz_aload_n G 1 rfl rfl (dq jX11_runs_s1 5 rfl) ?_
              refine rz_iload_n G 3 rfl rfl (dq jX11_runs_s1 6 rfl) ?_
              refine rz_iload G 0 rfl (dq jX11_runs_s1 7 rfl) ?_
              refine rz_iload_n G 2 rfl rfl (dq jX11_runs_s1 8 rfl) ?_
              refine rz_callVi G (st := []) (c_X11_mayGo (cLn Γ) x3 v5 x2) lkX11_424 sh56 rfl rfl rfl (Nat.le_of_ble_eq_true rfl) (Nat.le_of_ble_eq_true rfl) (dq jX11_runs_s1 9 rfl) rfl (fun r12 => ?_)
              refine rz_if_eq G (tgt := 288) rfl (dq jX11_runs_s1 10 rfl) (fun c13 => ?_) (fun c13 => ?_)
              · exact rz_lv [1, 2, 3] rfl (z_X11_runs_b288 G k7 hk7 (f_X11_runs_b208 k7 fu) ih x2 x3)
              · refine rz_aload_n G 1 rfl rfl (dq jX11_runs_s1 11 rfl) ?_
                refine rz_iload_n G 3 rfl rfl (dq jX11_runs_s1 12 rfl) ?_
                refine rz_iload G 0 rfl (dq jX11_runs_s1 13 rfl) ?_
                refine rz_iload_n G 2 rfl rfl (dq jX11_runs_s1 14 rfl) ?_
                refine rz_callVv G (st := []) (c_X11_goesUp (cLn Γ) x3 v5 x2) lkX11_427 sh56 rfl rfl rfl (Nat.le_of_ble_eq_true rfl) (Nat.le_of_ble_eq_true rfl) (dq jX11_runs_s1 15 rfl) rfl (fun _ => ?_)
                exact rz_lv [1, 2, 3] rfl (z_X11_runs_b288 G k7 hk7 (f_X11_runs_b208 k7 fu) ih x2 x3)
        · exact rz_lv [1, 2, 3] rfl (z_X11_runs_b288 G k7 hk7 (f_X11_runs_b208 k7 fu) ih x2 x3)
      · exact rz_lv [0, 1] rfl (z_X11_runs_b294 G k7 hk7 x2)
theorem z_X11_runs_b206 {Γ : Cx} (G : GG Γ RX11 cX11_runs 5 none 4 0 0) (k7 : Int32 → Sg → Option (Unit × Sg)) (hk7 : ∀ (x2 : Int32), Rz Γ 5 (Qm Γ encV 0 0) 0 0 7 [(0, .ref 56), (2, .int x2)] [] (k7 x2)) (x2 : Int32) : Rz Γ 5 (Qm Γ encV 0 0) 0 0 206 [(0, .ref 56), (2, .int x2)] [] (f_X11_runs_b206 k7 x2) := by
  unfold f_X11_runs_b206
  refine rz_iconst G (v := 0) (dq jX11_runs 117 rfl) rfl ?_
  refine rz_istore_n G (lv' := [(3, .int 0), (0, .ref 56), (2, .int x2)]) rfl (Nat.le_of_ble_eq_true rfl) rfl (dq jX11_runs 118 rfl) ?_
  exact rz_lv [1, 2, 0] rfl (z_X11_runs_b208 G k7 hk7 FU x2 0)
theorem z_X11_runs_b142 {Γ : Cx} (G : GG Γ RX11 cX11_runs 5 none 4 0 0) (k7 : Int32 → Sg → Option (Unit × Sg)) (hk7 : ∀ (x2 : Int32), Rz Γ 5 (Qm Γ encV 0 0) 0 0 7 [(0, .ref 56), (2, .int x2)] [] (k7 x2)) (x2 : Int32) (x3 : Int32) (x4 : Int32) : Rz Γ 5 (Qm Γ encV 0 0) 0 0 142 [(0, .ref 56), (2, .int x2), (3, .int x3), (4, .int x4)] [] (f_X11_runs_b142 k7 x2 x3 x4) := by
  unfold f_X11_runs_b142
  refine rz_aload_n G 0 rfl rfl (dq jX11_runs 81 rfl) ?_
  refine rz_dup G rfl (dq jX11_runs 82 rfl) ?_
  refine rz_getI G flX11_415 sh56 rfl (dq jX11_runs 83 rfl) (fun v1 => ?_)
  refine rz_iconst G (v := 1) (dq jX11_runs 84 rfl) rfl ?_
  refine rz_iadd G (dq jX11_runs 85 rfl) ?_
  refine rz_putI G flX11_415 sh56 rfl (dq jX11_runs 86 rfl) ?_
  refine rz_aload_n G 0 rfl rfl (dq jX11_runs 87 rfl) ?_
  refine rz_iconst G (v := 0) (dq jX11_runs 88 rfl) rfl ?_
  refine rz_putI G flX11_400 sh56 rfl (dq jX11_runs 89 rfl) ?_
  refine rz_aload_n G 0 rfl rfl (dq jX11_runs 90 rfl) ?_
  refine rz_iconst G (v := (-1)) (dq jX11_runs 91 rfl) rfl ?_
  refine rz_putI G flX11_394 sh56 rfl (dq jX11_runs 92 rfl) ?_
  refine rz_aload_n G 0 rfl rfl (dq jX11_runs 93 rfl) ?_
  refine rz_aload_n G 0 rfl rfl (dq jX11_runs 94 rfl) ?_
  refine rz_getI G flX11_397 sh56 rfl (dq jX11_runs 95 rfl) (fun v2 => ?_)
  refine rz_iload G 3 rfl (dq jX11_runs 96 rfl) ?_
  refine rz_iload_n G 1 rfl rfl (dq jX11_runs 97 rfl) ?_
  refine rz_callVi G (st := []) (c_X11_mayGo (cLn Γ) v2 x4 x2) lkX11_424 sh56 rfl rfl rfl (Nat.le_of_ble_eq_true rfl) (Nat.le_of_ble_eq_true rfl) (dq jX11_runs 98 rfl) rfl (fun r3 => ?_)
  refine rz_if_eq G (tgt := 206) rfl (dq jX11_runs 99 rfl) (fun c4 => ?_) (fun c4 => ?_)
  · exact rz_lv [0, 1] rfl (z_X11_runs_b206 G k7 hk7 x2)
  · refine rz_aload_n G 0 rfl rfl (dq jX11_runs 100 rfl) ?_
    refine rz_dup G rfl (dq jX11_runs 101 rfl) ?_
    refine rz_getI G flX11_412 sh56 rfl (dq jX11_runs 102 rfl) (fun v5 => ?_)
    refine rz_iload_n G 2 rfl rfl (dq jX11_runs 103 rfl) ?_
    refine rz_aload_n G 0 rfl rfl (dq jX11_runs 104 rfl) ?_
    refine rz_aload_n G 0 rfl rfl (dq jX11_runs 105 rfl) ?_
    refine rz_getI G flX11_397 sh56 rfl (dq jX11_runs 106 rfl) (fun v6 => ?_)
    refine rz_callVi G (st := [.int x3, .int v5, .ref 56]) (c_X11_weight (cLn Γ) v6) lkX11_364 sh56 rfl rfl rfl (Nat.le_of_ble_eq_true rfl) (Nat.le_of_ble_eq_true rfl) (dq jX11_runs 107 rfl) rfl (fun r7 => ?_)
    refine rz_imul G (dq jX11_runs 108 rfl) ?_
    refine rz_iadd G (dq jX11_runs 109 rfl) ?_
    refine rz_putI G flX11_412 sh56 rfl (dq jX11_runs 110 rfl) ?_
    refine rz_aload_n G 0 rfl rfl (dq jX11_runs 111 rfl) ?_
    refine rz_aload_n G 0 rfl rfl (dq jX11_runs 112 rfl) ?_
    refine rz_getI G flX11_397 sh56 rfl (dq jX11_runs 113 rfl) (fun v8 => ?_)
    refine rz_iload G 3 rfl (dq jX11_runs 114 rfl) ?_
    refine rz_iload_n G 1 rfl rfl (dq jX11_runs 115 rfl) ?_
    refine rz_callVv G (st := []) (c_X11_goesUp (cLn Γ) v8 x4 x2) lkX11_427 sh56 rfl rfl rfl (Nat.le_of_ble_eq_true rfl) (Nat.le_of_ble_eq_true rfl) (dq jX11_runs 116 rfl) rfl (fun _ => ?_)
    exact rz_lv [0, 1] rfl (z_X11_runs_b206 G k7 hk7 x2)
theorem z_X11_runs_b66 {Γ : Cx} (G : GG Γ RX11 cX11_runs 5 none 4 0 0) (k7 : Int32 → Sg → Option (Unit × Sg)) (hk7 : ∀ (x2 : Int32), Rz Γ 5 (Qm Γ encV 0 0) 0 0 7 [(0, .ref 56), (2, .int x2)] [] (k7 x2)) (x2 : Int32) : Rz Γ 5 (Qm Γ encV 0 0) 0 0 66 [(0, .ref 56), (2, .int x2)] [] (f_X11_runs_b66 k7 x2) := by
  unfold f_X11_runs_b66
  refine rz_aload_n G 0 rfl rfl (dq jX11_runs 38 rfl) ?_
  refine rz_getI G flX11_394 sh56 rfl (dq jX11_runs 39 rfl) (fun v1 => ?_)
  refine rz_iconst G (v := (-1)) (dq jX11_runs 40 rfl) rfl ?_
  refine rz_icmp_eq G (tgt := 206) rfl (dq jX11_runs 41 rfl) (fun c2 => ?_) (fun c2 => ?_)
  · exact rz_lv [0, 1] rfl (z_X11_runs_b206 G k7 hk7 x2)
  · refine rz_iload_n G 1 rfl rfl (dq jX11_runs 42 rfl) ?_
    refine rz_aload_n G 0 rfl rfl (dq jX11_runs 43 rfl) ?_
    refine rz_getI G flX11_394 sh56 rfl (dq jX11_runs 44 rfl) (fun v3 => ?_)
    refine rz_iconst G (v := 2) (dq jX11_runs 45 rfl) rfl ?_
    refine rz_aload_n G 0 rfl rfl (dq jX11_runs 46 rfl) ?_
    refine rz_getI G flX11_7 sh56 rfl (dq jX11_runs 47 rfl) (fun v4 => ?_)
    refine rz_imul G (dq jX11_runs 48 rfl) ?_
    refine rz_iadd G (dq jX11_runs 49 rfl) ?_
    refine rz_icmp_ne G (tgt := 206) rfl (dq jX11_runs 50 rfl) (fun c5 => ?_) (fun c5 => ?_)
    · refine rz_aload_n G 0 rfl rfl (dq jX11_runs 51 rfl) ?_
      refine rz_getI G flX11_400 sh56 rfl (dq jX11_runs 52 rfl) (fun v6 => ?_)
      refine rz_aload_n G 0 rfl rfl (dq jX11_runs 53 rfl) ?_
      refine rz_getI G flX11_16 sh56 rfl (dq jX11_runs 54 rfl) (fun v7 => ?_)
      refine rz_imul G (dq jX11_runs 55 rfl) ?_
      refine rz_bipush G (v := 100) (dq jX11_runs 56 rfl) (by decide) ?_
      refine rz_idivN G (by decide) (dq jX11_runs 57 rfl) ?_
      refine rz_aload_n G 0 rfl rfl (dq jX11_runs 58 rfl) ?_
      refine rz_aload_n G 0 rfl rfl (dq jX11_runs 59 rfl) ?_
      refine rz_getI G flX11_397 sh56 rfl (dq jX11_runs 60 rfl) (fun v8 => ?_)
      refine rz_callVi G (st := [.int ((v6 * v7) / 100)]) (c_X11_weight (cLn Γ) v8) lkX11_364 sh56 rfl rfl rfl (Nat.le_of_ble_eq_true rfl) (Nat.le_of_ble_eq_true rfl) (dq jX11_runs 61 rfl) rfl (fun r9 => ?_)
      refine rz_idiv G (dq jX11_runs 62 rfl) ?_
      refine rz_lti (fun w10 e_w10 => ?_)
      refine rz_istore_n G (lv' := [(3, .int w10), (0, .ref 56), (2, .int x2)]) rfl (Nat.le_of_ble_eq_true rfl) rfl (dq jX11_runs 63 rfl) ?_
      refine rz_iload_n G 0 rfl rfl (dq jX11_runs 64 rfl) ?_
      refine rz_aload_n G 1 rfl rfl (dq jX11_runs 65 rfl) ?_
      refine rz_getC G flX11_26 sh56 (t := 58) rfl rfl (dq jX11_runs 66 rfl) ?_
      refine rz_bipush G (v := 6) (dq jX11_runs 67 rfl) (by decide) ?_
      refine rz_aload_n G 1 rfl rfl (dq jX11_runs 68 rfl) ?_
      refine rz_getI G flX11_397 sh56 rfl (dq jX11_runs 69 rfl) (fun v11 => ?_)
      refine rz_imul G (dq jX11_runs 70 rfl) ?_
      refine rz_iconst G (v := 1) (dq jX11_runs 71 rfl) rfl ?_
      refine rz_iadd G (dq jX11_runs 72 rfl) ?_
      refine rz_iald G sh58 (dq jX11_runs 73 rfl) (fun v12 => ?_)
      refine rz_iadd G (dq jX11_runs 74 rfl) ?_
      refine rz_istore G (lv' := [(4, .int (w10 + v12)), (3, .int w10), (0, .ref 56), (2, .int x2)]) (Nat.le_of_ble_eq_true rfl) rfl (dq jX11_runs 75 rfl) ?_
      refine rz_iload G 0 rfl (dq jX11_runs 76 rfl) ?_
      refine rz_sipush G (v := 999) (dq jX11_runs 77 rfl) (by decide) ?_
      refine rz_icmp_le G (tgt := 142) rfl (dq jX11_runs 78 rfl) (fun c13 => ?_) (fun c13 => ?_)
      · exact rz_lv [2, 3, 1, 0] rfl (z_X11_runs_b142 G k7 hk7 x2 w10 (w10 + v12))
      · refine rz_sipush G (v := 999) (dq jX11_runs 79 rfl) (by decide) ?_
        refine rz_istore G (lv' := [(4, .int 999), (3, .int w10), (0, .ref 56), (2, .int x2)]) (Nat.le_of_ble_eq_true rfl) rfl (dq jX11_runs 80 rfl) ?_
        exact rz_lv [2, 3, 1, 0] rfl (z_X11_runs_b142 G k7 hk7 x2 w10 999)
    · exact rz_lv [0, 1] rfl (z_X11_runs_b206 G k7 hk7 x2)
theorem z_X11_runs_b17 {Γ : Cx} (G : GG Γ RX11 cX11_runs 5 none 4 0 0) (k7 : Int32 → Sg → Option (Unit × Sg)) (hk7 : ∀ (x2 : Int32), Rz Γ 5 (Qm Γ encV 0 0) 0 0 7 [(0, .ref 56), (2, .int x2)] [] (k7 x2)) : ∀ (fu : Nat) (x2 : Int32) (x3 : Int32), Rz Γ 5 (Qm Γ encV 0 0) 0 0 17 [(0, .ref 56), (2, .int x2), (3, .int x3)] [] (f_X11_runs_b17 k7 fu x2 x3) := by
  intro fu
  induction fu with
  | zero => intro _ _; exact rz_none
  | succ fu ih =>
    intro x2 x3
    rw [f_X11_runs_b17]
    refine rz_iload_n G 2 rfl rfl (dq jX11_runs 11 rfl) ?_
    refine rz_aload_n G 0 rfl rfl (dq jX11_runs 12 rfl) ?_
    refine rz_getI G flX11_323 sh56 rfl (dq jX11_runs 13 rfl) (fun v1 => ?_)
    refine rz_icmp_ge G (tgt := 66) rfl (dq jX11_runs 14 rfl) (fun c2 => ?_) (fun c2 => ?_)
    · exact rz_lv [0, 1] rfl (z_X11_runs_b66 G k7 hk7 x2)
    · refine rz_aload_n G 0 rfl rfl (dq jX11_runs 15 rfl) ?_
      refine rz_getC G flX11_81 sh56 (t := 73) rfl rfl (dq jX11_runs 16 rfl) ?_
      refine rz_iload_n G 2 rfl rfl (dq jX11_runs 17 rfl) ?_
      refine rz_iald G sh73 (dq jX11_runs 18 rfl) (fun v3 => ?_)
      refine rz_if_eq G (tgt := 44) rfl (dq jX11_runs 19 rfl) (fun c4 => ?_) (fun c4 => ?_)
      · exact rz_lv [0, 1, 2] rfl (z_X11_runs_b44 G k7 hk7 (f_X11_runs_b17 k7 fu) ih x2 x3)
      · refine rz_aload_n G 0 rfl rfl (dq jX11_runs 20 rfl) ?_
        refine rz_getC G flX11_81 sh56 (t := 73) rfl rfl (dq jX11_runs 21 rfl) ?_
        refine rz_iload_n G 2 rfl rfl (dq jX11_runs 22 rfl) ?_
        refine rz_iald G sh73 (dq jX11_runs 23 rfl) (fun v5 => ?_)
        refine rz_iconst G (v := 1) (dq jX11_runs 24 rfl) rfl ?_
        refine rz_icmp_ne G (tgt := 60) rfl (dq jX11_runs 25 rfl) (fun c6 => ?_) (fun c6 => ?_)
        · exact rz_lv [0, 1, 2] rfl (z_X11_runs_b44 G k7 hk7 (f_X11_runs_b17 k7 fu) ih x2 x3)
        · exact rz_lv [0, 1, 2] rfl (z_X11_runs_b60 G k7 hk7 (f_X11_runs_b17 k7 fu) ih x2 x3)
theorem z_X11_runs_b7 {Γ : Cx} (G : GG Γ RX11 cX11_runs 5 none 4 0 0) : ∀ (fu : Nat) (x2 : Int32), Rz Γ 5 (Qm Γ encV 0 0) 0 0 7 [(0, .ref 56), (2, .int x2)] [] (f_X11_runs_b7 fu x2) := by
  intro fu
  induction fu with
  | zero => intro _; exact rz_none
  | succ fu ih =>
    intro x2
    rw [f_X11_runs_b7]
    refine rz_iload_n G 1 rfl rfl (dq jX11_runs 5 rfl) ?_
    refine rz_aload_n G 0 rfl rfl (dq jX11_runs 6 rfl) ?_
    refine rz_getI G flX11_72 sh56 rfl (dq jX11_runs 7 rfl) (fun v1 => ?_)
    refine rz_icmp_ge G (tgt := 334) rfl (dq jX11_runs 8 rfl) (fun c2 => ?_) (fun c2 => ?_)
    · exact rz_vret G (dq jX11_runs_s1 40 rfl)
    · refine rz_iconst G (v := 0) (dq jX11_runs 9 rfl) rfl ?_
      refine rz_istore_n G (lv' := [(3, .int 0), (0, .ref 56), (2, .int x2)]) rfl (Nat.le_of_ble_eq_true rfl) rfl (dq jX11_runs 10 rfl) ?_
      exact rz_lv [1, 2, 0] rfl (z_X11_runs_b17 G (f_X11_runs_b7 fu) ih FU x2 0)
theorem c_X11_runs (l : Launch) (x1 : Int32) : Ct l yX11_runs cX11_runs 5 none 4 encV [.ref 56, .int x1] (f_X11_runs x1) := by
  refine ct_of (own := RX11) (by decide) rfl (Nat.le_of_ble_eq_true rfl) (fun Γ hl G => ?_)
  show Rz Γ 5 (Qm Γ encV 0 0) 0 0 0 [(0, .ref 56), (1, .int x1)] [] _
  unfold f_X11_runs
  refine rz_aload_n G 0 rfl rfl (dq jX11_runs 0 rfl) ?_
  refine rz_iload_n G 1 rfl rfl (dq jX11_runs 1 rfl) ?_
  refine rz_callVv G (st := []) (c_X11_clears (cLn Γ) x1) lkX11_418 sh56 rfl rfl rfl (Nat.le_of_ble_eq_true rfl) (Nat.le_of_ble_eq_true rfl) (dq jX11_runs 2 rfl) rfl (fun _ => ?_)
  refine rz_iconst G (v := 0) (dq jX11_runs 3 rfl) rfl ?_
  refine rz_istore_n G (lv' := [(2, .int 0), (0, .ref 56), (1, .int x1)]) rfl (Nat.le_of_ble_eq_true rfl) rfl (dq jX11_runs 4 rfl) ?_
  exact rz_lv [1, 0] rfl (z_X11_runs_b7 G FU 0)
theorem c_X11_all (l : Launch)  : Ct l yX11_all cX11_all 1 (some .int) 1 encI [.ref 56] (f_X11_all ) := by
  refine ct_of (own := RX11) (by decide) rfl (Nat.le_of_ble_eq_true rfl) (fun Γ hl G => ?_)
  show Rz Γ 1 (Qm Γ encI 0 0) 0 0 0 [(0, .ref 56)] [] _
  unfold f_X11_all
  refine rz_iconst G (v := 1) (dq jX11_all 0 rfl) rfl ?_
  refine rz_aload_n G 0 rfl rfl (dq jX11_all 1 rfl) ?_
  refine rz_getI G flX11_323 sh56 rfl (dq jX11_all 2 rfl) (fun v1 => ?_)
  refine rz_ishl G (dq jX11_all 3 rfl) ?_
  refine rz_iconst G (v := 1) (dq jX11_all 4 rfl) rfl ?_
  refine rz_isub G (dq jX11_all 5 rfl) ?_
  exact rz_iret G (dq jX11_all 6 rfl)
theorem c_X11_runsAll (l : Launch)  : Ct l yX11_runsAll cX11_runsAll 1 none 5 encV [.ref 56] (f_X11_runsAll ) := by
  refine ct_of (own := RX11) (by decide) rfl (Nat.le_of_ble_eq_true rfl) (fun Γ hl G => ?_)
  show Rz Γ 1 (Qm Γ encV 0 0) 0 0 0 [(0, .ref 56)] [] _
  unfold f_X11_runsAll
  refine rz_aload_n G 0 rfl rfl (dq jX11_runsAll 0 rfl) ?_
  refine rz_aload_n G 0 rfl rfl (dq jX11_runsAll 1 rfl) ?_
  refine rz_callVi G (st := [.ref 56]) (c_X11_all (cLn Γ)) lkX11_434 sh56 rfl rfl rfl (Nat.le_of_ble_eq_true rfl) (Nat.le_of_ble_eq_true rfl) (dq jX11_runsAll 2 rfl) rfl (fun r1 => ?_)
  refine rz_callVv G (st := []) (c_X11_runs (cLn Γ) r1) lkX11_437 sh56 rfl rfl rfl (Nat.le_of_ble_eq_true rfl) (Nat.le_of_ble_eq_true rfl) (dq jX11_runsAll 3 rfl) rfl (fun _ => ?_)
  exact rz_vret G (dq jX11_runsAll 4 rfl)
theorem c_X11_ran (l : Launch) (x1 : Int32) (x2 : Int32) : Ct l yX11_ran cX11_ran 3 (some .int) 6 encI [.ref 56, .int x1, .int x2] (f_X11_ran x1 x2) := by
  refine ct_of (own := RX11) (by decide) rfl (Nat.le_of_ble_eq_true rfl) (fun Γ hl G => ?_)
  show Rz Γ 3 (Qm Γ encI 0 0) 0 0 0 [(0, .ref 56), (1, .int x1), (2, .int x2)] [] _
  unfold f_X11_ran
  refine rz_aload_n G 0 rfl rfl (dq jX11_ran 0 rfl) ?_
  refine rz_iconst G (v := 0) (dq jX11_ran 1 rfl) rfl ?_
  refine rz_putI G flX11_148 sh56 rfl (dq jX11_ran 2 rfl) ?_
  refine rz_aload_n G 0 rfl rfl (dq jX11_ran 3 rfl) ?_
  refine rz_iload_n G 1 rfl rfl (dq jX11_ran 4 rfl) ?_
  refine rz_callVi G (st := []) (c_X11_isJumper (cLn Γ) x1) lkX11_350 sh56 rfl rfl rfl (Nat.le_of_ble_eq_true rfl) (Nat.le_of_ble_eq_true rfl) (dq jX11_ran 5 rfl) rfl (fun r1 => ?_)
  refine rz_if_eq G (tgt := 23) rfl (dq jX11_ran 6 rfl) (fun c2 => ?_) (fun c2 => ?_)
  · refine rz_iconst G (v := 0) (dq jX11_ran 12 rfl) rfl ?_
    exact rz_iret G (dq jX11_ran 13 rfl)
  · refine rz_aload_n G 0 rfl rfl (dq jX11_ran 7 rfl) ?_
    refine rz_iload_n G 2 rfl rfl (dq jX11_ran 8 rfl) ?_
    refine rz_bipush G (v := 6) (dq jX11_ran 9 rfl) (by decide) ?_
    refine rz_callVi G (st := []) (c_X11_isWhat (cLn Γ) x2 6) lkX11_353 sh56 rfl rfl rfl (Nat.le_of_ble_eq_true rfl) (Nat.le_of_ble_eq_true rfl) (dq jX11_ran 10 rfl) rfl (fun r3 => ?_)
    refine rz_if_ne G (tgt := 25) rfl (dq jX11_ran 11 rfl) (fun c4 => ?_) (fun c4 => ?_)
    · refine rz_iconst G (v := 0) (dq jX11_ran 12 rfl) rfl ?_
      exact rz_iret G (dq jX11_ran 13 rfl)
    · refine rz_aload_n G 0 rfl rfl (dq jX11_ran 14 rfl) ?_
      refine rz_callVv G (st := []) (c_X11_runsAll (cLn Γ)) lkX11_440 sh56 rfl rfl rfl (Nat.le_of_ble_eq_true rfl) (Nat.le_of_ble_eq_true rfl) (dq jX11_ran 15 rfl) rfl (fun _ => ?_)
      refine rz_iload_n G 2 rfl rfl (dq jX11_ran 16 rfl) ?_
      refine rz_br (fun c5 => ?_) (fun c5 => ?_)
      · refine rz_tableIn G 0 (tgt := 68) swX11_ran_30 (by rw [c5]; rfl) (by decide) rfl rfl ?_
        refine rz_aload_n G 0 rfl rfl (dq jX11_ran_s1 0 rfl) ?_
        refine rz_getC G flX11_96 sh56 (t := 78) rfl rfl (dq jX11_ran_s1 1 rfl) ?_
        refine rz_iload_n G 1 rfl rfl (dq jX11_ran_s1 2 rfl) ?_
        refine rz_iald G sh78 (dq jX11_ran_s1 3 rfl) (fun v6 => ?_)
        exact rz_iret G (dq jX11_ran_s1 4 rfl)
      · refine rz_br (fun c7 => ?_) (fun c7 => ?_)
        · refine rz_tableIn G 1 (tgt := 75) swX11_ran_30 (by rw [c7]; rfl) (by decide) rfl rfl ?_
          refine rz_aload_n G 0 rfl rfl (dq jX11_ran_s1 5 rfl) ?_
          refine rz_getC G flX11_99 sh56 (t := 79) rfl rfl (dq jX11_ran_s1 6 rfl) ?_
          refine rz_iload_n G 1 rfl rfl (dq jX11_ran_s1 7 rfl) ?_
          refine rz_iald G sh79 (dq jX11_ran_s1 8 rfl) (fun v8 => ?_)
          exact rz_iret G (dq jX11_ran_s1 9 rfl)
        · refine rz_br (fun c9 => ?_) (fun c9 => ?_)
          · refine rz_tableIn G 2 (tgt := 82) swX11_ran_30 (by rw [c9]; rfl) (by decide) rfl rfl ?_
            refine rz_aload_n G 0 rfl rfl (dq jX11_ran_s1 10 rfl) ?_
            refine rz_getC G flX11_102 sh56 (t := 80) rfl rfl (dq jX11_ran_s1 11 rfl) ?_
            refine rz_iload_n G 1 rfl rfl (dq jX11_ran_s1 12 rfl) ?_
            refine rz_iald G sh80 (dq jX11_ran_s1 13 rfl) (fun v10 => ?_)
            exact rz_iret G (dq jX11_ran_s1 14 rfl)
          · refine rz_br (fun c11 => ?_) (fun c11 => ?_)
            · refine rz_tableIn G 3 (tgt := 89) swX11_ran_30 (by rw [c11]; rfl) (by decide) rfl rfl ?_
              refine rz_aload_n G 0 rfl rfl (dq jX11_ran_s1 15 rfl) ?_
              refine rz_getC G flX11_105 sh56 (t := 81) rfl rfl (dq jX11_ran_s1 16 rfl) ?_
              refine rz_iload_n G 1 rfl rfl (dq jX11_ran_s1 17 rfl) ?_
              refine rz_iald G sh81 (dq jX11_ran_s1 18 rfl) (fun v12 => ?_)
              exact rz_iret G (dq jX11_ran_s1 19 rfl)
            · refine rz_br (fun c13 => ?_) (fun c13 => ?_)
              · refine rz_tableIn G 4 (tgt := 96) swX11_ran_30 (by rw [c13]; rfl) (by decide) rfl rfl ?_
                refine rz_aload_n G 0 rfl rfl (dq jX11_ran_s1 20 rfl) ?_
                refine rz_getC G flX11_108 sh56 (t := 82) rfl rfl (dq jX11_ran_s1 21 rfl) ?_
                refine rz_iload_n G 1 rfl rfl (dq jX11_ran_s1 22 rfl) ?_
                refine rz_iald G sh82 (dq jX11_ran_s1 23 rfl) (fun v14 => ?_)
                exact rz_iret G (dq jX11_ran_s1 24 rfl)
              · refine rz_br (fun c15 => ?_) (fun c15 => ?_)
                · refine rz_tableIn G 5 (tgt := 103) swX11_ran_30 (by rw [c15]; rfl) (by decide) rfl rfl ?_
                  refine rz_aload_n G 0 rfl rfl (dq jX11_ran_s1 25 rfl) ?_
                  refine rz_getC G flX11_84 sh56 (t := 74) rfl rfl (dq jX11_ran_s1 26 rfl) ?_
                  refine rz_iload_n G 1 rfl rfl (dq jX11_ran_s1 27 rfl) ?_
                  refine rz_iald G sh74 (dq jX11_ran_s1 28 rfl) (fun v16 => ?_)
                  exact rz_iret G (dq jX11_ran_s1 29 rfl)
                · have n_c5 := ne_toInt (z := 0) (by decide) c5; have n_c7 := ne_toInt (z := 1) (by decide) c7; have n_c9 := ne_toInt (z := 2) (by decide) c9; have n_c11 := ne_toInt (z := 3) (by decide) c11; have n_c13 := ne_toInt (z := 4) (by decide) c13; have n_c15 := ne_toInt (z := 5) (by decide) c15
                  refine rz_tableOut G (tgt := 110) swX11_ran_30 (by omega) rfl ?_
                  refine rz_aload_n G 0 rfl rfl (dq jX11_ran_s1 30 rfl) ?_
                  refine rz_getC G flX11_81 sh56 (t := 73) rfl rfl (dq jX11_ran_s1 31 rfl) ?_
                  refine rz_iload_n G 1 rfl rfl (dq jX11_ran_s1 32 rfl) ?_
                  refine rz_iald G sh73 (dq jX11_ran_s1 33 rfl) (fun v17 => ?_)
                  exact rz_iret G (dq jX11_ran_s1 34 rfl)
theorem c_X11_lands (l : Launch) (x1 : Int32) (x2 : Int32) : Ct l yX11_lands cX11_lands 3 (some .int) 6 encI [.ref 56, .int x1, .int x2] (f_X11_lands x1 x2) := by
  refine ct_of (own := RX11) (by decide) rfl (Nat.le_of_ble_eq_true rfl) (fun Γ hl G => ?_)
  show Rz Γ 3 (Qm Γ encI 0 0) 0 0 0 [(0, .ref 56), (1, .int x1), (2, .int x2)] [] _
  unfold f_X11_lands
  refine rz_aload_n G 0 rfl rfl (dq jX11_lands 0 rfl) ?_
  refine rz_iconst G (v := 0) (dq jX11_lands 1 rfl) rfl ?_
  refine rz_putI G flX11_148 sh56 rfl (dq jX11_lands 2 rfl) ?_
  refine rz_aload_n G 0 rfl rfl (dq jX11_lands 3 rfl) ?_
  refine rz_iload_n G 1 rfl rfl (dq jX11_lands 4 rfl) ?_
  refine rz_callVi G (st := []) (c_X11_isJumper (cLn Γ) x1) lkX11_350 sh56 rfl rfl rfl (Nat.le_of_ble_eq_true rfl) (Nat.le_of_ble_eq_true rfl) (dq jX11_lands 5 rfl) rfl (fun r1 => ?_)
  refine rz_if_eq G (tgt := 22) rfl (dq jX11_lands 6 rfl) (fun c2 => ?_) (fun c2 => ?_)
  · refine rz_iconst G (v := 0) (dq jX11_lands 12 rfl) rfl ?_
    exact rz_iret G (dq jX11_lands 13 rfl)
  · refine rz_aload_n G 0 rfl rfl (dq jX11_lands 7 rfl) ?_
    refine rz_iload_n G 2 rfl rfl (dq jX11_lands 8 rfl) ?_
    refine rz_iconst G (v := 5) (dq jX11_lands 9 rfl) rfl ?_
    refine rz_callVi G (st := []) (c_X11_isWhat (cLn Γ) x2 5) lkX11_353 sh56 rfl rfl rfl (Nat.le_of_ble_eq_true rfl) (Nat.le_of_ble_eq_true rfl) (dq jX11_lands 10 rfl) rfl (fun r3 => ?_)
    refine rz_if_ne G (tgt := 24) rfl (dq jX11_lands 11 rfl) (fun c4 => ?_) (fun c4 => ?_)
    · refine rz_iconst G (v := 0) (dq jX11_lands 12 rfl) rfl ?_
      exact rz_iret G (dq jX11_lands 13 rfl)
    · refine rz_aload_n G 0 rfl rfl (dq jX11_lands 14 rfl) ?_
      refine rz_callVv G (st := []) (c_X11_runsAll (cLn Γ)) lkX11_440 sh56 rfl rfl rfl (Nat.le_of_ble_eq_true rfl) (Nat.le_of_ble_eq_true rfl) (dq jX11_lands 15 rfl) rfl (fun _ => ?_)
      refine rz_aload_n G 0 rfl rfl (dq jX11_lands 16 rfl) ?_
      refine rz_getC G flX11_111 sh56 (t := 83) rfl rfl (dq jX11_lands 17 rfl) ?_
      refine rz_bipush G (v := 6) (dq jX11_lands 18 rfl) (by decide) ?_
      refine rz_iload_n G 1 rfl rfl (dq jX11_lands 19 rfl) ?_
      refine rz_imul G (dq jX11_lands 20 rfl) ?_
      refine rz_iload_n G 2 rfl rfl (dq jX11_lands 21 rfl) ?_
      refine rz_iadd G (dq jX11_lands 22 rfl) ?_
      refine rz_iald G sh83 (dq jX11_lands 23 rfl) (fun v5 => ?_)
      exact rz_iret G (dq jX11_lands 24 rfl)
theorem z_X11_film_b31 {Γ : Cx} (G : GG Γ RX11 cX11_film 3 (some .int) 6 0 0) (x1 : Int32) (x2 : Int32) (xs0 : Int32) : Rz Γ 3 (Qm Γ encI 0 0) 0 0 31 [(0, .ref 56), (1, .int x1), (2, .int x2)] [.int xs0, .ref 56] (f_X11_film_b31 x1 x2 xs0) := by
  unfold f_X11_film_b31
  refine rz_iconst G (v := 1) (dq jX11_film 17 rfl) rfl ?_
  refine rz_callVi G (st := []) (c_X11_right (cLn Γ) xs0 1) lkX11_313 sh56 rfl rfl rfl (Nat.le_of_ble_eq_true rfl) (Nat.le_of_ble_eq_true rfl) (dq jX11_film 18 rfl) rfl (fun r1 => ?_)
  refine rz_if_ne G (tgt := 40) rfl (dq jX11_film 19 rfl) (fun c2 => ?_) (fun c2 => ?_)
  · refine rz_iconst G (v := 0) (dq jX11_film 20 rfl) rfl ?_
    exact rz_iret G (dq jX11_film 21 rfl)
  · refine rz_aload_n G 0 rfl rfl (dq jX11_film 22 rfl) ?_
    refine rz_callVv G (st := []) (c_X11_runsAll (cLn Γ)) lkX11_440 sh56 rfl rfl rfl (Nat.le_of_ble_eq_true rfl) (Nat.le_of_ble_eq_true rfl) (dq jX11_film 23 rfl) rfl (fun _ => ?_)
    refine rz_aload_n G 0 rfl rfl (dq jX11_film 24 rfl) ?_
    refine rz_getC G flX11_114 sh56 (t := 84) rfl rfl (dq jX11_film 25 rfl) ?_
    refine rz_sipush G (v := 600) (dq jX11_film 26 rfl) (by decide) ?_
    refine rz_iload_n G 1 rfl rfl (dq jX11_film 27 rfl) ?_
    refine rz_imul G (dq jX11_film 28 rfl) ?_
    refine rz_iload_n G 2 rfl rfl (dq jX11_film 29 rfl) ?_
    refine rz_iadd G (dq jX11_film 30 rfl) ?_
    refine rz_iald G sh84 (dq jX11_film 31 rfl) (fun v3 => ?_)
    exact rz_iret G (dq jX11_film 32 rfl)
theorem z_X11_film_b30 {Γ : Cx} (G : GG Γ RX11 cX11_film 3 (some .int) 6 0 0) (x1 : Int32) (x2 : Int32) : Rz Γ 3 (Qm Γ encI 0 0) 0 0 30 [(0, .ref 56), (1, .int x1), (2, .int x2)] [.ref 56] (f_X11_film_b30 x1 x2) := by
  unfold f_X11_film_b30
  refine rz_iconst G (v := 0) (dq jX11_film 16 rfl) rfl ?_
  exact rz_lv [0, 1, 2] rfl (z_X11_film_b31 G x1 x2 0)
theorem c_X11_film (l : Launch) (x1 : Int32) (x2 : Int32) : Ct l yX11_film cX11_film 3 (some .int) 6 encI [.ref 56, .int x1, .int x2] (f_X11_film x1 x2) := by
  refine ct_of (own := RX11) (by decide) rfl (Nat.le_of_ble_eq_true rfl) (fun Γ hl G => ?_)
  show Rz Γ 3 (Qm Γ encI 0 0) 0 0 0 [(0, .ref 56), (1, .int x1), (2, .int x2)] [] _
  unfold f_X11_film
  refine rz_aload_n G 0 rfl rfl (dq jX11_film 0 rfl) ?_
  refine rz_iconst G (v := 0) (dq jX11_film 1 rfl) rfl ?_
  refine rz_putI G flX11_148 sh56 rfl (dq jX11_film 2 rfl) ?_
  refine rz_aload_n G 0 rfl rfl (dq jX11_film 3 rfl) ?_
  refine rz_iload_n G 1 rfl rfl (dq jX11_film 4 rfl) ?_
  refine rz_callVi G (st := []) (c_X11_isJumper (cLn Γ) x1) lkX11_350 sh56 rfl rfl rfl (Nat.le_of_ble_eq_true rfl) (Nat.le_of_ble_eq_true rfl) (dq jX11_film 5 rfl) rfl (fun r1 => ?_)
  refine rz_if_eq G (tgt := 38) rfl (dq jX11_film 6 rfl) (fun c2 => ?_) (fun c2 => ?_)
  · refine rz_iconst G (v := 0) (dq jX11_film 20 rfl) rfl ?_
    exact rz_iret G (dq jX11_film 21 rfl)
  · refine rz_aload_n G 0 rfl rfl (dq jX11_film 7 rfl) ?_
    refine rz_iload_n G 2 rfl rfl (dq jX11_film 8 rfl) ?_
    refine rz_if_lt G (tgt := 30) rfl (dq jX11_film 9 rfl) (fun c3 => ?_) (fun c3 => ?_)
    · exact rz_lv [0, 1, 2] rfl (z_X11_film_b30 G x1 x2)
    · refine rz_iload_n G 2 rfl rfl (dq jX11_film 10 rfl) ?_
      refine rz_aload_n G 0 rfl rfl (dq jX11_film 11 rfl) ?_
      refine rz_getI G flX11_72 sh56 rfl (dq jX11_film 12 rfl) (fun v4 => ?_)
      refine rz_icmp_ge G (tgt := 30) rfl (dq jX11_film 13 rfl) (fun c5 => ?_) (fun c5 => ?_)
      · exact rz_lv [0, 1, 2] rfl (z_X11_film_b30 G x1 x2)
      · refine rz_iconst G (v := 1) (dq jX11_film 14 rfl) rfl ?_
        refine rz_goto G (tgt := 31) rfl (dq jX11_film 15 rfl) ?_
        exact rz_lv [0, 1, 2] rfl (z_X11_film_b31 G x1 x2 1)
theorem z_X11_over_b90 {Γ : Cx} (G : GG Γ RX11 cX11_over 7 (some .int) 6 0 0) (k58 : Int32 → Int32 → Int32 → Int32 → Int32 → Int32 → Sg → Option (Int32 × Sg)) (hk58 : ∀ (x1 : Int32) (x2 : Int32) (x3 : Int32) (x4 : Int32) (x5 : Int32) (x6 : Int32), Rz Γ 7 (Qm Γ encI 0 0) 0 0 58 [(0, .ref 56), (1, .int x1), (2, .int x2), (3, .int x3), (4, .int x4), (5, .int x5), (6, .int x6)] [] (k58 x1 x2 x3 x4 x5 x6)) (x1 : Int32) (x2 : Int32) (x3 : Int32) (x4 : Int32) (x5 : Int32) (x6 : Int32) : Rz Γ 7 (Qm Γ encI 0 0) 0 0 90 [(0, .ref 56), (1, .int x1), (2, .int x2), (3, .int x3), (4, .int x4), (5, .int x5), (6, .int x6)] [] (f_X11_over_b90 k58 x1 x2 x3 x4 x5 x6) := by
  unfold f_X11_over_b90
  refine rz_iinc G 6 (v := x6 + (-1)) (lv' := [(6, .int (x6 + (-1))), (0, .ref 56), (1, .int x1), (2, .int x2), (3, .int x3), (4, .int x4), (5, .int x5)]) rfl (congrArg (HAdd.hAdd _) (by decide)) (Nat.le_of_ble_eq_true rfl) rfl (dq jX11_over 49 rfl) ?_
  refine rz_goto G (tgt := 58) rfl (dq jX11_over 50 rfl) ?_
  exact rz_lv [1, 2, 3, 4, 5, 6, 0] rfl (hk58 x1 x2 x3 x4 x5 (x6 + (-1)))
theorem z_X11_over_b96 {Γ : Cx} (G : GG Γ RX11 cX11_over 7 (some .int) 6 0 0) (x3 : Int32) (x4 : Int32) (x5 : Int32) : Rz Γ 7 (Qm Γ encI 0 0) 0 0 96 [(3, .int x3), (4, .int x4), (5, .int x5)] [] (f_X11_over_b96 x3 x4 x5) := by
  unfold f_X11_over_b96
  refine rz_iload_n G 0 rfl rfl (dq jX11_over 51 rfl) ?_
  refine rz_if_ne G (tgt := 105) rfl (dq jX11_over 52 rfl) (fun c1 => ?_) (fun c1 => ?_)
  · refine rz_iload G 1 rfl (dq jX11_over 53 rfl) ?_
    refine rz_goto G (tgt := 107) rfl (dq jX11_over 54 rfl) ?_
    exact rz_iret G (dq jX11_over 56 rfl)
  · refine rz_iload G 2 rfl (dq jX11_over 55 rfl) ?_
    exact rz_iret G (dq jX11_over 56 rfl)
theorem z_X11_over_b58 {Γ : Cx} (G : GG Γ RX11 cX11_over 7 (some .int) 6 0 0) : ∀ (fu : Nat) (x1 : Int32) (x2 : Int32) (x3 : Int32) (x4 : Int32) (x5 : Int32) (x6 : Int32), Rz Γ 7 (Qm Γ encI 0 0) 0 0 58 [(0, .ref 56), (1, .int x1), (2, .int x2), (3, .int x3), (4, .int x4), (5, .int x5), (6, .int x6)] [] (f_X11_over_b58 fu x1 x2 x3 x4 x5 x6) := by
  intro fu
  induction fu with
  | zero => intro _ _ _ _ _ _; exact rz_none
  | succ fu ih =>
    intro x1 x2 x3 x4 x5 x6
    rw [f_X11_over_b58]
    refine rz_iload G 6 rfl (dq jX11_over 33 rfl) ?_
    refine rz_if_lt G (tgt := 96) rfl (dq jX11_over 34 rfl) (fun c1 => ?_) (fun c1 => ?_)
    · exact rz_lv [3, 4, 5] rfl (z_X11_over_b96 G x3 x4 x5)
    · refine rz_aload_n G 0 rfl rfl (dq jX11_over 35 rfl) ?_
      refine rz_getC G flX11_114 sh56 (t := 84) rfl rfl (dq jX11_over 36 rfl) ?_
      refine rz_sipush G (v := 600) (dq jX11_over 37 rfl) (by decide) ?_
      refine rz_iload_n G 1 rfl rfl (dq jX11_over 38 rfl) ?_
      refine rz_imul G (dq jX11_over 39 rfl) ?_
      refine rz_iload G 6 rfl (dq jX11_over 40 rfl) ?_
      refine rz_iadd G (dq jX11_over 41 rfl) ?_
      refine rz_iald G sh84 (dq jX11_over 42 rfl) (fun v2 => ?_)
      refine rz_iload_n G 2 rfl rfl (dq jX11_over 43 rfl) ?_
      refine rz_icmp_ge G (tgt := 83) rfl (dq jX11_over 44 rfl) (fun c3 => ?_) (fun c3 => ?_)
      · refine rz_iinc G 4 (v := x4 + 1) (lv' := [(4, .int (x4 + 1)), (0, .ref 56), (1, .int x1), (2, .int x2), (3, .int x3), (5, .int x5), (6, .int x6)]) rfl (congrArg (HAdd.hAdd _) (by decide)) (Nat.le_of_ble_eq_true rfl) rfl (dq jX11_over 46 rfl) ?_
        refine rz_iload G 6 rfl (dq jX11_over 47 rfl) ?_
        refine rz_istore G (lv' := [(5, .int x6), (4, .int (x4 + 1)), (0, .ref 56), (1, .int x1), (2, .int x2), (3, .int x3), (6, .int x6)]) (Nat.le_of_ble_eq_true rfl) rfl (dq jX11_over 48 rfl) ?_
        exact rz_lv [2, 3, 4, 5, 1, 0, 6] rfl (z_X11_over_b90 G (f_X11_over_b58 fu) ih x1 x2 x3 (x4 + 1) x6 x6)
      · refine rz_goto G (tgt := 90) rfl (dq jX11_over 45 rfl) ?_
        exact rz_lv [0, 1, 2, 3, 4, 5, 6] rfl (z_X11_over_b90 G (f_X11_over_b58 fu) ih x1 x2 x3 x4 x5 x6)
theorem c_X11_over (l : Launch) (x1 : Int32) (x2 : Int32) (x3 : Int32) : Ct l yX11_over cX11_over 7 (some .int) 6 encI [.ref 56, .int x1, .int x2, .int x3] (f_X11_over x1 x2 x3) := by
  refine ct_of (own := RX11) (by decide) rfl (Nat.le_of_ble_eq_true rfl) (fun Γ hl G => ?_)
  show Rz Γ 7 (Qm Γ encI 0 0) 0 0 0 [(0, .ref 56), (1, .int x1), (2, .int x2), (3, .int x3)] [] _
  unfold f_X11_over
  refine rz_aload_n G 0 rfl rfl (dq jX11_over 0 rfl) ?_
  refine rz_iconst G (v := 0) (dq jX11_over 1 rfl) rfl ?_
  refine rz_putI G flX11_148 sh56 rfl (dq jX11_over 2 rfl) ?_
  refine rz_aload_n G 0 rfl rfl (dq jX11_over 3 rfl) ?_
  refine rz_iload_n G 1 rfl rfl (dq jX11_over 4 rfl) ?_
  refine rz_callVi G (st := []) (c_X11_isJumper (cLn Γ) x1) lkX11_350 sh56 rfl rfl rfl (Nat.le_of_ble_eq_true rfl) (Nat.le_of_ble_eq_true rfl) (dq jX11_over 5 rfl) rfl (fun r1 => ?_)
  refine rz_if_eq G (tgt := 38) rfl (dq jX11_over 6 rfl) (fun c2 => ?_) (fun c2 => ?_)
  · refine rz_iconst G (v := 0) (dq jX11_over 20 rfl) rfl ?_
    exact rz_iret G (dq jX11_over 21 rfl)
  · refine rz_aload_n G 0 rfl rfl (dq jX11_over 7 rfl) ?_
    refine rz_iload_n G 3 rfl rfl (dq jX11_over 8 rfl) ?_
    refine rz_iconst G (v := 1) (dq jX11_over 9 rfl) rfl ?_
    refine rz_callVi G (st := []) (c_X11_isWhat (cLn Γ) x3 1) lkX11_353 sh56 rfl rfl rfl (Nat.le_of_ble_eq_true rfl) (Nat.le_of_ble_eq_true rfl) (dq jX11_over 10 rfl) rfl (fun r3 => ?_)
    refine rz_if_eq G (tgt := 38) rfl (dq jX11_over 11 rfl) (fun c4 => ?_) (fun c4 => ?_)
    · refine rz_iconst G (v := 0) (dq jX11_over 20 rfl) rfl ?_
      exact rz_iret G (dq jX11_over 21 rfl)
    · refine rz_aload_n G 0 rfl rfl (dq jX11_over 12 rfl) ?_
      refine rz_iload_n G 2 rfl rfl (dq jX11_over 13 rfl) ?_
      refine rz_iconst G (v := 0) (dq jX11_over 14 rfl) rfl ?_
      refine rz_sipush G (v := 999) (dq jX11_over 15 rfl) (by decide) ?_
      refine rz_callSi G (st := [.ref 56]) (c_X11_within (cLn Γ) x2 0 999) lkX11_346 rfl (Nat.le_of_ble_eq_true rfl) (Nat.le_of_ble_eq_true rfl) (dq jX11_over 16 rfl) rfl (fun r5 => ?_)
      refine rz_iconst G (v := 2) (dq jX11_over 17 rfl) rfl ?_
      refine rz_callVi G (st := []) (c_X11_right (cLn Γ) r5 2) lkX11_313 sh56 rfl rfl rfl (Nat.le_of_ble_eq_true rfl) (Nat.le_of_ble_eq_true rfl) (dq jX11_over 18 rfl) rfl (fun r6 => ?_)
      refine rz_if_ne G (tgt := 40) rfl (dq jX11_over 19 rfl) (fun c7 => ?_) (fun c7 => ?_)
      · refine rz_iconst G (v := 0) (dq jX11_over 20 rfl) rfl ?_
        exact rz_iret G (dq jX11_over 21 rfl)
      · refine rz_aload_n G 0 rfl rfl (dq jX11_over 22 rfl) ?_
        refine rz_callVv G (st := []) (c_X11_runsAll (cLn Γ)) lkX11_440 sh56 rfl rfl rfl (Nat.le_of_ble_eq_true rfl) (Nat.le_of_ble_eq_true rfl) (dq jX11_over 23 rfl) rfl (fun _ => ?_)
        refine rz_iconst G (v := 0) (dq jX11_over 24 rfl) rfl ?_
        refine rz_istore G (lv' := [(4, .int 0), (0, .ref 56), (1, .int x1), (2, .int x2), (3, .int x3)]) (Nat.le_of_ble_eq_true rfl) rfl (dq jX11_over 25 rfl) ?_
        refine rz_iconst G (v := (-1)) (dq jX11_over 26 rfl) rfl ?_
        refine rz_istore G (lv' := [(5, .int ((-1))), (4, .int 0), (0, .ref 56), (1, .int x1), (2, .int x2), (3, .int x3)]) (Nat.le_of_ble_eq_true rfl) rfl (dq jX11_over 27 rfl) ?_
        refine rz_aload_n G 2 rfl rfl (dq jX11_over 28 rfl) ?_
        refine rz_getI G flX11_72 sh56 rfl (dq jX11_over 29 rfl) (fun v8 => ?_)
        refine rz_iconst G (v := 1) (dq jX11_over 30 rfl) rfl ?_
        refine rz_isub G (dq jX11_over 31 rfl) ?_
        refine rz_istore G (lv' := [(6, .int (v8 - 1)), (5, .int ((-1))), (4, .int 0), (0, .ref 56), (1, .int x1), (2, .int x2), (3, .int x3)]) (Nat.le_of_ble_eq_true rfl) rfl (dq jX11_over 32 rfl) ?_
        exact rz_lv [3, 4, 5, 6, 2, 1, 0] rfl (z_X11_over_b58 G FU x1 x2 x3 0 ((-1)) (v8 - 1))
theorem c_X11_mat (l : Launch) (x1 : Int32) : Ct l yX11_mat cX11_mat 2 (some .int) 6 encI [.ref 56, .int x1] (f_X11_mat x1) := by
  refine ct_of (own := RX11) (by decide) rfl (Nat.le_of_ble_eq_true rfl) (fun Γ hl G => ?_)
  show Rz Γ 2 (Qm Γ encI 0 0) 0 0 0 [(0, .ref 56), (1, .int x1)] [] _
  unfold f_X11_mat
  refine rz_aload_n G 0 rfl rfl (dq jX11_mat 0 rfl) ?_
  refine rz_iconst G (v := 0) (dq jX11_mat 1 rfl) rfl ?_
  refine rz_putI G flX11_148 sh56 rfl (dq jX11_mat 2 rfl) ?_
  refine rz_aload_n G 0 rfl rfl (dq jX11_mat 3 rfl) ?_
  refine rz_iload_n G 1 rfl rfl (dq jX11_mat 4 rfl) ?_
  refine rz_iconst G (v := 4) (dq jX11_mat 5 rfl) rfl ?_
  refine rz_callVi G (st := []) (c_X11_isWhat (cLn Γ) x1 4) lkX11_353 sh56 rfl rfl rfl (Nat.le_of_ble_eq_true rfl) (Nat.le_of_ble_eq_true rfl) (dq jX11_mat 6 rfl) rfl (fun r1 => ?_)
  refine rz_if_ne G (tgt := 16) rfl (dq jX11_mat 7 rfl) (fun c2 => ?_) (fun c2 => ?_)
  · refine rz_iconst G (v := 0) (dq jX11_mat 8 rfl) rfl ?_
    exact rz_iret G (dq jX11_mat 9 rfl)
  · refine rz_aload_n G 0 rfl rfl (dq jX11_mat 10 rfl) ?_
    refine rz_callVv G (st := []) (c_X11_runsAll (cLn Γ)) lkX11_440 sh56 rfl rfl rfl (Nat.le_of_ble_eq_true rfl) (Nat.le_of_ble_eq_true rfl) (dq jX11_mat 11 rfl) rfl (fun _ => ?_)
    refine rz_iload_n G 1 rfl rfl (dq jX11_mat 12 rfl) ?_
    refine rz_if_ne G (tgt := 31) rfl (dq jX11_mat 13 rfl) (fun c3 => ?_) (fun c3 => ?_)
    · refine rz_aload_n G 0 rfl rfl (dq jX11_mat 14 rfl) ?_
      refine rz_getI G flX11_403 sh56 rfl (dq jX11_mat 15 rfl) (fun v4 => ?_)
      refine rz_goto G (tgt := 71) rfl (dq jX11_mat 16 rfl) ?_
      exact rz_iret G (dq jX11_mat 37 rfl)
    · refine rz_iload_n G 1 rfl rfl (dq jX11_mat 17 rfl) ?_
      refine rz_iconst G (v := 1) (dq jX11_mat 18 rfl) rfl ?_
      refine rz_icmp_ne G (tgt := 43) rfl (dq jX11_mat 19 rfl) (fun c5 => ?_) (fun c5 => ?_)
      · refine rz_aload_n G 0 rfl rfl (dq jX11_mat 20 rfl) ?_
        refine rz_getI G flX11_406 sh56 rfl (dq jX11_mat 21 rfl) (fun v6 => ?_)
        refine rz_goto G (tgt := 71) rfl (dq jX11_mat 22 rfl) ?_
        exact rz_iret G (dq jX11_mat 37 rfl)
      · refine rz_iload_n G 1 rfl rfl (dq jX11_mat 23 rfl) ?_
        refine rz_iconst G (v := 2) (dq jX11_mat 24 rfl) rfl ?_
        refine rz_icmp_ne G (tgt := 55) rfl (dq jX11_mat 25 rfl) (fun c7 => ?_) (fun c7 => ?_)
        · refine rz_aload_n G 0 rfl rfl (dq jX11_mat 26 rfl) ?_
          refine rz_getI G flX11_412 sh56 rfl (dq jX11_mat 27 rfl) (fun v8 => ?_)
          refine rz_goto G (tgt := 71) rfl (dq jX11_mat 28 rfl) ?_
          exact rz_iret G (dq jX11_mat 37 rfl)
        · refine rz_iload_n G 1 rfl rfl (dq jX11_mat 29 rfl) ?_
          refine rz_iconst G (v := 3) (dq jX11_mat 30 rfl) rfl ?_
          refine rz_icmp_ne G (tgt := 67) rfl (dq jX11_mat 31 rfl) (fun c9 => ?_) (fun c9 => ?_)
          · refine rz_aload_n G 0 rfl rfl (dq jX11_mat 32 rfl) ?_
            refine rz_getI G flX11_415 sh56 rfl (dq jX11_mat 33 rfl) (fun v10 => ?_)
            refine rz_goto G (tgt := 71) rfl (dq jX11_mat 34 rfl) ?_
            exact rz_iret G (dq jX11_mat 37 rfl)
          · refine rz_aload_n G 0 rfl rfl (dq jX11_mat 35 rfl) ?_
            refine rz_getI G flX11_400 sh56 rfl (dq jX11_mat 36 rfl) (fun v11 => ?_)
            exact rz_iret G (dq jX11_mat 37 rfl)
theorem z_X11_landing_b71 {Γ : Cx} (G : GG Γ RX11 cX11_landing 3 (some .int) 6 0 0) (x1 : Int32) (x2 : Int32) (xs0 : Int32) : Rz Γ 3 (Qm Γ encI 0 0) 0 0 71 [(0, .ref 56), (1, .int x1), (2, .int x2)] [.int xs0, .ref 56] (f_X11_landing_b71 x1 x2 xs0) := by
  unfold f_X11_landing_b71
  refine rz_iconst G (v := 1) (dq jX11_landing 41 rfl) rfl ?_
  refine rz_callVi G (st := []) (c_X11_right (cLn Γ) xs0 1) lkX11_313 sh56 rfl rfl rfl (Nat.le_of_ble_eq_true rfl) (Nat.le_of_ble_eq_true rfl) (dq jX11_landing 42 rfl) rfl (fun r1 => ?_)
  refine rz_if_eq G (tgt := 91) rfl (dq jX11_landing 43 rfl) (fun c2 => ?_) (fun c2 => ?_)
  · refine rz_iconst G (v := 0) (dq jX11_landing 53 rfl) rfl ?_
    exact rz_iret G (dq jX11_landing 54 rfl)
  · refine rz_aload_n G 0 rfl rfl (dq jX11_landing 44 rfl) ?_
    refine rz_getC G flX11_117 sh56 (t := 85) rfl rfl (dq jX11_landing 45 rfl) ?_
    refine rz_iconst G (v := 5) (dq jX11_landing 46 rfl) rfl ?_
    refine rz_iload_n G 1 rfl rfl (dq jX11_landing 47 rfl) ?_
    refine rz_imul G (dq jX11_landing 48 rfl) ?_
    refine rz_iload_n G 2 rfl rfl (dq jX11_landing 49 rfl) ?_
    refine rz_iadd G (dq jX11_landing 50 rfl) ?_
    refine rz_iald G sh85 (dq jX11_landing 51 rfl) (fun v3 => ?_)
    refine rz_goto G (tgt := 92) rfl (dq jX11_landing 52 rfl) ?_
    exact rz_iret G (dq jX11_landing 54 rfl)
theorem z_X11_landing_b35 {Γ : Cx} (G : GG Γ RX11 cX11_landing 3 (some .int) 6 0 0) (x1 : Int32) (x2 : Int32) (xs0 : Int32) (xs1 : Int32) : Rz Γ 3 (Qm Γ encI 0 0) 0 0 35 [(0, .ref 56), (1, .int x1), (2, .int x2)] [.int xs0, .int xs1, .ref 56] (f_X11_landing_b35 x1 x2 xs0 xs1) := by
  unfold f_X11_landing_b35
  refine rz_callVi G (st := []) (c_X11_isWhat (cLn Γ) xs1 xs0) lkX11_353 sh56 rfl rfl rfl (Nat.le_of_ble_eq_true rfl) (Nat.le_of_ble_eq_true rfl) (dq jX11_landing 21 rfl) rfl (fun r1 => ?_)
  refine rz_if_ne G (tgt := 43) rfl (dq jX11_landing 22 rfl) (fun c2 => ?_) (fun c2 => ?_)
  · refine rz_iconst G (v := 0) (dq jX11_landing 23 rfl) rfl ?_
    exact rz_iret G (dq jX11_landing 24 rfl)
  · refine rz_aload_n G 0 rfl rfl (dq jX11_landing 25 rfl) ?_
    refine rz_callVv G (st := []) (c_X11_runsAll (cLn Γ)) lkX11_440 sh56 rfl rfl rfl (Nat.le_of_ble_eq_true rfl) (Nat.le_of_ble_eq_true rfl) (dq jX11_landing 26 rfl) rfl (fun _ => ?_)
    refine rz_iload_n G 1 rfl rfl (dq jX11_landing 27 rfl) ?_
    refine rz_iconst G (v := (-1)) (dq jX11_landing 28 rfl) rfl ?_
    refine rz_icmp_ne G (tgt := 57) rfl (dq jX11_landing 29 rfl) (fun c3 => ?_) (fun c3 => ?_)
    · refine rz_aload_n G 0 rfl rfl (dq jX11_landing 30 rfl) ?_
      refine rz_getI G flX11_381 sh56 rfl (dq jX11_landing 31 rfl) (fun v4 => ?_)
      exact rz_iret G (dq jX11_landing 32 rfl)
    · refine rz_aload_n G 0 rfl rfl (dq jX11_landing 33 rfl) ?_
      refine rz_iload_n G 1 rfl rfl (dq jX11_landing 34 rfl) ?_
      refine rz_aload_n G 0 rfl rfl (dq jX11_landing 35 rfl) ?_
      refine rz_getI G flX11_381 sh56 rfl (dq jX11_landing 36 rfl) (fun v5 => ?_)
      refine rz_icmp_ge G (tgt := 70) rfl (dq jX11_landing 37 rfl) (fun c6 => ?_) (fun c6 => ?_)
      · refine rz_iconst G (v := 0) (dq jX11_landing 40 rfl) rfl ?_
        exact rz_lv [0, 1, 2] rfl (z_X11_landing_b71 G x1 x2 0)
      · refine rz_iconst G (v := 1) (dq jX11_landing 38 rfl) rfl ?_
        refine rz_goto G (tgt := 71) rfl (dq jX11_landing 39 rfl) ?_
        exact rz_lv [0, 1, 2] rfl (z_X11_landing_b71 G x1 x2 1)
theorem z_X11_landing_b16 {Γ : Cx} (G : GG Γ RX11 cX11_landing 3 (some .int) 6 0 0) (x1 : Int32) (x2 : Int32) (xs0 : Int32) : Rz Γ 3 (Qm Γ encI 0 0) 0 0 16 [(0, .ref 56), (1, .int x1), (2, .int x2)] [.int xs0, .ref 56] (f_X11_landing_b16 x1 x2 xs0) := by
  unfold f_X11_landing_b16
  refine rz_iconst G (v := 1) (dq jX11_landing 10 rfl) rfl ?_
  refine rz_callVi G (st := []) (c_X11_right (cLn Γ) xs0 1) lkX11_313 sh56 rfl rfl rfl (Nat.le_of_ble_eq_true rfl) (Nat.le_of_ble_eq_true rfl) (dq jX11_landing 11 rfl) rfl (fun r1 => ?_)
  refine rz_if_eq G (tgt := 41) rfl (dq jX11_landing 12 rfl) (fun c2 => ?_) (fun c2 => ?_)
  · refine rz_iconst G (v := 0) (dq jX11_landing 23 rfl) rfl ?_
    exact rz_iret G (dq jX11_landing 24 rfl)
  · refine rz_aload_n G 0 rfl rfl (dq jX11_landing 13 rfl) ?_
    refine rz_iload_n G 2 rfl rfl (dq jX11_landing 14 rfl) ?_
    refine rz_iload_n G 1 rfl rfl (dq jX11_landing 15 rfl) ?_
    refine rz_iconst G (v := (-1)) (dq jX11_landing 16 rfl) rfl ?_
    refine rz_icmp_ne G (tgt := 34) rfl (dq jX11_landing 17 rfl) (fun c3 => ?_) (fun c3 => ?_)
    · refine rz_iconst G (v := 0) (dq jX11_landing 18 rfl) rfl ?_
      refine rz_goto G (tgt := 35) rfl (dq jX11_landing 19 rfl) ?_
      exact rz_lv [0, 1, 2] rfl (z_X11_landing_b35 G x1 x2 0 x2)
    · refine rz_iconst G (v := 4) (dq jX11_landing 20 rfl) rfl ?_
      exact rz_lv [0, 1, 2] rfl (z_X11_landing_b35 G x1 x2 4 x2)
theorem c_X11_landing (l : Launch) (x1 : Int32) (x2 : Int32) : Ct l yX11_landing cX11_landing 3 (some .int) 6 encI [.ref 56, .int x1, .int x2] (f_X11_landing x1 x2) := by
  refine ct_of (own := RX11) (by decide) rfl (Nat.le_of_ble_eq_true rfl) (fun Γ hl G => ?_)
  show Rz Γ 3 (Qm Γ encI 0 0) 0 0 0 [(0, .ref 56), (1, .int x1), (2, .int x2)] [] _
  unfold f_X11_landing
  refine rz_aload_n G 0 rfl rfl (dq jX11_landing 0 rfl) ?_
  refine rz_iconst G (v := 0) (dq jX11_landing 1 rfl) rfl ?_
  refine rz_putI G flX11_148 sh56 rfl (dq jX11_landing 2 rfl) ?_
  refine rz_aload_n G 0 rfl rfl (dq jX11_landing 3 rfl) ?_
  refine rz_iload_n G 1 rfl rfl (dq jX11_landing 4 rfl) ?_
  refine rz_iconst G (v := (-1)) (dq jX11_landing 5 rfl) rfl ?_
  refine rz_icmp_lt G (tgt := 15) rfl (dq jX11_landing 6 rfl) (fun c1 => ?_) (fun c1 => ?_)
  · refine rz_iconst G (v := 0) (dq jX11_landing 9 rfl) rfl ?_
    exact rz_lv [0, 1, 2] rfl (z_X11_landing_b16 G x1 x2 0)
  · refine rz_iconst G (v := 1) (dq jX11_landing 7 rfl) rfl ?_
    refine rz_goto G (tgt := 16) rfl (dq jX11_landing 8 rfl) ?_
    exact rz_lv [0, 1, 2] rfl (z_X11_landing_b16 G x1 x2 1)
theorem z_X11_moment_b130 {Γ : Cx} (G : GG Γ RX11 cX11_moment 8 (some .int) 6 0 0) (k45 : Int32 → Int32 → Int32 → Int32 → Int32 → Int32 → Sg → Option (Int32 × Sg)) (hk45 : ∀ (x1 : Int32) (x2 : Int32) (x3 : Int32) (x4 : Int32) (x5 : Int32) (x6 : Int32), Rz Γ 8 (Qm Γ encI 0 0) 0 0 45 [(0, .ref 56), (1, .int x1), (2, .int x2), (3, .int x3), (4, .int x4), (5, .int x5), (6, .int x6)] [] (k45 x1 x2 x3 x4 x5 x6)) (x1 : Int32) (x2 : Int32) (x3 : Int32) (x4 : Int32) (x5 : Int32) (x6 : Int32) : Rz Γ 8 (Qm Γ encI 0 0) 0 0 130 [(0, .ref 56), (1, .int x1), (2, .int x2), (3, .int x3), (4, .int x4), (5, .int x5), (6, .int x6)] [] (f_X11_moment_b130 k45 x1 x2 x3 x4 x5 x6) := by
  unfold f_X11_moment_b130
  refine rz_iinc G 6 (v := x6 + 1) (lv' := [(6, .int (x6 + 1)), (0, .ref 56), (1, .int x1), (2, .int x2), (3, .int x3), (4, .int x4), (5, .int x5)]) rfl (congrArg (HAdd.hAdd _) (by decide)) (Nat.le_of_ble_eq_true rfl) rfl (dq jX11_moment 76 rfl) ?_
  refine rz_goto G (tgt := 45) rfl (dq jX11_moment 77 rfl) ?_
  exact rz_lv [1, 2, 3, 4, 5, 6, 0] rfl (hk45 x1 x2 x3 x4 x5 (x6 + 1))
theorem z_X11_moment_b122 {Γ : Cx} (G : GG Γ RX11 cX11_moment 8 (some .int) 6 0 0) (k45 : Int32 → Int32 → Int32 → Int32 → Int32 → Int32 → Sg → Option (Int32 × Sg)) (hk45 : ∀ (x1 : Int32) (x2 : Int32) (x3 : Int32) (x4 : Int32) (x5 : Int32) (x6 : Int32), Rz Γ 8 (Qm Γ encI 0 0) 0 0 45 [(0, .ref 56), (1, .int x1), (2, .int x2), (3, .int x3), (4, .int x4), (5, .int x5), (6, .int x6)] [] (k45 x1 x2 x3 x4 x5 x6)) (x1 : Int32) (x2 : Int32) (x3 : Int32) (x6 : Int32) (x7 : Int32) : Rz Γ 8 (Qm Γ encI 0 0) 0 0 122 [(0, .ref 56), (1, .int x1), (2, .int x2), (3, .int x3), (6, .int x6), (7, .int x7)] [] (f_X11_moment_b122 k45 x1 x2 x3 x6 x7) := by
  unfold f_X11_moment_b122
  refine rz_iload G 4 rfl (dq jX11_moment 72 rfl) ?_
  refine rz_istore G (lv' := [(4, .int x6), (0, .ref 56), (1, .int x1), (2, .int x2), (3, .int x3), (6, .int x6), (7, .int x7)]) (Nat.le_of_ble_eq_true rfl) rfl (dq jX11_moment 73 rfl) ?_
  refine rz_iload G 6 rfl (dq jX11_moment 74 rfl) ?_
  refine rz_istore G (lv' := [(5, .int x7), (4, .int x6), (0, .ref 56), (1, .int x1), (2, .int x2), (3, .int x3), (6, .int x6), (7, .int x7)]) (Nat.le_of_ble_eq_true rfl) rfl (dq jX11_moment 75 rfl) ?_
  exact rz_lv [2, 3, 4, 5, 1, 0, 6] rfl (z_X11_moment_b130 G k45 hk45 x1 x2 x3 x6 x7 x6)
theorem z_X11_moment_b104 {Γ : Cx} (G : GG Γ RX11 cX11_moment 8 (some .int) 6 0 0) (k45 : Int32 → Int32 → Int32 → Int32 → Int32 → Int32 → Sg → Option (Int32 × Sg)) (hk45 : ∀ (x1 : Int32) (x2 : Int32) (x3 : Int32) (x4 : Int32) (x5 : Int32) (x6 : Int32), Rz Γ 8 (Qm Γ encI 0 0) 0 0 45 [(0, .ref 56), (1, .int x1), (2, .int x2), (3, .int x3), (4, .int x4), (5, .int x5), (6, .int x6)] [] (k45 x1 x2 x3 x4 x5 x6)) (x1 : Int32) (x2 : Int32) (x3 : Int32) (x4 : Int32) (x5 : Int32) (x6 : Int32) (xs0 : Int32) : Rz Γ 8 (Qm Γ encI 0 0) 0 0 104 [(0, .ref 56), (1, .int x1), (2, .int x2), (3, .int x3), (4, .int x4), (5, .int x5), (6, .int x6)] [.int xs0] (f_X11_moment_b104 k45 x1 x2 x3 x4 x5 x6 xs0) := by
  unfold f_X11_moment_b104
  refine rz_istore G (lv' := [(7, .int xs0), (0, .ref 56), (1, .int x1), (2, .int x2), (3, .int x3), (4, .int x4), (5, .int x5), (6, .int x6)]) (Nat.le_of_ble_eq_true rfl) rfl (dq jX11_moment 64 rfl) ?_
  refine rz_iload G 5 rfl (dq jX11_moment 65 rfl) ?_
  refine rz_iconst G (v := (-1)) (dq jX11_moment 66 rfl) rfl ?_
  refine rz_icmp_eq G (tgt := 122) rfl (dq jX11_moment 67 rfl) (fun c1 => ?_) (fun c1 => ?_)
  · exact rz_lv [1, 2, 3, 4, 7, 0] rfl (z_X11_moment_b122 G k45 hk45 x1 x2 x3 x6 xs0)
  · refine rz_iload G 0 rfl (dq jX11_moment 68 rfl) ?_
    refine rz_iload G 6 rfl (dq jX11_moment 69 rfl) ?_
    refine rz_icmp_gt G (tgt := 122) rfl (dq jX11_moment 70 rfl) (fun c2 => ?_) (fun c2 => ?_)
    · exact rz_lv [1, 2, 3, 4, 7, 0] rfl (z_X11_moment_b122 G k45 hk45 x1 x2 x3 x6 xs0)
    · refine rz_goto G (tgt := 130) rfl (dq jX11_moment 71 rfl) ?_
      exact rz_lv [1, 2, 3, 4, 5, 6, 7] rfl (z_X11_moment_b130 G k45 hk45 x1 x2 x3 x4 x5 x6)
theorem z_X11_moment_b136 {Γ : Cx} (G : GG Γ RX11 cX11_moment 8 (some .int) 6 0 0) (x1 : Int32) (x3 : Int32) (x4 : Int32) : Rz Γ 8 (Qm Γ encI 0 0) 0 0 136 [(0, .ref 56), (1, .int x1), (3, .int x3), (4, .int x4)] [] (f_X11_moment_b136 x1 x3 x4) := by
  unfold f_X11_moment_b136
  refine rz_aload_n G 0 rfl rfl (dq jX11_moment 78 rfl) ?_
  refine rz_getC G flX11_26 sh56 (t := 58) rfl rfl (dq jX11_moment 79 rfl) ?_
  refine rz_bipush G (v := 6) (dq jX11_moment 80 rfl) (by decide) ?_
  refine rz_iload_n G 1 rfl rfl (dq jX11_moment 81 rfl) ?_
  refine rz_imul G (dq jX11_moment 82 rfl) ?_
  refine rz_iconst G (v := 3) (dq jX11_moment 83 rfl) rfl ?_
  refine rz_iadd G (dq jX11_moment 84 rfl) ?_
  refine rz_iload_n G 2 rfl rfl (dq jX11_moment 85 rfl) ?_
  refine rz_iast G sh58 (dq jX11_moment 86 rfl) ?_
  refine rz_iload G 3 rfl (dq jX11_moment 87 rfl) ?_
  exact rz_iret G (dq jX11_moment 88 rfl)
theorem z_X11_moment_b45 {Γ : Cx} (G : GG Γ RX11 cX11_moment 8 (some .int) 6 0 0) : ∀ (fu : Nat) (x1 : Int32) (x2 : Int32) (x3 : Int32) (x4 : Int32) (x5 : Int32) (x6 : Int32), Rz Γ 8 (Qm Γ encI 0 0) 0 0 45 [(0, .ref 56), (1, .int x1), (2, .int x2), (3, .int x3), (4, .int x4), (5, .int x5), (6, .int x6)] [] (f_X11_moment_b45 fu x1 x2 x3 x4 x5 x6) := by
  intro fu
  induction fu with
  | zero => intro _ _ _ _ _ _; exact rz_none
  | succ fu ih =>
    intro x1 x2 x3 x4 x5 x6
    rw [f_X11_moment_b45]
    refine rz_iload G 6 rfl (dq jX11_moment 29 rfl) ?_
    refine rz_bipush G (v := 40) (dq jX11_moment 30 rfl) (by decide) ?_
    refine rz_icmp_ge G (tgt := 136) rfl (dq jX11_moment 31 rfl) (fun c1 => ?_) (fun c1 => ?_)
    · exact rz_lv [0, 1, 3, 4] rfl (z_X11_moment_b136 G x1 x3 x4)
    · refine rz_aload_n G 0 rfl rfl (dq jX11_moment 32 rfl) ?_
      refine rz_getC G flX11_26 sh56 (t := 58) rfl rfl (dq jX11_moment 33 rfl) ?_
      refine rz_bipush G (v := 6) (dq jX11_moment 34 rfl) (by decide) ?_
      refine rz_iload_n G 1 rfl rfl (dq jX11_moment 35 rfl) ?_
      refine rz_imul G (dq jX11_moment 36 rfl) ?_
      refine rz_iconst G (v := 3) (dq jX11_moment 37 rfl) rfl ?_
      refine rz_iadd G (dq jX11_moment 38 rfl) ?_
      refine rz_iload G 6 rfl (dq jX11_moment 39 rfl) ?_
      refine rz_iast G sh58 (dq jX11_moment 40 rfl) ?_
      refine rz_aload_n G 0 rfl rfl (dq jX11_moment 41 rfl) ?_
      refine rz_callVv G (st := []) (c_X11_runsAll (cLn Γ)) lkX11_440 sh56 rfl rfl rfl (Nat.le_of_ble_eq_true rfl) (Nat.le_of_ble_eq_true rfl) (dq jX11_moment 42 rfl) rfl (fun _ => ?_)
      refine rz_iload_n G 2 rfl rfl (dq jX11_moment 43 rfl) ?_
      refine rz_if_ne G (tgt := 82) rfl (dq jX11_moment 44 rfl) (fun c2 => ?_) (fun c2 => ?_)
      · refine rz_aload_n G 0 rfl rfl (dq jX11_moment 45 rfl) ?_
        refine rz_getC G flX11_99 sh56 (t := 79) rfl rfl (dq jX11_moment 46 rfl) ?_
        refine rz_iload_n G 1 rfl rfl (dq jX11_moment 47 rfl) ?_
        refine rz_iald G sh79 (dq jX11_moment 48 rfl) (fun v3 => ?_)
        refine rz_goto G (tgt := 104) rfl (dq jX11_moment 49 rfl) ?_
        exact rz_lv [0, 1, 2, 3, 4, 5, 6] rfl (z_X11_moment_b104 G (f_X11_moment_b45 fu) ih x1 x2 x3 x4 x5 x6 v3)
      · refine rz_iload_n G 2 rfl rfl (dq jX11_moment 50 rfl) ?_
        refine rz_iconst G (v := 1) (dq jX11_moment 51 rfl) rfl ?_
        refine rz_icmp_ne G (tgt := 96) rfl (dq jX11_moment 52 rfl) (fun c4 => ?_) (fun c4 => ?_)
        · refine rz_aload_n G 0 rfl rfl (dq jX11_moment 53 rfl) ?_
          refine rz_getC G flX11_102 sh56 (t := 80) rfl rfl (dq jX11_moment 54 rfl) ?_
          refine rz_iload_n G 1 rfl rfl (dq jX11_moment 55 rfl) ?_
          refine rz_iald G sh80 (dq jX11_moment 56 rfl) (fun v5 => ?_)
          refine rz_goto G (tgt := 104) rfl (dq jX11_moment 57 rfl) ?_
          exact rz_lv [0, 1, 2, 3, 4, 5, 6] rfl (z_X11_moment_b104 G (f_X11_moment_b45 fu) ih x1 x2 x3 x4 x5 x6 v5)
        · refine rz_iconst G (v := 0) (dq jX11_moment 58 rfl) rfl ?_
          refine rz_aload_n G 0 rfl rfl (dq jX11_moment 59 rfl) ?_
          refine rz_getC G flX11_108 sh56 (t := 82) rfl rfl (dq jX11_moment 60 rfl) ?_
          refine rz_iload_n G 1 rfl rfl (dq jX11_moment 61 rfl) ?_
          refine rz_iald G sh82 (dq jX11_moment 62 rfl) (fun v6 => ?_)
          refine rz_isub G (dq jX11_moment 63 rfl) ?_
          exact rz_lv [0, 1, 2, 3, 4, 5, 6] rfl (z_X11_moment_b104 G (f_X11_moment_b45 fu) ih x1 x2 x3 x4 x5 x6 (0 - v6))
theorem c_X11_moment (l : Launch) (x1 : Int32) (x2 : Int32) : Ct l yX11_moment cX11_moment 8 (some .int) 6 encI [.ref 56, .int x1, .int x2] (f_X11_moment x1 x2) := by
  refine ct_of (own := RX11) (by decide) rfl (Nat.le_of_ble_eq_true rfl) (fun Γ hl G => ?_)
  show Rz Γ 8 (Qm Γ encI 0 0) 0 0 0 [(0, .ref 56), (1, .int x1), (2, .int x2)] [] _
  unfold f_X11_moment
  refine rz_aload_n G 0 rfl rfl (dq jX11_moment 0 rfl) ?_
  refine rz_iconst G (v := 0) (dq jX11_moment 1 rfl) rfl ?_
  refine rz_putI G flX11_148 sh56 rfl (dq jX11_moment 2 rfl) ?_
  refine rz_aload_n G 0 rfl rfl (dq jX11_moment 3 rfl) ?_
  refine rz_iload_n G 1 rfl rfl (dq jX11_moment 4 rfl) ?_
  refine rz_callVi G (st := []) (c_X11_isJumper (cLn Γ) x1) lkX11_350 sh56 rfl rfl rfl (Nat.le_of_ble_eq_true rfl) (Nat.le_of_ble_eq_true rfl) (dq jX11_moment 5 rfl) rfl (fun r1 => ?_)
  refine rz_if_eq G (tgt := 22) rfl (dq jX11_moment 6 rfl) (fun c2 => ?_) (fun c2 => ?_)
  · refine rz_iconst G (v := 0) (dq jX11_moment 12 rfl) rfl ?_
    exact rz_iret G (dq jX11_moment 13 rfl)
  · refine rz_aload_n G 0 rfl rfl (dq jX11_moment 7 rfl) ?_
    refine rz_iload_n G 2 rfl rfl (dq jX11_moment 8 rfl) ?_
    refine rz_iconst G (v := 2) (dq jX11_moment 9 rfl) rfl ?_
    refine rz_callVi G (st := []) (c_X11_isWhat (cLn Γ) x2 2) lkX11_353 sh56 rfl rfl rfl (Nat.le_of_ble_eq_true rfl) (Nat.le_of_ble_eq_true rfl) (dq jX11_moment 10 rfl) rfl (fun r3 => ?_)
    refine rz_if_ne G (tgt := 24) rfl (dq jX11_moment 11 rfl) (fun c4 => ?_) (fun c4 => ?_)
    · refine rz_iconst G (v := 0) (dq jX11_moment 12 rfl) rfl ?_
      exact rz_iret G (dq jX11_moment 13 rfl)
    · refine rz_aload_n G 0 rfl rfl (dq jX11_moment 14 rfl) ?_
      refine rz_getC G flX11_26 sh56 (t := 58) rfl rfl (dq jX11_moment 15 rfl) ?_
      refine rz_bipush G (v := 6) (dq jX11_moment 16 rfl) (by decide) ?_
      refine rz_iload_n G 1 rfl rfl (dq jX11_moment 17 rfl) ?_
      refine rz_imul G (dq jX11_moment 18 rfl) ?_
      refine rz_iconst G (v := 3) (dq jX11_moment 19 rfl) rfl ?_
      refine rz_iadd G (dq jX11_moment 20 rfl) ?_
      refine rz_iald G sh58 (dq jX11_moment 21 rfl) (fun v5 => ?_)
      refine rz_istore_n G (lv' := [(3, .int v5), (0, .ref 56), (1, .int x1), (2, .int x2)]) rfl (Nat.le_of_ble_eq_true rfl) rfl (dq jX11_moment 22 rfl) ?_
      refine rz_iconst G (v := (-1)) (dq jX11_moment 23 rfl) rfl ?_
      refine rz_istore G (lv' := [(4, .int ((-1))), (3, .int v5), (0, .ref 56), (1, .int x1), (2, .int x2)]) (Nat.le_of_ble_eq_true rfl) rfl (dq jX11_moment 24 rfl) ?_
      refine rz_iconst G (v := 0) (dq jX11_moment 25 rfl) rfl ?_
      refine rz_istore G (lv' := [(5, .int 0), (4, .int ((-1))), (3, .int v5), (0, .ref 56), (1, .int x1), (2, .int x2)]) (Nat.le_of_ble_eq_true rfl) rfl (dq jX11_moment 26 rfl) ?_
      refine rz_iconst G (v := 0) (dq jX11_moment 27 rfl) rfl ?_
      refine rz_istore G (lv' := [(6, .int 0), (5, .int 0), (4, .int ((-1))), (3, .int v5), (0, .ref 56), (1, .int x1), (2, .int x2)]) (Nat.le_of_ble_eq_true rfl) rfl (dq jX11_moment 28 rfl) ?_
      exact rz_lv [4, 5, 6, 3, 2, 1, 0] rfl (z_X11_moment_b45 G FU x1 x2 v5 ((-1)) 0 0)
theorem z_X11_ticksOf_86_b62 {Γ : Cx} (G : GG Γ RX11 cX11_ticksOf 5 (some .int) 1 0 0) (k5 : Int32 → Int32 → Int32 → Sg → Option (Int32 × Sg)) (hk5 : ∀ (x1 : Int32) (x3 : Int32) (x4 : Int32), Rz Γ 5 (Qm Γ encI 0 0) 0 0 5 [(0, .ref 56), (1, .int x1), (2, .ref 86), (3, .int x3), (4, .int x4)] [] (k5 x1 x3 x4)) (x1 : Int32) (x3 : Int32) (x4 : Int32) : Rz Γ 5 (Qm Γ encI 0 0) 0 0 62 [(0, .ref 56), (1, .int x1), (2, .ref 86), (3, .int x3), (4, .int x4)] [] (f_X11_ticksOf_86_b62 k5 x1 x3 x4) := by
  unfold f_X11_ticksOf_86_b62
  refine rz_iinc G 4 (v := x4 + 1) (lv' := [(4, .int (x4 + 1)), (0, .ref 56), (1, .int x1), (2, .ref 86), (3, .int x3)]) rfl (congrArg (HAdd.hAdd _) (by decide)) (Nat.le_of_ble_eq_true rfl) rfl (dq jX11_ticksOf 39 rfl) ?_
  refine rz_goto G (tgt := 5) rfl (dq jX11_ticksOf 40 rfl) ?_
  exact rz_lv [1, 2, 3, 4, 0] rfl (hk5 x1 x3 (x4 + 1))
theorem z_X11_ticksOf_86_b5 {Γ : Cx} (G : GG Γ RX11 cX11_ticksOf 5 (some .int) 1 0 0) : ∀ (fu : Nat) (x1 : Int32) (x3 : Int32) (x4 : Int32), Rz Γ 5 (Qm Γ encI 0 0) 0 0 5 [(0, .ref 56), (1, .int x1), (2, .ref 86), (3, .int x3), (4, .int x4)] [] (f_X11_ticksOf_86_b5 fu x1 x3 x4) := by
  intro fu
  induction fu with
  | zero => intro _ _ _; exact rz_none
  | succ fu ih =>
    intro x1 x3 x4
    rw [f_X11_ticksOf_86_b5]
    refine rz_iload G 4 rfl (dq jX11_ticksOf 4 rfl) ?_
    refine rz_aload_n G 0 rfl rfl (dq jX11_ticksOf 5 rfl) ?_
    refine rz_getI G flX11_381 sh56 rfl (dq jX11_ticksOf 6 rfl) (fun v1 => ?_)
    refine rz_icmp_ge G (tgt := 68) rfl (dq jX11_ticksOf 7 rfl) (fun c2 => ?_) (fun c2 => ?_)
    · refine rz_iload_n G 3 rfl rfl (dq jX11_ticksOf 41 rfl) ?_
      exact rz_iret G (dq jX11_ticksOf 42 rfl)
    · refine rz_aload_n G 0 rfl rfl (dq jX11_ticksOf 8 rfl) ?_
      refine rz_getC G flX11_117 sh56 (t := 85) rfl rfl (dq jX11_ticksOf 9 rfl) ?_
      refine rz_iconst G (v := 5) (dq jX11_ticksOf 10 rfl) rfl ?_
      refine rz_iload G 4 rfl (dq jX11_ticksOf 11 rfl) ?_
      refine rz_imul G (dq jX11_ticksOf 12 rfl) ?_
      refine rz_iconst G (v := 1) (dq jX11_ticksOf 13 rfl) rfl ?_
      refine rz_iadd G (dq jX11_ticksOf 14 rfl) ?_
      refine rz_iald G sh85 (dq jX11_ticksOf 15 rfl) (fun v3 => ?_)
      refine rz_iload_n G 1 rfl rfl (dq jX11_ticksOf 16 rfl) ?_
      refine rz_icmp_ne G (tgt := 62) rfl (dq jX11_ticksOf 17 rfl) (fun c4 => ?_) (fun c4 => ?_)
      · refine rz_aload_n G 0 rfl rfl (dq jX11_ticksOf 18 rfl) ?_
        refine rz_getC G flX11_117 sh56 (t := 85) rfl rfl (dq jX11_ticksOf 19 rfl) ?_
        refine rz_iconst G (v := 5) (dq jX11_ticksOf 20 rfl) rfl ?_
        refine rz_iload G 4 rfl (dq jX11_ticksOf 21 rfl) ?_
        refine rz_imul G (dq jX11_ticksOf 22 rfl) ?_
        refine rz_iconst G (v := 2) (dq jX11_ticksOf 23 rfl) rfl ?_
        refine rz_iadd G (dq jX11_ticksOf 24 rfl) ?_
        refine rz_iald G sh85 (dq jX11_ticksOf 25 rfl) (fun v5 => ?_)
        refine rz_iconst G (v := 4) (dq jX11_ticksOf 26 rfl) rfl ?_
        refine rz_icmp_ne G (tgt := 47) rfl (dq jX11_ticksOf 27 rfl) (fun c6 => ?_) (fun c6 => ?_)
        · refine rz_goto G (tgt := 62) rfl (dq jX11_ticksOf 28 rfl) ?_
          exact rz_lv [0, 1, 2, 3, 4] rfl (z_X11_ticksOf_86_b62 G (f_X11_ticksOf_86_b5 fu) ih x1 x3 x4)
        · refine rz_aload_n G 2 rfl rfl (dq jX11_ticksOf 29 rfl) ?_
          refine rz_iload_n G 3 rfl rfl (dq jX11_ticksOf 30 rfl) ?_
          refine rz_aload_n G 0 rfl rfl (dq jX11_ticksOf 31 rfl) ?_
          refine rz_getC G flX11_117 sh56 (t := 85) rfl rfl (dq jX11_ticksOf 32 rfl) ?_
          refine rz_iconst G (v := 5) (dq jX11_ticksOf 33 rfl) rfl ?_
          refine rz_iload G 4 rfl (dq jX11_ticksOf 34 rfl) ?_
          refine rz_imul G (dq jX11_ticksOf 35 rfl) ?_
          refine rz_iald G sh85 (dq jX11_ticksOf 36 rfl) (fun v7 => ?_)
          refine rz_iast G sh86 (dq jX11_ticksOf 37 rfl) ?_
          refine rz_iinc G 3 (v := x3 + 1) (lv' := [(3, .int (x3 + 1)), (0, .ref 56), (1, .int x1), (2, .ref 86), (4, .int x4)]) rfl (congrArg (HAdd.hAdd _) (by decide)) (Nat.le_of_ble_eq_true rfl) rfl (dq jX11_ticksOf 38 rfl) ?_
          exact rz_lv [1, 2, 3, 0, 4] rfl (z_X11_ticksOf_86_b62 G (f_X11_ticksOf_86_b5 fu) ih x1 (x3 + 1) x4)
      · exact rz_lv [0, 1, 2, 3, 4] rfl (z_X11_ticksOf_86_b62 G (f_X11_ticksOf_86_b5 fu) ih x1 x3 x4)
theorem c_X11_ticksOf_86 (l : Launch) (x1 : Int32) : Ct l yX11_ticksOf cX11_ticksOf 5 (some .int) 1 encI [.ref 56, .int x1, .ref 86] (f_X11_ticksOf_86 x1) := by
  refine ct_of (own := RX11) (by decide) rfl (Nat.le_of_ble_eq_true rfl) (fun Γ hl G => ?_)
  show Rz Γ 5 (Qm Γ encI 0 0) 0 0 0 [(0, .ref 56), (1, .int x1), (2, .ref 86)] [] _
  unfold f_X11_ticksOf_86
  refine rz_iconst G (v := 0) (dq jX11_ticksOf 0 rfl) rfl ?_
  refine rz_istore_n G (lv' := [(3, .int 0), (0, .ref 56), (1, .int x1), (2, .ref 86)]) rfl (Nat.le_of_ble_eq_true rfl) rfl (dq jX11_ticksOf 1 rfl) ?_
  refine rz_iconst G (v := 0) (dq jX11_ticksOf 2 rfl) rfl ?_
  refine rz_istore G (lv' := [(4, .int 0), (3, .int 0), (0, .ref 56), (1, .int x1), (2, .ref 86)]) (Nat.le_of_ble_eq_true rfl) rfl (dq jX11_ticksOf 3 rfl) ?_
  exact rz_lv [2, 3, 4, 1, 0] rfl (z_X11_ticksOf_86_b5 G FU x1 0 0)
theorem z_X11_ticksOf_87_b62 {Γ : Cx} (G : GG Γ RX11 cX11_ticksOf 5 (some .int) 1 0 0) (k5 : Int32 → Int32 → Int32 → Sg → Option (Int32 × Sg)) (hk5 : ∀ (x1 : Int32) (x3 : Int32) (x4 : Int32), Rz Γ 5 (Qm Γ encI 0 0) 0 0 5 [(0, .ref 56), (1, .int x1), (2, .ref 87), (3, .int x3), (4, .int x4)] [] (k5 x1 x3 x4)) (x1 : Int32) (x3 : Int32) (x4 : Int32) : Rz Γ 5 (Qm Γ encI 0 0) 0 0 62 [(0, .ref 56), (1, .int x1), (2, .ref 87), (3, .int x3), (4, .int x4)] [] (f_X11_ticksOf_87_b62 k5 x1 x3 x4) := by
  unfold f_X11_ticksOf_87_b62
  refine rz_iinc G 4 (v := x4 + 1) (lv' := [(4, .int (x4 + 1)), (0, .ref 56), (1, .int x1), (2, .ref 87), (3, .int x3)]) rfl (congrArg (HAdd.hAdd _) (by decide)) (Nat.le_of_ble_eq_true rfl) rfl (dq jX11_ticksOf 39 rfl) ?_
  refine rz_goto G (tgt := 5) rfl (dq jX11_ticksOf 40 rfl) ?_
  exact rz_lv [1, 2, 3, 4, 0] rfl (hk5 x1 x3 (x4 + 1))
theorem z_X11_ticksOf_87_b5 {Γ : Cx} (G : GG Γ RX11 cX11_ticksOf 5 (some .int) 1 0 0) : ∀ (fu : Nat) (x1 : Int32) (x3 : Int32) (x4 : Int32), Rz Γ 5 (Qm Γ encI 0 0) 0 0 5 [(0, .ref 56), (1, .int x1), (2, .ref 87), (3, .int x3), (4, .int x4)] [] (f_X11_ticksOf_87_b5 fu x1 x3 x4) := by
  intro fu
  induction fu with
  | zero => intro _ _ _; exact rz_none
  | succ fu ih =>
    intro x1 x3 x4
    rw [f_X11_ticksOf_87_b5]
    refine rz_iload G 4 rfl (dq jX11_ticksOf 4 rfl) ?_
    refine rz_aload_n G 0 rfl rfl (dq jX11_ticksOf 5 rfl) ?_
    refine rz_getI G flX11_381 sh56 rfl (dq jX11_ticksOf 6 rfl) (fun v1 => ?_)
    refine rz_icmp_ge G (tgt := 68) rfl (dq jX11_ticksOf 7 rfl) (fun c2 => ?_) (fun c2 => ?_)
    · refine rz_iload_n G 3 rfl rfl (dq jX11_ticksOf 41 rfl) ?_
      exact rz_iret G (dq jX11_ticksOf 42 rfl)
    · refine rz_aload_n G 0 rfl rfl (dq jX11_ticksOf 8 rfl) ?_
      refine rz_getC G flX11_117 sh56 (t := 85) rfl rfl (dq jX11_ticksOf 9 rfl) ?_
      refine rz_iconst G (v := 5) (dq jX11_ticksOf 10 rfl) rfl ?_
      refine rz_iload G 4 rfl (dq jX11_ticksOf 11 rfl) ?_
      refine rz_imul G (dq jX11_ticksOf 12 rfl) ?_
      refine rz_iconst G (v := 1) (dq jX11_ticksOf 13 rfl) rfl ?_
      refine rz_iadd G (dq jX11_ticksOf 14 rfl) ?_
      refine rz_iald G sh85 (dq jX11_ticksOf 15 rfl) (fun v3 => ?_)
      refine rz_iload_n G 1 rfl rfl (dq jX11_ticksOf 16 rfl) ?_
      refine rz_icmp_ne G (tgt := 62) rfl (dq jX11_ticksOf 17 rfl) (fun c4 => ?_) (fun c4 => ?_)
      · refine rz_aload_n G 0 rfl rfl (dq jX11_ticksOf 18 rfl) ?_
        refine rz_getC G flX11_117 sh56 (t := 85) rfl rfl (dq jX11_ticksOf 19 rfl) ?_
        refine rz_iconst G (v := 5) (dq jX11_ticksOf 20 rfl) rfl ?_
        refine rz_iload G 4 rfl (dq jX11_ticksOf 21 rfl) ?_
        refine rz_imul G (dq jX11_ticksOf 22 rfl) ?_
        refine rz_iconst G (v := 2) (dq jX11_ticksOf 23 rfl) rfl ?_
        refine rz_iadd G (dq jX11_ticksOf 24 rfl) ?_
        refine rz_iald G sh85 (dq jX11_ticksOf 25 rfl) (fun v5 => ?_)
        refine rz_iconst G (v := 4) (dq jX11_ticksOf 26 rfl) rfl ?_
        refine rz_icmp_ne G (tgt := 47) rfl (dq jX11_ticksOf 27 rfl) (fun c6 => ?_) (fun c6 => ?_)
        · refine rz_goto G (tgt := 62) rfl (dq jX11_ticksOf 28 rfl) ?_
          exact rz_lv [0, 1, 2, 3, 4] rfl (z_X11_ticksOf_87_b62 G (f_X11_ticksOf_87_b5 fu) ih x1 x3 x4)
        · refine rz_aload_n G 2 rfl rfl (dq jX11_ticksOf 29 rfl) ?_
          refine rz_iload_n G 3 rfl rfl (dq jX11_ticksOf 30 rfl) ?_
          refine rz_aload_n G 0 rfl rfl (dq jX11_ticksOf 31 rfl) ?_
          refine rz_getC G flX11_117 sh56 (t := 85) rfl rfl (dq jX11_ticksOf 32 rfl) ?_
          refine rz_iconst G (v := 5) (dq jX11_ticksOf 33 rfl) rfl ?_
          refine rz_iload G 4 rfl (dq jX11_ticksOf 34 rfl) ?_
          refine rz_imul G (dq jX11_ticksOf 35 rfl) ?_
          refine rz_iald G sh85 (dq jX11_ticksOf 36 rfl) (fun v7 => ?_)
          refine rz_iast G sh87 (dq jX11_ticksOf 37 rfl) ?_
          refine rz_iinc G 3 (v := x3 + 1) (lv' := [(3, .int (x3 + 1)), (0, .ref 56), (1, .int x1), (2, .ref 87), (4, .int x4)]) rfl (congrArg (HAdd.hAdd _) (by decide)) (Nat.le_of_ble_eq_true rfl) rfl (dq jX11_ticksOf 38 rfl) ?_
          exact rz_lv [1, 2, 3, 0, 4] rfl (z_X11_ticksOf_87_b62 G (f_X11_ticksOf_87_b5 fu) ih x1 (x3 + 1) x4)
      · exact rz_lv [0, 1, 2, 3, 4] rfl (z_X11_ticksOf_87_b62 G (f_X11_ticksOf_87_b5 fu) ih x1 x3 x4)
theorem c_X11_ticksOf_87 (l : Launch) (x1 : Int32) : Ct l yX11_ticksOf cX11_ticksOf 5 (some .int) 1 encI [.ref 56, .int x1, .ref 87] (f_X11_ticksOf_87 x1) := by
  refine ct_of (own := RX11) (by decide) rfl (Nat.le_of_ble_eq_true rfl) (fun Γ hl G => ?_)
  show Rz Γ 5 (Qm Γ encI 0 0) 0 0 0 [(0, .ref 56), (1, .int x1), (2, .ref 87)] [] _
  unfold f_X11_ticksOf_87
  refine rz_iconst G (v := 0) (dq jX11_ticksOf 0 rfl) rfl ?_
  refine rz_istore_n G (lv' := [(3, .int 0), (0, .ref 56), (1, .int x1), (2, .ref 87)]) rfl (Nat.le_of_ble_eq_true rfl) rfl (dq jX11_ticksOf 1 rfl) ?_
  refine rz_iconst G (v := 0) (dq jX11_ticksOf 2 rfl) rfl ?_
  refine rz_istore G (lv' := [(4, .int 0), (3, .int 0), (0, .ref 56), (1, .int x1), (2, .ref 87)]) (Nat.le_of_ble_eq_true rfl) rfl (dq jX11_ticksOf 3 rfl) ?_
  exact rz_lv [2, 3, 4, 1, 0] rfl (z_X11_ticksOf_87_b5 G FU x1 0 0)
theorem z_X11_step_b230 {Γ : Cx} (G : GG Γ RX11 cX11_step 10 (some .int) 6 0 0) (x6 : Int32) (x9 : Int32) : Rz Γ 10 (Qm Γ encI 0 0) 0 0 230 [(6, .int x6), (9, .int x9)] [] (f_X11_step_b230 x6 x9) := by
  unfold f_X11_step_b230
  refine rz_iload G 1 rfl (dq jX11_step 125 rfl) ?_
  refine rz_iload G 0 rfl (dq jX11_step 126 rfl) ?_
  refine rz_icmp_ne G (tgt := 241) rfl (dq jX11_step 127 rfl) (fun c1 => ?_) (fun c1 => ?_)
  · refine rz_iconst G (v := (-1)) (dq jX11_step 128 rfl) rfl ?_
    refine rz_goto G (tgt := 243) rfl (dq jX11_step 129 rfl) ?_
    exact rz_iret G (dq jX11_step 131 rfl)
  · refine rz_iload G 1 rfl (dq jX11_step 130 rfl) ?_
    exact rz_iret G (dq jX11_step 131 rfl)
theorem z_X11_step_b198 {Γ : Cx} (G : GG Γ RX11 cX11_step 10 (some .int) 6 0 0) : ∀ (fu : Nat) (x6 : Int32) (x9 : Int32), Rz Γ 10 (Qm Γ encI 0 0) 0 0 198 [(0, .ref 56), (6, .int x6), (9, .int x9)] [] (f_X11_step_b198 fu x6 x9) := by
  intro fu
  induction fu with
  | zero => intro _ _; exact rz_none
  | succ fu ih =>
    intro x6 x9
    rw [f_X11_step_b198]
    refine rz_iload G 2 rfl (dq jX11_step 108 rfl) ?_
    refine rz_if_le G (tgt := 230) rfl (dq jX11_step 109 rfl) (fun c1 => ?_) (fun c1 => ?_)
    · exact rz_lv [1, 2] rfl (z_X11_step_b230 G x6 x9)
    · refine rz_aload_n G 0 rfl rfl (dq jX11_step 110 rfl) ?_
      refine rz_getC G flX11_120 sh56 (t := 86) rfl rfl (dq jX11_step 111 rfl) ?_
      refine rz_iload G 2 rfl (dq jX11_step 112 rfl) ?_
      refine rz_iconst G (v := 1) (dq jX11_step 113 rfl) rfl ?_
      refine rz_isub G (dq jX11_step 114 rfl) ?_
      refine rz_iald G sh86 (dq jX11_step 115 rfl) (fun v2 => ?_)
      refine rz_aload_n G 0 rfl rfl (dq jX11_step 116 rfl) ?_
      refine rz_getC G flX11_123 sh56 (t := 87) rfl rfl (dq jX11_step 117 rfl) ?_
      refine rz_iload G 2 rfl (dq jX11_step 118 rfl) ?_
      refine rz_iconst G (v := 1) (dq jX11_step 119 rfl) rfl ?_
      refine rz_isub G (dq jX11_step 120 rfl) ?_
      refine rz_iald G sh87 (dq jX11_step 121 rfl) (fun v3 => ?_)
      refine rz_icmp_ne G (tgt := 230) rfl (dq jX11_step 122 rfl) (fun c4 => ?_) (fun c4 => ?_)
      · refine rz_iinc G 2 (v := x9 + (-1)) (lv' := [(9, .int (x9 + (-1))), (0, .ref 56), (6, .int x6)]) rfl (congrArg (HAdd.hAdd _) (by decide)) (Nat.le_of_ble_eq_true rfl) rfl (dq jX11_step 123 rfl) ?_
        refine rz_goto G (tgt := 198) rfl (dq jX11_step 124 rfl) ?_
        exact rz_lv [1, 2, 0] rfl (ih x6 (x9 + (-1)))
      · exact rz_lv [1, 2] rfl (z_X11_step_b230 G x6 x9)
theorem z_X11_step_b90 {Γ : Cx} (G : GG Γ RX11 cX11_step 10 (some .int) 6 0 0) (x3 : Int32) (xs0 : Int32) : Rz Γ 10 (Qm Γ encI 0 0) 0 0 90 [(0, .ref 56), (3, .int x3)] [.int xs0] (f_X11_step_b90 x3 xs0) := by
  unfold f_X11_step_b90
  refine rz_istore G (lv' := [(6, .int xs0), (0, .ref 56), (3, .int x3)]) (Nat.le_of_ble_eq_true rfl) rfl (dq jX11_step 48 rfl) ?_
  refine rz_iload G 0 rfl (dq jX11_step 49 rfl) ?_
  refine rz_if_ne G (tgt := 108) rfl (dq jX11_step 50 rfl) (fun c1 => ?_) (fun c1 => ?_)
  · refine rz_iload_n G 2 rfl rfl (dq jX11_step 51 rfl) ?_
    refine rz_iconst G (v := 2) (dq jX11_step 52 rfl) rfl ?_
    refine rz_icmp_ne G (tgt := 106) rfl (dq jX11_step 53 rfl) (fun c2 => ?_) (fun c2 => ?_)
    · refine rz_iconst G (v := 0) (dq jX11_step 54 rfl) rfl ?_
      refine rz_goto G (tgt := 107) rfl (dq jX11_step 55 rfl) ?_
      exact rz_iret G (dq jX11_step 57 rfl)
    · refine rz_iconst G (v := (-1)) (dq jX11_step 56 rfl) rfl ?_
      exact rz_iret G (dq jX11_step 57 rfl)
  · refine rz_aload_n G 1 rfl rfl (dq jX11_step 58 rfl) ?_
    refine rz_getC G flX11_120 sh56 (t := 86) rfl rfl (dq jX11_step 59 rfl) ?_
    refine rz_iconst G (v := 0) (dq jX11_step 60 rfl) rfl ?_
    refine rz_ialdN G (by decide) sh86 (dq jX11_step 61 rfl) (fun v3 => ?_)
    refine rz_aload_n G 1 rfl rfl (dq jX11_step 62 rfl) ?_
    refine rz_getC G flX11_123 sh56 (t := 87) rfl rfl (dq jX11_step 63 rfl) ?_
    refine rz_iconst G (v := 0) (dq jX11_step 64 rfl) rfl ?_
    refine rz_ialdN G (by decide) sh87 (dq jX11_step 65 rfl) (fun v4 => ?_)
    refine rz_callSi G (st := []) (c_X11_off (cLn Γ) v3 v4) lkX11_391 rfl (Nat.le_of_ble_eq_true rfl) (Nat.le_of_ble_eq_true rfl) (dq jX11_step 66 rfl) rfl (fun r5 => ?_)
    refine rz_istore G (lv' := [(7, .int r5), (6, .int xs0), (0, .ref 56), (3, .int x3)]) (Nat.le_of_ble_eq_true rfl) rfl (dq jX11_step 67 rfl) ?_
    refine rz_aload_n G 2 rfl rfl (dq jX11_step 68 rfl) ?_
    refine rz_getC G flX11_120 sh56 (t := 86) rfl rfl (dq jX11_step 69 rfl) ?_
    refine rz_iload G 1 rfl (dq jX11_step 70 rfl) ?_
    refine rz_iconst G (v := 1) (dq jX11_step 71 rfl) rfl ?_
    refine rz_isub G (dq jX11_step 72 rfl) ?_
    refine rz_iald G sh86 (dq jX11_step 73 rfl) (fun v6 => ?_)
    refine rz_aload_n G 2 rfl rfl (dq jX11_step 74 rfl) ?_
    refine rz_getC G flX11_123 sh56 (t := 87) rfl rfl (dq jX11_step 75 rfl) ?_
    refine rz_iload G 1 rfl (dq jX11_step 76 rfl) ?_
    refine rz_iconst G (v := 1) (dq jX11_step 77 rfl) rfl ?_
    refine rz_isub G (dq jX11_step 78 rfl) ?_
    refine rz_iald G sh87 (dq jX11_step 79 rfl) (fun v7 => ?_)
    refine rz_callSi G (st := []) (c_X11_off (cLn Γ) v6 v7) lkX11_391 rfl (Nat.le_of_ble_eq_true rfl) (Nat.le_of_ble_eq_true rfl) (dq jX11_step 80 rfl) rfl (fun r8 => ?_)
    refine rz_istore G (lv' := [(8, .int r8), (7, .int r5), (6, .int xs0), (0, .ref 56), (3, .int x3)]) (Nat.le_of_ble_eq_true rfl) rfl (dq jX11_step 81 rfl) ?_
    refine rz_iload_n G 4 rfl rfl (dq jX11_step 82 rfl) ?_
    refine rz_iconst G (v := 2) (dq jX11_step 83 rfl) rfl ?_
    refine rz_icmp_ge G (tgt := 165) rfl (dq jX11_step 84 rfl) (fun c9 => ?_) (fun c9 => ?_)
    · refine rz_iload_n G 4 rfl rfl (dq jX11_step 91 rfl) ?_
      refine rz_iconst G (v := 2) (dq jX11_step 92 rfl) rfl ?_
      refine rz_icmp_ne G (tgt := 194) rfl (dq jX11_step 93 rfl) (fun c10 => ?_) (fun c10 => ?_)
      · refine rz_iload G 0 rfl (dq jX11_step 94 rfl) ?_
        refine rz_iload G 1 rfl (dq jX11_step 95 rfl) ?_
        refine rz_icmp_ge G (tgt := 181) rfl (dq jX11_step 96 rfl) (fun c11 => ?_) (fun c11 => ?_)
        · refine rz_iload G 0 rfl (dq jX11_step 99 rfl) ?_
          refine rz_iload G 1 rfl (dq jX11_step 100 rfl) ?_
          refine rz_icmp_le G (tgt := 192) rfl (dq jX11_step 101 rfl) (fun c12 => ?_) (fun c12 => ?_)
          · refine rz_iconst G (v := 0) (dq jX11_step 104 rfl) rfl ?_
            exact rz_iret G (dq jX11_step 105 rfl)
          · refine rz_iconst G (v := 1) (dq jX11_step 102 rfl) rfl ?_
            refine rz_goto G (tgt := 193) rfl (dq jX11_step 103 rfl) ?_
            exact rz_iret G (dq jX11_step 105 rfl)
        · refine rz_iconst G (v := (-1)) (dq jX11_step 97 rfl) rfl ?_
          refine rz_goto G (tgt := 193) rfl (dq jX11_step 98 rfl) ?_
          exact rz_iret G (dq jX11_step 105 rfl)
      · refine rz_iload G 2 rfl (dq jX11_step 106 rfl) ?_
        refine rz_istore G (lv' := [(9, .int xs0), (8, .int r8), (7, .int r5), (6, .int xs0), (0, .ref 56), (3, .int x3)]) (Nat.le_of_ble_eq_true rfl) rfl (dq jX11_step 107 rfl) ?_
        exact rz_lv [4, 3, 0] rfl (z_X11_step_b198 G FU xs0 xs0)
    · refine rz_iload_n G 4 rfl rfl (dq jX11_step 85 rfl) ?_
      refine rz_if_ne G (tgt := 162) rfl (dq jX11_step 86 rfl) (fun c13 => ?_) (fun c13 => ?_)
      · refine rz_iload G 1 rfl (dq jX11_step 87 rfl) ?_
        refine rz_goto G (tgt := 164) rfl (dq jX11_step 88 rfl) ?_
        exact rz_iret G (dq jX11_step 90 rfl)
      · refine rz_iload G 0 rfl (dq jX11_step 89 rfl) ?_
        exact rz_iret G (dq jX11_step 90 rfl)
theorem z_X11_step_b41 {Γ : Cx} (G : GG Γ RX11 cX11_step 10 (some .int) 6 0 0) (x1 : Int32) (x2 : Int32) (x3 : Int32) (xs0 : Int32) : Rz Γ 10 (Qm Γ encI 0 0) 0 0 41 [(0, .ref 56), (1, .int x1), (2, .int x2), (3, .int x3)] [.int xs0, .ref 56] (f_X11_step_b41 x1 x2 x3 xs0) := by
  unfold f_X11_step_b41
  refine rz_iconst G (v := 2) (dq jX11_step 23 rfl) rfl ?_
  refine rz_callVi G (st := []) (c_X11_right (cLn Γ) xs0 2) lkX11_313 sh56 rfl rfl rfl (Nat.le_of_ble_eq_true rfl) (Nat.le_of_ble_eq_true rfl) (dq jX11_step 24 rfl) rfl (fun r1 => ?_)
  refine rz_if_ne G (tgt := 50) rfl (dq jX11_step 25 rfl) (fun c2 => ?_) (fun c2 => ?_)
  · refine rz_iconst G (v := 0) (dq jX11_step 26 rfl) rfl ?_
    exact rz_iret G (dq jX11_step 27 rfl)
  · refine rz_aload_n G 0 rfl rfl (dq jX11_step 28 rfl) ?_
    refine rz_callVv G (st := []) (c_X11_runsAll (cLn Γ)) lkX11_440 sh56 rfl rfl rfl (Nat.le_of_ble_eq_true rfl) (Nat.le_of_ble_eq_true rfl) (dq jX11_step 29 rfl) rfl (fun _ => ?_)
    refine rz_aload_n G 0 rfl rfl (dq jX11_step 30 rfl) ?_
    refine rz_iload_n G 1 rfl rfl (dq jX11_step 31 rfl) ?_
    refine rz_aload_n G 0 rfl rfl (dq jX11_step 32 rfl) ?_
    refine rz_getC G flX11_120 sh56 (t := 86) rfl rfl (dq jX11_step 33 rfl) ?_
    refine rz_callVi G (st := []) (c_X11_ticksOf_86 (cLn Γ) x1) lkX11_443 sh56 rfl rfl rfl (Nat.le_of_ble_eq_true rfl) (Nat.le_of_ble_eq_true rfl) (dq jX11_step 34 rfl) rfl (fun r3 => ?_)
    refine rz_istore G (lv' := [(4, .int r3), (0, .ref 56), (1, .int x1), (2, .int x2), (3, .int x3)]) (Nat.le_of_ble_eq_true rfl) rfl (dq jX11_step 35 rfl) ?_
    refine rz_aload_n G 1 rfl rfl (dq jX11_step 36 rfl) ?_
    refine rz_iload_n G 3 rfl rfl (dq jX11_step 37 rfl) ?_
    refine rz_aload_n G 1 rfl rfl (dq jX11_step 38 rfl) ?_
    refine rz_getC G flX11_123 sh56 (t := 87) rfl rfl (dq jX11_step 39 rfl) ?_
    refine rz_callVi G (st := []) (c_X11_ticksOf_87 (cLn Γ) x2) lkX11_443 sh56 rfl rfl rfl (Nat.le_of_ble_eq_true rfl) (Nat.le_of_ble_eq_true rfl) (dq jX11_step 40 rfl) rfl (fun r4 => ?_)
    refine rz_istore G (lv' := [(5, .int r4), (4, .int r3), (0, .ref 56), (1, .int x1), (2, .int x2), (3, .int x3)]) (Nat.le_of_ble_eq_true rfl) rfl (dq jX11_step 41 rfl) ?_
    refine rz_iload G 1 rfl (dq jX11_step 42 rfl) ?_
    refine rz_iload G 0 rfl (dq jX11_step 43 rfl) ?_
    refine rz_icmp_ge G (tgt := 88) rfl (dq jX11_step 44 rfl) (fun c5 => ?_) (fun c5 => ?_)
    · refine rz_iload G 0 rfl (dq jX11_step 47 rfl) ?_
      exact rz_lv [2, 5] rfl (z_X11_step_b90 G x3 r4)
    · refine rz_iload G 1 rfl (dq jX11_step 45 rfl) ?_
      refine rz_goto G (tgt := 90) rfl (dq jX11_step 46 rfl) ?_
      exact rz_lv [2, 5] rfl (z_X11_step_b90 G x3 r3)
theorem c_X11_step (l : Launch) (x1 : Int32) (x2 : Int32) (x3 : Int32) : Ct l yX11_step cX11_step 10 (some .int) 6 encI [.ref 56, .int x1, .int x2, .int x3] (f_X11_step x1 x2 x3) := by
  refine ct_of (own := RX11) (by decide) rfl (Nat.le_of_ble_eq_true rfl) (fun Γ hl G => ?_)
  show Rz Γ 10 (Qm Γ encI 0 0) 0 0 0 [(0, .ref 56), (1, .int x1), (2, .int x2), (3, .int x3)] [] _
  unfold f_X11_step
  refine rz_aload_n G 0 rfl rfl (dq jX11_step 0 rfl) ?_
  refine rz_iconst G (v := 0) (dq jX11_step 1 rfl) rfl ?_
  refine rz_putI G flX11_148 sh56 rfl (dq jX11_step 2 rfl) ?_
  refine rz_aload_n G 0 rfl rfl (dq jX11_step 3 rfl) ?_
  refine rz_iload_n G 1 rfl rfl (dq jX11_step 4 rfl) ?_
  refine rz_callVi G (st := []) (c_X11_isJumper (cLn Γ) x1) lkX11_350 sh56 rfl rfl rfl (Nat.le_of_ble_eq_true rfl) (Nat.le_of_ble_eq_true rfl) (dq jX11_step 5 rfl) rfl (fun r1 => ?_)
  refine rz_if_eq G (tgt := 48) rfl (dq jX11_step 6 rfl) (fun c2 => ?_) (fun c2 => ?_)
  · refine rz_iconst G (v := 0) (dq jX11_step 26 rfl) rfl ?_
    exact rz_iret G (dq jX11_step 27 rfl)
  · refine rz_aload_n G 0 rfl rfl (dq jX11_step 7 rfl) ?_
    refine rz_iload_n G 2 rfl rfl (dq jX11_step 8 rfl) ?_
    refine rz_callVi G (st := []) (c_X11_isJumper (cLn Γ) x2) lkX11_350 sh56 rfl rfl rfl (Nat.le_of_ble_eq_true rfl) (Nat.le_of_ble_eq_true rfl) (dq jX11_step 9 rfl) rfl (fun r3 => ?_)
    refine rz_if_eq G (tgt := 48) rfl (dq jX11_step 10 rfl) (fun c4 => ?_) (fun c4 => ?_)
    · refine rz_iconst G (v := 0) (dq jX11_step 26 rfl) rfl ?_
      exact rz_iret G (dq jX11_step 27 rfl)
    · refine rz_aload_n G 0 rfl rfl (dq jX11_step 11 rfl) ?_
      refine rz_iload_n G 3 rfl rfl (dq jX11_step 12 rfl) ?_
      refine rz_iconst G (v := 3) (dq jX11_step 13 rfl) rfl ?_
      refine rz_callVi G (st := []) (c_X11_isWhat (cLn Γ) x3 3) lkX11_353 sh56 rfl rfl rfl (Nat.le_of_ble_eq_true rfl) (Nat.le_of_ble_eq_true rfl) (dq jX11_step 14 rfl) rfl (fun r5 => ?_)
      refine rz_if_eq G (tgt := 48) rfl (dq jX11_step 15 rfl) (fun c6 => ?_) (fun c6 => ?_)
      · refine rz_iconst G (v := 0) (dq jX11_step 26 rfl) rfl ?_
        exact rz_iret G (dq jX11_step 27 rfl)
      · refine rz_aload_n G 0 rfl rfl (dq jX11_step 16 rfl) ?_
        refine rz_iload_n G 1 rfl rfl (dq jX11_step 17 rfl) ?_
        refine rz_iload_n G 2 rfl rfl (dq jX11_step 18 rfl) ?_
        refine rz_icmp_eq G (tgt := 40) rfl (dq jX11_step 19 rfl) (fun c7 => ?_) (fun c7 => ?_)
        · refine rz_iconst G (v := 0) (dq jX11_step 22 rfl) rfl ?_
          exact rz_lv [0, 1, 2, 3] rfl (z_X11_step_b41 G x1 x2 x3 0)
        · refine rz_iconst G (v := 1) (dq jX11_step 20 rfl) rfl ?_
          refine rz_goto G (tgt := 41) rfl (dq jX11_step 21 rfl) ?_
          exact rz_lv [0, 1, 2, 3] rfl (z_X11_step_b41 G x1 x2 x3 1)
theorem c_X11_isHurt (l : Launch)  : Ct l yX11_isHurt cX11_isHurt 1 (some .boolean) 1 encI [.ref 56] (f_X11_isHurt ) := by
  refine ct_of (own := RX11) (by decide) rfl (Nat.le_of_ble_eq_true rfl) (fun Γ hl G => ?_)
  show Rz Γ 1 (Qm Γ encI 0 0) 0 0 0 [(0, .ref 56)] [] _
  unfold f_X11_isHurt
  refine rz_aload_n G 0 rfl rfl (dq jX11_isHurt 0 rfl) ?_
  refine rz_getI G flX11_375 sh56 rfl (dq jX11_isHurt 1 rfl) (fun v1 => ?_)
  refine rz_iconst G (v := (-1)) (dq jX11_isHurt 2 rfl) rfl ?_
  refine rz_icmp_eq G (tgt := 12) rfl (dq jX11_isHurt 3 rfl) (fun c2 => ?_) (fun c2 => ?_)
  · refine rz_iconst G (v := 0) (dq jX11_isHurt 6 rfl) rfl ?_
    exact rz_zret0 G (by decide) (dq jX11_isHurt 7 rfl)
  · refine rz_iconst G (v := 1) (dq jX11_isHurt 4 rfl) rfl ?_
    refine rz_goto G (tgt := 13) rfl (dq jX11_isHurt 5 rfl) ?_
    exact rz_zret0 G (by decide) (dq jX11_isHurt 7 rfl)
theorem z_X11_danger_b71 {Γ : Cx} (G : GG Γ RX11 cX11_danger 5 (some .int) 6 0 0) (k32 : Int32 → Int32 → Int32 → Int32 → Sg → Option (Int32 × Sg)) (hk32 : ∀ (x1 : Int32) (x2 : Int32) (x3 : Int32) (x4 : Int32), Rz Γ 5 (Qm Γ encI 0 0) 0 0 32 [(0, .ref 56), (1, .int x1), (2, .int x2), (3, .int x3), (4, .int x4)] [] (k32 x1 x2 x3 x4)) (x1 : Int32) (x2 : Int32) (x3 : Int32) (x4 : Int32) : Rz Γ 5 (Qm Γ encI 0 0) 0 0 71 [(0, .ref 56), (1, .int x1), (2, .int x2), (3, .int x3), (4, .int x4)] [] (f_X11_danger_b71 k32 x1 x2 x3 x4) := by
  unfold f_X11_danger_b71
  refine rz_iinc G 4 (v := x4 + 1) (lv' := [(4, .int (x4 + 1)), (0, .ref 56), (1, .int x1), (2, .int x2), (3, .int x3)]) rfl (congrArg (HAdd.hAdd _) (by decide)) (Nat.le_of_ble_eq_true rfl) rfl (dq jX11_danger 44 rfl) ?_
  refine rz_goto G (tgt := 32) rfl (dq jX11_danger 45 rfl) ?_
  exact rz_lv [1, 2, 3, 4, 0] rfl (hk32 x1 x2 x3 (x4 + 1))
theorem z_X11_danger_b77 {Γ : Cx} (G : GG Γ RX11 cX11_danger 5 (some .int) 6 0 0) (x1 : Int32) (x2 : Int32) (x3 : Int32) : Rz Γ 5 (Qm Γ encI 0 0) 0 0 77 [(0, .ref 56), (1, .int x1), (2, .int x2), (3, .int x3)] [] (f_X11_danger_b77 x1 x2 x3) := by
  unfold f_X11_danger_b77
  refine rz_aload_n G 0 rfl rfl (dq jX11_danger 46 rfl) ?_
  refine rz_getC G flX11_26 sh56 (t := 58) rfl rfl (dq jX11_danger 47 rfl) ?_
  refine rz_bipush G (v := 6) (dq jX11_danger 48 rfl) (by decide) ?_
  refine rz_iload_n G 1 rfl rfl (dq jX11_danger 49 rfl) ?_
  refine rz_imul G (dq jX11_danger 50 rfl) ?_
  refine rz_iconst G (v := 4) (dq jX11_danger 51 rfl) rfl ?_
  refine rz_iadd G (dq jX11_danger 52 rfl) ?_
  refine rz_iload_n G 2 rfl rfl (dq jX11_danger 53 rfl) ?_
  refine rz_iast G sh58 (dq jX11_danger 54 rfl) ?_
  refine rz_iload_n G 3 rfl rfl (dq jX11_danger 55 rfl) ?_
  exact rz_iret G (dq jX11_danger 56 rfl)
theorem z_X11_danger_b32 {Γ : Cx} (G : GG Γ RX11 cX11_danger 5 (some .int) 6 0 0) : ∀ (fu : Nat) (x1 : Int32) (x2 : Int32) (x3 : Int32) (x4 : Int32), Rz Γ 5 (Qm Γ encI 0 0) 0 0 32 [(0, .ref 56), (1, .int x1), (2, .int x2), (3, .int x3), (4, .int x4)] [] (f_X11_danger_b32 fu x1 x2 x3 x4) := by
  intro fu
  induction fu with
  | zero => intro _ _ _ _; exact rz_none
  | succ fu ih =>
    intro x1 x2 x3 x4
    rw [f_X11_danger_b32]
    refine rz_iload G 4 rfl (dq jX11_danger 22 rfl) ?_
    refine rz_bipush G (v := 60) (dq jX11_danger 23 rfl) (by decide) ?_
    refine rz_icmp_gt G (tgt := 77) rfl (dq jX11_danger 24 rfl) (fun c1 => ?_) (fun c1 => ?_)
    · exact rz_lv [0, 1, 2, 3] rfl (z_X11_danger_b77 G x1 x2 x3)
    · refine rz_iload_n G 3 rfl rfl (dq jX11_danger 25 rfl) ?_
      refine rz_iconst G (v := (-1)) (dq jX11_danger 26 rfl) rfl ?_
      refine rz_icmp_ne G (tgt := 77) rfl (dq jX11_danger 27 rfl) (fun c2 => ?_) (fun c2 => ?_)
      · refine rz_aload_n G 0 rfl rfl (dq jX11_danger 28 rfl) ?_
        refine rz_getC G flX11_26 sh56 (t := 58) rfl rfl (dq jX11_danger 29 rfl) ?_
        refine rz_bipush G (v := 6) (dq jX11_danger 30 rfl) (by decide) ?_
        refine rz_iload_n G 1 rfl rfl (dq jX11_danger 31 rfl) ?_
        refine rz_imul G (dq jX11_danger 32 rfl) ?_
        refine rz_iconst G (v := 4) (dq jX11_danger 33 rfl) rfl ?_
        refine rz_iadd G (dq jX11_danger 34 rfl) ?_
        refine rz_iload G 4 rfl (dq jX11_danger 35 rfl) ?_
        refine rz_iast G sh58 (dq jX11_danger 36 rfl) ?_
        refine rz_aload_n G 0 rfl rfl (dq jX11_danger 37 rfl) ?_
        refine rz_callVv G (st := []) (c_X11_runsAll (cLn Γ)) lkX11_440 sh56 rfl rfl rfl (Nat.le_of_ble_eq_true rfl) (Nat.le_of_ble_eq_true rfl) (dq jX11_danger 38 rfl) rfl (fun _ => ?_)
        refine rz_aload_n G 0 rfl rfl (dq jX11_danger 39 rfl) ?_
        refine rz_callVi G (st := []) (c_X11_isHurt (cLn Γ)) lkX11_447 sh56 rfl rfl rfl (Nat.le_of_ble_eq_true rfl) (Nat.le_of_ble_eq_true rfl) (dq jX11_danger 40 rfl) rfl (fun r3 => ?_)
        refine rz_if_eq G (tgt := 71) rfl (dq jX11_danger 41 rfl) (fun c4 => ?_) (fun c4 => ?_)
        · exact rz_lv [0, 1, 2, 3, 4] rfl (z_X11_danger_b71 G (f_X11_danger_b32 fu) ih x1 x2 x3 x4)
        · refine rz_iload G 4 rfl (dq jX11_danger 42 rfl) ?_
          refine rz_istore_n G (lv' := [(3, .int x4), (0, .ref 56), (1, .int x1), (2, .int x2), (4, .int x4)]) rfl (Nat.le_of_ble_eq_true rfl) rfl (dq jX11_danger 43 rfl) ?_
          exact rz_lv [1, 2, 3, 0, 4] rfl (z_X11_danger_b71 G (f_X11_danger_b32 fu) ih x1 x2 x4 x4)
      · exact rz_lv [0, 1, 2, 3] rfl (z_X11_danger_b77 G x1 x2 x3)
theorem c_X11_danger (l : Launch) (x1 : Int32) : Ct l yX11_danger cX11_danger 5 (some .int) 6 encI [.ref 56, .int x1] (f_X11_danger x1) := by
  refine ct_of (own := RX11) (by decide) rfl (Nat.le_of_ble_eq_true rfl) (fun Γ hl G => ?_)
  show Rz Γ 5 (Qm Γ encI 0 0) 0 0 0 [(0, .ref 56), (1, .int x1)] [] _
  unfold f_X11_danger
  refine rz_aload_n G 0 rfl rfl (dq jX11_danger 0 rfl) ?_
  refine rz_iconst G (v := 0) (dq jX11_danger 1 rfl) rfl ?_
  refine rz_putI G flX11_148 sh56 rfl (dq jX11_danger 2 rfl) ?_
  refine rz_aload_n G 0 rfl rfl (dq jX11_danger 3 rfl) ?_
  refine rz_iload_n G 1 rfl rfl (dq jX11_danger 4 rfl) ?_
  refine rz_callVi G (st := []) (c_X11_isJumper (cLn Γ) x1) lkX11_350 sh56 rfl rfl rfl (Nat.le_of_ble_eq_true rfl) (Nat.le_of_ble_eq_true rfl) (dq jX11_danger 5 rfl) rfl (fun r1 => ?_)
  refine rz_if_ne G (tgt := 15) rfl (dq jX11_danger 6 rfl) (fun c2 => ?_) (fun c2 => ?_)
  · refine rz_iconst G (v := 0) (dq jX11_danger 7 rfl) rfl ?_
    exact rz_iret G (dq jX11_danger 8 rfl)
  · refine rz_aload_n G 0 rfl rfl (dq jX11_danger 9 rfl) ?_
    refine rz_getC G flX11_26 sh56 (t := 58) rfl rfl (dq jX11_danger 10 rfl) ?_
    refine rz_bipush G (v := 6) (dq jX11_danger 11 rfl) (by decide) ?_
    refine rz_iload_n G 1 rfl rfl (dq jX11_danger 12 rfl) ?_
    refine rz_imul G (dq jX11_danger 13 rfl) ?_
    refine rz_iconst G (v := 4) (dq jX11_danger 14 rfl) rfl ?_
    refine rz_iadd G (dq jX11_danger 15 rfl) ?_
    refine rz_iald G sh58 (dq jX11_danger 16 rfl) (fun v3 => ?_)
    refine rz_istore_n G (lv' := [(2, .int v3), (0, .ref 56), (1, .int x1)]) rfl (Nat.le_of_ble_eq_true rfl) rfl (dq jX11_danger 17 rfl) ?_
    refine rz_iconst G (v := (-1)) (dq jX11_danger 18 rfl) rfl ?_
    refine rz_istore_n G (lv' := [(3, .int ((-1))), (2, .int v3), (0, .ref 56), (1, .int x1)]) rfl (Nat.le_of_ble_eq_true rfl) rfl (dq jX11_danger 19 rfl) ?_
    refine rz_iconst G (v := 0) (dq jX11_danger 20 rfl) rfl ?_
    refine rz_istore G (lv' := [(4, .int 0), (3, .int ((-1))), (2, .int v3), (0, .ref 56), (1, .int x1)]) (Nat.le_of_ble_eq_true rfl) rfl (dq jX11_danger 21 rfl) ?_
    exact rz_lv [3, 4, 2, 1, 0] rfl (z_X11_danger_b32 G FU x1 v3 ((-1)) 0)
theorem z_X11_pairsOf_b54 {Γ : Cx} (G : GG Γ RX11 cX11_pairsOf 4 (some .int) 5 0 0) (k4 : Int32 → Int32 → Sg → Option (Int32 × Sg)) (hk4 : ∀ (x1 : Int32) (x2 : Int32), Rz Γ 4 (Qm Γ encI 0 0) 0 0 4 [(0, .ref 56), (1, .int x1), (2, .int x2)] [] (k4 x1 x2)) (k16 : Int32 → Int32 → Int32 → Sg → Option (Int32 × Sg)) (hk16 : ∀ (x1 : Int32) (x2 : Int32) (x3 : Int32), Rz Γ 4 (Qm Γ encI 0 0) 0 0 16 [(0, .ref 56), (1, .int x1), (2, .int x2), (3, .int x3)] [] (k16 x1 x2 x3)) (x2 : Int32) (x3 : Int32) (xs0 : Int32) (xs1 : Int32) : Rz Γ 4 (Qm Γ encI 0 0) 0 0 54 [(0, .ref 56), (2, .int x2), (3, .int x3)] [.int xs0, .int xs1] (f_X11_pairsOf_b54 k4 k16 x2 x3 xs0 xs1) := by
  unfold f_X11_pairsOf_b54
  refine rz_ior G (dq jX11_pairsOf 38 rfl) ?_
  refine rz_istore_n G (lv' := [(1, .int (xs1 ||| xs0)), (0, .ref 56), (2, .int x2), (3, .int x3)]) rfl (Nat.le_of_ble_eq_true rfl) rfl (dq jX11_pairsOf 39 rfl) ?_
  refine rz_iinc G 3 (v := x3 + 1) (lv' := [(3, .int (x3 + 1)), (1, .int (xs1 ||| xs0)), (0, .ref 56), (2, .int x2)]) rfl (congrArg (HAdd.hAdd _) (by decide)) (Nat.le_of_ble_eq_true rfl) rfl (dq jX11_pairsOf 40 rfl) ?_
  refine rz_goto G (tgt := 16) rfl (dq jX11_pairsOf 41 rfl) ?_
  exact rz_lv [2, 1, 3, 0] rfl (hk16 (xs1 ||| xs0) x2 (x3 + 1))
theorem z_X11_pairsOf_b62 {Γ : Cx} (G : GG Γ RX11 cX11_pairsOf 4 (some .int) 5 0 0) (k4 : Int32 → Int32 → Sg → Option (Int32 × Sg)) (hk4 : ∀ (x1 : Int32) (x2 : Int32), Rz Γ 4 (Qm Γ encI 0 0) 0 0 4 [(0, .ref 56), (1, .int x1), (2, .int x2)] [] (k4 x1 x2)) (x1 : Int32) (x2 : Int32) : Rz Γ 4 (Qm Γ encI 0 0) 0 0 62 [(0, .ref 56), (1, .int x1), (2, .int x2)] [] (f_X11_pairsOf_b62 k4 x1 x2) := by
  unfold f_X11_pairsOf_b62
  refine rz_iinc G 2 (v := x2 + 1) (lv' := [(2, .int (x2 + 1)), (0, .ref 56), (1, .int x1)]) rfl (congrArg (HAdd.hAdd _) (by decide)) (Nat.le_of_ble_eq_true rfl) rfl (dq jX11_pairsOf 42 rfl) ?_
  refine rz_goto G (tgt := 4) rfl (dq jX11_pairsOf 43 rfl) ?_
  exact rz_lv [1, 2, 0] rfl (hk4 x1 (x2 + 1))
theorem z_X11_pairsOf_b16 {Γ : Cx} (G : GG Γ RX11 cX11_pairsOf 4 (some .int) 5 0 0) (k4 : Int32 → Int32 → Sg → Option (Int32 × Sg)) (hk4 : ∀ (x1 : Int32) (x2 : Int32), Rz Γ 4 (Qm Γ encI 0 0) 0 0 4 [(0, .ref 56), (1, .int x1), (2, .int x2)] [] (k4 x1 x2)) : ∀ (fu : Nat) (x1 : Int32) (x2 : Int32) (x3 : Int32), Rz Γ 4 (Qm Γ encI 0 0) 0 0 16 [(0, .ref 56), (1, .int x1), (2, .int x2), (3, .int x3)] [] (f_X11_pairsOf_b16 k4 fu x1 x2 x3) := by
  intro fu
  induction fu with
  | zero => intro _ _ _; exact rz_none
  | succ fu ih =>
    intro x1 x2 x3
    rw [f_X11_pairsOf_b16]
    refine rz_iload_n G 3 rfl rfl (dq jX11_pairsOf 12 rfl) ?_
    refine rz_aload_n G 0 rfl rfl (dq jX11_pairsOf 13 rfl) ?_
    refine rz_getI G flX11_323 sh56 rfl (dq jX11_pairsOf 14 rfl) (fun v1 => ?_)
    refine rz_icmp_ge G (tgt := 62) rfl (dq jX11_pairsOf 15 rfl) (fun c2 => ?_) (fun c2 => ?_)
    · exact rz_lv [0, 1, 2] rfl (z_X11_pairsOf_b62 G k4 hk4 x1 x2)
    · refine rz_aload_n G 0 rfl rfl (dq jX11_pairsOf 16 rfl) ?_
      refine rz_iconst G (v := 1) (dq jX11_pairsOf 17 rfl) rfl ?_
      refine rz_iload_n G 2 rfl rfl (dq jX11_pairsOf 18 rfl) ?_
      refine rz_ishl G (dq jX11_pairsOf 19 rfl) ?_
      refine rz_iconst G (v := 1) (dq jX11_pairsOf 20 rfl) rfl ?_
      refine rz_iload_n G 3 rfl rfl (dq jX11_pairsOf 21 rfl) ?_
      refine rz_ishl G (dq jX11_pairsOf 22 rfl) ?_
      refine rz_ior G (dq jX11_pairsOf 23 rfl) ?_
      refine rz_callVv G (st := []) (c_X11_runs (cLn Γ) (((1 : Int32) <<< (x2 &&& 31)) ||| ((1 : Int32) <<< (x3 &&& 31)))) lkX11_437 sh56 rfl rfl rfl (Nat.le_of_ble_eq_true rfl) (Nat.le_of_ble_eq_true rfl) (dq jX11_pairsOf 24 rfl) rfl (fun _ => ?_)
      refine rz_iload_n G 1 rfl rfl (dq jX11_pairsOf 25 rfl) ?_
      refine rz_aload_n G 0 rfl rfl (dq jX11_pairsOf 26 rfl) ?_
      refine rz_callVi G (st := [.int x1]) (c_X11_isHurt (cLn Γ)) lkX11_447 sh56 rfl rfl rfl (Nat.le_of_ble_eq_true rfl) (Nat.le_of_ble_eq_true rfl) (dq jX11_pairsOf 27 rfl) rfl (fun r3 => ?_)
      refine rz_if_eq G (tgt := 53) rfl (dq jX11_pairsOf 28 rfl) (fun c4 => ?_) (fun c4 => ?_)
      · refine rz_iconst G (v := 0) (dq jX11_pairsOf 37 rfl) rfl ?_
        exact rz_lv [0, 2, 3] rfl (z_X11_pairsOf_b54 G k4 hk4 (f_X11_pairsOf_b16 k4 fu) ih x2 x3 0 x1)
      · refine rz_iconst G (v := 1) (dq jX11_pairsOf 29 rfl) rfl ?_
        refine rz_iconst G (v := 4) (dq jX11_pairsOf 30 rfl) rfl ?_
        refine rz_iload_n G 2 rfl rfl (dq jX11_pairsOf 31 rfl) ?_
        refine rz_imul G (dq jX11_pairsOf 32 rfl) ?_
        refine rz_iload_n G 3 rfl rfl (dq jX11_pairsOf 33 rfl) ?_
        refine rz_iadd G (dq jX11_pairsOf 34 rfl) ?_
        refine rz_ishl G (dq jX11_pairsOf 35 rfl) ?_
        refine rz_goto G (tgt := 54) rfl (dq jX11_pairsOf 36 rfl) ?_
        exact rz_lv [0, 2, 3] rfl (z_X11_pairsOf_b54 G k4 hk4 (f_X11_pairsOf_b16 k4 fu) ih x2 x3 ((1 : Int32) <<< (((4 * x2) + x3) &&& 31)) x1)
theorem z_X11_pairsOf_b4 {Γ : Cx} (G : GG Γ RX11 cX11_pairsOf 4 (some .int) 5 0 0) : ∀ (fu : Nat) (x1 : Int32) (x2 : Int32), Rz Γ 4 (Qm Γ encI 0 0) 0 0 4 [(0, .ref 56), (1, .int x1), (2, .int x2)] [] (f_X11_pairsOf_b4 fu x1 x2) := by
  intro fu
  induction fu with
  | zero => intro _ _; exact rz_none
  | succ fu ih =>
    intro x1 x2
    rw [f_X11_pairsOf_b4]
    refine rz_iload_n G 2 rfl rfl (dq jX11_pairsOf 4 rfl) ?_
    refine rz_aload_n G 0 rfl rfl (dq jX11_pairsOf 5 rfl) ?_
    refine rz_getI G flX11_323 sh56 rfl (dq jX11_pairsOf 6 rfl) (fun v1 => ?_)
    refine rz_icmp_ge G (tgt := 68) rfl (dq jX11_pairsOf 7 rfl) (fun c2 => ?_) (fun c2 => ?_)
    · refine rz_iload_n G 1 rfl rfl (dq jX11_pairsOf 44 rfl) ?_
      exact rz_iret G (dq jX11_pairsOf 45 rfl)
    · refine rz_iload_n G 2 rfl rfl (dq jX11_pairsOf 8 rfl) ?_
      refine rz_iconst G (v := 1) (dq jX11_pairsOf 9 rfl) rfl ?_
      refine rz_iadd G (dq jX11_pairsOf 10 rfl) ?_
      refine rz_istore_n G (lv' := [(3, .int (x2 + 1)), (0, .ref 56), (1, .int x1), (2, .int x2)]) rfl (Nat.le_of_ble_eq_true rfl) rfl (dq jX11_pairsOf 11 rfl) ?_
      exact rz_lv [1, 2, 3, 0] rfl (z_X11_pairsOf_b16 G (f_X11_pairsOf_b4 fu) ih FU x1 x2 (x2 + 1))
theorem c_X11_pairsOf (l : Launch)  : Ct l yX11_pairsOf cX11_pairsOf 4 (some .int) 5 encI [.ref 56] (f_X11_pairsOf ) := by
  refine ct_of (own := RX11) (by decide) rfl (Nat.le_of_ble_eq_true rfl) (fun Γ hl G => ?_)
  show Rz Γ 4 (Qm Γ encI 0 0) 0 0 0 [(0, .ref 56)] [] _
  unfold f_X11_pairsOf
  refine rz_iconst G (v := 0) (dq jX11_pairsOf 0 rfl) rfl ?_
  refine rz_istore_n G (lv' := [(1, .int 0), (0, .ref 56)]) rfl (Nat.le_of_ble_eq_true rfl) rfl (dq jX11_pairsOf 1 rfl) ?_
  refine rz_iconst G (v := 0) (dq jX11_pairsOf 2 rfl) rfl ?_
  refine rz_istore_n G (lv' := [(2, .int 0), (1, .int 0), (0, .ref 56)]) rfl (Nat.le_of_ble_eq_true rfl) rfl (dq jX11_pairsOf 3 rfl) ?_
  exact rz_lv [2, 1, 0] rfl (z_X11_pairsOf_b4 G FU 0 0)
theorem c_X11_pairs (l : Launch)  : Ct l yX11_pairs cX11_pairs 1 (some .int) 6 encI [.ref 56] (f_X11_pairs ) := by
  refine ct_of (own := RX11) (by decide) rfl (Nat.le_of_ble_eq_true rfl) (fun Γ hl G => ?_)
  show Rz Γ 1 (Qm Γ encI 0 0) 0 0 0 [(0, .ref 56)] [] _
  unfold f_X11_pairs
  refine rz_aload_n G 0 rfl rfl (dq jX11_pairs 0 rfl) ?_
  refine rz_iconst G (v := 0) (dq jX11_pairs 1 rfl) rfl ?_
  refine rz_putI G flX11_148 sh56 rfl (dq jX11_pairs 2 rfl) ?_
  refine rz_aload_n G 0 rfl rfl (dq jX11_pairs 3 rfl) ?_
  refine rz_callVi G (st := []) (c_X11_pairsOf (cLn Γ)) lkX11_450 sh56 rfl rfl rfl (Nat.le_of_ble_eq_true rfl) (Nat.le_of_ble_eq_true rfl) (dq jX11_pairs 4 rfl) rfl (fun r1 => ?_)
  exact rz_iret G (dq jX11_pairs 5 rfl)
theorem z_X11_apart_b103 {Γ : Cx} (G : GG Γ RX11 cX11_apart 6 (some .int) 6 0 0) (k12 : Int32 → Int32 → Sg → Option (Int32 × Sg)) (hk12 : ∀ (x1 : Int32) (x2 : Int32), Rz Γ 6 (Qm Γ encI 0 0) 0 0 12 [(0, .ref 56), (1, .int x1), (2, .int x2)] [] (k12 x1 x2)) (k23 : Int32 → Int32 → Int32 → Int32 → Sg → Option (Int32 × Sg)) (hk23 : ∀ (x1 : Int32) (x2 : Int32) (x3 : Int32) (x4 : Int32), Rz Γ 6 (Qm Γ encI 0 0) 0 0 23 [(0, .ref 56), (1, .int x1), (2, .int x2), (3, .int x3), (4, .int x4)] [] (k23 x1 x2 x3 x4)) (k38 : Int32 → Int32 → Int32 → Int32 → Int32 → Sg → Option (Int32 × Sg)) (hk38 : ∀ (x1 : Int32) (x2 : Int32) (x3 : Int32) (x4 : Int32) (x5 : Int32), Rz Γ 6 (Qm Γ encI 0 0) 0 0 38 [(0, .ref 56), (1, .int x1), (2, .int x2), (3, .int x3), (4, .int x4), (5, .int x5)] [] (k38 x1 x2 x3 x4 x5)) (x1 : Int32) (x2 : Int32) (x4 : Int32) (x5 : Int32) (xs0 : Int32) : Rz Γ 6 (Qm Γ encI 0 0) 0 0 103 [(0, .ref 56), (1, .int x1), (2, .int x2), (4, .int x4), (5, .int x5)] [.int xs0] (f_X11_apart_b103 k12 k23 k38 x1 x2 x4 x5 xs0) := by
  unfold f_X11_apart_b103
  refine rz_istore_n G (lv' := [(3, .int xs0), (0, .ref 56), (1, .int x1), (2, .int x2), (4, .int x4), (5, .int x5)]) rfl (Nat.le_of_ble_eq_true rfl) rfl (dq jX11_apart 59 rfl) ?_
  refine rz_iinc G 5 (v := x5 + 1) (lv' := [(5, .int (x5 + 1)), (3, .int xs0), (0, .ref 56), (1, .int x1), (2, .int x2), (4, .int x4)]) rfl (congrArg (HAdd.hAdd _) (by decide)) (Nat.le_of_ble_eq_true rfl) rfl (dq jX11_apart 60 rfl) ?_
  refine rz_goto G (tgt := 38) rfl (dq jX11_apart 61 rfl) ?_
  exact rz_lv [2, 3, 4, 1, 5, 0] rfl (hk38 x1 x2 xs0 x4 (x5 + 1))
theorem z_X11_apart_b102 {Γ : Cx} (G : GG Γ RX11 cX11_apart 6 (some .int) 6 0 0) (k12 : Int32 → Int32 → Sg → Option (Int32 × Sg)) (hk12 : ∀ (x1 : Int32) (x2 : Int32), Rz Γ 6 (Qm Γ encI 0 0) 0 0 12 [(0, .ref 56), (1, .int x1), (2, .int x2)] [] (k12 x1 x2)) (k23 : Int32 → Int32 → Int32 → Int32 → Sg → Option (Int32 × Sg)) (hk23 : ∀ (x1 : Int32) (x2 : Int32) (x3 : Int32) (x4 : Int32), Rz Γ 6 (Qm Γ encI 0 0) 0 0 23 [(0, .ref 56), (1, .int x1), (2, .int x2), (3, .int x3), (4, .int x4)] [] (k23 x1 x2 x3 x4)) (k38 : Int32 → Int32 → Int32 → Int32 → Int32 → Sg → Option (Int32 × Sg)) (hk38 : ∀ (x1 : Int32) (x2 : Int32) (x3 : Int32) (x4 : Int32) (x5 : Int32), Rz Γ 6 (Qm Γ encI 0 0) 0 0 38 [(0, .ref 56), (1, .int x1), (2, .int x2), (3, .int x3), (4, .int x4), (5, .int x5)] [] (k38 x1 x2 x3 x4 x5)) (x1 : Int32) (x2 : Int32) (x4 : Int32) (x5 : Int32) : Rz Γ 6 (Qm Γ encI 0 0) 0 0 102 [(0, .ref 56), (1, .int x1), (2, .int x2), (4, .int x4), (5, .int x5)] [] (f_X11_apart_b102 k12 k23 k38 x1 x2 x4 x5) := by
  unfold f_X11_apart_b102
  refine rz_iconst G (v := 0) (dq jX11_apart 58 rfl) rfl ?_
  exact rz_lv [0, 1, 2, 3, 4] rfl (z_X11_apart_b103 G k12 hk12 k23 hk23 k38 hk38 x1 x2 x4 x5 0)
theorem z_X11_apart_b95 {Γ : Cx} (G : GG Γ RX11 cX11_apart 6 (some .int) 6 0 0) (k12 : Int32 → Int32 → Sg → Option (Int32 × Sg)) (hk12 : ∀ (x1 : Int32) (x2 : Int32), Rz Γ 6 (Qm Γ encI 0 0) 0 0 12 [(0, .ref 56), (1, .int x1), (2, .int x2)] [] (k12 x1 x2)) (k23 : Int32 → Int32 → Int32 → Int32 → Sg → Option (Int32 × Sg)) (hk23 : ∀ (x1 : Int32) (x2 : Int32) (x3 : Int32) (x4 : Int32), Rz Γ 6 (Qm Γ encI 0 0) 0 0 23 [(0, .ref 56), (1, .int x1), (2, .int x2), (3, .int x3), (4, .int x4)] [] (k23 x1 x2 x3 x4)) (k38 : Int32 → Int32 → Int32 → Int32 → Int32 → Sg → Option (Int32 × Sg)) (hk38 : ∀ (x1 : Int32) (x2 : Int32) (x3 : Int32) (x4 : Int32) (x5 : Int32), Rz Γ 6 (Qm Γ encI 0 0) 0 0 38 [(0, .ref 56), (1, .int x1), (2, .int x2), (3, .int x3), (4, .int x4), (5, .int x5)] [] (k38 x1 x2 x3 x4 x5)) (x1 : Int32) (x2 : Int32) (x4 : Int32) (x5 : Int32) (xs0 : Int32) (xs1 : Int32) : Rz Γ 6 (Qm Γ encI 0 0) 0 0 95 [(0, .ref 56), (1, .int x1), (2, .int x2), (4, .int x4), (5, .int x5)] [.int xs0, .int xs1] (f_X11_apart_b95 k12 k23 k38 x1 x2 x4 x5 xs0 xs1) := by
  unfold f_X11_apart_b95
  refine rz_icmp_ne G (tgt := 102) rfl (dq jX11_apart 55 rfl) (fun c1 => ?_) (fun c1 => ?_)
  · refine rz_iconst G (v := 1) (dq jX11_apart 56 rfl) rfl ?_
    refine rz_goto G (tgt := 103) rfl (dq jX11_apart 57 rfl) ?_
    exact rz_lv [0, 1, 2, 3, 4] rfl (z_X11_apart_b103 G k12 hk12 k23 hk23 k38 hk38 x1 x2 x4 x5 1)
  · exact rz_lv [0, 1, 2, 3, 4] rfl (z_X11_apart_b102 G k12 hk12 k23 hk23 k38 hk38 x1 x2 x4 x5)
theorem z_X11_apart_b71 {Γ : Cx} (G : GG Γ RX11 cX11_apart 6 (some .int) 6 0 0) (k12 : Int32 → Int32 → Sg → Option (Int32 × Sg)) (hk12 : ∀ (x1 : Int32) (x2 : Int32), Rz Γ 6 (Qm Γ encI 0 0) 0 0 12 [(0, .ref 56), (1, .int x1), (2, .int x2)] [] (k12 x1 x2)) (k23 : Int32 → Int32 → Int32 → Int32 → Sg → Option (Int32 × Sg)) (hk23 : ∀ (x1 : Int32) (x2 : Int32) (x3 : Int32) (x4 : Int32), Rz Γ 6 (Qm Γ encI 0 0) 0 0 23 [(0, .ref 56), (1, .int x1), (2, .int x2), (3, .int x3), (4, .int x4)] [] (k23 x1 x2 x3 x4)) (k38 : Int32 → Int32 → Int32 → Int32 → Int32 → Sg → Option (Int32 × Sg)) (hk38 : ∀ (x1 : Int32) (x2 : Int32) (x3 : Int32) (x4 : Int32) (x5 : Int32), Rz Γ 6 (Qm Γ encI 0 0) 0 0 38 [(0, .ref 56), (1, .int x1), (2, .int x2), (3, .int x3), (4, .int x4), (5, .int x5)] [] (k38 x1 x2 x3 x4 x5)) (x1 : Int32) (x2 : Int32) (x4 : Int32) (x5 : Int32) (xs0 : Int32) : Rz Γ 6 (Qm Γ encI 0 0) 0 0 71 [(0, .ref 56), (1, .int x1), (2, .int x2), (4, .int x4), (5, .int x5)] [.int xs0] (f_X11_apart_b71 k12 k23 k38 x1 x2 x4 x5 xs0) := by
  unfold f_X11_apart_b71
  refine rz_aload_n G 0 rfl rfl (dq jX11_apart 43 rfl) ?_
  refine rz_iload G 3 rfl (dq jX11_apart 44 rfl) ?_
  refine rz_callVi G (st := [.int xs0]) (c_X11_weight (cLn Γ) x4) lkX11_364 sh56 rfl rfl rfl (Nat.le_of_ble_eq_true rfl) (Nat.le_of_ble_eq_true rfl) (dq jX11_apart 45 rfl) rfl (fun r1 => ?_)
  refine rz_aload_n G 0 rfl rfl (dq jX11_apart 46 rfl) ?_
  refine rz_iload G 4 rfl (dq jX11_apart 47 rfl) ?_
  refine rz_callVi G (st := [.int r1, .int xs0]) (c_X11_weight (cLn Γ) x5) lkX11_364 sh56 rfl rfl rfl (Nat.le_of_ble_eq_true rfl) (Nat.le_of_ble_eq_true rfl) (dq jX11_apart 48 rfl) rfl (fun r2 => ?_)
  refine rz_callSi G (st := [.int xs0]) (c_X11_off (cLn Γ) r1 r2) lkX11_391 rfl (Nat.le_of_ble_eq_true rfl) (Nat.le_of_ble_eq_true rfl) (dq jX11_apart 49 rfl) rfl (fun r3 => ?_)
  refine rz_iload_n G 2 rfl rfl (dq jX11_apart 50 rfl) ?_
  refine rz_icmp_lt G (tgt := 94) rfl (dq jX11_apart 51 rfl) (fun c4 => ?_) (fun c4 => ?_)
  · refine rz_iconst G (v := 0) (dq jX11_apart 54 rfl) rfl ?_
    exact rz_lv [0, 1, 2, 3, 4] rfl (z_X11_apart_b95 G k12 hk12 k23 hk23 k38 hk38 x1 x2 x4 x5 0 xs0)
  · refine rz_iconst G (v := 1) (dq jX11_apart 52 rfl) rfl ?_
    refine rz_goto G (tgt := 95) rfl (dq jX11_apart 53 rfl) ?_
    exact rz_lv [0, 1, 2, 3, 4] rfl (z_X11_apart_b95 G k12 hk12 k23 hk23 k38 hk38 x1 x2 x4 x5 1 xs0)
theorem z_X11_apart_b110 {Γ : Cx} (G : GG Γ RX11 cX11_apart 6 (some .int) 6 0 0) (k12 : Int32 → Int32 → Sg → Option (Int32 × Sg)) (hk12 : ∀ (x1 : Int32) (x2 : Int32), Rz Γ 6 (Qm Γ encI 0 0) 0 0 12 [(0, .ref 56), (1, .int x1), (2, .int x2)] [] (k12 x1 x2)) (k23 : Int32 → Int32 → Int32 → Int32 → Sg → Option (Int32 × Sg)) (hk23 : ∀ (x1 : Int32) (x2 : Int32) (x3 : Int32) (x4 : Int32), Rz Γ 6 (Qm Γ encI 0 0) 0 0 23 [(0, .ref 56), (1, .int x1), (2, .int x2), (3, .int x3), (4, .int x4)] [] (k23 x1 x2 x3 x4)) (x1 : Int32) (x2 : Int32) (x3 : Int32) (x4 : Int32) : Rz Γ 6 (Qm Γ encI 0 0) 0 0 110 [(0, .ref 56), (1, .int x1), (2, .int x2), (3, .int x3), (4, .int x4)] [] (f_X11_apart_b110 k12 k23 x1 x2 x3 x4) := by
  unfold f_X11_apart_b110
  refine rz_iinc G 4 (v := x4 + 1) (lv' := [(4, .int (x4 + 1)), (0, .ref 56), (1, .int x1), (2, .int x2), (3, .int x3)]) rfl (congrArg (HAdd.hAdd _) (by decide)) (Nat.le_of_ble_eq_true rfl) rfl (dq jX11_apart 62 rfl) ?_
  refine rz_goto G (tgt := 23) rfl (dq jX11_apart 63 rfl) ?_
  exact rz_lv [1, 2, 3, 4, 0] rfl (hk23 x1 x2 x3 (x4 + 1))
theorem z_X11_apart_b38 {Γ : Cx} (G : GG Γ RX11 cX11_apart 6 (some .int) 6 0 0) (k12 : Int32 → Int32 → Sg → Option (Int32 × Sg)) (hk12 : ∀ (x1 : Int32) (x2 : Int32), Rz Γ 6 (Qm Γ encI 0 0) 0 0 12 [(0, .ref 56), (1, .int x1), (2, .int x2)] [] (k12 x1 x2)) (k23 : Int32 → Int32 → Int32 → Int32 → Sg → Option (Int32 × Sg)) (hk23 : ∀ (x1 : Int32) (x2 : Int32) (x3 : Int32) (x4 : Int32), Rz Γ 6 (Qm Γ encI 0 0) 0 0 23 [(0, .ref 56), (1, .int x1), (2, .int x2), (3, .int x3), (4, .int x4)] [] (k23 x1 x2 x3 x4)) : ∀ (fu : Nat) (x1 : Int32) (x2 : Int32) (x3 : Int32) (x4 : Int32) (x5 : Int32), Rz Γ 6 (Qm Γ encI 0 0) 0 0 38 [(0, .ref 56), (1, .int x1), (2, .int x2), (3, .int x3), (4, .int x4), (5, .int x5)] [] (f_X11_apart_b38 k12 k23 fu x1 x2 x3 x4 x5) := by
  intro fu
  induction fu with
  | zero => intro _ _ _ _ _; exact rz_none
  | succ fu ih =>
    intro x1 x2 x3 x4 x5
    rw [f_X11_apart_b38]
    refine rz_iload G 5 rfl (dq jX11_apart 23 rfl) ?_
    refine rz_aload_n G 0 rfl rfl (dq jX11_apart 24 rfl) ?_
    refine rz_getI G flX11_323 sh56 rfl (dq jX11_apart 25 rfl) (fun v1 => ?_)
    refine rz_icmp_ge G (tgt := 110) rfl (dq jX11_apart 26 rfl) (fun c2 => ?_) (fun c2 => ?_)
    · exact rz_lv [0, 1, 2, 3, 4] rfl (z_X11_apart_b110 G k12 hk12 k23 hk23 x1 x2 x3 x4)
    · refine rz_iload_n G 3 rfl rfl (dq jX11_apart 27 rfl) ?_
      refine rz_if_eq G (tgt := 102) rfl (dq jX11_apart 28 rfl) (fun c3 => ?_) (fun c3 => ?_)
      · exact rz_lv [0, 1, 2, 4, 5] rfl (z_X11_apart_b102 G k12 hk12 k23 hk23 (f_X11_apart_b38 k12 k23 fu) ih x1 x2 x4 x5)
      · refine rz_iload_n G 1 rfl rfl (dq jX11_apart 29 rfl) ?_
        refine rz_iconst G (v := 4) (dq jX11_apart 30 rfl) rfl ?_
        refine rz_iload G 4 rfl (dq jX11_apart 31 rfl) ?_
        refine rz_imul G (dq jX11_apart 32 rfl) ?_
        refine rz_iload G 5 rfl (dq jX11_apart 33 rfl) ?_
        refine rz_iadd G (dq jX11_apart 34 rfl) ?_
        refine rz_ishr G (dq jX11_apart 35 rfl) ?_
        refine rz_iconst G (v := 1) (dq jX11_apart 36 rfl) rfl ?_
        refine rz_iand G (dq jX11_apart 37 rfl) ?_
        refine rz_iconst G (v := 1) (dq jX11_apart 38 rfl) rfl ?_
        refine rz_icmp_ne G (tgt := 70) rfl (dq jX11_apart 39 rfl) (fun c4 => ?_) (fun c4 => ?_)
        · refine rz_iconst G (v := 1) (dq jX11_apart 40 rfl) rfl ?_
          refine rz_goto G (tgt := 71) rfl (dq jX11_apart 41 rfl) ?_
          exact rz_lv [0, 1, 2, 4, 5] rfl (z_X11_apart_b71 G k12 hk12 k23 hk23 (f_X11_apart_b38 k12 k23 fu) ih x1 x2 x4 x5 1)
        · refine rz_iconst G (v := 0) (dq jX11_apart 42 rfl) rfl ?_
          exact rz_lv [0, 1, 2, 4, 5] rfl (z_X11_apart_b71 G k12 hk12 k23 hk23 (f_X11_apart_b38 k12 k23 fu) ih x1 x2 x4 x5 0)
theorem z_X11_apart_b116 {Γ : Cx} (G : GG Γ RX11 cX11_apart 6 (some .int) 6 0 0) (k12 : Int32 → Int32 → Sg → Option (Int32 × Sg)) (hk12 : ∀ (x1 : Int32) (x2 : Int32), Rz Γ 6 (Qm Γ encI 0 0) 0 0 12 [(0, .ref 56), (1, .int x1), (2, .int x2)] [] (k12 x1 x2)) (x1 : Int32) (x2 : Int32) (x3 : Int32) : Rz Γ 6 (Qm Γ encI 0 0) 0 0 116 [(0, .ref 56), (1, .int x1), (2, .int x2), (3, .int x3)] [] (f_X11_apart_b116 k12 x1 x2 x3) := by
  unfold f_X11_apart_b116
  refine rz_iload_n G 3 rfl rfl (dq jX11_apart 64 rfl) ?_
  refine rz_if_eq G (tgt := 122) rfl (dq jX11_apart 65 rfl) (fun c1 => ?_) (fun c1 => ?_)
  · refine rz_iinc G 2 (v := x2 + 1) (lv' := [(2, .int (x2 + 1)), (0, .ref 56), (1, .int x1), (3, .int x3)]) rfl (congrArg (HAdd.hAdd _) (by decide)) (Nat.le_of_ble_eq_true rfl) rfl (dq jX11_apart 68 rfl) ?_
    refine rz_goto G (tgt := 12) rfl (dq jX11_apart 69 rfl) ?_
    exact rz_lv [1, 2, 0] rfl (hk12 x1 (x2 + 1))
  · refine rz_iload_n G 2 rfl rfl (dq jX11_apart 66 rfl) ?_
    exact rz_iret G (dq jX11_apart 67 rfl)
theorem z_X11_apart_b23 {Γ : Cx} (G : GG Γ RX11 cX11_apart 6 (some .int) 6 0 0) (k12 : Int32 → Int32 → Sg → Option (Int32 × Sg)) (hk12 : ∀ (x1 : Int32) (x2 : Int32), Rz Γ 6 (Qm Γ encI 0 0) 0 0 12 [(0, .ref 56), (1, .int x1), (2, .int x2)] [] (k12 x1 x2)) : ∀ (fu : Nat) (x1 : Int32) (x2 : Int32) (x3 : Int32) (x4 : Int32), Rz Γ 6 (Qm Γ encI 0 0) 0 0 23 [(0, .ref 56), (1, .int x1), (2, .int x2), (3, .int x3), (4, .int x4)] [] (f_X11_apart_b23 k12 fu x1 x2 x3 x4) := by
  intro fu
  induction fu with
  | zero => intro _ _ _ _; exact rz_none
  | succ fu ih =>
    intro x1 x2 x3 x4
    rw [f_X11_apart_b23]
    refine rz_iload G 4 rfl (dq jX11_apart 15 rfl) ?_
    refine rz_aload_n G 0 rfl rfl (dq jX11_apart 16 rfl) ?_
    refine rz_getI G flX11_323 sh56 rfl (dq jX11_apart 17 rfl) (fun v1 => ?_)
    refine rz_icmp_ge G (tgt := 116) rfl (dq jX11_apart 18 rfl) (fun c2 => ?_) (fun c2 => ?_)
    · exact rz_lv [0, 1, 2, 3] rfl (z_X11_apart_b116 G k12 hk12 x1 x2 x3)
    · refine rz_iload G 4 rfl (dq jX11_apart 19 rfl) ?_
      refine rz_iconst G (v := 1) (dq jX11_apart 20 rfl) rfl ?_
      refine rz_iadd G (dq jX11_apart 21 rfl) ?_
      refine rz_istore G (lv' := [(5, .int (x4 + 1)), (0, .ref 56), (1, .int x1), (2, .int x2), (3, .int x3), (4, .int x4)]) (Nat.le_of_ble_eq_true rfl) rfl (dq jX11_apart 22 rfl) ?_
      exact rz_lv [1, 2, 3, 4, 5, 0] rfl (z_X11_apart_b38 G k12 hk12 (f_X11_apart_b23 k12 fu) ih FU x1 x2 x3 x4 (x4 + 1))
theorem z_X11_apart_b12 {Γ : Cx} (G : GG Γ RX11 cX11_apart 6 (some .int) 6 0 0) : ∀ (fu : Nat) (x1 : Int32) (x2 : Int32), Rz Γ 6 (Qm Γ encI 0 0) 0 0 12 [(0, .ref 56), (1, .int x1), (2, .int x2)] [] (f_X11_apart_b12 fu x1 x2) := by
  intro fu
  induction fu with
  | zero => intro _ _; exact rz_none
  | succ fu ih =>
    intro x1 x2
    rw [f_X11_apart_b12]
    refine rz_iload_n G 2 rfl rfl (dq jX11_apart 8 rfl) ?_
    refine rz_bipush G (v := 99) (dq jX11_apart 9 rfl) (by decide) ?_
    refine rz_icmp_gt G (tgt := 128) rfl (dq jX11_apart 10 rfl) (fun c1 => ?_) (fun c1 => ?_)
    · refine rz_iconst G (v := (-1)) (dq jX11_apart 70 rfl) rfl ?_
      exact rz_iret G (dq jX11_apart 71 rfl)
    · refine rz_iconst G (v := 1) (dq jX11_apart 11 rfl) rfl ?_
      refine rz_istore_n G (lv' := [(3, .int 1), (0, .ref 56), (1, .int x1), (2, .int x2)]) rfl (Nat.le_of_ble_eq_true rfl) rfl (dq jX11_apart 12 rfl) ?_
      refine rz_iconst G (v := 0) (dq jX11_apart 13 rfl) rfl ?_
      refine rz_istore G (lv' := [(4, .int 0), (3, .int 1), (0, .ref 56), (1, .int x1), (2, .int x2)]) (Nat.le_of_ble_eq_true rfl) rfl (dq jX11_apart 14 rfl) ?_
      exact rz_lv [2, 3, 4, 1, 0] rfl (z_X11_apart_b23 G (f_X11_apart_b12 fu) ih FU x1 x2 1 0)
theorem c_X11_apart (l : Launch)  : Ct l yX11_apart cX11_apart 6 (some .int) 6 encI [.ref 56] (f_X11_apart ) := by
  refine ct_of (own := RX11) (by decide) rfl (Nat.le_of_ble_eq_true rfl) (fun Γ hl G => ?_)
  show Rz Γ 6 (Qm Γ encI 0 0) 0 0 0 [(0, .ref 56)] [] _
  unfold f_X11_apart
  refine rz_aload_n G 0 rfl rfl (dq jX11_apart 0 rfl) ?_
  refine rz_iconst G (v := 0) (dq jX11_apart 1 rfl) rfl ?_
  refine rz_putI G flX11_148 sh56 rfl (dq jX11_apart 2 rfl) ?_
  refine rz_aload_n G 0 rfl rfl (dq jX11_apart 3 rfl) ?_
  refine rz_callVi G (st := []) (c_X11_pairsOf (cLn Γ)) lkX11_450 sh56 rfl rfl rfl (Nat.le_of_ble_eq_true rfl) (Nat.le_of_ble_eq_true rfl) (dq jX11_apart 4 rfl) rfl (fun r1 => ?_)
  refine rz_istore_n G (lv' := [(1, .int r1), (0, .ref 56)]) rfl (Nat.le_of_ble_eq_true rfl) rfl (dq jX11_apart 5 rfl) ?_
  refine rz_iconst G (v := 0) (dq jX11_apart 6 rfl) rfl ?_
  refine rz_istore_n G (lv' := [(2, .int 0), (1, .int r1), (0, .ref 56)]) rfl (Nat.le_of_ble_eq_true rfl) rfl (dq jX11_apart 7 rfl) ?_
  exact rz_lv [2, 1, 0] rfl (z_X11_apart_b12 G FU r1 0)
