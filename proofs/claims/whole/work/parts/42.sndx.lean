theorem z_X10_afternoons_b176 {Γ : Cx} (G : GG Γ RX10 cX10_afternoons 10 (some .int) 9 2 12) (N : NX Γ 4 24) (hlt : (cLn Γ).stackTraces = false) (k50 : Int32 → Int32 → Int32 → Int32 → Int32 → Int32 → Int32 → Sg → Option ((Int32 ⊕ Bool) × Sg)) (hk50 : ∀ (x2 : Int32) (x3 : Int32) (x4 : Int32) (x5 : Int32) (x6 : Int32) (x7 : Int32) (x8 : Int32), Rz Γ 10 (QmX Γ encI 4 24) 2 12 50 [(0, .ref 0), (2, .int x2), (3, .int x3), (4, .int x4), (5, .int x5), (6, .int x6), (7, .int x7), (8, .int x8)] [] (k50 x2 x3 x4 x5 x6 x7 x8)) (x2 : Int32) (x3 : Int32) (x4 : Int32) (x5 : Int32) (x6 : Int32) (x8 : Int32) (xs0 : Int32) (xs1 : Int32) : Rz Γ 10 (QmX Γ encI 4 24) 2 12 176 [(0, .ref 0), (2, .int x2), (3, .int x3), (4, .int x4), (5, .int x5), (6, .int x6), (8, .int x8)] [.int xs0, .int xs1] (f_X10_afternoons_b176 k50 x2 x3 x4 x5 x6 x8 xs0 xs1) := by
  unfold f_X10_afternoons_b176
  refine rz_iadd G (dq jX10_afternoons 88 rfl) ?_
  refine rz_istore G (lv' := [(7, .int (xs1 + xs0)), (0, .ref 0), (2, .int x2), (3, .int x3), (4, .int x4), (5, .int x5), (6, .int x6), (8, .int x8)]) (Nat.le_of_ble_eq_true rfl) rfl (dq jX10_afternoons 89 rfl) ?_
  refine rz_iinc G 7 (v := x8 + 1) (lv' := [(8, .int (x8 + 1)), (7, .int (xs1 + xs0)), (0, .ref 0), (2, .int x2), (3, .int x3), (4, .int x4), (5, .int x5), (6, .int x6)]) rfl (congrArg (HAdd.hAdd _) (by decide)) (Nat.le_of_ble_eq_true rfl) rfl (dq jX10_afternoons 90 rfl) ?_
  refine rz_goto G (tgt := 50) rfl (dq jX10_afternoons 91 rfl) ?_
  exact rz_lv [2, 3, 4, 5, 6, 7, 1, 0] rfl (hk50 x2 x3 x4 x5 x6 (xs1 + xs0) (x8 + 1))
theorem z_X10_afternoons_b117 {Γ : Cx} (G : GG Γ RX10 cX10_afternoons 10 (some .int) 9 2 12) (N : NX Γ 4 24) (hlt : (cLn Γ).stackTraces = false) (k50 : Int32 → Int32 → Int32 → Int32 → Int32 → Int32 → Int32 → Sg → Option ((Int32 ⊕ Bool) × Sg)) (hk50 : ∀ (x2 : Int32) (x3 : Int32) (x4 : Int32) (x5 : Int32) (x6 : Int32) (x7 : Int32) (x8 : Int32), Rz Γ 10 (QmX Γ encI 4 24) 2 12 50 [(0, .ref 0), (2, .int x2), (3, .int x3), (4, .int x4), (5, .int x5), (6, .int x6), (7, .int x7), (8, .int x8)] [] (k50 x2 x3 x4 x5 x6 x7 x8)) (x2 : Int32) (x3 : Int32) (x4 : Int32) (x5 : Int32) (x6 : Int32) (x7 : Int32) (x8 : Int32) : Rz Γ 10 (QmX Γ encI 4 24) 2 12 117 [(0, .ref 0), (2, .int x2), (3, .int x3), (4, .int x4), (5, .int x5), (6, .int x6), (7, .int x7), (8, .int x8)] [] (f_X10_afternoons_b117 k50 x2 x3 x4 x5 x6 x7 x8) := by
  unfold f_X10_afternoons_b117
  refine rz_aload_n G 0 rfl rfl (dq jX10_afternoons 60 rfl) ?_
  refine rz_getC G flX10_60 sh0 (t := 17) rfl rfl (dq jX10_afternoons 61 rfl) ?_
  refine rz_iconst G (v := 0) (dq jX10_afternoons 62 rfl) rfl ?_
  refine rz_aload_n G 0 rfl rfl (dq jX10_afternoons 63 rfl) ?_
  refine rz_getC G flX10_39 sh0 (t := 2) rfl rfl (dq jX10_afternoons 64 rfl) ?_
  refine rz_getI G flX10_147 sh2 rfl (dq jX10_afternoons 65 rfl) (fun v1 => ?_)
  refine rz_callVv G (st := []) (c_X4_go (cLn Γ) 0 v1) lkX10_220 sh17 rfl rfl rfl (Nat.le_of_ble_eq_true rfl) (Nat.le_of_ble_eq_true rfl) (dq jX10_afternoons 66 rfl) rfl (fun _ => ?_)
  refine rz_iload G 4 rfl (dq jX10_afternoons 67 rfl) ?_
  refine rz_aload_n G 0 rfl rfl (dq jX10_afternoons 68 rfl) ?_
  refine rz_getC G flX10_60 sh0 (t := 17) rfl rfl (dq jX10_afternoons 69 rfl) ?_
  refine rz_callVi G (st := [.int x5]) (c_X4_hurtsOfAll (cLn Γ)) lkX10_309 sh17 rfl rfl rfl (Nat.le_of_ble_eq_true rfl) (Nat.le_of_ble_eq_true rfl) (dq jX10_afternoons 70 rfl) rfl (fun r2 => ?_)
  refine rz_iadd G (dq jX10_afternoons 71 rfl) ?_
  refine rz_istore G (lv' := [(5, .int (x5 + r2)), (0, .ref 0), (2, .int x2), (3, .int x3), (4, .int x4), (6, .int x6), (7, .int x7), (8, .int x8)]) (Nat.le_of_ble_eq_true rfl) rfl (dq jX10_afternoons 72 rfl) ?_
  refine rz_iload G 5 rfl (dq jX10_afternoons 73 rfl) ?_
  refine rz_aload_n G 1 rfl rfl (dq jX10_afternoons 74 rfl) ?_
  refine rz_getC G flX10_60 sh0 (t := 17) rfl rfl (dq jX10_afternoons 75 rfl) ?_
  refine rz_callVi G (st := [.int x6]) (c_X4_funOfAll (cLn Γ)) lkX10_312 sh17 rfl rfl rfl (Nat.le_of_ble_eq_true rfl) (Nat.le_of_ble_eq_true rfl) (dq jX10_afternoons 76 rfl) rfl (fun r3 => ?_)
  refine rz_mmax G mtX10_317 (by decide) (Nat.le_of_ble_eq_true rfl) (dq jX10_afternoons 77 rfl) ?_
  refine rz_lti (fun w4 e_w4 => ?_)
  refine rz_istore G (lv' := [(6, .int w4), (5, .int (x5 + r2)), (0, .ref 0), (2, .int x2), (3, .int x3), (4, .int x4), (7, .int x7), (8, .int x8)]) (Nat.le_of_ble_eq_true rfl) rfl (dq jX10_afternoons 78 rfl) ?_
  refine rz_iload G 6 rfl (dq jX10_afternoons 79 rfl) ?_
  refine rz_aload_n G 2 rfl rfl (dq jX10_afternoons 80 rfl) ?_
  refine rz_getC G flX10_60 sh0 (t := 17) rfl rfl (dq jX10_afternoons 81 rfl) ?_
  refine rz_getI G flX10_250 sh17 rfl (dq jX10_afternoons 82 rfl) (fun v5 => ?_)
  refine rz_iconst G (v := (-1)) (dq jX10_afternoons 83 rfl) rfl ?_
  refine rz_icmp_ne G (tgt := 175) rfl (dq jX10_afternoons 84 rfl) (fun c6 => ?_) (fun c6 => ?_)
  · refine rz_iconst G (v := 1) (dq jX10_afternoons 85 rfl) rfl ?_
    refine rz_goto G (tgt := 176) rfl (dq jX10_afternoons 86 rfl) ?_
    exact rz_lv [2, 3, 4, 5, 1, 0, 7] rfl (z_X10_afternoons_b176 G N hlt k50 hk50 x2 x3 x4 (x5 + r2) w4 x8 1 x7)
  · refine rz_iconst G (v := 0) (dq jX10_afternoons 87 rfl) rfl ?_
    exact rz_lv [2, 3, 4, 5, 1, 0, 7] rfl (z_X10_afternoons_b176 G N hlt k50 hk50 x2 x3 x4 (x5 + r2) w4 x8 0 x7)
theorem z_X10_afternoons_b63 {Γ : Cx} (G : GG Γ RX10 cX10_afternoons 10 (some .int) 9 2 12) (N : NX Γ 4 24) (hlt : (cLn Γ).stackTraces = false) (k50 : Int32 → Int32 → Int32 → Int32 → Int32 → Int32 → Int32 → Sg → Option ((Int32 ⊕ Bool) × Sg)) (hk50 : ∀ (x2 : Int32) (x3 : Int32) (x4 : Int32) (x5 : Int32) (x6 : Int32) (x7 : Int32) (x8 : Int32), Rz Γ 10 (QmX Γ encI 4 24) 2 12 50 [(0, .ref 0), (2, .int x2), (3, .int x3), (4, .int x4), (5, .int x5), (6, .int x6), (7, .int x7), (8, .int x8)] [] (k50 x2 x3 x4 x5 x6 x7 x8)) : ∀ (fu : Nat) (x2 : Int32) (x3 : Int32) (x4 : Int32) (x5 : Int32) (x6 : Int32) (x7 : Int32) (x8 : Int32) (x9 : Int32), Rz Γ 10 (QmX Γ encI 4 24) 2 12 63 [(0, .ref 0), (2, .int x2), (3, .int x3), (4, .int x4), (5, .int x5), (6, .int x6), (7, .int x7), (8, .int x8), (9, .int x9)] [] (f_X10_afternoons_b63 k50 fu x2 x3 x4 x5 x6 x7 x8 x9) := by
  intro fu
  induction fu with
  | zero => intro _ _ _ _ _ _ _ _; exact rz_none
  | succ fu ih =>
    intro x2 x3 x4 x5 x6 x7 x8 x9
    rw [f_X10_afternoons_b63]
    refine rz_iload G 8 rfl (dq jX10_afternoons 35 rfl) ?_
    refine rz_aload_n G 0 rfl rfl (dq jX10_afternoons 36 rfl) ?_
    refine rz_getC G flX10_39 sh0 (t := 2) rfl rfl (dq jX10_afternoons 37 rfl) ?_
    refine rz_getI G flX10_283 sh2 rfl (dq jX10_afternoons 38 rfl) (fun v1 => ?_)
    refine rz_icmp_ge G (tgt := 117) rfl (dq jX10_afternoons 39 rfl) (fun c2 => ?_) (fun c2 => ?_)
    · exact rz_lv [0, 1, 2, 3, 4, 5, 6, 7] rfl (z_X10_afternoons_b117 G N hlt k50 hk50 x2 x3 x4 x5 x6 x7 x8)
    · refine rz_iload G 3 rfl (dq jX10_afternoons 40 rfl) ?_
      refine rz_ldcw G kX10_316 (dq jX10_afternoons 41 rfl) ?_
      refine rz_imul G (dq jX10_afternoons 42 rfl) ?_
      refine rz_sipush G (v := 12345) (dq jX10_afternoons 43 rfl) (by decide) ?_
      refine rz_iadd G (dq jX10_afternoons 44 rfl) ?_
      refine rz_lti (fun w3 e_w3 => ?_)
      refine rz_istore G (lv' := [(4, .int w3), (0, .ref 0), (2, .int x2), (3, .int x3), (5, .int x5), (6, .int x6), (7, .int x7), (8, .int x8), (9, .int x9)]) (Nat.le_of_ble_eq_true rfl) rfl (dq jX10_afternoons 45 rfl) ?_
      refine rz_aload_n G 1 rfl rfl (dq jX10_afternoons 46 rfl) ?_
      refine rz_getC G flX10_60 sh0 (t := 17) rfl rfl (dq jX10_afternoons 47 rfl) ?_
      refine rz_iload G 8 rfl (dq jX10_afternoons 48 rfl) ?_
      refine rz_callVr G (st := []) (c_X4_flyer (cLn Γ) x9) lkX10_184 sh17 rfl rfl rfl (Nat.le_of_ble_eq_true rfl) (Nat.le_of_ble_eq_true rfl) (dq jX10_afternoons 49 rfl) rfl (fun u4 => ?_)
      refine rz_gd (fun h_u4 => ?_)
      refine rz_iload G 0 rfl (dq jX10_afternoons 50 rfl) ?_
      refine rz_bipush G (v := 16) (dq jX10_afternoons 51 rfl) (by decide) ?_
      refine rz_ishr G (dq jX10_afternoons 52 rfl) ?_
      refine rz_sipush G (v := 32767) (dq jX10_afternoons 53 rfl) (by decide) ?_
      refine rz_iand G (dq jX10_afternoons 54 rfl) ?_
      refine rz_bipush G (v := 40) (dq jX10_afternoons 55 rfl) (by decide) ?_
      refine rz_iremN G (by decide) (dq jX10_afternoons 56 rfl) ?_
      refine rz_callVv G (st := []) (c_X1_startIn (cLn Γ) u4 (((w3 >>> ((16 : Int32) &&& 31)) &&& 32767) - ((w3 >>> ((16 : Int32) &&& 31)) &&& 32767) / 40 * 40)) lkX10_256 (fl_sh h_u4) rfl rfl rfl (Nat.le_of_ble_eq_true rfl) (Nat.le_of_ble_eq_true rfl) (dq jX10_afternoons 57 rfl) rfl (fun _ => ?_)
      refine rz_iinc G 8 (v := x9 + 1) (lv' := [(9, .int (x9 + 1)), (4, .int w3), (0, .ref 0), (2, .int x2), (3, .int x3), (5, .int x5), (6, .int x6), (7, .int x7), (8, .int x8)]) rfl (congrArg (HAdd.hAdd _) (by decide)) (Nat.le_of_ble_eq_true rfl) rfl (dq jX10_afternoons 58 rfl) ?_
      refine rz_goto G (tgt := 63) rfl (dq jX10_afternoons 59 rfl) ?_
      exact rz_lv [2, 3, 4, 1, 5, 6, 7, 8, 0] rfl (ih x2 x3 w3 x5 x6 x7 x8 (x9 + 1))
theorem z_X10_afternoons_b185 {Γ : Cx} (G : GG Γ RX10 cX10_afternoons 10 (some .int) 9 2 12) (N : NX Γ 4 24) (hlt : (cLn Γ).stackTraces = false) (x3 : Int32) (x5 : Int32) (x6 : Int32) (x7 : Int32) : Rz Γ 10 (QmX Γ encI 4 24) 2 12 185 [(3, .int x3), (5, .int x5), (6, .int x6), (7, .int x7)] [] (f_X10_afternoons_b185 x3 x5 x6 x7) := by
  unfold f_X10_afternoons_b185
  refine rz_iload_n G 0 rfl rfl (dq jX10_afternoons 92 rfl) ?_
  refine rz_br (fun c1 => ?_) (fun c1 => ?_)
  · refine rz_lookup G (off := 26) (tgt := 212) swX10_afternoons_186 (by decide) (by rw [c1]; decide) rfl ?_
    refine rz_iload G 1 rfl (dq jX10_afternoons_s1 0 rfl) ?_
    exact rz_iretX G (by decide) (dq jX10_afternoons_s1 1 rfl)
  · refine rz_br (fun c2 => ?_) (fun c2 => ?_)
    · refine rz_lookup G (off := 29) (tgt := 215) swX10_afternoons_186 (by decide) (by rw [c2]; decide) rfl ?_
      refine rz_iload G 2 rfl (dq jX10_afternoons_s1 2 rfl) ?_
      exact rz_iretX G (by decide) (dq jX10_afternoons_s1 3 rfl)
    · have n_c1 := ne_toInt (z := 0) (by decide) c1; have n_c2 := ne_toInt (z := 1) (by decide) c2
      refine rz_lookup G (off := 32) (tgt := 218) swX10_afternoons_186 (by decide) (lk_out2 n_c1 n_c2) rfl ?_
      refine rz_iload G 3 rfl (dq jX10_afternoons_s1 4 rfl) ?_
      exact rz_iretX G (by decide) (dq jX10_afternoons_s1 5 rfl)
theorem z_X10_afternoons_b50 {Γ : Cx} (G : GG Γ RX10 cX10_afternoons 10 (some .int) 9 2 12) (N : NX Γ 4 24) (hlt : (cLn Γ).stackTraces = false) : ∀ (fu : Nat) (x2 : Int32) (x3 : Int32) (x4 : Int32) (x5 : Int32) (x6 : Int32) (x7 : Int32) (x8 : Int32), Rz Γ 10 (QmX Γ encI 4 24) 2 12 50 [(0, .ref 0), (2, .int x2), (3, .int x3), (4, .int x4), (5, .int x5), (6, .int x6), (7, .int x7), (8, .int x8)] [] (f_X10_afternoons_b50 fu x2 x3 x4 x5 x6 x7 x8) := by
  intro fu
  induction fu with
  | zero => intro _ _ _ _ _ _ _; exact rz_none
  | succ fu ih =>
    intro x2 x3 x4 x5 x6 x7 x8
    rw [f_X10_afternoons_b50]
    refine rz_iload G 7 rfl (dq jX10_afternoons 28 rfl) ?_
    refine rz_iload_n G 1 rfl rfl (dq jX10_afternoons 29 rfl) ?_
    refine rz_icmp_ge G (tgt := 185) rfl (dq jX10_afternoons 30 rfl) (fun c1 => ?_) (fun c1 => ?_)
    · exact rz_lv [2, 4, 5, 6] rfl (z_X10_afternoons_b185 G N hlt x3 x5 x6 x7)
    · refine rz_aload_n G 0 rfl rfl (dq jX10_afternoons 31 rfl) ?_
      refine rz_callVv G (st := []) (c_X10_prepare (cLn Γ)) lkX10_217 sh0 rfl rfl rfl (Nat.le_of_ble_eq_true rfl) (Nat.le_of_ble_eq_true rfl) (dq jX10_afternoons 32 rfl) rfl (fun _ => ?_)
      refine rz_iconst G (v := 0) (dq jX10_afternoons 33 rfl) rfl ?_
      refine rz_istore G (lv' := [(9, .int 0), (0, .ref 0), (2, .int x2), (3, .int x3), (4, .int x4), (5, .int x5), (6, .int x6), (7, .int x7), (8, .int x8)]) (Nat.le_of_ble_eq_true rfl) rfl (dq jX10_afternoons 34 rfl) ?_
      exact rz_lv [1, 2, 3, 4, 5, 6, 7, 8, 0] rfl (z_X10_afternoons_b63 G N hlt (f_X10_afternoons_b50 fu) ih FU x2 x3 x4 x5 x6 x7 x8 0)
theorem z_X10_afternoons_b32 {Γ : Cx} (G : GG Γ RX10 cX10_afternoons 10 (some .int) 9 1 6) (N : NX Γ 4 24) (hlt : (cLn Γ).stackTraces = false) (x1 : Int32) (x2 : Int32) (x3 : Int32) (xs0 : Int32) : Rz Γ 10 (QmX Γ encI 4 24) 1 6 32 [(0, .ref 0), (1, .int x1), (2, .int x2), (3, .int x3)] [.int xs0] (f_X10_afternoons_b32 x1 x2 x3 xs0) := by
  unfold f_X10_afternoons_b32
  refine rz_callX G N (st := []) (c_X10_demand (cLn Γ) hlt xs0) lkX10_82 (k' := 2) (n' := 12) ⟨rfl, rfl⟩ (by decide) rfl (Nat.le_of_ble_eq_true rfl) (Nat.le_of_ble_eq_true rfl) (dq jX10_afternoons 17 rfl) rfl (fun _ => ?_)
  have G := G.up (k' := 2) (n' := 12) N (by decide) (by decide)
  refine rz_iload_n G 1 rfl rfl (dq jX10_afternoons 18 rfl) ?_
  refine rz_istore G (lv' := [(4, .int x1), (0, .ref 0), (1, .int x1), (2, .int x2), (3, .int x3)]) (Nat.le_of_ble_eq_true rfl) rfl (dq jX10_afternoons 19 rfl) ?_
  refine rz_iconst G (v := 0) (dq jX10_afternoons 20 rfl) rfl ?_
  refine rz_istore G (lv' := [(5, .int 0), (4, .int x1), (0, .ref 0), (1, .int x1), (2, .int x2), (3, .int x3)]) (Nat.le_of_ble_eq_true rfl) rfl (dq jX10_afternoons 21 rfl) ?_
  refine rz_iconst G (v := 0) (dq jX10_afternoons 22 rfl) rfl ?_
  refine rz_istore G (lv' := [(6, .int 0), (5, .int 0), (4, .int x1), (0, .ref 0), (1, .int x1), (2, .int x2), (3, .int x3)]) (Nat.le_of_ble_eq_true rfl) rfl (dq jX10_afternoons 23 rfl) ?_
  refine rz_iconst G (v := 0) (dq jX10_afternoons 24 rfl) rfl ?_
  refine rz_istore G (lv' := [(7, .int 0), (6, .int 0), (5, .int 0), (4, .int x1), (0, .ref 0), (1, .int x1), (2, .int x2), (3, .int x3)]) (Nat.le_of_ble_eq_true rfl) rfl (dq jX10_afternoons 25 rfl) ?_
  refine rz_iconst G (v := 0) (dq jX10_afternoons 26 rfl) rfl ?_
  refine rz_istore G (lv' := [(8, .int 0), (7, .int 0), (6, .int 0), (5, .int 0), (4, .int x1), (0, .ref 0), (1, .int x1), (2, .int x2), (3, .int x3)]) (Nat.le_of_ble_eq_true rfl) rfl (dq jX10_afternoons 27 rfl) ?_
  exact rz_lv [5, 7, 8, 4, 3, 2, 1, 0] rfl (z_X10_afternoons_b50 G N hlt FU x2 x3 x1 0 0 0 0)
theorem z_X10_afternoons_b31 {Γ : Cx} (G : GG Γ RX10 cX10_afternoons 10 (some .int) 9 1 6) (N : NX Γ 4 24) (hlt : (cLn Γ).stackTraces = false) (x1 : Int32) (x2 : Int32) (x3 : Int32) : Rz Γ 10 (QmX Γ encI 4 24) 1 6 31 [(0, .ref 0), (1, .int x1), (2, .int x2), (3, .int x3)] [] (f_X10_afternoons_b31 x1 x2 x3) := by
  unfold f_X10_afternoons_b31
  refine rz_iconst G (v := 0) (dq jX10_afternoons 16 rfl) rfl ?_
  exact rz_lv [0, 1, 2, 3] rfl (z_X10_afternoons_b32 G N hlt x1 x2 x3 0)
theorem z_X10_afternoons_b14 {Γ : Cx} (G : GG Γ RX10 cX10_afternoons 10 (some .int) 9 0 0) (N : NX Γ 4 24) (hlt : (cLn Γ).stackTraces = false) (x1 : Int32) (x2 : Int32) (x3 : Int32) (xs0 : Int32) : Rz Γ 10 (QmX Γ encI 4 24) 0 0 14 [(0, .ref 0), (1, .int x1), (2, .int x2), (3, .int x3)] [.int xs0] (f_X10_afternoons_b14 x1 x2 x3 xs0) := by
  unfold f_X10_afternoons_b14
  refine rz_callX G N (st := []) (c_X10_need (cLn Γ) hlt xs0) lkX10_98 (k' := 1) (n' := 6) ⟨rfl, rfl⟩ (by decide) rfl (Nat.le_of_ble_eq_true rfl) (Nat.le_of_ble_eq_true rfl) (dq jX10_afternoons 8 rfl) rfl (fun _ => ?_)
  have G := G.up (k' := 1) (n' := 6) N (by decide) (by decide)
  refine rz_iload_n G 2 rfl rfl (dq jX10_afternoons 9 rfl) ?_
  refine rz_if_lt G (tgt := 31) rfl (dq jX10_afternoons 10 rfl) (fun c1 => ?_) (fun c1 => ?_)
  · exact rz_lv [0, 1, 2, 3] rfl (z_X10_afternoons_b31 G N hlt x1 x2 x3)
  · refine rz_iload_n G 2 rfl rfl (dq jX10_afternoons 11 rfl) ?_
    refine rz_bipush G (v := 40) (dq jX10_afternoons 12 rfl) (by decide) ?_
    refine rz_icmp_gt G (tgt := 31) rfl (dq jX10_afternoons 13 rfl) (fun c2 => ?_) (fun c2 => ?_)
    · exact rz_lv [0, 1, 2, 3] rfl (z_X10_afternoons_b31 G N hlt x1 x2 x3)
    · refine rz_iconst G (v := 1) (dq jX10_afternoons 14 rfl) rfl ?_
      refine rz_goto G (tgt := 32) rfl (dq jX10_afternoons 15 rfl) ?_
      exact rz_lv [0, 1, 2, 3] rfl (z_X10_afternoons_b32 G N hlt x1 x2 x3 1)
theorem z_X10_afternoons_b13 {Γ : Cx} (G : GG Γ RX10 cX10_afternoons 10 (some .int) 9 0 0) (N : NX Γ 4 24) (hlt : (cLn Γ).stackTraces = false) (x1 : Int32) (x2 : Int32) (x3 : Int32) : Rz Γ 10 (QmX Γ encI 4 24) 0 0 13 [(0, .ref 0), (1, .int x1), (2, .int x2), (3, .int x3)] [] (f_X10_afternoons_b13 x1 x2 x3) := by
  unfold f_X10_afternoons_b13
  refine rz_iconst G (v := 0) (dq jX10_afternoons 7 rfl) rfl ?_
  exact rz_lv [0, 1, 2, 3] rfl (z_X10_afternoons_b14 G N hlt x1 x2 x3 0)
theorem c_X10_afternoons (l : Launch) (hlt : l.stackTraces = false) (x1 : Int32) (x2 : Int32) (x3 : Int32) : CtX l yX10_afternoons cX10_afternoons 10 (some .int) 9 4 24 encI [.ref 0, .int x1, .int x2, .int x3] (f_X10_afternoons x1 x2 x3) := by
  refine ctX_of (own := RX10) (by decide) rfl (Nat.le_of_ble_eq_true rfl) (fun Γ hl0 G N => ?_)
  subst hl0
  show Rz Γ 10 (QmX Γ encI 4 24) 0 0 0 [(0, .ref 0), (1, .int x1), (2, .int x2), (3, .int x3)] [] _
  unfold f_X10_afternoons
  refine rz_iload_n G 3 rfl rfl (dq jX10_afternoons 0 rfl) ?_
  refine rz_if_lt G (tgt := 13) rfl (dq jX10_afternoons 1 rfl) (fun c1 => ?_) (fun c1 => ?_)
  · exact rz_lv [0, 1, 2, 3] rfl (z_X10_afternoons_b13 G N hlt x1 x2 x3)
  · refine rz_iload_n G 3 rfl rfl (dq jX10_afternoons 2 rfl) ?_
    refine rz_iconst G (v := 2) (dq jX10_afternoons 3 rfl) rfl ?_
    refine rz_icmp_gt G (tgt := 13) rfl (dq jX10_afternoons 4 rfl) (fun c2 => ?_) (fun c2 => ?_)
    · exact rz_lv [0, 1, 2, 3] rfl (z_X10_afternoons_b13 G N hlt x1 x2 x3)
    · refine rz_iconst G (v := 1) (dq jX10_afternoons 5 rfl) rfl ?_
      refine rz_goto G (tgt := 14) rfl (dq jX10_afternoons 6 rfl) ?_
      exact rz_lv [0, 1, 2, 3] rfl (z_X10_afternoons_b14 G N hlt x1 x2 x3 1)
theorem z_X10_become_b39 {Γ : Cx} (G : GG Γ RX10 cX10_become 4 (some .int) 9 1 6) (N : NX Γ 4 24) (hlt : (cLn Γ).stackTraces = false)  : Rz Γ 4 (QmX Γ encI 4 24) 1 6 39 [(0, .ref 0)] [] (f_X10_become_b39 ) := by
  unfold f_X10_become_b39
  refine rz_aload_n G 0 rfl rfl (dq jX10_become 21 rfl) ?_
  refine rz_dup G rfl (dq jX10_become 22 rfl) ?_
  refine rz_getI G flX10_23 sh0 rfl (dq jX10_become 23 rfl) (fun v1 => ?_)
  refine rz_iconst G (v := 1) (dq jX10_become 24 rfl) rfl ?_
  refine rz_iadd G (dq jX10_become 25 rfl) ?_
  refine rz_putI G flX10_23 sh0 rfl (dq jX10_become 26 rfl) ?_
  refine rz_iconst G (v := (-1)) (dq jX10_become 27 rfl) rfl ?_
  exact rz_iretX G (by decide) (dq jX10_become 28 rfl)
theorem z_X10_become_b22 {Γ : Cx} (G : GG Γ RX10 cX10_become 4 (some .int) 9 0 0) (N : NX Γ 4 24) (hlt : (cLn Γ).stackTraces = false) (x1 : Int32) (x2 : Int32) (x3 : Int32) (xs0 : Int32) : Rz Γ 4 (QmX Γ encI 4 24) 0 0 22 [(0, .ref 0), (1, .int x1), (2, .int x2), (3, .int x3)] [.int xs0] (f_X10_become_b22 x1 x2 x3 xs0) := by
  unfold f_X10_become_b22
  refine rz_callX G N (st := []) (c_X10_need (cLn Γ) hlt xs0) lkX10_98 (k' := 1) (n' := 6) ⟨rfl, rfl⟩ (by decide) rfl (Nat.le_of_ble_eq_true rfl) (Nat.le_of_ble_eq_true rfl) (dq jX10_become 12 rfl) rfl (fun _ => ?_)
  have G := G.up (k' := 1) (n' := 6) N (by decide) (by decide)
  refine rz_iload_n G 3 rfl rfl (dq jX10_become 13 rfl) ?_
  refine rz_if_lt G (tgt := 39) rfl (dq jX10_become 14 rfl) (fun c1 => ?_) (fun c1 => ?_)
  · exact rz_lv [0] rfl (z_X10_become_b39 G N hlt)
  · refine rz_iload_n G 3 rfl rfl (dq jX10_become 15 rfl) ?_
    refine rz_iconst G (v := 3) (dq jX10_become 16 rfl) rfl ?_
    refine rz_iload_n G 2 rfl rfl (dq jX10_become 17 rfl) ?_
    refine rz_iadd G (dq jX10_become 18 rfl) ?_
    refine rz_callSi G (st := [.int x3]) (c_X10_mostOf (cLn Γ) (3 + x2)) lkX10_167 rfl (Nat.le_of_ble_eq_true rfl) (Nat.le_of_ble_eq_true rfl) (dq jX10_become 19 rfl) rfl (fun r2 => ?_)
    refine rz_icmp_le G (tgt := 51) rfl (dq jX10_become 20 rfl) (fun c3 => ?_) (fun c3 => ?_)
    · refine rz_aload_n G 0 rfl rfl (dq jX10_become 29 rfl) ?_
      refine rz_getC G flX10_39 sh0 (t := 2) rfl rfl (dq jX10_become 30 rfl) ?_
      refine rz_iload_n G 2 rfl rfl (dq jX10_become 31 rfl) ?_
      refine rz_iload_n G 1 rfl rfl (dq jX10_become 32 rfl) ?_
      refine rz_iload_n G 3 rfl rfl (dq jX10_become 33 rfl) ?_
      refine rz_callVi G (st := []) (c_X7_act (cLn Γ) 2 x2 x1 x3) lkX10_170 sh2 rfl rfl rfl (Nat.le_of_ble_eq_true rfl) (Nat.le_of_ble_eq_true rfl) (dq jX10_become 34 rfl) rfl (fun r4 => ?_)
      exact rz_iretX G (by decide) (dq jX10_become 35 rfl)
    · exact rz_lv [0] rfl (z_X10_become_b39 G N hlt)
theorem z_X10_become_b21 {Γ : Cx} (G : GG Γ RX10 cX10_become 4 (some .int) 9 0 0) (N : NX Γ 4 24) (hlt : (cLn Γ).stackTraces = false) (x1 : Int32) (x2 : Int32) (x3 : Int32) : Rz Γ 4 (QmX Γ encI 4 24) 0 0 21 [(0, .ref 0), (1, .int x1), (2, .int x2), (3, .int x3)] [] (f_X10_become_b21 x1 x2 x3) := by
  unfold f_X10_become_b21
  refine rz_iconst G (v := 0) (dq jX10_become 11 rfl) rfl ?_
  exact rz_lv [0, 1, 2, 3] rfl (z_X10_become_b22 G N hlt x1 x2 x3 0)
theorem c_X10_become (l : Launch) (hlt : l.stackTraces = false) (x1 : Int32) (x2 : Int32) (x3 : Int32) : CtX l yX10_become cX10_become 4 (some .int) 9 4 24 encI [.ref 0, .int x1, .int x2, .int x3] (f_X10_become x1 x2 x3) := by
  refine ctX_of (own := RX10) (by decide) rfl (Nat.le_of_ble_eq_true rfl) (fun Γ hl0 G N => ?_)
  subst hl0
  show Rz Γ 4 (QmX Γ encI 4 24) 0 0 0 [(0, .ref 0), (1, .int x1), (2, .int x2), (3, .int x3)] [] _
  unfold f_X10_become
  refine rz_aload_n G 0 rfl rfl (dq jX10_become 0 rfl) ?_
  refine rz_iload_n G 1 rfl rfl (dq jX10_become 1 rfl) ?_
  refine rz_callVi G (st := []) (c_X10_isJumper (cLn Γ) x1) lkX10_159 sh0 rfl rfl rfl (Nat.le_of_ble_eq_true rfl) (Nat.le_of_ble_eq_true rfl) (dq jX10_become 2 rfl) rfl (fun r1 => ?_)
  refine rz_if_eq G (tgt := 21) rfl (dq jX10_become 3 rfl) (fun c2 => ?_) (fun c2 => ?_)
  · exact rz_lv [0, 1, 2, 3] rfl (z_X10_become_b21 G N hlt x1 x2 x3)
  · refine rz_iload_n G 2 rfl rfl (dq jX10_become 4 rfl) ?_
    refine rz_if_lt G (tgt := 21) rfl (dq jX10_become 5 rfl) (fun c3 => ?_) (fun c3 => ?_)
    · exact rz_lv [0, 1, 2, 3] rfl (z_X10_become_b21 G N hlt x1 x2 x3)
    · refine rz_iload_n G 2 rfl rfl (dq jX10_become 6 rfl) ?_
      refine rz_iconst G (v := 2) (dq jX10_become 7 rfl) rfl ?_
      refine rz_icmp_gt G (tgt := 21) rfl (dq jX10_become 8 rfl) (fun c4 => ?_) (fun c4 => ?_)
      · exact rz_lv [0, 1, 2, 3] rfl (z_X10_become_b21 G N hlt x1 x2 x3)
      · refine rz_iconst G (v := 1) (dq jX10_become 9 rfl) rfl ?_
        refine rz_goto G (tgt := 22) rfl (dq jX10_become 10 rfl) ?_
        exact rz_lv [0, 1, 2, 3] rfl (z_X10_become_b22 G N hlt x1 x2 x3 1)
theorem c_X10_broken (l : Launch) (hlt : l.stackTraces = false) (x1 : Int32) : CtX l yX10_broken cX10_broken 2 (some .int) 9 4 24 encI [.ref 0, .int x1] (f_X10_broken x1) := by
  refine ctX_of (own := RX10) (by decide) rfl (Nat.le_of_ble_eq_true rfl) (fun Γ hl0 G N => ?_)
  subst hl0
  show Rz Γ 2 (QmX Γ encI 4 24) 0 0 0 [(0, .ref 0), (1, .int x1)] [] _
  unfold f_X10_broken
  refine rz_iload_n G 1 rfl rfl (dq jX10_broken 0 rfl) ?_
  refine rz_callSi G (st := []) (c_X10_isToldHeight (cLn Γ) x1) lkX10_351 rfl (Nat.le_of_ble_eq_true rfl) (Nat.le_of_ble_eq_true rfl) (dq jX10_broken 1 rfl) rfl (fun r1 => ?_)
  refine rz_callX G N (st := []) (c_X10_demand (cLn Γ) hlt r1) lkX10_82 (k' := 1) (n' := 6) ⟨rfl, rfl⟩ (by decide) rfl (Nat.le_of_ble_eq_true rfl) (Nat.le_of_ble_eq_true rfl) (dq jX10_broken 2 rfl) rfl (fun _ => ?_)
  have G := G.up (k' := 1) (n' := 6) N (by decide) (by decide)
  refine rz_aload_n G 0 rfl rfl (dq jX10_broken 3 rfl) ?_
  refine rz_getC G flX10_39 sh0 (t := 2) rfl rfl (dq jX10_broken 4 rfl) ?_
  refine rz_iload_n G 1 rfl rfl (dq jX10_broken 5 rfl) ?_
  refine rz_callVi G (st := []) (c_X7_fitting (cLn Γ) 2 x1) lkX10_354 sh2 rfl rfl rfl (Nat.le_of_ble_eq_true rfl) (Nat.le_of_ble_eq_true rfl) (dq jX10_broken 6 rfl) rfl (fun r2 => ?_)
  exact rz_iretX G (by decide) (dq jX10_broken 7 rfl)
theorem z_X10_compare_b22 {Γ : Cx} (G : GG Γ RX10 cX10_compare 3 (some .int) 9 0 0) (N : NX Γ 4 24) (hlt : (cLn Γ).stackTraces = false) (x1 : Int32) (x2 : Int32) (xs0 : Int32) : Rz Γ 3 (QmX Γ encI 4 24) 0 0 22 [(0, .ref 0), (1, .int x1), (2, .int x2)] [.int xs0] (f_X10_compare_b22 x1 x2 xs0) := by
  unfold f_X10_compare_b22
  refine rz_callX G N (st := []) (c_X10_need (cLn Γ) hlt xs0) lkX10_98 (k' := 1) (n' := 6) ⟨rfl, rfl⟩ (by decide) rfl (Nat.le_of_ble_eq_true rfl) (Nat.le_of_ble_eq_true rfl) (dq jX10_compare 12 rfl) rfl (fun _ => ?_)
  have G := G.up (k' := 1) (n' := 6) N (by decide) (by decide)
  refine rz_aload_n G 0 rfl rfl (dq jX10_compare 13 rfl) ?_
  refine rz_iload_n G 1 rfl rfl (dq jX10_compare 14 rfl) ?_
  refine rz_callVv G (st := []) (c_X10_playBy (cLn Γ) x1) lkX10_306 sh0 rfl rfl rfl (Nat.le_of_ble_eq_true rfl) (Nat.le_of_ble_eq_true rfl) (dq jX10_compare 15 rfl) rfl (fun _ => ?_)
  refine rz_iload_n G 2 rfl rfl (dq jX10_compare 16 rfl) ?_
  refine rz_if_ne G (tgt := 44) rfl (dq jX10_compare 17 rfl) (fun c1 => ?_) (fun c1 => ?_)
  · refine rz_aload_n G 0 rfl rfl (dq jX10_compare 18 rfl) ?_
    refine rz_getC G flX10_60 sh0 (t := 17) rfl rfl (dq jX10_compare 19 rfl) ?_
    refine rz_callVi G (st := []) (c_X4_hurtsOfAll (cLn Γ)) lkX10_309 sh17 rfl rfl rfl (Nat.le_of_ble_eq_true rfl) (Nat.le_of_ble_eq_true rfl) (dq jX10_compare 20 rfl) rfl (fun r2 => ?_)
    refine rz_goto G (tgt := 51) rfl (dq jX10_compare 21 rfl) ?_
    exact rz_iretX G (by decide) (dq jX10_compare 25 rfl)
  · refine rz_aload_n G 0 rfl rfl (dq jX10_compare 22 rfl) ?_
    refine rz_getC G flX10_60 sh0 (t := 17) rfl rfl (dq jX10_compare 23 rfl) ?_
    refine rz_callVi G (st := []) (c_X4_funOfAll (cLn Γ)) lkX10_312 sh17 rfl rfl rfl (Nat.le_of_ble_eq_true rfl) (Nat.le_of_ble_eq_true rfl) (dq jX10_compare 24 rfl) rfl (fun r3 => ?_)
    exact rz_iretX G (by decide) (dq jX10_compare 25 rfl)
theorem z_X10_compare_b17 {Γ : Cx} (G : GG Γ RX10 cX10_compare 3 (some .int) 9 0 0) (N : NX Γ 4 24) (hlt : (cLn Γ).stackTraces = false) (x1 : Int32) (x2 : Int32) : Rz Γ 3 (QmX Γ encI 4 24) 0 0 17 [(0, .ref 0), (1, .int x1), (2, .int x2)] [] (f_X10_compare_b17 x1 x2) := by
  unfold f_X10_compare_b17
  refine rz_iconst G (v := 1) (dq jX10_compare 9 rfl) rfl ?_
  refine rz_goto G (tgt := 22) rfl (dq jX10_compare 10 rfl) ?_
  exact rz_lv [0, 1, 2] rfl (z_X10_compare_b22 G N hlt x1 x2 1)
theorem z_X10_compare_b21 {Γ : Cx} (G : GG Γ RX10 cX10_compare 3 (some .int) 9 0 0) (N : NX Γ 4 24) (hlt : (cLn Γ).stackTraces = false) (x1 : Int32) (x2 : Int32) : Rz Γ 3 (QmX Γ encI 4 24) 0 0 21 [(0, .ref 0), (1, .int x1), (2, .int x2)] [] (f_X10_compare_b21 x1 x2) := by
  unfold f_X10_compare_b21
  refine rz_iconst G (v := 0) (dq jX10_compare 11 rfl) rfl ?_
  exact rz_lv [0, 1, 2] rfl (z_X10_compare_b22 G N hlt x1 x2 0)
theorem c_X10_compare (l : Launch) (hlt : l.stackTraces = false) (x1 : Int32) (x2 : Int32) : CtX l yX10_compare cX10_compare 3 (some .int) 9 4 24 encI [.ref 0, .int x1, .int x2] (f_X10_compare x1 x2) := by
  refine ctX_of (own := RX10) (by decide) rfl (Nat.le_of_ble_eq_true rfl) (fun Γ hl0 G N => ?_)
  subst hl0
  show Rz Γ 3 (QmX Γ encI 4 24) 0 0 0 [(0, .ref 0), (1, .int x1), (2, .int x2)] [] _
  unfold f_X10_compare
  refine rz_aload_n G 0 rfl rfl (dq jX10_compare 0 rfl) ?_
  refine rz_iload_n G 1 rfl rfl (dq jX10_compare 1 rfl) ?_
  refine rz_callVi G (st := []) (c_X10_isRule (cLn Γ) x1) lkX10_174 sh0 rfl rfl rfl (Nat.le_of_ble_eq_true rfl) (Nat.le_of_ble_eq_true rfl) (dq jX10_compare 2 rfl) rfl (fun r1 => ?_)
  refine rz_if_eq G (tgt := 21) rfl (dq jX10_compare 3 rfl) (fun c2 => ?_) (fun c2 => ?_)
  · exact rz_lv [0, 1, 2] rfl (z_X10_compare_b21 G N hlt x1 x2)
  · refine rz_iload_n G 2 rfl rfl (dq jX10_compare 4 rfl) ?_
    refine rz_if_eq G (tgt := 17) rfl (dq jX10_compare 5 rfl) (fun c3 => ?_) (fun c3 => ?_)
    · exact rz_lv [0, 1, 2] rfl (z_X10_compare_b17 G N hlt x1 x2)
    · refine rz_iload_n G 2 rfl rfl (dq jX10_compare 6 rfl) ?_
      refine rz_iconst G (v := 1) (dq jX10_compare 7 rfl) rfl ?_
      refine rz_icmp_ne G (tgt := 21) rfl (dq jX10_compare 8 rfl) (fun c4 => ?_) (fun c4 => ?_)
      · exact rz_lv [0, 1, 2] rfl (z_X10_compare_b17 G N hlt x1 x2)
      · exact rz_lv [0, 1, 2] rfl (z_X10_compare_b21 G N hlt x1 x2)
theorem z_X10_correct_b73 {Γ : Cx} (G : GG Γ RX10 cX10_correct 8 (some .int) 9 1 6) (N : NX Γ 4 24) (hlt : (cLn Γ).stackTraces = false) (k19 : Int32 → Int32 → Int32 → Int32 → Int64 → Int32 → Sg → Option ((Int32 ⊕ Bool) × Sg)) (hk19 : ∀ (x1 : Int32) (x2 : Int32) (x3 : Int32) (x4 : Int32) (x5 : Int64) (x7 : Int32), Rz Γ 8 (QmX Γ encI 4 24) 1 6 19 [(0, .ref 0), (1, .int x1), (2, .int x2), (3, .int x3), (4, .int x4), (5, .long x5), (7, .int x7)] [] (k19 x1 x2 x3 x4 x5 x7)) (x1 : Int32) (x2 : Int32) (x3 : Int32) (x4 : Int32) (x5 : Int64) (x7 : Int32) : Rz Γ 8 (QmX Γ encI 4 24) 1 6 73 [(0, .ref 0), (1, .int x1), (2, .int x2), (3, .int x3), (4, .int x4), (5, .long x5), (7, .int x7)] [] (f_X10_correct_b73 k19 x1 x2 x3 x4 x5 x7) := by
  unfold f_X10_correct_b73
  refine rz_iinc G 6 (v := x7 + 1) (lv' := [(7, .int (x7 + 1)), (0, .ref 0), (1, .int x1), (2, .int x2), (3, .int x3), (4, .int x4), (5, .long x5)]) rfl (congrArg (HAdd.hAdd _) (by decide)) (Nat.le_of_ble_eq_true rfl) rfl (dq jX10_correct 38 rfl) ?_
  refine rz_goto G (tgt := 19) rfl (dq jX10_correct 39 rfl) ?_
  exact rz_lv [1, 2, 3, 4, 5, 6, 0] rfl (hk19 x1 x2 x3 x4 x5 (x7 + 1))
theorem z_X10_correct_b60 {Γ : Cx} (G : GG Γ RX10 cX10_correct 8 (some .int) 9 1 6) (N : NX Γ 4 24) (hlt : (cLn Γ).stackTraces = false) (k19 : Int32 → Int32 → Int32 → Int32 → Int64 → Int32 → Sg → Option ((Int32 ⊕ Bool) × Sg)) (hk19 : ∀ (x1 : Int32) (x2 : Int32) (x3 : Int32) (x4 : Int32) (x5 : Int64) (x7 : Int32), Rz Γ 8 (QmX Γ encI 4 24) 1 6 19 [(0, .ref 0), (1, .int x1), (2, .int x2), (3, .int x3), (4, .int x4), (5, .long x5), (7, .int x7)] [] (k19 x1 x2 x3 x4 x5 x7)) (x1 : Int32) (x2 : Int32) (x3 : Int32) (x7 : Int32) : Rz Γ 8 (QmX Γ encI 4 24) 1 6 60 [(0, .ref 0), (1, .int x1), (2, .int x2), (3, .int x3), (7, .int x7)] [] (f_X10_correct_b60 k19 x1 x2 x3 x7) := by
  unfold f_X10_correct_b60
  refine rz_iload G 4 rfl (dq jX10_correct 32 rfl) ?_
  refine rz_istore G (lv' := [(4, .int x7), (0, .ref 0), (1, .int x1), (2, .int x2), (3, .int x3), (7, .int x7)]) (Nat.le_of_ble_eq_true rfl) rfl (dq jX10_correct 33 rfl) ?_
  refine rz_aload_n G 1 rfl rfl (dq jX10_correct 34 rfl) ?_
  refine rz_getC G flX10_67 sh0 (t := 30) rfl rfl (dq jX10_correct 35 rfl) ?_
  refine rz_getL G flX10_333 sh30 rfl (dq jX10_correct 36 rfl) (fun v1 => ?_)
  refine rz_lstore G (lv' := [(5, .long v1), (4, .int x7), (0, .ref 0), (1, .int x1), (2, .int x2), (3, .int x3), (7, .int x7)]) (Nat.le_of_ble_eq_true rfl) rfl (dq jX10_correct 37 rfl) ?_
  exact rz_lv [2, 3, 4, 5, 1, 0, 6] rfl (z_X10_correct_b73 G N hlt k19 hk19 x1 x2 x3 x7 v1 x7)
theorem z_X10_correct_b19 {Γ : Cx} (G : GG Γ RX10 cX10_correct 8 (some .int) 9 1 6) (N : NX Γ 4 24) (hlt : (cLn Γ).stackTraces = false) : ∀ (fu : Nat) (x1 : Int32) (x2 : Int32) (x3 : Int32) (x4 : Int32) (x5 : Int64) (x7 : Int32), Rz Γ 8 (QmX Γ encI 4 24) 1 6 19 [(0, .ref 0), (1, .int x1), (2, .int x2), (3, .int x3), (4, .int x4), (5, .long x5), (7, .int x7)] [] (f_X10_correct_b19 fu x1 x2 x3 x4 x5 x7) := by
  intro fu
  induction fu with
  | zero => intro _ _ _ _ _ _; exact rz_none
  | succ fu ih =>
    intro x1 x2 x3 x4 x5 x7
    rw [f_X10_correct_b19]
    refine rz_iload G 6 rfl (dq jX10_correct 12 rfl) ?_
    refine rz_bipush G (v := 9) (dq jX10_correct 13 rfl) (by decide) ?_
    refine rz_icmp_gt G (tgt := 79) rfl (dq jX10_correct 14 rfl) (fun c1 => ?_) (fun c1 => ?_)
    · refine rz_iload G 4 rfl (dq jX10_correct 40 rfl) ?_
      exact rz_iretX G (by decide) (dq jX10_correct 41 rfl)
    · refine rz_aload_n G 0 rfl rfl (dq jX10_correct 15 rfl) ?_
      refine rz_getC G flX10_67 sh0 (t := 30) rfl rfl (dq jX10_correct 16 rfl) ?_
      refine rz_aload_n G 0 rfl rfl (dq jX10_correct 17 rfl) ?_
      refine rz_getR G flX10_32 sh0 rfl (dq jX10_correct 18 rfl) (fun u2 => ?_)
      refine rz_gd (fun h_u2 => ?_)
      refine rz_iload_n G 1 rfl rfl (dq jX10_correct 19 rfl) ?_
      refine rz_iload_n G 2 rfl rfl (dq jX10_correct 20 rfl) ?_
      refine rz_iload G 6 rfl (dq jX10_correct 21 rfl) ?_
      refine rz_iload_n G 3 rfl rfl (dq jX10_correct 22 rfl) ?_
      refine rz_callVv G (st := []) (c_X9_go (cLn Γ) u2 x1 x2 x7 x3) lkX10_330 sh30 rfl rfl rfl (Nat.le_of_ble_eq_true rfl) (Nat.le_of_ble_eq_true rfl) (dq jX10_correct 23 rfl) rfl (fun _ => ?_)
      refine rz_iload G 6 rfl (dq jX10_correct 24 rfl) ?_
      refine rz_if_eq G (tgt := 60) rfl (dq jX10_correct 25 rfl) (fun c3 => ?_) (fun c3 => ?_)
      · exact rz_lv [0, 1, 2, 3, 6] rfl (z_X10_correct_b60 G N hlt (f_X10_correct_b19 fu) ih x1 x2 x3 x7)
      · refine rz_aload_n G 0 rfl rfl (dq jX10_correct 26 rfl) ?_
        refine rz_getC G flX10_67 sh0 (t := 30) rfl rfl (dq jX10_correct 27 rfl) ?_
        refine rz_getL G flX10_333 sh30 rfl (dq jX10_correct 28 rfl) (fun v4 => ?_)
        refine rz_lload G 5 rfl (dq jX10_correct 29 rfl) ?_
        refine rz_lcmp G (dq jX10_correct 30 rfl) ?_
        refine rz_if_ge G (tgt := 73) rfl (dq jX10_correct 31 rfl) (fun c5 => ?_) (fun c5 => ?_)
        · exact rz_lv [0, 1, 2, 3, 4, 5, 6] rfl (z_X10_correct_b73 G N hlt (f_X10_correct_b19 fu) ih x1 x2 x3 x4 x5 x7)
        · exact rz_lv [0, 1, 2, 3, 6] rfl (z_X10_correct_b60 G N hlt (f_X10_correct_b19 fu) ih x1 x2 x3 x7)
theorem c_X10_correct (l : Launch) (hlt : l.stackTraces = false) (x1 : Int32) (x2 : Int32) (x3 : Int32) : CtX l yX10_correct cX10_correct 8 (some .int) 9 4 24 encI [.ref 0, .int x1, .int x2, .int x3] (f_X10_correct x1 x2 x3) := by
  refine ctX_of (own := RX10) (by decide) rfl (Nat.le_of_ble_eq_true rfl) (fun Γ hl0 G N => ?_)
  subst hl0
  show Rz Γ 8 (QmX Γ encI 4 24) 0 0 0 [(0, .ref 0), (1, .int x1), (2, .int x2), (3, .int x3)] [] _
  unfold f_X10_correct
  refine rz_aload_n G 0 rfl rfl (dq jX10_correct 0 rfl) ?_
  refine rz_iload_n G 1 rfl rfl (dq jX10_correct 1 rfl) ?_
  refine rz_iload_n G 2 rfl rfl (dq jX10_correct 2 rfl) ?_
  refine rz_iload_n G 3 rfl rfl (dq jX10_correct 3 rfl) ?_
  refine rz_callVi G (st := []) (c_X10_mayWander (cLn Γ) x1 x2 x3) lkX10_323 sh0 rfl rfl rfl (Nat.le_of_ble_eq_true rfl) (Nat.le_of_ble_eq_true rfl) (dq jX10_correct 4 rfl) rfl (fun r1 => ?_)
  refine rz_callX G N (st := []) (c_X10_demand (cLn Γ) hlt r1) lkX10_82 (k' := 1) (n' := 6) ⟨rfl, rfl⟩ (by decide) rfl (Nat.le_of_ble_eq_true rfl) (Nat.le_of_ble_eq_true rfl) (dq jX10_correct 5 rfl) rfl (fun _ => ?_)
  have G := G.up (k' := 1) (n' := 6) N (by decide) (by decide)
  refine rz_iconst G (v := 0) (dq jX10_correct 6 rfl) rfl ?_
  refine rz_istore G (lv' := [(4, .int 0), (0, .ref 0), (1, .int x1), (2, .int x2), (3, .int x3)]) (Nat.le_of_ble_eq_true rfl) rfl (dq jX10_correct 7 rfl) ?_
  refine rz_lconst G (v := 0) (dq jX10_correct 8 rfl) rfl ?_
  refine rz_lstore G (lv' := [(5, .long 0), (4, .int 0), (0, .ref 0), (1, .int x1), (2, .int x2), (3, .int x3)]) (Nat.le_of_ble_eq_true rfl) rfl (dq jX10_correct 9 rfl) ?_
  refine rz_iconst G (v := 0) (dq jX10_correct 10 rfl) rfl ?_
  refine rz_istore G (lv' := [(7, .int 0), (5, .long 0), (4, .int 0), (0, .ref 0), (1, .int x1), (2, .int x2), (3, .int x3)]) (Nat.le_of_ble_eq_true rfl) rfl (dq jX10_correct 11 rfl) ?_
  exact rz_lv [3, 4, 5, 6, 2, 1, 0] rfl (z_X10_correct_b19 G N hlt FU x1 x2 x3 0 0 0)
theorem z_X10_count_b15 {Γ : Cx} (G : GG Γ RX10 cX10_count 2 (some .int) 9 0 0) (N : NX Γ 4 24) (hlt : (cLn Γ).stackTraces = false) (x1 : Int32) (xs0 : Int32) : Rz Γ 2 (QmX Γ encI 4 24) 0 0 15 [(0, .ref 0), (1, .int x1)] [.int xs0] (f_X10_count_b15 x1 xs0) := by
  unfold f_X10_count_b15
  refine rz_callX G N (st := []) (c_X10_need (cLn Γ) hlt xs0) lkX10_98 (k' := 1) (n' := 6) ⟨rfl, rfl⟩ (by decide) rfl (Nat.le_of_ble_eq_true rfl) (Nat.le_of_ble_eq_true rfl) (dq jX10_count 8 rfl) rfl (fun _ => ?_)
  have G := G.up (k' := 1) (n' := 6) N (by decide) (by decide)
  refine rz_iload_n G 1 rfl rfl (dq jX10_count 9 rfl) ?_
  refine rz_bipush G (v := 9) (dq jX10_count 10 rfl) (by decide) ?_
  refine rz_icmp_gt G (tgt := 32) rfl (dq jX10_count 11 rfl) (fun c1 => ?_) (fun c1 => ?_)
  · refine rz_aload_n G 0 rfl rfl (dq jX10_count 16 rfl) ?_
    refine rz_iload_n G 1 rfl rfl (dq jX10_count 17 rfl) ?_
    refine rz_callVi G (st := []) (c_X10_countNow (cLn Γ) x1) lkX10_105 sh0 rfl rfl rfl (Nat.le_of_ble_eq_true rfl) (Nat.le_of_ble_eq_true rfl) (dq jX10_count 18 rfl) rfl (fun r2 => ?_)
    exact rz_iretX G (by decide) (dq jX10_count 19 rfl)
  · refine rz_aload_n G 0 rfl rfl (dq jX10_count 12 rfl) ?_
    refine rz_iload_n G 1 rfl rfl (dq jX10_count 13 rfl) ?_
    refine rz_callVi G (st := []) (c_X10_countTold (cLn Γ) x1) lkX10_101 sh0 rfl rfl rfl (Nat.le_of_ble_eq_true rfl) (Nat.le_of_ble_eq_true rfl) (dq jX10_count 14 rfl) rfl (fun r3 => ?_)
    refine rz_goto G (tgt := 37) rfl (dq jX10_count 15 rfl) ?_
    exact rz_iretX G (by decide) (dq jX10_count 19 rfl)
theorem z_X10_count_b14 {Γ : Cx} (G : GG Γ RX10 cX10_count 2 (some .int) 9 0 0) (N : NX Γ 4 24) (hlt : (cLn Γ).stackTraces = false) (x1 : Int32) : Rz Γ 2 (QmX Γ encI 4 24) 0 0 14 [(0, .ref 0), (1, .int x1)] [] (f_X10_count_b14 x1) := by
  unfold f_X10_count_b14
  refine rz_iconst G (v := 0) (dq jX10_count 7 rfl) rfl ?_
  exact rz_lv [0, 1] rfl (z_X10_count_b15 G N hlt x1 0)
theorem c_X10_count (l : Launch) (hlt : l.stackTraces = false) (x1 : Int32) : CtX l yX10_count cX10_count 2 (some .int) 9 4 24 encI [.ref 0, .int x1] (f_X10_count x1) := by
  refine ctX_of (own := RX10) (by decide) rfl (Nat.le_of_ble_eq_true rfl) (fun Γ hl0 G N => ?_)
  subst hl0
  show Rz Γ 2 (QmX Γ encI 4 24) 0 0 0 [(0, .ref 0), (1, .int x1)] [] _
  unfold f_X10_count
  refine rz_iload_n G 1 rfl rfl (dq jX10_count 0 rfl) ?_
  refine rz_if_lt G (tgt := 14) rfl (dq jX10_count 1 rfl) (fun c1 => ?_) (fun c1 => ?_)
  · exact rz_lv [0, 1] rfl (z_X10_count_b14 G N hlt x1)
  · refine rz_iload_n G 1 rfl rfl (dq jX10_count 2 rfl) ?_
    refine rz_bipush G (v := 18) (dq jX10_count 3 rfl) (by decide) ?_
    refine rz_icmp_gt G (tgt := 14) rfl (dq jX10_count 4 rfl) (fun c2 => ?_) (fun c2 => ?_)
    · exact rz_lv [0, 1] rfl (z_X10_count_b14 G N hlt x1)
    · refine rz_iconst G (v := 1) (dq jX10_count 5 rfl) rfl ?_
      refine rz_goto G (tgt := 15) rfl (dq jX10_count 6 rfl) ?_
      exact rz_lv [0, 1] rfl (z_X10_count_b15 G N hlt x1 1)
theorem z_X10_danger_b10 {Γ : Cx} (G : GG Γ RX10 cX10_danger 3 (some .int) 9 1 6) (N : NX Γ 4 24) (hlt : (cLn Γ).stackTraces = false) : ∀ (fu : Nat) (x1 : Int32) (x2 : Int32), Rz Γ 3 (QmX Γ encI 4 24) 1 6 10 [(0, .ref 0), (1, .int x1), (2, .int x2)] [] (f_X10_danger_b10 fu x1 x2) := by
  intro fu
  induction fu with
  | zero => intro _ _; exact rz_none
  | succ fu ih =>
    intro x1 x2
    rw [f_X10_danger_b10]
    refine rz_iload_n G 2 rfl rfl (dq jX10_danger 6 rfl) ?_
    refine rz_bipush G (v := 60) (dq jX10_danger 7 rfl) (by decide) ?_
    refine rz_icmp_gt G (tgt := 66) rfl (dq jX10_danger 8 rfl) (fun c1 => ?_) (fun c1 => ?_)
    · refine rz_iconst G (v := (-1)) (dq jX10_danger 33 rfl) rfl ?_
      exact rz_iretX G (by decide) (dq jX10_danger 34 rfl)
    · refine rz_aload_n G 0 rfl rfl (dq jX10_danger 9 rfl) ?_
      refine rz_callVv G (st := []) (c_X10_prepare (cLn Γ)) lkX10_217 sh0 rfl rfl rfl (Nat.le_of_ble_eq_true rfl) (Nat.le_of_ble_eq_true rfl) (dq jX10_danger 10 rfl) rfl (fun _ => ?_)
      refine rz_aload_n G 0 rfl rfl (dq jX10_danger 11 rfl) ?_
      refine rz_getC G flX10_60 sh0 (t := 17) rfl rfl (dq jX10_danger 12 rfl) ?_
      refine rz_iload_n G 1 rfl rfl (dq jX10_danger 13 rfl) ?_
      refine rz_callVr G (st := []) (c_X4_flyer (cLn Γ) x1) lkX10_184 sh17 rfl rfl rfl (Nat.le_of_ble_eq_true rfl) (Nat.le_of_ble_eq_true rfl) (dq jX10_danger 14 rfl) rfl (fun u2 => ?_)
      refine rz_gd (fun h_u2 => ?_)
      refine rz_iload_n G 2 rfl rfl (dq jX10_danger 15 rfl) ?_
      refine rz_callVv G (st := []) (c_X1_dropFrom (cLn Γ) u2 x2) lkX10_280 (fl_sh h_u2) rfl rfl rfl (Nat.le_of_ble_eq_true rfl) (Nat.le_of_ble_eq_true rfl) (dq jX10_danger 16 rfl) rfl (fun _ => ?_)
      refine rz_aload_n G 0 rfl rfl (dq jX10_danger 17 rfl) ?_
      refine rz_getC G flX10_60 sh0 (t := 17) rfl rfl (dq jX10_danger 18 rfl) ?_
      refine rz_iconst G (v := 0) (dq jX10_danger 19 rfl) rfl ?_
      refine rz_aload_n G 0 rfl rfl (dq jX10_danger 20 rfl) ?_
      refine rz_getC G flX10_39 sh0 (t := 2) rfl rfl (dq jX10_danger 21 rfl) ?_
      refine rz_getI G flX10_147 sh2 rfl (dq jX10_danger 22 rfl) (fun v3 => ?_)
      refine rz_callVv G (st := []) (c_X4_go (cLn Γ) 0 v3) lkX10_220 sh17 rfl rfl rfl (Nat.le_of_ble_eq_true rfl) (Nat.le_of_ble_eq_true rfl) (dq jX10_danger 23 rfl) rfl (fun _ => ?_)
      refine rz_aload_n G 0 rfl rfl (dq jX10_danger 24 rfl) ?_
      refine rz_getC G flX10_60 sh0 (t := 17) rfl rfl (dq jX10_danger 25 rfl) ?_
      refine rz_getI G flX10_250 sh17 rfl (dq jX10_danger 26 rfl) (fun v4 => ?_)
      refine rz_iconst G (v := (-1)) (dq jX10_danger 27 rfl) rfl ?_
      refine rz_icmp_eq G (tgt := 60) rfl (dq jX10_danger 28 rfl) (fun c5 => ?_) (fun c5 => ?_)
      · refine rz_iinc G 2 (v := x2 + 1) (lv' := [(2, .int (x2 + 1)), (0, .ref 0), (1, .int x1)]) rfl (congrArg (HAdd.hAdd _) (by decide)) (Nat.le_of_ble_eq_true rfl) rfl (dq jX10_danger 31 rfl) ?_
        refine rz_goto G (tgt := 10) rfl (dq jX10_danger 32 rfl) ?_
        exact rz_lv [1, 2, 0] rfl (ih x1 (x2 + 1))
      · refine rz_iload_n G 2 rfl rfl (dq jX10_danger 29 rfl) ?_
        exact rz_iretX G (by decide) (dq jX10_danger 30 rfl)
theorem c_X10_danger (l : Launch) (hlt : l.stackTraces = false) (x1 : Int32) : CtX l yX10_danger cX10_danger 3 (some .int) 9 4 24 encI [.ref 0, .int x1] (f_X10_danger x1) := by
  refine ctX_of (own := RX10) (by decide) rfl (Nat.le_of_ble_eq_true rfl) (fun Γ hl0 G N => ?_)
  subst hl0
  show Rz Γ 3 (QmX Γ encI 4 24) 0 0 0 [(0, .ref 0), (1, .int x1)] [] _
  unfold f_X10_danger
  refine rz_aload_n G 0 rfl rfl (dq jX10_danger 0 rfl) ?_
  refine rz_iload_n G 1 rfl rfl (dq jX10_danger 1 rfl) ?_
  refine rz_callVi G (st := []) (c_X10_isJumper (cLn Γ) x1) lkX10_159 sh0 rfl rfl rfl (Nat.le_of_ble_eq_true rfl) (Nat.le_of_ble_eq_true rfl) (dq jX10_danger 2 rfl) rfl (fun r1 => ?_)
  refine rz_callX G N (st := []) (c_X10_need (cLn Γ) hlt r1) lkX10_98 (k' := 1) (n' := 6) ⟨rfl, rfl⟩ (by decide) rfl (Nat.le_of_ble_eq_true rfl) (Nat.le_of_ble_eq_true rfl) (dq jX10_danger 3 rfl) rfl (fun _ => ?_)
  have G := G.up (k' := 1) (n' := 6) N (by decide) (by decide)
  refine rz_iconst G (v := 0) (dq jX10_danger 4 rfl) rfl ?_
  refine rz_istore_n G (lv' := [(2, .int 0), (0, .ref 0), (1, .int x1)]) rfl (Nat.le_of_ble_eq_true rfl) rfl (dq jX10_danger 5 rfl) ?_
  exact rz_lv [1, 2, 0] rfl (z_X10_danger_b10 G N hlt FU x1 0)
theorem z_X10_egg_b14 {Γ : Cx} (G : GG Γ RX10 cX10_egg 2 (some .long) 9 0 0) (N : NX Γ 4 24) (hlt : (cLn Γ).stackTraces = false) (x1 : Int32) (xs0 : Int32) : Rz Γ 2 (QmX Γ encL 4 24) 0 0 14 [(0, .ref 0), (1, .int x1)] [.int xs0] (f_X10_egg_b14 x1 xs0) := by
  unfold f_X10_egg_b14
  refine rz_callX G N (st := []) (c_X10_need (cLn Γ) hlt xs0) lkX10_98 (k' := 1) (n' := 6) ⟨rfl, rfl⟩ (by decide) rfl (Nat.le_of_ble_eq_true rfl) (Nat.le_of_ble_eq_true rfl) (dq jX10_egg 8 rfl) rfl (fun _ => ?_)
  have G := G.up (k' := 1) (n' := 6) N (by decide) (by decide)
  refine rz_aload_n G 0 rfl rfl (dq jX10_egg 9 rfl) ?_
  refine rz_getC G flX10_74 sh0 (t := 33) rfl rfl (dq jX10_egg 10 rfl) ?_
  refine rz_aload_n G 0 rfl rfl (dq jX10_egg 11 rfl) ?_
  refine rz_getR G flX10_32 sh0 rfl (dq jX10_egg 12 rfl) (fun u1 => ?_)
  refine rz_gd (fun h_u1 => ?_)
  refine rz_callVv G (st := []) (c_X0_open (cLn Γ) u1) lkX10_367 sh33 rfl rfl rfl (Nat.le_of_ble_eq_true rfl) (Nat.le_of_ble_eq_true rfl) (dq jX10_egg 13 rfl) rfl (fun _ => ?_)
  refine rz_iload_n G 1 rfl rfl (dq jX10_egg 14 rfl) ?_
  refine rz_iconst G (v := 2) (dq jX10_egg 15 rfl) rfl ?_
  refine rz_icmp_ne G (tgt := 44) rfl (dq jX10_egg 16 rfl) (fun c2 => ?_) (fun c2 => ?_)
  · refine rz_aload_n G 0 rfl rfl (dq jX10_egg 17 rfl) ?_
    refine rz_getC G flX10_74 sh0 (t := 33) rfl rfl (dq jX10_egg 18 rfl) ?_
    refine rz_getI G flX10_370 sh33 rfl (dq jX10_egg 19 rfl) (fun v3 => ?_)
    refine rz_i2l G (dq jX10_egg 20 rfl) ?_
    refine rz_goto G (tgt := 62) rfl (dq jX10_egg 21 rfl) ?_
    exact rz_lretX G (by decide) (dq jX10_egg 30 rfl)
  · refine rz_aload_n G 0 rfl rfl (dq jX10_egg 22 rfl) ?_
    refine rz_getC G flX10_74 sh0 (t := 33) rfl rfl (dq jX10_egg 23 rfl) ?_
    refine rz_getL G flX10_371 sh33 rfl (dq jX10_egg 24 rfl) (fun v4 => ?_)
    refine rz_aload_n G 0 rfl rfl (dq jX10_egg 25 rfl) ?_
    refine rz_getC G flX10_74 sh0 (t := 33) rfl rfl (dq jX10_egg 26 rfl) ?_
    refine rz_getL G flX10_374 sh33 rfl (dq jX10_egg 27 rfl) (fun v5 => ?_)
    refine rz_iload_n G 1 rfl rfl (dq jX10_egg 28 rfl) ?_
    refine rz_callSl G (st := []) (c_X10_partOf (cLn Γ) v4 v5 x1) lkX10_340 rfl (Nat.le_of_ble_eq_true rfl) (Nat.le_of_ble_eq_true rfl) (dq jX10_egg 29 rfl) rfl (fun r6 => ?_)
    exact rz_lretX G (by decide) (dq jX10_egg 30 rfl)
theorem z_X10_egg_b13 {Γ : Cx} (G : GG Γ RX10 cX10_egg 2 (some .long) 9 0 0) (N : NX Γ 4 24) (hlt : (cLn Γ).stackTraces = false) (x1 : Int32) : Rz Γ 2 (QmX Γ encL 4 24) 0 0 13 [(0, .ref 0), (1, .int x1)] [] (f_X10_egg_b13 x1) := by
  unfold f_X10_egg_b13
  refine rz_iconst G (v := 0) (dq jX10_egg 7 rfl) rfl ?_
  exact rz_lv [0, 1] rfl (z_X10_egg_b14 G N hlt x1 0)
theorem c_X10_egg (l : Launch) (hlt : l.stackTraces = false) (x1 : Int32) : CtX l yX10_egg cX10_egg 2 (some .long) 9 4 24 encL [.ref 0, .int x1] (f_X10_egg x1) := by
  refine ctX_of (own := RX10) (by decide) rfl (Nat.le_of_ble_eq_true rfl) (fun Γ hl0 G N => ?_)
  subst hl0
  show Rz Γ 2 (QmX Γ encL 4 24) 0 0 0 [(0, .ref 0), (1, .int x1)] [] _
  unfold f_X10_egg
  refine rz_iload_n G 1 rfl rfl (dq jX10_egg 0 rfl) ?_
  refine rz_if_lt G (tgt := 13) rfl (dq jX10_egg 1 rfl) (fun c1 => ?_) (fun c1 => ?_)
  · exact rz_lv [0, 1] rfl (z_X10_egg_b13 G N hlt x1)
  · refine rz_iload_n G 1 rfl rfl (dq jX10_egg 2 rfl) ?_
    refine rz_iconst G (v := 2) (dq jX10_egg 3 rfl) rfl ?_
    refine rz_icmp_gt G (tgt := 13) rfl (dq jX10_egg 4 rfl) (fun c2 => ?_) (fun c2 => ?_)
    · exact rz_lv [0, 1] rfl (z_X10_egg_b13 G N hlt x1)
    · refine rz_iconst G (v := 1) (dq jX10_egg 5 rfl) rfl ?_
      refine rz_goto G (tgt := 14) rfl (dq jX10_egg 6 rfl) ?_
      exact rz_lv [0, 1] rfl (z_X10_egg_b14 G N hlt x1 1)
theorem z_X10_falls_b42 {Γ : Cx} (G : GG Γ RX10 cX10_falls 6 (some .long) 9 1 6) (N : NX Γ 4 24) (hlt : (cLn Γ).stackTraces = false) (x1 : Int32) (x2 : Int32) (x3 : Int32) (x4 : Int32) (x5 : Int32) (xs0 : Int32) : Rz Γ 6 (QmX Γ encL 4 24) 1 6 42 [(0, .ref 0), (1, .int x1), (2, .int x2), (3, .int x3), (4, .int x4), (5, .int x5)] [.int xs0] (f_X10_falls_b42 x1 x2 x3 x4 x5 xs0) := by
  unfold f_X10_falls_b42
  refine rz_callX G N (st := []) (c_X10_demand (cLn Γ) hlt xs0) lkX10_82 (k' := 2) (n' := 12) ⟨rfl, rfl⟩ (by decide) rfl (Nat.le_of_ble_eq_true rfl) (Nat.le_of_ble_eq_true rfl) (dq jX10_falls 21 rfl) rfl (fun _ => ?_)
  have G := G.up (k' := 2) (n' := 12) N (by decide) (by decide)
  refine rz_aload_n G 0 rfl rfl (dq jX10_falls 22 rfl) ?_
  refine rz_getC G flX10_67 sh0 (t := 30) rfl rfl (dq jX10_falls 23 rfl) ?_
  refine rz_aload_n G 0 rfl rfl (dq jX10_falls 24 rfl) ?_
  refine rz_getR G flX10_32 sh0 rfl (dq jX10_falls 25 rfl) (fun u1 => ?_)
  refine rz_gd (fun h_u1 => ?_)
  refine rz_iload_n G 1 rfl rfl (dq jX10_falls 26 rfl) ?_
  refine rz_iload_n G 2 rfl rfl (dq jX10_falls 27 rfl) ?_
  refine rz_iload_n G 3 rfl rfl (dq jX10_falls 28 rfl) ?_
  refine rz_iload G 4 rfl (dq jX10_falls 29 rfl) ?_
  refine rz_callVv G (st := []) (c_X9_go (cLn Γ) u1 x1 x2 x3 x4) lkX10_330 sh30 rfl rfl rfl (Nat.le_of_ble_eq_true rfl) (Nat.le_of_ble_eq_true rfl) (dq jX10_falls 30 rfl) rfl (fun _ => ?_)
  refine rz_aload_n G 0 rfl rfl (dq jX10_falls 31 rfl) ?_
  refine rz_getC G flX10_67 sh0 (t := 30) rfl rfl (dq jX10_falls 32 rfl) ?_
  refine rz_getL G flX10_333 sh30 rfl (dq jX10_falls 33 rfl) (fun v2 => ?_)
  refine rz_aload_n G 0 rfl rfl (dq jX10_falls 34 rfl) ?_
  refine rz_getC G flX10_67 sh0 (t := 30) rfl rfl (dq jX10_falls 35 rfl) ?_
  refine rz_getL G flX10_337 sh30 rfl (dq jX10_falls 36 rfl) (fun v3 => ?_)
  refine rz_iload G 5 rfl (dq jX10_falls 37 rfl) ?_
  refine rz_callSl G (st := []) (c_X10_partOf (cLn Γ) v2 v3 x5) lkX10_340 rfl (Nat.le_of_ble_eq_true rfl) (Nat.le_of_ble_eq_true rfl) (dq jX10_falls 38 rfl) rfl (fun r4 => ?_)
  exact rz_lretX G (by decide) (dq jX10_falls 39 rfl)
theorem z_X10_falls_b41 {Γ : Cx} (G : GG Γ RX10 cX10_falls 6 (some .long) 9 1 6) (N : NX Γ 4 24) (hlt : (cLn Γ).stackTraces = false) (x1 : Int32) (x2 : Int32) (x3 : Int32) (x4 : Int32) (x5 : Int32) : Rz Γ 6 (QmX Γ encL 4 24) 1 6 41 [(0, .ref 0), (1, .int x1), (2, .int x2), (3, .int x3), (4, .int x4), (5, .int x5)] [] (f_X10_falls_b41 x1 x2 x3 x4 x5) := by
  unfold f_X10_falls_b41
  refine rz_iconst G (v := 0) (dq jX10_falls 20 rfl) rfl ?_
  exact rz_lv [0, 1, 2, 3, 4, 5] rfl (z_X10_falls_b42 G N hlt x1 x2 x3 x4 x5 0)
theorem z_X10_falls_b16 {Γ : Cx} (G : GG Γ RX10 cX10_falls 6 (some .long) 9 0 0) (N : NX Γ 4 24) (hlt : (cLn Γ).stackTraces = false) (x1 : Int32) (x2 : Int32) (x3 : Int32) (x4 : Int32) (x5 : Int32) (xs0 : Int32) : Rz Γ 6 (QmX Γ encL 4 24) 0 0 16 [(0, .ref 0), (1, .int x1), (2, .int x2), (3, .int x3), (4, .int x4), (5, .int x5)] [.int xs0] (f_X10_falls_b16 x1 x2 x3 x4 x5 xs0) := by
  unfold f_X10_falls_b16
  refine rz_callX G N (st := []) (c_X10_need (cLn Γ) hlt xs0) lkX10_98 (k' := 1) (n' := 6) ⟨rfl, rfl⟩ (by decide) rfl (Nat.le_of_ble_eq_true rfl) (Nat.le_of_ble_eq_true rfl) (dq jX10_falls 8 rfl) rfl (fun _ => ?_)
  have G := G.up (k' := 1) (n' := 6) N (by decide) (by decide)
  refine rz_aload_n G 0 rfl rfl (dq jX10_falls 9 rfl) ?_
  refine rz_iload_n G 1 rfl rfl (dq jX10_falls 10 rfl) ?_
  refine rz_iload_n G 2 rfl rfl (dq jX10_falls 11 rfl) ?_
  refine rz_iload G 4 rfl (dq jX10_falls 12 rfl) ?_
  refine rz_callVi G (st := []) (c_X10_mayWander (cLn Γ) x1 x2 x4) lkX10_323 sh0 rfl rfl rfl (Nat.le_of_ble_eq_true rfl) (Nat.le_of_ble_eq_true rfl) (dq jX10_falls 13 rfl) rfl (fun r1 => ?_)
  refine rz_if_eq G (tgt := 41) rfl (dq jX10_falls 14 rfl) (fun c2 => ?_) (fun c2 => ?_)
  · exact rz_lv [0, 1, 2, 3, 4, 5] rfl (z_X10_falls_b41 G N hlt x1 x2 x3 x4 x5)
  · refine rz_iload_n G 3 rfl rfl (dq jX10_falls 15 rfl) ?_
    refine rz_callSi G (st := []) (c_X10_isCorrects (cLn Γ) x3) lkX10_327 rfl (Nat.le_of_ble_eq_true rfl) (Nat.le_of_ble_eq_true rfl) (dq jX10_falls 16 rfl) rfl (fun r3 => ?_)
    refine rz_if_eq G (tgt := 41) rfl (dq jX10_falls 17 rfl) (fun c4 => ?_) (fun c4 => ?_)
    · exact rz_lv [0, 1, 2, 3, 4, 5] rfl (z_X10_falls_b41 G N hlt x1 x2 x3 x4 x5)
    · refine rz_iconst G (v := 1) (dq jX10_falls 18 rfl) rfl ?_
      refine rz_goto G (tgt := 42) rfl (dq jX10_falls 19 rfl) ?_
      exact rz_lv [0, 1, 2, 3, 4, 5] rfl (z_X10_falls_b42 G N hlt x1 x2 x3 x4 x5 1)
theorem z_X10_falls_b11 {Γ : Cx} (G : GG Γ RX10 cX10_falls 6 (some .long) 9 0 0) (N : NX Γ 4 24) (hlt : (cLn Γ).stackTraces = false) (x1 : Int32) (x2 : Int32) (x3 : Int32) (x4 : Int32) (x5 : Int32) : Rz Γ 6 (QmX Γ encL 4 24) 0 0 11 [(0, .ref 0), (1, .int x1), (2, .int x2), (3, .int x3), (4, .int x4), (5, .int x5)] [] (f_X10_falls_b11 x1 x2 x3 x4 x5) := by
  unfold f_X10_falls_b11
  refine rz_iconst G (v := 1) (dq jX10_falls 5 rfl) rfl ?_
  refine rz_goto G (tgt := 16) rfl (dq jX10_falls 6 rfl) ?_
  exact rz_lv [0, 1, 2, 3, 4, 5] rfl (z_X10_falls_b16 G N hlt x1 x2 x3 x4 x5 1)
theorem c_X10_falls (l : Launch) (hlt : l.stackTraces = false) (x1 : Int32) (x2 : Int32) (x3 : Int32) (x4 : Int32) (x5 : Int32) : CtX l yX10_falls cX10_falls 6 (some .long) 9 4 24 encL [.ref 0, .int x1, .int x2, .int x3, .int x4, .int x5] (f_X10_falls x1 x2 x3 x4 x5) := by
  refine ctX_of (own := RX10) (by decide) rfl (Nat.le_of_ble_eq_true rfl) (fun Γ hl0 G N => ?_)
  subst hl0
  show Rz Γ 6 (QmX Γ encL 4 24) 0 0 0 [(0, .ref 0), (1, .int x1), (2, .int x2), (3, .int x3), (4, .int x4), (5, .int x5)] [] _
  unfold f_X10_falls
  refine rz_iload G 5 rfl (dq jX10_falls 0 rfl) ?_
  refine rz_if_eq G (tgt := 11) rfl (dq jX10_falls 1 rfl) (fun c1 => ?_) (fun c1 => ?_)
  · exact rz_lv [0, 1, 2, 3, 4, 5] rfl (z_X10_falls_b11 G N hlt x1 x2 x3 x4 x5)
  · refine rz_iload G 5 rfl (dq jX10_falls 2 rfl) ?_
    refine rz_iconst G (v := 1) (dq jX10_falls 3 rfl) rfl ?_
    refine rz_icmp_ne G (tgt := 15) rfl (dq jX10_falls 4 rfl) (fun c2 => ?_) (fun c2 => ?_)
    · exact rz_lv [0, 1, 2, 3, 4, 5] rfl (z_X10_falls_b11 G N hlt x1 x2 x3 x4 x5)
    · refine rz_iconst G (v := 0) (dq jX10_falls 7 rfl) rfl ?_
      exact rz_lv [0, 1, 2, 3, 4, 5] rfl (z_X10_falls_b16 G N hlt x1 x2 x3 x4 x5 0)
theorem z_X10_film_b21 {Γ : Cx} (G : GG Γ RX10 cX10_film 3 (some .int) 9 0 0) (N : NX Γ 4 24) (hlt : (cLn Γ).stackTraces = false) (x1 : Int32) (x2 : Int32) (xs0 : Int32) : Rz Γ 3 (QmX Γ encI 4 24) 0 0 21 [(0, .ref 0), (1, .int x1), (2, .int x2)] [.int xs0] (f_X10_film_b21 x1 x2 xs0) := by
  unfold f_X10_film_b21
  refine rz_callX G N (st := []) (c_X10_need (cLn Γ) hlt xs0) lkX10_98 (k' := 1) (n' := 6) ⟨rfl, rfl⟩ (by decide) rfl (Nat.le_of_ble_eq_true rfl) (Nat.le_of_ble_eq_true rfl) (dq jX10_film 11 rfl) rfl (fun _ => ?_)
  have G := G.up (k' := 1) (n' := 6) N (by decide) (by decide)
  refine rz_aload_n G 0 rfl rfl (dq jX10_film 12 rfl) ?_
  refine rz_callVv G (st := []) (c_X10_prepare (cLn Γ)) lkX10_217 sh0 rfl rfl rfl (Nat.le_of_ble_eq_true rfl) (Nat.le_of_ble_eq_true rfl) (dq jX10_film 13 rfl) rfl (fun _ => ?_)
  refine rz_aload_n G 0 rfl rfl (dq jX10_film 14 rfl) ?_
  refine rz_getC G flX10_60 sh0 (t := 17) rfl rfl (dq jX10_film 15 rfl) ?_
  refine rz_iconst G (v := 0) (dq jX10_film 16 rfl) rfl ?_
  refine rz_iload_n G 2 rfl rfl (dq jX10_film 17 rfl) ?_
  refine rz_iconst G (v := 1) (dq jX10_film 18 rfl) rfl ?_
  refine rz_iadd G (dq jX10_film 19 rfl) ?_
  refine rz_callVv G (st := []) (c_X4_go (cLn Γ) 0 (x2 + 1)) lkX10_220 sh17 rfl rfl rfl (Nat.le_of_ble_eq_true rfl) (Nat.le_of_ble_eq_true rfl) (dq jX10_film 20 rfl) rfl (fun _ => ?_)
  refine rz_aload_n G 0 rfl rfl (dq jX10_film 21 rfl) ?_
  refine rz_getC G flX10_60 sh0 (t := 17) rfl rfl (dq jX10_film 22 rfl) ?_
  refine rz_iload_n G 1 rfl rfl (dq jX10_film 23 rfl) ?_
  refine rz_callVr G (st := []) (c_X4_flyer (cLn Γ) x1) lkX10_184 sh17 rfl rfl rfl (Nat.le_of_ble_eq_true rfl) (Nat.le_of_ble_eq_true rfl) (dq jX10_film 24 rfl) rfl (fun u1 => ?_)
  refine rz_gd (fun h_u1 => ?_)
  refine rz_iload_n G 2 rfl rfl (dq jX10_film 25 rfl) ?_
  refine rz_callVi G (st := []) (c_X1_heightIn (cLn Γ) u1 x2) lkX10_224 (fl_sh h_u1) rfl rfl rfl (Nat.le_of_ble_eq_true rfl) (Nat.le_of_ble_eq_true rfl) (dq jX10_film 26 rfl) rfl (fun r2 => ?_)
  exact rz_iretX G (by decide) (dq jX10_film 27 rfl)
theorem z_X10_film_b20 {Γ : Cx} (G : GG Γ RX10 cX10_film 3 (some .int) 9 0 0) (N : NX Γ 4 24) (hlt : (cLn Γ).stackTraces = false) (x1 : Int32) (x2 : Int32) : Rz Γ 3 (QmX Γ encI 4 24) 0 0 20 [(0, .ref 0), (1, .int x1), (2, .int x2)] [] (f_X10_film_b20 x1 x2) := by
  unfold f_X10_film_b20
  refine rz_iconst G (v := 0) (dq jX10_film 10 rfl) rfl ?_
  exact rz_lv [0, 1, 2] rfl (z_X10_film_b21 G N hlt x1 x2 0)
theorem c_X10_film (l : Launch) (hlt : l.stackTraces = false) (x1 : Int32) (x2 : Int32) : CtX l yX10_film cX10_film 3 (some .int) 9 4 24 encI [.ref 0, .int x1, .int x2] (f_X10_film x1 x2) := by
  refine ctX_of (own := RX10) (by decide) rfl (Nat.le_of_ble_eq_true rfl) (fun Γ hl0 G N => ?_)
  subst hl0
  show Rz Γ 3 (QmX Γ encI 4 24) 0 0 0 [(0, .ref 0), (1, .int x1), (2, .int x2)] [] _
  unfold f_X10_film
  refine rz_aload_n G 0 rfl rfl (dq jX10_film 0 rfl) ?_
  refine rz_iload_n G 1 rfl rfl (dq jX10_film 1 rfl) ?_
  refine rz_callVi G (st := []) (c_X10_isJumper (cLn Γ) x1) lkX10_159 sh0 rfl rfl rfl (Nat.le_of_ble_eq_true rfl) (Nat.le_of_ble_eq_true rfl) (dq jX10_film 2 rfl) rfl (fun r1 => ?_)
  refine rz_if_eq G (tgt := 20) rfl (dq jX10_film 3 rfl) (fun c2 => ?_) (fun c2 => ?_)
  · exact rz_lv [0, 1, 2] rfl (z_X10_film_b20 G N hlt x1 x2)
  · refine rz_aload_n G 0 rfl rfl (dq jX10_film 4 rfl) ?_
    refine rz_iload_n G 2 rfl rfl (dq jX10_film 5 rfl) ?_
    refine rz_callVi G (st := []) (c_X10_isTick (cLn Γ) x2) lkX10_214 sh0 rfl rfl rfl (Nat.le_of_ble_eq_true rfl) (Nat.le_of_ble_eq_true rfl) (dq jX10_film 6 rfl) rfl (fun r3 => ?_)
    refine rz_if_eq G (tgt := 20) rfl (dq jX10_film 7 rfl) (fun c4 => ?_) (fun c4 => ?_)
    · exact rz_lv [0, 1, 2] rfl (z_X10_film_b20 G N hlt x1 x2)
    · refine rz_iconst G (v := 1) (dq jX10_film 8 rfl) rfl ?_
      refine rz_goto G (tgt := 21) rfl (dq jX10_film 9 rfl) ?_
      exact rz_lv [0, 1, 2] rfl (z_X10_film_b21 G N hlt x1 x2 1)
theorem z_X10_garden_b17 {Γ : Cx} (G : GG Γ RX10 cX10_garden 4 (some .int) 132 0 0) (N : NX Γ 4 24) (hlt : (cLn Γ).stackTraces = false) (x1 : Int32) (xs0 : Int32) : Rz Γ 4 (QmX Γ encI 4 24) 0 0 17 [(0, .ref 0), (1, .int x1)] [.int xs0] (f_X10_garden_b17 x1 xs0) := by
  unfold f_X10_garden_b17
  refine rz_callX G N (st := []) (c_X10_demand (cLn Γ) hlt xs0) lkX10_82 (k' := 1) (n' := 6) ⟨rfl, rfl⟩ (by decide) rfl (Nat.le_of_ble_eq_true rfl) (Nat.le_of_ble_eq_true rfl) (dq jX10_garden 9 rfl) rfl (fun _ => ?_)
  have G := G.up (k' := 1) (n' := 6) N (by decide) (by decide)
  refine rz_aload_n G 0 rfl rfl (dq jX10_garden 10 rfl) ?_
  refine rz_iconst G (v := 0) (dq jX10_garden 11 rfl) rfl ?_
  refine rz_putI G flX10_13 sh0 rfl (dq jX10_garden 12 rfl) ?_
  refine rz_aload_n G 0 rfl rfl (dq jX10_garden 13 rfl) ?_
  refine rz_getC G flX10_53 sh0 (t := 14) rfl rfl (dq jX10_garden 14 rfl) ?_
  refine rz_aload_n G 0 rfl rfl (dq jX10_garden 15 rfl) ?_
  refine rz_getC G flX10_9 sh0 (t := 1) rfl rfl (dq jX10_garden 16 rfl) ?_
  refine rz_iload_n G 1 rfl rfl (dq jX10_garden 17 rfl) ?_
  refine rz_callVi G (st := []) (c_X8_tell (cLn Γ) 1 x1) lkX10_86 sh14 rfl rfl rfl (Nat.le_of_ble_eq_true rfl) (Nat.le_of_ble_eq_true rfl) (dq jX10_garden 18 rfl) rfl (fun r1 => ?_)
  refine rz_istore_n G (lv' := [(2, .int r1), (0, .ref 0), (1, .int x1)]) rfl (Nat.le_of_ble_eq_true rfl) rfl (dq jX10_garden 19 rfl) ?_
  refine rz_iload_n G 0 rfl rfl (dq jX10_garden 20 rfl) ?_
  refine rz_if_eq G (tgt := 65) rfl (dq jX10_garden 21 rfl) (fun c2 => ?_) (fun c2 => ?_)
  · refine rz_aload_n G 1 rfl rfl (dq jX10_garden 35 rfl) ?_
    refine rz_iconst G (v := (-1)) (dq jX10_garden 36 rfl) rfl ?_
    refine rz_putI G flX10_17 sh0 rfl (dq jX10_garden 37 rfl) ?_
    refine rz_aload_n G 1 rfl rfl (dq jX10_garden 38 rfl) ?_
    refine rz_getC G flX10_53 sh0 (t := 14) rfl rfl (dq jX10_garden 39 rfl) ?_
    refine rz_getR G flX10_93 sh14 rfl (dq jX10_garden 40 rfl) (fun u3 => ?_)
    refine rz_gd (fun h_u3 => ?_)
    refine rz_astore_n G (lv' := [(3, .ref u3), (2, .int r1), (0, .ref 0), (1, .int x1)]) rfl (Nat.le_of_ble_eq_true rfl) rfl (dq jX10_garden 41 rfl) ?_
    refine rz_aload_n G 2 rfl rfl (dq jX10_garden 42 rfl) ?_
    refine rz_getC G flX10_53 sh0 (t := 14) rfl rfl (dq jX10_garden 43 rfl) ?_
    refine rz_aload_n G 2 rfl rfl (dq jX10_garden 44 rfl) ?_
    refine rz_getR G flX10_32 sh0 rfl (dq jX10_garden 45 rfl) (fun u4 => ?_)
    refine rz_gd (fun h_u4 => ?_)
    refine rz_putR G flX10_93 sh14 rfl (dq jX10_garden 46 rfl) ?_
    refine rz_aload_n G 2 rfl rfl (dq jX10_garden 47 rfl) ?_
    refine rz_aload_n G 0 rfl rfl (dq jX10_garden 48 rfl) ?_
    refine rz_putR G flX10_32 sh0 rfl (dq jX10_garden 49 rfl) ?_
    refine rz_aload_n G 2 rfl rfl (dq jX10_garden 50 rfl) ?_
    refine rz_getC G flX10_39 sh0 (t := 2) rfl rfl (dq jX10_garden 51 rfl) ?_
    refine rz_aload_n G 0 rfl rfl (dq jX10_garden 52 rfl) ?_
    refine rz_callVv G (st := []) (c_X7_begin (cLn Γ) 2 u3) lkX10_94 sh2 rfl rfl rfl (Nat.le_of_ble_eq_true rfl) (Nat.le_of_ble_eq_true rfl) (dq jX10_garden 53 rfl) rfl (fun _ => ?_)
    refine rz_aload_n G 2 rfl rfl (dq jX10_garden 54 rfl) ?_
    refine rz_iconst G (v := 0) (dq jX10_garden 55 rfl) rfl ?_
    refine rz_putZ G (by decide) flX10_46 sh0 rfl (dq jX10_garden 56 rfl) ?_
    refine rz_iconst G (v := 0) (dq jX10_garden 57 rfl) rfl ?_
    exact rz_iretX G (by decide) (dq jX10_garden 58 rfl)
  · refine rz_aload_n G 1 rfl rfl (dq jX10_garden 22 rfl) ?_
    refine rz_aload_n G 1 rfl rfl (dq jX10_garden 23 rfl) ?_
    refine rz_getC G flX10_53 sh0 (t := 14) rfl rfl (dq jX10_garden 24 rfl) ?_
    refine rz_getI G flX10_90 sh14 rfl (dq jX10_garden 25 rfl) (fun v5 => ?_)
    refine rz_putI G flX10_17 sh0 rfl (dq jX10_garden 26 rfl) ?_
    refine rz_aload_n G 1 rfl rfl (dq jX10_garden 27 rfl) ?_
    refine rz_dup G rfl (dq jX10_garden 28 rfl) ?_
    refine rz_getI G flX10_20 sh0 rfl (dq jX10_garden 29 rfl) (fun v6 => ?_)
    refine rz_iconst G (v := 1) (dq jX10_garden 30 rfl) rfl ?_
    refine rz_iadd G (dq jX10_garden 31 rfl) ?_
    refine rz_putI G flX10_20 sh0 rfl (dq jX10_garden 32 rfl) ?_
    refine rz_iload_n G 0 rfl rfl (dq jX10_garden 33 rfl) ?_
    exact rz_iretX G (by decide) (dq jX10_garden 34 rfl)
theorem z_X10_garden_b16 {Γ : Cx} (G : GG Γ RX10 cX10_garden 4 (some .int) 132 0 0) (N : NX Γ 4 24) (hlt : (cLn Γ).stackTraces = false) (x1 : Int32) : Rz Γ 4 (QmX Γ encI 4 24) 0 0 16 [(0, .ref 0), (1, .int x1)] [] (f_X10_garden_b16 x1) := by
  unfold f_X10_garden_b16
  refine rz_iconst G (v := 0) (dq jX10_garden 8 rfl) rfl ?_
  exact rz_lv [0, 1] rfl (z_X10_garden_b17 G N hlt x1 0)
theorem c_X10_garden (l : Launch) (hlt : l.stackTraces = false) (x1 : Int32) : CtX l yX10_garden cX10_garden 4 (some .int) 132 4 24 encI [.ref 0, .int x1] (f_X10_garden x1) := by
  refine ctX_of (own := RX10) (by decide) rfl (Nat.le_of_ble_eq_true rfl) (fun Γ hl0 G N => ?_)
  subst hl0
  show Rz Γ 4 (QmX Γ encI 4 24) 0 0 0 [(0, .ref 0), (1, .int x1)] [] _
  unfold f_X10_garden
  refine rz_iload_n G 1 rfl rfl (dq jX10_garden 0 rfl) ?_
  refine rz_if_lt G (tgt := 16) rfl (dq jX10_garden 1 rfl) (fun c1 => ?_) (fun c1 => ?_)
  · exact rz_lv [0, 1] rfl (z_X10_garden_b16 G N hlt x1)
  · refine rz_iload_n G 1 rfl rfl (dq jX10_garden 2 rfl) ?_
    refine rz_aload_n G 0 rfl rfl (dq jX10_garden 3 rfl) ?_
    refine rz_getI G flX10_13 sh0 rfl (dq jX10_garden 4 rfl) (fun v2 => ?_)
    refine rz_icmp_gt G (tgt := 16) rfl (dq jX10_garden 5 rfl) (fun c3 => ?_) (fun c3 => ?_)
    · exact rz_lv [0, 1] rfl (z_X10_garden_b16 G N hlt x1)
    · refine rz_iconst G (v := 1) (dq jX10_garden 6 rfl) rfl ?_
      refine rz_goto G (tgt := 17) rfl (dq jX10_garden 7 rfl) ?_
      exact rz_lv [0, 1] rfl (z_X10_garden_b17 G N hlt x1 1)
theorem z_X10_jumper_b23 {Γ : Cx} (G : GG Γ RX10 cX10_jumper 3 (some .int) 9 0 0) (N : NX Γ 4 24) (hlt : (cLn Γ).stackTraces = false) (x1 : Int32) (x2 : Int32) (xs0 : Int32) : Rz Γ 3 (QmX Γ encI 4 24) 0 0 23 [(0, .ref 0), (1, .int x1), (2, .int x2)] [.int xs0] (f_X10_jumper_b23 x1 x2 xs0) := by
  unfold f_X10_jumper_b23
  refine rz_callX G N (st := []) (c_X10_need (cLn Γ) hlt xs0) lkX10_98 (k' := 1) (n' := 6) ⟨rfl, rfl⟩ (by decide) rfl (Nat.le_of_ble_eq_true rfl) (Nat.le_of_ble_eq_true rfl) (dq jX10_jumper 12 rfl) rfl (fun _ => ?_)
  have G := G.up (k' := 1) (n' := 6) N (by decide) (by decide)
  refine rz_aload_n G 0 rfl rfl (dq jX10_jumper 13 rfl) ?_
  refine rz_getC G flX10_39 sh0 (t := 2) rfl rfl (dq jX10_jumper 14 rfl) ?_
  refine rz_iload_n G 1 rfl rfl (dq jX10_jumper 15 rfl) ?_
  refine rz_iload_n G 2 rfl rfl (dq jX10_jumper 16 rfl) ?_
  refine rz_callVi G (st := []) (c_X7_told (cLn Γ) 2 x1 x2) lkX10_163 sh2 rfl rfl rfl (Nat.le_of_ble_eq_true rfl) (Nat.le_of_ble_eq_true rfl) (dq jX10_jumper 17 rfl) rfl (fun r1 => ?_)
  exact rz_iretX G (by decide) (dq jX10_jumper 18 rfl)
theorem z_X10_jumper_b22 {Γ : Cx} (G : GG Γ RX10 cX10_jumper 3 (some .int) 9 0 0) (N : NX Γ 4 24) (hlt : (cLn Γ).stackTraces = false) (x1 : Int32) (x2 : Int32) : Rz Γ 3 (QmX Γ encI 4 24) 0 0 22 [(0, .ref 0), (1, .int x1), (2, .int x2)] [] (f_X10_jumper_b22 x1 x2) := by
  unfold f_X10_jumper_b22
  refine rz_iconst G (v := 0) (dq jX10_jumper 11 rfl) rfl ?_
  exact rz_lv [0, 1, 2] rfl (z_X10_jumper_b23 G N hlt x1 x2 0)
theorem c_X10_jumper (l : Launch) (hlt : l.stackTraces = false) (x1 : Int32) (x2 : Int32) : CtX l yX10_jumper cX10_jumper 3 (some .int) 9 4 24 encI [.ref 0, .int x1, .int x2] (f_X10_jumper x1 x2) := by
  refine ctX_of (own := RX10) (by decide) rfl (Nat.le_of_ble_eq_true rfl) (fun Γ hl0 G N => ?_)
  subst hl0
  show Rz Γ 3 (QmX Γ encI 4 24) 0 0 0 [(0, .ref 0), (1, .int x1), (2, .int x2)] [] _
  unfold f_X10_jumper
  refine rz_aload_n G 0 rfl rfl (dq jX10_jumper 0 rfl) ?_
  refine rz_iload_n G 1 rfl rfl (dq jX10_jumper 1 rfl) ?_
  refine rz_callVi G (st := []) (c_X10_isJumper (cLn Γ) x1) lkX10_159 sh0 rfl rfl rfl (Nat.le_of_ble_eq_true rfl) (Nat.le_of_ble_eq_true rfl) (dq jX10_jumper 2 rfl) rfl (fun r1 => ?_)
  refine rz_if_eq G (tgt := 22) rfl (dq jX10_jumper 3 rfl) (fun c2 => ?_) (fun c2 => ?_)
  · exact rz_lv [0, 1, 2] rfl (z_X10_jumper_b22 G N hlt x1 x2)
  · refine rz_iload_n G 2 rfl rfl (dq jX10_jumper 4 rfl) ?_
    refine rz_if_lt G (tgt := 22) rfl (dq jX10_jumper 5 rfl) (fun c3 => ?_) (fun c3 => ?_)
    · exact rz_lv [0, 1, 2] rfl (z_X10_jumper_b22 G N hlt x1 x2)
    · refine rz_iload_n G 2 rfl rfl (dq jX10_jumper 6 rfl) ?_
      refine rz_bipush G (v := 6) (dq jX10_jumper 7 rfl) (by decide) ?_
      refine rz_icmp_ge G (tgt := 22) rfl (dq jX10_jumper 8 rfl) (fun c4 => ?_) (fun c4 => ?_)
      · exact rz_lv [0, 1, 2] rfl (z_X10_jumper_b22 G N hlt x1 x2)
      · refine rz_iconst G (v := 1) (dq jX10_jumper 9 rfl) rfl ?_
        refine rz_goto G (tgt := 23) rfl (dq jX10_jumper 10 rfl) ?_
        exact rz_lv [0, 1, 2] rfl (z_X10_jumper_b23 G N hlt x1 x2 1)
theorem z_X10_landing_b54 {Γ : Cx} (G : GG Γ RX10 cX10_landing 3 (some .int) 9 1 6) (N : NX Γ 4 24) (hlt : (cLn Γ).stackTraces = false) (x1 : Int32) (x2 : Int32) (xs0 : Int32) : Rz Γ 3 (QmX Γ encI 4 24) 1 6 54 [(0, .ref 0), (1, .int x1), (2, .int x2)] [.int xs0] (f_X10_landing_b54 x1 x2 xs0) := by
  unfold f_X10_landing_b54
  refine rz_callX G N (st := []) (c_X10_need (cLn Γ) hlt xs0) lkX10_98 (k' := 2) (n' := 12) ⟨rfl, rfl⟩ (by decide) rfl (Nat.le_of_ble_eq_true rfl) (Nat.le_of_ble_eq_true rfl) (dq jX10_landing 28 rfl) rfl (fun _ => ?_)
  have G := G.up (k' := 2) (n' := 12) N (by decide) (by decide)
  refine rz_iload_n G 1 rfl rfl (dq jX10_landing 29 rfl) ?_
  refine rz_iconst G (v := (-1)) (dq jX10_landing 30 rfl) rfl ?_
  refine rz_icmp_ne G (tgt := 75) rfl (dq jX10_landing 31 rfl) (fun c1 => ?_) (fun c1 => ?_)
  · refine rz_aload_n G 0 rfl rfl (dq jX10_landing 32 rfl) ?_
    refine rz_getC G flX10_60 sh0 (t := 17) rfl rfl (dq jX10_landing 33 rfl) ?_
    refine rz_getC G flX10_244 sh17 (t := 28) rfl rfl (dq jX10_landing 34 rfl) ?_
    refine rz_getI G flX10_248 sh28 rfl (dq jX10_landing 35 rfl) (fun v2 => ?_)
    refine rz_goto G (tgt := 87) rfl (dq jX10_landing 36 rfl) ?_
    exact rz_iretX G (by decide) (dq jX10_landing 43 rfl)
  · refine rz_aload_n G 0 rfl rfl (dq jX10_landing 37 rfl) ?_
    refine rz_getC G flX10_60 sh0 (t := 17) rfl rfl (dq jX10_landing 38 rfl) ?_
    refine rz_getC G flX10_244 sh17 (t := 28) rfl rfl (dq jX10_landing 39 rfl) ?_
    refine rz_iload_n G 1 rfl rfl (dq jX10_landing 40 rfl) ?_
    refine rz_iload_n G 2 rfl rfl (dq jX10_landing 41 rfl) ?_
    refine rz_callVi G (st := []) (c_X3_told (cLn Γ) x1 x2) lkX10_249 sh28 rfl rfl rfl (Nat.le_of_ble_eq_true rfl) (Nat.le_of_ble_eq_true rfl) (dq jX10_landing 42 rfl) rfl (fun r3 => ?_)
    exact rz_iretX G (by decide) (dq jX10_landing 43 rfl)
theorem z_X10_landing_b28 {Γ : Cx} (G : GG Γ RX10 cX10_landing 3 (some .int) 9 0 0) (N : NX Γ 4 24) (hlt : (cLn Γ).stackTraces = false) (x1 : Int32) (x2 : Int32) (xs0 : Int32) : Rz Γ 3 (QmX Γ encI 4 24) 0 0 28 [(0, .ref 0), (1, .int x1), (2, .int x2)] [.int xs0] (f_X10_landing_b28 x1 x2 xs0) := by
  unfold f_X10_landing_b28
  refine rz_callX G N (st := []) (c_X10_need (cLn Γ) hlt xs0) lkX10_98 (k' := 1) (n' := 6) ⟨rfl, rfl⟩ (by decide) rfl (Nat.le_of_ble_eq_true rfl) (Nat.le_of_ble_eq_true rfl) (dq jX10_landing 16 rfl) rfl (fun _ => ?_)
  have G := G.up (k' := 1) (n' := 6) N (by decide) (by decide)
  refine rz_aload_n G 0 rfl rfl (dq jX10_landing 17 rfl) ?_
  refine rz_callVv G (st := []) (c_X10_playAll (cLn Γ)) lkX10_181 sh0 rfl rfl rfl (Nat.le_of_ble_eq_true rfl) (Nat.le_of_ble_eq_true rfl) (dq jX10_landing 18 rfl) rfl (fun _ => ?_)
  refine rz_iload_n G 1 rfl rfl (dq jX10_landing 19 rfl) ?_
  refine rz_aload_n G 0 rfl rfl (dq jX10_landing 20 rfl) ?_
  refine rz_getC G flX10_60 sh0 (t := 17) rfl rfl (dq jX10_landing 21 rfl) ?_
  refine rz_getC G flX10_244 sh17 (t := 28) rfl rfl (dq jX10_landing 22 rfl) ?_
  refine rz_getI G flX10_248 sh28 rfl (dq jX10_landing 23 rfl) (fun v1 => ?_)
  refine rz_icmp_ge G (tgt := 53) rfl (dq jX10_landing 24 rfl) (fun c2 => ?_) (fun c2 => ?_)
  · refine rz_iconst G (v := 0) (dq jX10_landing 27 rfl) rfl ?_
    exact rz_lv [0, 1, 2] rfl (z_X10_landing_b54 G N hlt x1 x2 0)
  · refine rz_iconst G (v := 1) (dq jX10_landing 25 rfl) rfl ?_
    refine rz_goto G (tgt := 54) rfl (dq jX10_landing 26 rfl) ?_
    exact rz_lv [0, 1, 2] rfl (z_X10_landing_b54 G N hlt x1 x2 1)
theorem z_X10_landing_b23 {Γ : Cx} (G : GG Γ RX10 cX10_landing 3 (some .int) 9 0 0) (N : NX Γ 4 24) (hlt : (cLn Γ).stackTraces = false) (x1 : Int32) (x2 : Int32) : Rz Γ 3 (QmX Γ encI 4 24) 0 0 23 [(0, .ref 0), (1, .int x1), (2, .int x2)] [] (f_X10_landing_b23 x1 x2) := by
  unfold f_X10_landing_b23
  refine rz_iconst G (v := 1) (dq jX10_landing 13 rfl) rfl ?_
  refine rz_goto G (tgt := 28) rfl (dq jX10_landing 14 rfl) ?_
  exact rz_lv [0, 1, 2] rfl (z_X10_landing_b28 G N hlt x1 x2 1)
theorem z_X10_landing_b27 {Γ : Cx} (G : GG Γ RX10 cX10_landing 3 (some .int) 9 0 0) (N : NX Γ 4 24) (hlt : (cLn Γ).stackTraces = false) (x1 : Int32) (x2 : Int32) : Rz Γ 3 (QmX Γ encI 4 24) 0 0 27 [(0, .ref 0), (1, .int x1), (2, .int x2)] [] (f_X10_landing_b27 x1 x2) := by
  unfold f_X10_landing_b27
  refine rz_iconst G (v := 0) (dq jX10_landing 15 rfl) rfl ?_
  exact rz_lv [0, 1, 2] rfl (z_X10_landing_b28 G N hlt x1 x2 0)
theorem c_X10_landing (l : Launch) (hlt : l.stackTraces = false) (x1 : Int32) (x2 : Int32) : CtX l yX10_landing cX10_landing 3 (some .int) 9 4 24 encI [.ref 0, .int x1, .int x2] (f_X10_landing x1 x2) := by
  refine ctX_of (own := RX10) (by decide) rfl (Nat.le_of_ble_eq_true rfl) (fun Γ hl0 G N => ?_)
  subst hl0
  show Rz Γ 3 (QmX Γ encI 4 24) 0 0 0 [(0, .ref 0), (1, .int x1), (2, .int x2)] [] _
  unfold f_X10_landing
  refine rz_iload_n G 1 rfl rfl (dq jX10_landing 0 rfl) ?_
  refine rz_iconst G (v := (-1)) (dq jX10_landing 1 rfl) rfl ?_
  refine rz_icmp_lt G (tgt := 27) rfl (dq jX10_landing 2 rfl) (fun c1 => ?_) (fun c1 => ?_)
  · exact rz_lv [0, 1, 2] rfl (z_X10_landing_b27 G N hlt x1 x2)
  · refine rz_iload_n G 2 rfl rfl (dq jX10_landing 3 rfl) ?_
    refine rz_if_lt G (tgt := 27) rfl (dq jX10_landing 4 rfl) (fun c2 => ?_) (fun c2 => ?_)
    · exact rz_lv [0, 1, 2] rfl (z_X10_landing_b27 G N hlt x1 x2)
    · refine rz_iload_n G 2 rfl rfl (dq jX10_landing 5 rfl) ?_
      refine rz_iconst G (v := 5) (dq jX10_landing 6 rfl) rfl ?_
      refine rz_icmp_ge G (tgt := 27) rfl (dq jX10_landing 7 rfl) (fun c3 => ?_) (fun c3 => ?_)
      · exact rz_lv [0, 1, 2] rfl (z_X10_landing_b27 G N hlt x1 x2)
      · refine rz_iload_n G 1 rfl rfl (dq jX10_landing 8 rfl) ?_
        refine rz_iconst G (v := (-1)) (dq jX10_landing 9 rfl) rfl ?_
        refine rz_icmp_ne G (tgt := 23) rfl (dq jX10_landing 10 rfl) (fun c4 => ?_) (fun c4 => ?_)
        · refine rz_iload_n G 2 rfl rfl (dq jX10_landing 11 rfl) ?_
          refine rz_if_ne G (tgt := 27) rfl (dq jX10_landing 12 rfl) (fun c5 => ?_) (fun c5 => ?_)
          · exact rz_lv [0, 1, 2] rfl (z_X10_landing_b23 G N hlt x1 x2)
          · exact rz_lv [0, 1, 2] rfl (z_X10_landing_b27 G N hlt x1 x2)
        · exact rz_lv [0, 1, 2] rfl (z_X10_landing_b23 G N hlt x1 x2)
theorem z_X10_lands_b23 {Γ : Cx} (G : GG Γ RX10 cX10_lands 3 (some .int) 9 0 0) (N : NX Γ 4 24) (hlt : (cLn Γ).stackTraces = false) (x1 : Int32) (x2 : Int32) (xs0 : Int32) : Rz Γ 3 (QmX Γ encI 4 24) 0 0 23 [(0, .ref 0), (1, .int x1), (2, .int x2)] [.int xs0] (f_X10_lands_b23 x1 x2 xs0) := by
  unfold f_X10_lands_b23
  refine rz_callX G N (st := []) (c_X10_need (cLn Γ) hlt xs0) lkX10_98 (k' := 1) (n' := 6) ⟨rfl, rfl⟩ (by decide) rfl (Nat.le_of_ble_eq_true rfl) (Nat.le_of_ble_eq_true rfl) (dq jX10_lands 12 rfl) rfl (fun _ => ?_)
  have G := G.up (k' := 1) (n' := 6) N (by decide) (by decide)
  refine rz_aload_n G 0 rfl rfl (dq jX10_lands 13 rfl) ?_
  refine rz_callVv G (st := []) (c_X10_playAll (cLn Γ)) lkX10_181 sh0 rfl rfl rfl (Nat.le_of_ble_eq_true rfl) (Nat.le_of_ble_eq_true rfl) (dq jX10_lands 14 rfl) rfl (fun _ => ?_)
  refine rz_aload_n G 0 rfl rfl (dq jX10_lands 15 rfl) ?_
  refine rz_getC G flX10_60 sh0 (t := 17) rfl rfl (dq jX10_lands 16 rfl) ?_
  refine rz_iload_n G 1 rfl rfl (dq jX10_lands 17 rfl) ?_
  refine rz_callVr G (st := []) (c_X4_flyer (cLn Γ) x1) lkX10_184 sh17 rfl rfl rfl (Nat.le_of_ble_eq_true rfl) (Nat.le_of_ble_eq_true rfl) (dq jX10_lands 18 rfl) rfl (fun u1 => ?_)
  refine rz_gd (fun h_u1 => ?_)
  refine rz_iload_n G 2 rfl rfl (dq jX10_lands 19 rfl) ?_
  refine rz_callVi G (st := []) (c_X1_landed (cLn Γ) u1 x2) lkX10_211 (fl_sh h_u1) rfl rfl rfl (Nat.le_of_ble_eq_true rfl) (Nat.le_of_ble_eq_true rfl) (dq jX10_lands 20 rfl) rfl (fun r2 => ?_)
  exact rz_iretX G (by decide) (dq jX10_lands 21 rfl)
theorem z_X10_lands_b22 {Γ : Cx} (G : GG Γ RX10 cX10_lands 3 (some .int) 9 0 0) (N : NX Γ 4 24) (hlt : (cLn Γ).stackTraces = false) (x1 : Int32) (x2 : Int32) : Rz Γ 3 (QmX Γ encI 4 24) 0 0 22 [(0, .ref 0), (1, .int x1), (2, .int x2)] [] (f_X10_lands_b22 x1 x2) := by
  unfold f_X10_lands_b22
  refine rz_iconst G (v := 0) (dq jX10_lands 11 rfl) rfl ?_
  exact rz_lv [0, 1, 2] rfl (z_X10_lands_b23 G N hlt x1 x2 0)
theorem c_X10_lands (l : Launch) (hlt : l.stackTraces = false) (x1 : Int32) (x2 : Int32) : CtX l yX10_lands cX10_lands 3 (some .int) 9 4 24 encI [.ref 0, .int x1, .int x2] (f_X10_lands x1 x2) := by
  refine ctX_of (own := RX10) (by decide) rfl (Nat.le_of_ble_eq_true rfl) (fun Γ hl0 G N => ?_)
  subst hl0
  show Rz Γ 3 (QmX Γ encI 4 24) 0 0 0 [(0, .ref 0), (1, .int x1), (2, .int x2)] [] _
  unfold f_X10_lands
  refine rz_aload_n G 0 rfl rfl (dq jX10_lands 0 rfl) ?_
  refine rz_iload_n G 1 rfl rfl (dq jX10_lands 1 rfl) ?_
  refine rz_callVi G (st := []) (c_X10_isJumper (cLn Γ) x1) lkX10_159 sh0 rfl rfl rfl (Nat.le_of_ble_eq_true rfl) (Nat.le_of_ble_eq_true rfl) (dq jX10_lands 2 rfl) rfl (fun r1 => ?_)
  refine rz_if_eq G (tgt := 22) rfl (dq jX10_lands 3 rfl) (fun c2 => ?_) (fun c2 => ?_)
  · exact rz_lv [0, 1, 2] rfl (z_X10_lands_b22 G N hlt x1 x2)
  · refine rz_iload_n G 2 rfl rfl (dq jX10_lands 4 rfl) ?_
    refine rz_if_lt G (tgt := 22) rfl (dq jX10_lands 5 rfl) (fun c3 => ?_) (fun c3 => ?_)
    · exact rz_lv [0, 1, 2] rfl (z_X10_lands_b22 G N hlt x1 x2)
    · refine rz_iload_n G 2 rfl rfl (dq jX10_lands 6 rfl) ?_
      refine rz_bipush G (v := 6) (dq jX10_lands 7 rfl) (by decide) ?_
      refine rz_icmp_ge G (tgt := 22) rfl (dq jX10_lands 8 rfl) (fun c4 => ?_) (fun c4 => ?_)
      · exact rz_lv [0, 1, 2] rfl (z_X10_lands_b22 G N hlt x1 x2)
      · refine rz_iconst G (v := 1) (dq jX10_lands 9 rfl) rfl ?_
        refine rz_goto G (tgt := 23) rfl (dq jX10_lands 10 rfl) ?_
        exact rz_lv [0, 1, 2] rfl (z_X10_lands_b23 G N hlt x1 x2 1)
theorem z_X10_mat_b14 {Γ : Cx} (G : GG Γ RX10 cX10_mat 2 (some .int) 9 0 0) (N : NX Γ 4 24) (hlt : (cLn Γ).stackTraces = false) (x1 : Int32) (xs0 : Int32) : Rz Γ 2 (QmX Γ encI 4 24) 0 0 14 [(0, .ref 0), (1, .int x1)] [.int xs0] (f_X10_mat_b14 x1 xs0) := by
  unfold f_X10_mat_b14
  refine rz_callX G N (st := []) (c_X10_need (cLn Γ) hlt xs0) lkX10_98 (k' := 1) (n' := 6) ⟨rfl, rfl⟩ (by decide) rfl (Nat.le_of_ble_eq_true rfl) (Nat.le_of_ble_eq_true rfl) (dq jX10_mat 8 rfl) rfl (fun _ => ?_)
  have G := G.up (k' := 1) (n' := 6) N (by decide) (by decide)
  refine rz_aload_n G 0 rfl rfl (dq jX10_mat 9 rfl) ?_
  refine rz_callVv G (st := []) (c_X10_playAll (cLn Γ)) lkX10_181 sh0 rfl rfl rfl (Nat.le_of_ble_eq_true rfl) (Nat.le_of_ble_eq_true rfl) (dq jX10_mat 10 rfl) rfl (fun _ => ?_)
  refine rz_iload_n G 1 rfl rfl (dq jX10_mat 11 rfl) ?_
  refine rz_br (fun c1 => ?_) (fun c1 => ?_)
  · refine rz_tableIn G 0 (tgt := 52) swX10_mat_22 (by rw [c1]; rfl) (by decide) rfl rfl ?_
    refine rz_aload_n G 0 rfl rfl (dq jX10_mat_s1 0 rfl) ?_
    refine rz_getC G flX10_60 sh0 (t := 17) rfl rfl (dq jX10_mat_s1 1 rfl) ?_
    refine rz_getI G flX10_227 sh17 rfl (dq jX10_mat_s1 2 rfl) (fun v2 => ?_)
    exact rz_iretX G (by decide) (dq jX10_mat_s1 3 rfl)
  · refine rz_br (fun c3 => ?_) (fun c3 => ?_)
    · refine rz_tableIn G 1 (tgt := 60) swX10_mat_22 (by rw [c3]; rfl) (by decide) rfl rfl ?_
      refine rz_aload_n G 0 rfl rfl (dq jX10_mat_s1 4 rfl) ?_
      refine rz_getC G flX10_60 sh0 (t := 17) rfl rfl (dq jX10_mat_s1 5 rfl) ?_
      refine rz_getI G flX10_230 sh17 rfl (dq jX10_mat_s1 6 rfl) (fun v4 => ?_)
      exact rz_iretX G (by decide) (dq jX10_mat_s1 7 rfl)
    · refine rz_br (fun c5 => ?_) (fun c5 => ?_)
      · refine rz_tableIn G 2 (tgt := 68) swX10_mat_22 (by rw [c5]; rfl) (by decide) rfl rfl ?_
        refine rz_aload_n G 0 rfl rfl (dq jX10_mat_s1 8 rfl) ?_
        refine rz_getC G flX10_60 sh0 (t := 17) rfl rfl (dq jX10_mat_s1 9 rfl) ?_
        refine rz_getI G flX10_233 sh17 rfl (dq jX10_mat_s1 10 rfl) (fun v6 => ?_)
        exact rz_iretX G (by decide) (dq jX10_mat_s1 11 rfl)
      · refine rz_br (fun c7 => ?_) (fun c7 => ?_)
        · refine rz_tableIn G 3 (tgt := 76) swX10_mat_22 (by rw [c7]; rfl) (by decide) rfl rfl ?_
          refine rz_aload_n G 0 rfl rfl (dq jX10_mat_s1 12 rfl) ?_
          refine rz_getC G flX10_60 sh0 (t := 17) rfl rfl (dq jX10_mat_s1 13 rfl) ?_
          refine rz_getI G flX10_236 sh17 rfl (dq jX10_mat_s1 14 rfl) (fun v8 => ?_)
          exact rz_iretX G (by decide) (dq jX10_mat_s1 15 rfl)
        · have n_c1 := ne_toInt (z := 0) (by decide) c1; have n_c3 := ne_toInt (z := 1) (by decide) c3; have n_c5 := ne_toInt (z := 2) (by decide) c5; have n_c7 := ne_toInt (z := 3) (by decide) c7
          refine rz_tableOut G (tgt := 84) swX10_mat_22 (by omega) rfl ?_
          refine rz_aload_n G 0 rfl rfl (dq jX10_mat_s1 16 rfl) ?_
          refine rz_getC G flX10_60 sh0 (t := 17) rfl rfl (dq jX10_mat_s1 17 rfl) ?_
          refine rz_getI G flX10_239 sh17 rfl (dq jX10_mat_s1 18 rfl) (fun v9 => ?_)
          exact rz_iretX G (by decide) (dq jX10_mat_s1 19 rfl)
theorem z_X10_mat_b13 {Γ : Cx} (G : GG Γ RX10 cX10_mat 2 (some .int) 9 0 0) (N : NX Γ 4 24) (hlt : (cLn Γ).stackTraces = false) (x1 : Int32) : Rz Γ 2 (QmX Γ encI 4 24) 0 0 13 [(0, .ref 0), (1, .int x1)] [] (f_X10_mat_b13 x1) := by
  unfold f_X10_mat_b13
  refine rz_iconst G (v := 0) (dq jX10_mat 7 rfl) rfl ?_
  exact rz_lv [0, 1] rfl (z_X10_mat_b14 G N hlt x1 0)
theorem c_X10_mat (l : Launch) (hlt : l.stackTraces = false) (x1 : Int32) : CtX l yX10_mat cX10_mat 2 (some .int) 9 4 24 encI [.ref 0, .int x1] (f_X10_mat x1) := by
  refine ctX_of (own := RX10) (by decide) rfl (Nat.le_of_ble_eq_true rfl) (fun Γ hl0 G N => ?_)
  subst hl0
  show Rz Γ 2 (QmX Γ encI 4 24) 0 0 0 [(0, .ref 0), (1, .int x1)] [] _
  unfold f_X10_mat
  refine rz_iload_n G 1 rfl rfl (dq jX10_mat 0 rfl) ?_
  refine rz_if_lt G (tgt := 13) rfl (dq jX10_mat 1 rfl) (fun c1 => ?_) (fun c1 => ?_)
  · exact rz_lv [0, 1] rfl (z_X10_mat_b13 G N hlt x1)
  · refine rz_iload_n G 1 rfl rfl (dq jX10_mat 2 rfl) ?_
    refine rz_iconst G (v := 4) (dq jX10_mat 3 rfl) rfl ?_
    refine rz_icmp_gt G (tgt := 13) rfl (dq jX10_mat 4 rfl) (fun c2 => ?_) (fun c2 => ?_)
    · exact rz_lv [0, 1] rfl (z_X10_mat_b13 G N hlt x1)
    · refine rz_iconst G (v := 1) (dq jX10_mat 5 rfl) rfl ?_
      refine rz_goto G (tgt := 14) rfl (dq jX10_mat 6 rfl) ?_
      exact rz_lv [0, 1] rfl (z_X10_mat_b14 G N hlt x1 1)
theorem z_X10_moment_b105 {Γ : Cx} (G : GG Γ RX10 cX10_moment 7 (some .int) 9 1 6) (N : NX Γ 4 24) (hlt : (cLn Γ).stackTraces = false) (k33 : Int32 → Int32 → Int32 → Int32 → Int32 → Sg → Option ((Int32 ⊕ Bool) × Sg)) (hk33 : ∀ (x1 : Int32) (x2 : Int32) (x3 : Int32) (x4 : Int32) (x5 : Int32), Rz Γ 7 (QmX Γ encI 4 24) 1 6 33 [(0, .ref 0), (1, .int x1), (2, .int x2), (3, .int x3), (4, .int x4), (5, .int x5)] [] (k33 x1 x2 x3 x4 x5)) (x1 : Int32) (x2 : Int32) (x3 : Int32) (x4 : Int32) (x5 : Int32) : Rz Γ 7 (QmX Γ encI 4 24) 1 6 105 [(0, .ref 0), (1, .int x1), (2, .int x2), (3, .int x3), (4, .int x4), (5, .int x5)] [] (f_X10_moment_b105 k33 x1 x2 x3 x4 x5) := by
  unfold f_X10_moment_b105
  refine rz_iinc G 5 (v := x5 + 1) (lv' := [(5, .int (x5 + 1)), (0, .ref 0), (1, .int x1), (2, .int x2), (3, .int x3), (4, .int x4)]) rfl (congrArg (HAdd.hAdd _) (by decide)) (Nat.le_of_ble_eq_true rfl) rfl (dq jX10_moment 53 rfl) ?_
  refine rz_goto G (tgt := 33) rfl (dq jX10_moment 54 rfl) ?_
  exact rz_lv [1, 2, 3, 4, 5, 0] rfl (hk33 x1 x2 x3 x4 (x5 + 1))
theorem z_X10_moment_b98 {Γ : Cx} (G : GG Γ RX10 cX10_moment 7 (some .int) 9 1 6) (N : NX Γ 4 24) (hlt : (cLn Γ).stackTraces = false) (k33 : Int32 → Int32 → Int32 → Int32 → Int32 → Sg → Option ((Int32 ⊕ Bool) × Sg)) (hk33 : ∀ (x1 : Int32) (x2 : Int32) (x3 : Int32) (x4 : Int32) (x5 : Int32), Rz Γ 7 (QmX Γ encI 4 24) 1 6 33 [(0, .ref 0), (1, .int x1), (2, .int x2), (3, .int x3), (4, .int x4), (5, .int x5)] [] (k33 x1 x2 x3 x4 x5)) (x1 : Int32) (x2 : Int32) (x5 : Int32) (x6 : Int32) : Rz Γ 7 (QmX Γ encI 4 24) 1 6 98 [(0, .ref 0), (1, .int x1), (2, .int x2), (5, .int x5), (6, .int x6)] [] (f_X10_moment_b98 k33 x1 x2 x5 x6) := by
  unfold f_X10_moment_b98
  refine rz_iload G 3 rfl (dq jX10_moment 49 rfl) ?_
  refine rz_istore_n G (lv' := [(3, .int x5), (0, .ref 0), (1, .int x1), (2, .int x2), (5, .int x5), (6, .int x6)]) rfl (Nat.le_of_ble_eq_true rfl) rfl (dq jX10_moment 50 rfl) ?_
  refine rz_iload G 5 rfl (dq jX10_moment 51 rfl) ?_
  refine rz_istore G (lv' := [(4, .int x6), (3, .int x5), (0, .ref 0), (1, .int x1), (2, .int x2), (5, .int x5), (6, .int x6)]) (Nat.le_of_ble_eq_true rfl) rfl (dq jX10_moment 52 rfl) ?_
  exact rz_lv [2, 3, 4, 1, 0, 5] rfl (z_X10_moment_b105 G N hlt k33 hk33 x1 x2 x5 x6 x5)
theorem z_X10_moment_b33 {Γ : Cx} (G : GG Γ RX10 cX10_moment 7 (some .int) 9 1 6) (N : NX Γ 4 24) (hlt : (cLn Γ).stackTraces = false) : ∀ (fu : Nat) (x1 : Int32) (x2 : Int32) (x3 : Int32) (x4 : Int32) (x5 : Int32), Rz Γ 7 (QmX Γ encI 4 24) 1 6 33 [(0, .ref 0), (1, .int x1), (2, .int x2), (3, .int x3), (4, .int x4), (5, .int x5)] [] (f_X10_moment_b33 fu x1 x2 x3 x4 x5) := by
  intro fu
  induction fu with
  | zero => intro _ _ _ _ _; exact rz_none
  | succ fu ih =>
    intro x1 x2 x3 x4 x5
    rw [f_X10_moment_b33]
    refine rz_iload G 5 rfl (dq jX10_moment 19 rfl) ?_
    refine rz_bipush G (v := 40) (dq jX10_moment 20 rfl) (by decide) ?_
    refine rz_icmp_ge G (tgt := 111) rfl (dq jX10_moment 21 rfl) (fun c1 => ?_) (fun c1 => ?_)
    · refine rz_iload_n G 3 rfl rfl (dq jX10_moment 55 rfl) ?_
      exact rz_iretX G (by decide) (dq jX10_moment 56 rfl)
    · refine rz_aload_n G 0 rfl rfl (dq jX10_moment 22 rfl) ?_
      refine rz_callVv G (st := []) (c_X10_prepare (cLn Γ)) lkX10_217 sh0 rfl rfl rfl (Nat.le_of_ble_eq_true rfl) (Nat.le_of_ble_eq_true rfl) (dq jX10_moment 23 rfl) rfl (fun _ => ?_)
      refine rz_aload_n G 0 rfl rfl (dq jX10_moment 24 rfl) ?_
      refine rz_getC G flX10_60 sh0 (t := 17) rfl rfl (dq jX10_moment 25 rfl) ?_
      refine rz_iload_n G 1 rfl rfl (dq jX10_moment 26 rfl) ?_
      refine rz_callVr G (st := []) (c_X4_flyer (cLn Γ) x1) lkX10_184 sh17 rfl rfl rfl (Nat.le_of_ble_eq_true rfl) (Nat.le_of_ble_eq_true rfl) (dq jX10_moment 27 rfl) rfl (fun u2 => ?_)
      refine rz_gd (fun h_u2 => ?_)
      refine rz_iload G 5 rfl (dq jX10_moment 28 rfl) ?_
      refine rz_callVv G (st := []) (c_X1_startIn (cLn Γ) u2 x5) lkX10_256 (fl_sh h_u2) rfl rfl rfl (Nat.le_of_ble_eq_true rfl) (Nat.le_of_ble_eq_true rfl) (dq jX10_moment 29 rfl) rfl (fun _ => ?_)
      refine rz_aload_n G 0 rfl rfl (dq jX10_moment 30 rfl) ?_
      refine rz_getC G flX10_60 sh0 (t := 17) rfl rfl (dq jX10_moment 31 rfl) ?_
      refine rz_iconst G (v := 0) (dq jX10_moment 32 rfl) rfl ?_
      refine rz_aload_n G 0 rfl rfl (dq jX10_moment 33 rfl) ?_
      refine rz_getC G flX10_39 sh0 (t := 2) rfl rfl (dq jX10_moment 34 rfl) ?_
      refine rz_getI G flX10_147 sh2 rfl (dq jX10_moment 35 rfl) (fun v3 => ?_)
      refine rz_callVv G (st := []) (c_X4_go (cLn Γ) 0 v3) lkX10_220 sh17 rfl rfl rfl (Nat.le_of_ble_eq_true rfl) (Nat.le_of_ble_eq_true rfl) (dq jX10_moment 36 rfl) rfl (fun _ => ?_)
      refine rz_aload_n G 0 rfl rfl (dq jX10_moment 37 rfl) ?_
      refine rz_getC G flX10_60 sh0 (t := 17) rfl rfl (dq jX10_moment 38 rfl) ?_
      refine rz_iload_n G 1 rfl rfl (dq jX10_moment 39 rfl) ?_
      refine rz_callVr G (st := []) (c_X4_flyer (cLn Γ) x1) lkX10_184 sh17 rfl rfl rfl (Nat.le_of_ble_eq_true rfl) (Nat.le_of_ble_eq_true rfl) (dq jX10_moment 40 rfl) rfl (fun u4 => ?_)
      refine rz_gd (fun h_u4 => ?_)
      refine rz_iload_n G 2 rfl rfl (dq jX10_moment 41 rfl) ?_
      refine rz_callSi G (st := []) (c_X10_worthOf (cLn Γ) u4 x2) lkX10_259 rfl (Nat.le_of_ble_eq_true rfl) (Nat.le_of_ble_eq_true rfl) (dq jX10_moment 42 rfl) rfl (fun r5 => ?_)
      refine rz_istore G (lv' := [(6, .int r5), (0, .ref 0), (1, .int x1), (2, .int x2), (3, .int x3), (4, .int x4), (5, .int x5)]) (Nat.le_of_ble_eq_true rfl) rfl (dq jX10_moment 43 rfl) ?_
      refine rz_iload G 6 rfl (dq jX10_moment 44 rfl) ?_
      refine rz_if_eq G (tgt := 98) rfl (dq jX10_moment 45 rfl) (fun c6 => ?_) (fun c6 => ?_)
      · exact rz_lv [1, 2, 3, 6, 0] rfl (z_X10_moment_b98 G N hlt (f_X10_moment_b33 fu) ih x1 x2 x5 r5)
      · refine rz_iload G 0 rfl (dq jX10_moment 46 rfl) ?_
        refine rz_iload G 5 rfl (dq jX10_moment 47 rfl) ?_
        refine rz_icmp_le G (tgt := 105) rfl (dq jX10_moment 48 rfl) (fun c7 => ?_) (fun c7 => ?_)
        · exact rz_lv [1, 2, 3, 4, 5, 6] rfl (z_X10_moment_b105 G N hlt (f_X10_moment_b33 fu) ih x1 x2 x3 x4 x5)
        · exact rz_lv [1, 2, 3, 6, 0] rfl (z_X10_moment_b98 G N hlt (f_X10_moment_b33 fu) ih x1 x2 x5 r5)
theorem z_X10_moment_b22 {Γ : Cx} (G : GG Γ RX10 cX10_moment 7 (some .int) 9 0 0) (N : NX Γ 4 24) (hlt : (cLn Γ).stackTraces = false) (x1 : Int32) (x2 : Int32) (xs0 : Int32) : Rz Γ 7 (QmX Γ encI 4 24) 0 0 22 [(0, .ref 0), (1, .int x1), (2, .int x2)] [.int xs0] (f_X10_moment_b22 x1 x2 xs0) := by
  unfold f_X10_moment_b22
  refine rz_callX G N (st := []) (c_X10_need (cLn Γ) hlt xs0) lkX10_98 (k' := 1) (n' := 6) ⟨rfl, rfl⟩ (by decide) rfl (Nat.le_of_ble_eq_true rfl) (Nat.le_of_ble_eq_true rfl) (dq jX10_moment 12 rfl) rfl (fun _ => ?_)
  have G := G.up (k' := 1) (n' := 6) N (by decide) (by decide)
  refine rz_iconst G (v := 0) (dq jX10_moment 13 rfl) rfl ?_
  refine rz_istore_n G (lv' := [(3, .int 0), (0, .ref 0), (1, .int x1), (2, .int x2)]) rfl (Nat.le_of_ble_eq_true rfl) rfl (dq jX10_moment 14 rfl) ?_
  refine rz_iconst G (v := 0) (dq jX10_moment 15 rfl) rfl ?_
  refine rz_istore G (lv' := [(4, .int 0), (3, .int 0), (0, .ref 0), (1, .int x1), (2, .int x2)]) (Nat.le_of_ble_eq_true rfl) rfl (dq jX10_moment 16 rfl) ?_
  refine rz_iconst G (v := 0) (dq jX10_moment 17 rfl) rfl ?_
  refine rz_istore G (lv' := [(5, .int 0), (4, .int 0), (3, .int 0), (0, .ref 0), (1, .int x1), (2, .int x2)]) (Nat.le_of_ble_eq_true rfl) rfl (dq jX10_moment 18 rfl) ?_
  exact rz_lv [3, 4, 5, 2, 1, 0] rfl (z_X10_moment_b33 G N hlt FU x1 x2 0 0 0)
theorem z_X10_moment_b21 {Γ : Cx} (G : GG Γ RX10 cX10_moment 7 (some .int) 9 0 0) (N : NX Γ 4 24) (hlt : (cLn Γ).stackTraces = false) (x1 : Int32) (x2 : Int32) : Rz Γ 7 (QmX Γ encI 4 24) 0 0 21 [(0, .ref 0), (1, .int x1), (2, .int x2)] [] (f_X10_moment_b21 x1 x2) := by
  unfold f_X10_moment_b21
  refine rz_iconst G (v := 0) (dq jX10_moment 11 rfl) rfl ?_
  exact rz_lv [0, 1, 2] rfl (z_X10_moment_b22 G N hlt x1 x2 0)
theorem c_X10_moment (l : Launch) (hlt : l.stackTraces = false) (x1 : Int32) (x2 : Int32) : CtX l yX10_moment cX10_moment 7 (some .int) 9 4 24 encI [.ref 0, .int x1, .int x2] (f_X10_moment x1 x2) := by
  refine ctX_of (own := RX10) (by decide) rfl (Nat.le_of_ble_eq_true rfl) (fun Γ hl0 G N => ?_)
  subst hl0
  show Rz Γ 7 (QmX Γ encI 4 24) 0 0 0 [(0, .ref 0), (1, .int x1), (2, .int x2)] [] _
  unfold f_X10_moment
  refine rz_aload_n G 0 rfl rfl (dq jX10_moment 0 rfl) ?_
  refine rz_iload_n G 1 rfl rfl (dq jX10_moment 1 rfl) ?_
  refine rz_callVi G (st := []) (c_X10_isJumper (cLn Γ) x1) lkX10_159 sh0 rfl rfl rfl (Nat.le_of_ble_eq_true rfl) (Nat.le_of_ble_eq_true rfl) (dq jX10_moment 2 rfl) rfl (fun r1 => ?_)
  refine rz_if_eq G (tgt := 21) rfl (dq jX10_moment 3 rfl) (fun c2 => ?_) (fun c2 => ?_)
  · exact rz_lv [0, 1, 2] rfl (z_X10_moment_b21 G N hlt x1 x2)
  · refine rz_iload_n G 2 rfl rfl (dq jX10_moment 4 rfl) ?_
    refine rz_if_lt G (tgt := 21) rfl (dq jX10_moment 5 rfl) (fun c3 => ?_) (fun c3 => ?_)
    · exact rz_lv [0, 1, 2] rfl (z_X10_moment_b21 G N hlt x1 x2)
    · refine rz_iload_n G 2 rfl rfl (dq jX10_moment 6 rfl) ?_
      refine rz_iconst G (v := 2) (dq jX10_moment 7 rfl) rfl ?_
      refine rz_icmp_gt G (tgt := 21) rfl (dq jX10_moment 8 rfl) (fun c4 => ?_) (fun c4 => ?_)
      · exact rz_lv [0, 1, 2] rfl (z_X10_moment_b21 G N hlt x1 x2)
      · refine rz_iconst G (v := 1) (dq jX10_moment 9 rfl) rfl ?_
        refine rz_goto G (tgt := 22) rfl (dq jX10_moment 10 rfl) ?_
        exact rz_lv [0, 1, 2] rfl (z_X10_moment_b22 G N hlt x1 x2 1)
theorem z_X10_over_b116 {Γ : Cx} (G : GG Γ RX10 cX10_over 7 (some .int) 9 2 12) (N : NX Γ 4 24) (hlt : (cLn Γ).stackTraces = false) (k57 : Int32 → Int32 → Int32 → Int32 → Int32 → Int32 → Sg → Option ((Int32 ⊕ Bool) × Sg)) (hk57 : ∀ (x1 : Int32) (x2 : Int32) (x3 : Int32) (x4 : Int32) (x5 : Int32) (x6 : Int32), Rz Γ 7 (QmX Γ encI 4 24) 2 12 57 [(0, .ref 0), (1, .int x1), (2, .int x2), (3, .int x3), (4, .int x4), (5, .int x5), (6, .int x6)] [] (k57 x1 x2 x3 x4 x5 x6)) (x1 : Int32) (x2 : Int32) (x3 : Int32) (x4 : Int32) (x5 : Int32) (x6 : Int32) : Rz Γ 7 (QmX Γ encI 4 24) 2 12 116 [(0, .ref 0), (1, .int x1), (2, .int x2), (3, .int x3), (4, .int x4), (5, .int x5), (6, .int x6)] [] (f_X10_over_b116 k57 x1 x2 x3 x4 x5 x6) := by
  unfold f_X10_over_b116
  refine rz_iinc G 6 (v := x6 + 1) (lv' := [(6, .int (x6 + 1)), (0, .ref 0), (1, .int x1), (2, .int x2), (3, .int x3), (4, .int x4), (5, .int x5)]) rfl (congrArg (HAdd.hAdd _) (by decide)) (Nat.le_of_ble_eq_true rfl) rfl (dq jX10_over 57 rfl) ?_
  refine rz_goto G (tgt := 57) rfl (dq jX10_over 58 rfl) ?_
  exact rz_lv [1, 2, 3, 4, 5, 6, 0] rfl (hk57 x1 x2 x3 x4 x5 (x6 + 1))
theorem z_X10_over_b111 {Γ : Cx} (G : GG Γ RX10 cX10_over 7 (some .int) 9 2 12) (N : NX Γ 4 24) (hlt : (cLn Γ).stackTraces = false) (k57 : Int32 → Int32 → Int32 → Int32 → Int32 → Int32 → Sg → Option ((Int32 ⊕ Bool) × Sg)) (hk57 : ∀ (x1 : Int32) (x2 : Int32) (x3 : Int32) (x4 : Int32) (x5 : Int32) (x6 : Int32), Rz Γ 7 (QmX Γ encI 4 24) 2 12 57 [(0, .ref 0), (1, .int x1), (2, .int x2), (3, .int x3), (4, .int x4), (5, .int x5), (6, .int x6)] [] (k57 x1 x2 x3 x4 x5 x6)) (x1 : Int32) (x2 : Int32) (x3 : Int32) (x4 : Int32) (x6 : Int32) (xs0 : Int32) : Rz Γ 7 (QmX Γ encI 4 24) 2 12 111 [(0, .ref 0), (1, .int x1), (2, .int x2), (3, .int x3), (4, .int x4), (6, .int x6)] [.int xs0] (f_X10_over_b111 k57 x1 x2 x3 x4 x6 xs0) := by
  unfold f_X10_over_b111
  refine rz_istore G (lv' := [(5, .int xs0), (0, .ref 0), (1, .int x1), (2, .int x2), (3, .int x3), (4, .int x4), (6, .int x6)]) (Nat.le_of_ble_eq_true rfl) rfl (dq jX10_over 55 rfl) ?_
  refine rz_iinc G 5 (v := x4 + 1) (lv' := [(4, .int (x4 + 1)), (5, .int xs0), (0, .ref 0), (1, .int x1), (2, .int x2), (3, .int x3), (6, .int x6)]) rfl (congrArg (HAdd.hAdd _) (by decide)) (Nat.le_of_ble_eq_true rfl) rfl (dq jX10_over 56 rfl) ?_
  exact rz_lv [2, 3, 4, 5, 0, 1, 6] rfl (z_X10_over_b116 G N hlt k57 hk57 x1 x2 x3 (x4 + 1) xs0 x6)
theorem z_X10_over_b122 {Γ : Cx} (G : GG Γ RX10 cX10_over 7 (some .int) 9 2 12) (N : NX Γ 4 24) (hlt : (cLn Γ).stackTraces = false) (x3 : Int32) (x4 : Int32) (x5 : Int32) : Rz Γ 7 (QmX Γ encI 4 24) 2 12 122 [(3, .int x3), (4, .int x4), (5, .int x5)] [] (f_X10_over_b122 x3 x4 x5) := by
  unfold f_X10_over_b122
  refine rz_iload_n G 0 rfl rfl (dq jX10_over 59 rfl) ?_
  refine rz_if_ne G (tgt := 131) rfl (dq jX10_over 60 rfl) (fun c1 => ?_) (fun c1 => ?_)
  · refine rz_iload G 1 rfl (dq jX10_over 61 rfl) ?_
    refine rz_goto G (tgt := 133) rfl (dq jX10_over 62 rfl) ?_
    exact rz_iretX G (by decide) (dq jX10_over 64 rfl)
  · refine rz_iload G 2 rfl (dq jX10_over 63 rfl) ?_
    exact rz_iretX G (by decide) (dq jX10_over 64 rfl)
theorem z_X10_over_b57 {Γ : Cx} (G : GG Γ RX10 cX10_over 7 (some .int) 9 2 12) (N : NX Γ 4 24) (hlt : (cLn Γ).stackTraces = false) : ∀ (fu : Nat) (x1 : Int32) (x2 : Int32) (x3 : Int32) (x4 : Int32) (x5 : Int32) (x6 : Int32), Rz Γ 7 (QmX Γ encI 4 24) 2 12 57 [(0, .ref 0), (1, .int x1), (2, .int x2), (3, .int x3), (4, .int x4), (5, .int x5), (6, .int x6)] [] (f_X10_over_b57 fu x1 x2 x3 x4 x5 x6) := by
  intro fu
  induction fu with
  | zero => intro _ _ _ _ _ _; exact rz_none
  | succ fu ih =>
    intro x1 x2 x3 x4 x5 x6
    rw [f_X10_over_b57]
    refine rz_iload G 6 rfl (dq jX10_over 30 rfl) ?_
    refine rz_aload_n G 0 rfl rfl (dq jX10_over 31 rfl) ?_
    refine rz_getC G flX10_39 sh0 (t := 2) rfl rfl (dq jX10_over 32 rfl) ?_
    refine rz_getI G flX10_147 sh2 rfl (dq jX10_over 33 rfl) (fun v1 => ?_)
    refine rz_icmp_ge G (tgt := 122) rfl (dq jX10_over 34 rfl) (fun c2 => ?_) (fun c2 => ?_)
    · exact rz_lv [3, 4, 5] rfl (z_X10_over_b122 G N hlt x3 x4 x5)
    · refine rz_aload_n G 0 rfl rfl (dq jX10_over 35 rfl) ?_
      refine rz_getC G flX10_60 sh0 (t := 17) rfl rfl (dq jX10_over 36 rfl) ?_
      refine rz_iload G 6 rfl (dq jX10_over 37 rfl) ?_
      refine rz_iload G 6 rfl (dq jX10_over 38 rfl) ?_
      refine rz_iconst G (v := 1) (dq jX10_over 39 rfl) rfl ?_
      refine rz_iadd G (dq jX10_over 40 rfl) ?_
      refine rz_callVv G (st := []) (c_X4_go (cLn Γ) x6 (x6 + 1)) lkX10_220 sh17 rfl rfl rfl (Nat.le_of_ble_eq_true rfl) (Nat.le_of_ble_eq_true rfl) (dq jX10_over 41 rfl) rfl (fun _ => ?_)
      refine rz_aload_n G 0 rfl rfl (dq jX10_over 42 rfl) ?_
      refine rz_getC G flX10_60 sh0 (t := 17) rfl rfl (dq jX10_over 43 rfl) ?_
      refine rz_iload_n G 1 rfl rfl (dq jX10_over 44 rfl) ?_
      refine rz_callVr G (st := []) (c_X4_flyer (cLn Γ) x1) lkX10_184 sh17 rfl rfl rfl (Nat.le_of_ble_eq_true rfl) (Nat.le_of_ble_eq_true rfl) (dq jX10_over 45 rfl) rfl (fun u3 => ?_)
      refine rz_gd (fun h_u3 => ?_)
      refine rz_iload G 6 rfl (dq jX10_over 46 rfl) ?_
      refine rz_callVi G (st := []) (c_X1_heightIn (cLn Γ) u3 x6) lkX10_224 (fl_sh h_u3) rfl rfl rfl (Nat.le_of_ble_eq_true rfl) (Nat.le_of_ble_eq_true rfl) (dq jX10_over 47 rfl) rfl (fun r4 => ?_)
      refine rz_iload_n G 2 rfl rfl (dq jX10_over 48 rfl) ?_
      refine rz_icmp_lt G (tgt := 116) rfl (dq jX10_over 49 rfl) (fun c5 => ?_) (fun c5 => ?_)
      · exact rz_lv [0, 1, 2, 3, 4, 5, 6] rfl (z_X10_over_b116 G N hlt (f_X10_over_b57 fu) ih x1 x2 x3 x4 x5 x6)
      · refine rz_iload G 4 rfl (dq jX10_over 50 rfl) ?_
        refine rz_if_ne G (tgt := 109) rfl (dq jX10_over 51 rfl) (fun c6 => ?_) (fun c6 => ?_)
        · refine rz_iload G 6 rfl (dq jX10_over 52 rfl) ?_
          refine rz_goto G (tgt := 111) rfl (dq jX10_over 53 rfl) ?_
          exact rz_lv [0, 1, 2, 3, 4, 6] rfl (z_X10_over_b111 G N hlt (f_X10_over_b57 fu) ih x1 x2 x3 x4 x6 x6)
        · refine rz_iload G 5 rfl (dq jX10_over 54 rfl) ?_
          exact rz_lv [0, 1, 2, 3, 4, 6] rfl (z_X10_over_b111 G N hlt (f_X10_over_b57 fu) ih x1 x2 x3 x4 x6 x5)
theorem z_X10_over_b41 {Γ : Cx} (G : GG Γ RX10 cX10_over 7 (some .int) 9 1 6) (N : NX Γ 4 24) (hlt : (cLn Γ).stackTraces = false) (x1 : Int32) (x2 : Int32) (x3 : Int32) (xs0 : Int32) : Rz Γ 7 (QmX Γ encI 4 24) 1 6 41 [(0, .ref 0), (1, .int x1), (2, .int x2), (3, .int x3)] [.int xs0] (f_X10_over_b41 x1 x2 x3 xs0) := by
  unfold f_X10_over_b41
  refine rz_callX G N (st := []) (c_X10_demand (cLn Γ) hlt xs0) lkX10_82 (k' := 2) (n' := 12) ⟨rfl, rfl⟩ (by decide) rfl (Nat.le_of_ble_eq_true rfl) (Nat.le_of_ble_eq_true rfl) (dq jX10_over 21 rfl) rfl (fun _ => ?_)
  have G := G.up (k' := 2) (n' := 12) N (by decide) (by decide)
  refine rz_aload_n G 0 rfl rfl (dq jX10_over 22 rfl) ?_
  refine rz_callVv G (st := []) (c_X10_prepare (cLn Γ)) lkX10_217 sh0 rfl rfl rfl (Nat.le_of_ble_eq_true rfl) (Nat.le_of_ble_eq_true rfl) (dq jX10_over 23 rfl) rfl (fun _ => ?_)
  refine rz_iconst G (v := 0) (dq jX10_over 24 rfl) rfl ?_
  refine rz_istore G (lv' := [(4, .int 0), (0, .ref 0), (1, .int x1), (2, .int x2), (3, .int x3)]) (Nat.le_of_ble_eq_true rfl) rfl (dq jX10_over 25 rfl) ?_
  refine rz_iconst G (v := (-1)) (dq jX10_over 26 rfl) rfl ?_
  refine rz_istore G (lv' := [(5, .int ((-1))), (4, .int 0), (0, .ref 0), (1, .int x1), (2, .int x2), (3, .int x3)]) (Nat.le_of_ble_eq_true rfl) rfl (dq jX10_over 27 rfl) ?_
  refine rz_iconst G (v := 0) (dq jX10_over 28 rfl) rfl ?_
  refine rz_istore G (lv' := [(6, .int 0), (5, .int ((-1))), (4, .int 0), (0, .ref 0), (1, .int x1), (2, .int x2), (3, .int x3)]) (Nat.le_of_ble_eq_true rfl) rfl (dq jX10_over 29 rfl) ?_
  exact rz_lv [3, 4, 5, 6, 2, 1, 0] rfl (z_X10_over_b57 G N hlt FU x1 x2 x3 0 ((-1)) 0)
theorem z_X10_over_b40 {Γ : Cx} (G : GG Γ RX10 cX10_over 7 (some .int) 9 1 6) (N : NX Γ 4 24) (hlt : (cLn Γ).stackTraces = false) (x1 : Int32) (x2 : Int32) (x3 : Int32) : Rz Γ 7 (QmX Γ encI 4 24) 1 6 40 [(0, .ref 0), (1, .int x1), (2, .int x2), (3, .int x3)] [] (f_X10_over_b40 x1 x2 x3) := by
  unfold f_X10_over_b40
  refine rz_iconst G (v := 0) (dq jX10_over 20 rfl) rfl ?_
  exact rz_lv [0, 1, 2, 3] rfl (z_X10_over_b41 G N hlt x1 x2 x3 0)
theorem z_X10_over_b22 {Γ : Cx} (G : GG Γ RX10 cX10_over 7 (some .int) 9 0 0) (N : NX Γ 4 24) (hlt : (cLn Γ).stackTraces = false) (x1 : Int32) (x2 : Int32) (x3 : Int32) (xs0 : Int32) : Rz Γ 7 (QmX Γ encI 4 24) 0 0 22 [(0, .ref 0), (1, .int x1), (2, .int x2), (3, .int x3)] [.int xs0] (f_X10_over_b22 x1 x2 x3 xs0) := by
  unfold f_X10_over_b22
  refine rz_callX G N (st := []) (c_X10_need (cLn Γ) hlt xs0) lkX10_98 (k' := 1) (n' := 6) ⟨rfl, rfl⟩ (by decide) rfl (Nat.le_of_ble_eq_true rfl) (Nat.le_of_ble_eq_true rfl) (dq jX10_over 12 rfl) rfl (fun _ => ?_)
  have G := G.up (k' := 1) (n' := 6) N (by decide) (by decide)
  refine rz_iload_n G 2 rfl rfl (dq jX10_over 13 rfl) ?_
  refine rz_if_lt G (tgt := 40) rfl (dq jX10_over 14 rfl) (fun c1 => ?_) (fun c1 => ?_)
  · exact rz_lv [0, 1, 2, 3] rfl (z_X10_over_b40 G N hlt x1 x2 x3)
  · refine rz_iload_n G 2 rfl rfl (dq jX10_over 15 rfl) ?_
    refine rz_sipush G (v := 999) (dq jX10_over 16 rfl) (by decide) ?_
    refine rz_icmp_gt G (tgt := 40) rfl (dq jX10_over 17 rfl) (fun c2 => ?_) (fun c2 => ?_)
    · exact rz_lv [0, 1, 2, 3] rfl (z_X10_over_b40 G N hlt x1 x2 x3)
    · refine rz_iconst G (v := 1) (dq jX10_over 18 rfl) rfl ?_
      refine rz_goto G (tgt := 41) rfl (dq jX10_over 19 rfl) ?_
      exact rz_lv [0, 1, 2, 3] rfl (z_X10_over_b41 G N hlt x1 x2 x3 1)
theorem z_X10_over_b17 {Γ : Cx} (G : GG Γ RX10 cX10_over 7 (some .int) 9 0 0) (N : NX Γ 4 24) (hlt : (cLn Γ).stackTraces = false) (x1 : Int32) (x2 : Int32) (x3 : Int32) : Rz Γ 7 (QmX Γ encI 4 24) 0 0 17 [(0, .ref 0), (1, .int x1), (2, .int x2), (3, .int x3)] [] (f_X10_over_b17 x1 x2 x3) := by
  unfold f_X10_over_b17
  refine rz_iconst G (v := 1) (dq jX10_over 9 rfl) rfl ?_
  refine rz_goto G (tgt := 22) rfl (dq jX10_over 10 rfl) ?_
  exact rz_lv [0, 1, 2, 3] rfl (z_X10_over_b22 G N hlt x1 x2 x3 1)
theorem z_X10_over_b21 {Γ : Cx} (G : GG Γ RX10 cX10_over 7 (some .int) 9 0 0) (N : NX Γ 4 24) (hlt : (cLn Γ).stackTraces = false) (x1 : Int32) (x2 : Int32) (x3 : Int32) : Rz Γ 7 (QmX Γ encI 4 24) 0 0 21 [(0, .ref 0), (1, .int x1), (2, .int x2), (3, .int x3)] [] (f_X10_over_b21 x1 x2 x3) := by
  unfold f_X10_over_b21
  refine rz_iconst G (v := 0) (dq jX10_over 11 rfl) rfl ?_
  exact rz_lv [0, 1, 2, 3] rfl (z_X10_over_b22 G N hlt x1 x2 x3 0)
theorem c_X10_over (l : Launch) (hlt : l.stackTraces = false) (x1 : Int32) (x2 : Int32) (x3 : Int32) : CtX l yX10_over cX10_over 7 (some .int) 9 4 24 encI [.ref 0, .int x1, .int x2, .int x3] (f_X10_over x1 x2 x3) := by
  refine ctX_of (own := RX10) (by decide) rfl (Nat.le_of_ble_eq_true rfl) (fun Γ hl0 G N => ?_)
  subst hl0
  show Rz Γ 7 (QmX Γ encI 4 24) 0 0 0 [(0, .ref 0), (1, .int x1), (2, .int x2), (3, .int x3)] [] _
  unfold f_X10_over
  refine rz_aload_n G 0 rfl rfl (dq jX10_over 0 rfl) ?_
  refine rz_iload_n G 1 rfl rfl (dq jX10_over 1 rfl) ?_
  refine rz_callVi G (st := []) (c_X10_isJumper (cLn Γ) x1) lkX10_159 sh0 rfl rfl rfl (Nat.le_of_ble_eq_true rfl) (Nat.le_of_ble_eq_true rfl) (dq jX10_over 2 rfl) rfl (fun r1 => ?_)
  refine rz_if_eq G (tgt := 21) rfl (dq jX10_over 3 rfl) (fun c2 => ?_) (fun c2 => ?_)
  · exact rz_lv [0, 1, 2, 3] rfl (z_X10_over_b21 G N hlt x1 x2 x3)
  · refine rz_iload_n G 3 rfl rfl (dq jX10_over 4 rfl) ?_
    refine rz_if_eq G (tgt := 17) rfl (dq jX10_over 5 rfl) (fun c3 => ?_) (fun c3 => ?_)
    · exact rz_lv [0, 1, 2, 3] rfl (z_X10_over_b17 G N hlt x1 x2 x3)
    · refine rz_iload_n G 3 rfl rfl (dq jX10_over 6 rfl) ?_
      refine rz_iconst G (v := 1) (dq jX10_over 7 rfl) rfl ?_
      refine rz_icmp_ne G (tgt := 21) rfl (dq jX10_over 8 rfl) (fun c4 => ?_) (fun c4 => ?_)
      · exact rz_lv [0, 1, 2, 3] rfl (z_X10_over_b17 G N hlt x1 x2 x3)
      · exact rz_lv [0, 1, 2, 3] rfl (z_X10_over_b21 G N hlt x1 x2 x3)
theorem z_X10_ran_b23 {Γ : Cx} (G : GG Γ RX10 cX10_ran 4 (some .int) 9 0 0) (N : NX Γ 4 24) (hlt : (cLn Γ).stackTraces = false) (x1 : Int32) (x2 : Int32) (xs0 : Int32) : Rz Γ 4 (QmX Γ encI 4 24) 0 0 23 [(0, .ref 0), (1, .int x1), (2, .int x2)] [.int xs0] (f_X10_ran_b23 x1 x2 xs0) := by
  unfold f_X10_ran_b23
  refine rz_callX G N (st := []) (c_X10_need (cLn Γ) hlt xs0) lkX10_98 (k' := 1) (n' := 6) ⟨rfl, rfl⟩ (by decide) rfl (Nat.le_of_ble_eq_true rfl) (Nat.le_of_ble_eq_true rfl) (dq jX10_ran 12 rfl) rfl (fun _ => ?_)
  have G := G.up (k' := 1) (n' := 6) N (by decide) (by decide)
  refine rz_aload_n G 0 rfl rfl (dq jX10_ran 13 rfl) ?_
  refine rz_callVv G (st := []) (c_X10_playAll (cLn Γ)) lkX10_181 sh0 rfl rfl rfl (Nat.le_of_ble_eq_true rfl) (Nat.le_of_ble_eq_true rfl) (dq jX10_ran 14 rfl) rfl (fun _ => ?_)
  refine rz_aload_n G 0 rfl rfl (dq jX10_ran 15 rfl) ?_
  refine rz_getC G flX10_60 sh0 (t := 17) rfl rfl (dq jX10_ran 16 rfl) ?_
  refine rz_iload_n G 1 rfl rfl (dq jX10_ran 17 rfl) ?_
  refine rz_callVr G (st := []) (c_X4_flyer (cLn Γ) x1) lkX10_184 sh17 rfl rfl rfl (Nat.le_of_ble_eq_true rfl) (Nat.le_of_ble_eq_true rfl) (dq jX10_ran 18 rfl) rfl (fun u1 => ?_)
  refine rz_gd (fun h_u1 => ?_)
  refine rz_astore_n G (lv' := [(3, .ref u1), (0, .ref 0), (1, .int x1), (2, .int x2)]) rfl (Nat.le_of_ble_eq_true rfl) rfl (dq jX10_ran 19 rfl) ?_
  refine rz_iload_n G 3 rfl rfl (dq jX10_ran 20 rfl) ?_
  refine rz_br (fun c2 => ?_) (fun c2 => ?_)
  · refine rz_tableIn G 0 (tgt := 80) swX10_ran_40 (by rw [c2]; rfl) (by decide) rfl rfl ?_
    refine rz_aload_n G 0 rfl rfl (dq jX10_ran_s1 0 rfl) ?_
    refine rz_getI G flX10_188 (fl_sh h_u1) rfl (dq jX10_ran_s1 1 rfl) (fun v3 => ?_)
    exact rz_iretX G (by decide) (dq jX10_ran_s1 2 rfl)
  · refine rz_br (fun c4 => ?_) (fun c4 => ?_)
    · refine rz_tableIn G 1 (tgt := 85) swX10_ran_40 (by rw [c4]; rfl) (by decide) rfl rfl ?_
      refine rz_aload_n G 0 rfl rfl (dq jX10_ran_s1 3 rfl) ?_
      refine rz_getI G flX10_193 (fl_sh h_u1) rfl (dq jX10_ran_s1 4 rfl) (fun v5 => ?_)
      exact rz_iretX G (by decide) (dq jX10_ran_s1 5 rfl)
    · refine rz_br (fun c6 => ?_) (fun c6 => ?_)
      · refine rz_tableIn G 2 (tgt := 90) swX10_ran_40 (by rw [c6]; rfl) (by decide) rfl rfl ?_
        refine rz_aload_n G 0 rfl rfl (dq jX10_ran_s1 6 rfl) ?_
        refine rz_getI G flX10_196 (fl_sh h_u1) rfl (dq jX10_ran_s1 7 rfl) (fun v7 => ?_)
        exact rz_iretX G (by decide) (dq jX10_ran_s1 8 rfl)
      · refine rz_br (fun c8 => ?_) (fun c8 => ?_)
        · refine rz_tableIn G 3 (tgt := 95) swX10_ran_40 (by rw [c8]; rfl) (by decide) rfl rfl ?_
          refine rz_aload_n G 0 rfl rfl (dq jX10_ran_s1 9 rfl) ?_
          refine rz_getI G flX10_199 (fl_sh h_u1) rfl (dq jX10_ran_s1 10 rfl) (fun v9 => ?_)
          exact rz_iretX G (by decide) (dq jX10_ran_s1 11 rfl)
        · refine rz_br (fun c10 => ?_) (fun c10 => ?_)
          · refine rz_tableIn G 4 (tgt := 100) swX10_ran_40 (by rw [c10]; rfl) (by decide) rfl rfl ?_
            refine rz_aload_n G 0 rfl rfl (dq jX10_ran_s1 12 rfl) ?_
            refine rz_getI G flX10_202 (fl_sh h_u1) rfl (dq jX10_ran_s1 13 rfl) (fun v11 => ?_)
            exact rz_iretX G (by decide) (dq jX10_ran_s1 14 rfl)
          · refine rz_br (fun c12 => ?_) (fun c12 => ?_)
            · refine rz_tableIn G 5 (tgt := 105) swX10_ran_40 (by rw [c12]; rfl) (by decide) rfl rfl ?_
              refine rz_aload_n G 0 rfl rfl (dq jX10_ran_s1 15 rfl) ?_
              refine rz_getI G flX10_205 (fl_sh h_u1) rfl (dq jX10_ran_s1 16 rfl) (fun v13 => ?_)
              exact rz_iretX G (by decide) (dq jX10_ran_s1 17 rfl)
            · have n_c2 := ne_toInt (z := 0) (by decide) c2; have n_c4 := ne_toInt (z := 1) (by decide) c4; have n_c6 := ne_toInt (z := 2) (by decide) c6; have n_c8 := ne_toInt (z := 3) (by decide) c8; have n_c10 := ne_toInt (z := 4) (by decide) c10; have n_c12 := ne_toInt (z := 5) (by decide) c12
              refine rz_tableOut G (tgt := 110) swX10_ran_40 (by omega) rfl ?_
              refine rz_aload_n G 0 rfl rfl (dq jX10_ran_s1 18 rfl) ?_
              refine rz_getI G flX10_208 (fl_sh h_u1) rfl (dq jX10_ran_s1 19 rfl) (fun v14 => ?_)
              exact rz_iretX G (by decide) (dq jX10_ran_s1 20 rfl)
theorem z_X10_ran_b22 {Γ : Cx} (G : GG Γ RX10 cX10_ran 4 (some .int) 9 0 0) (N : NX Γ 4 24) (hlt : (cLn Γ).stackTraces = false) (x1 : Int32) (x2 : Int32) : Rz Γ 4 (QmX Γ encI 4 24) 0 0 22 [(0, .ref 0), (1, .int x1), (2, .int x2)] [] (f_X10_ran_b22 x1 x2) := by
  unfold f_X10_ran_b22
  refine rz_iconst G (v := 0) (dq jX10_ran 11 rfl) rfl ?_
  exact rz_lv [0, 1, 2] rfl (z_X10_ran_b23 G N hlt x1 x2 0)
theorem c_X10_ran (l : Launch) (hlt : l.stackTraces = false) (x1 : Int32) (x2 : Int32) : CtX l yX10_ran cX10_ran 4 (some .int) 9 4 24 encI [.ref 0, .int x1, .int x2] (f_X10_ran x1 x2) := by
  refine ctX_of (own := RX10) (by decide) rfl (Nat.le_of_ble_eq_true rfl) (fun Γ hl0 G N => ?_)
  subst hl0
  show Rz Γ 4 (QmX Γ encI 4 24) 0 0 0 [(0, .ref 0), (1, .int x1), (2, .int x2)] [] _
  unfold f_X10_ran
  refine rz_aload_n G 0 rfl rfl (dq jX10_ran 0 rfl) ?_
  refine rz_iload_n G 1 rfl rfl (dq jX10_ran 1 rfl) ?_
  refine rz_callVi G (st := []) (c_X10_isJumper (cLn Γ) x1) lkX10_159 sh0 rfl rfl rfl (Nat.le_of_ble_eq_true rfl) (Nat.le_of_ble_eq_true rfl) (dq jX10_ran 2 rfl) rfl (fun r1 => ?_)
  refine rz_if_eq G (tgt := 22) rfl (dq jX10_ran 3 rfl) (fun c2 => ?_) (fun c2 => ?_)
  · exact rz_lv [0, 1, 2] rfl (z_X10_ran_b22 G N hlt x1 x2)
  · refine rz_iload_n G 2 rfl rfl (dq jX10_ran 4 rfl) ?_
    refine rz_if_lt G (tgt := 22) rfl (dq jX10_ran 5 rfl) (fun c3 => ?_) (fun c3 => ?_)
    · exact rz_lv [0, 1, 2] rfl (z_X10_ran_b22 G N hlt x1 x2)
    · refine rz_iload_n G 2 rfl rfl (dq jX10_ran 6 rfl) ?_
      refine rz_bipush G (v := 6) (dq jX10_ran 7 rfl) (by decide) ?_
      refine rz_icmp_gt G (tgt := 22) rfl (dq jX10_ran 8 rfl) (fun c4 => ?_) (fun c4 => ?_)
      · exact rz_lv [0, 1, 2] rfl (z_X10_ran_b22 G N hlt x1 x2)
      · refine rz_iconst G (v := 1) (dq jX10_ran 9 rfl) rfl ?_
        refine rz_goto G (tgt := 23) rfl (dq jX10_ran 10 rfl) ?_
        exact rz_lv [0, 1, 2] rfl (z_X10_ran_b23 G N hlt x1 x2 1)
theorem z_X10_safe_b70 {Γ : Cx} (G : GG Γ RX10 cX10_safe 7 (some .long) 9 1 6) (N : NX Γ 4 24) (hlt : (cLn Γ).stackTraces = false) (k39 : Int32 → Int32 → Int32 → Int64 → Int32 → Sg → Option ((Int64 ⊕ Bool) × Sg)) (hk39 : ∀ (x1 : Int32) (x2 : Int32) (x3 : Int32) (x4 : Int64) (x6 : Int32), Rz Γ 7 (QmX Γ encL 4 24) 1 6 39 [(0, .ref 0), (1, .int x1), (2, .int x2), (3, .int x3), (4, .long x4), (6, .int x6)] [] (k39 x1 x2 x3 x4 x6)) (x1 : Int32) (x2 : Int32) (x3 : Int32) (x4 : Int64) (x6 : Int32) : Rz Γ 7 (QmX Γ encL 4 24) 1 6 70 [(0, .ref 0), (1, .int x1), (2, .int x2), (3, .int x3), (4, .long x4), (6, .int x6)] [] (f_X10_safe_b70 k39 x1 x2 x3 x4 x6) := by
  unfold f_X10_safe_b70
  refine rz_iinc G 5 (v := x6 + 1) (lv' := [(6, .int (x6 + 1)), (0, .ref 0), (1, .int x1), (2, .int x2), (3, .int x3), (4, .long x4)]) rfl (congrArg (HAdd.hAdd _) (by decide)) (Nat.le_of_ble_eq_true rfl) rfl (dq jX10_safe 37 rfl) ?_
  refine rz_goto G (tgt := 39) rfl (dq jX10_safe 38 rfl) ?_
  exact rz_lv [1, 2, 3, 4, 5, 0] rfl (hk39 x1 x2 x3 x4 (x6 + 1))
theorem z_X10_safe_b39 {Γ : Cx} (G : GG Γ RX10 cX10_safe 7 (some .long) 9 1 6) (N : NX Γ 4 24) (hlt : (cLn Γ).stackTraces = false) : ∀ (fu : Nat) (x1 : Int32) (x2 : Int32) (x3 : Int32) (x4 : Int64) (x6 : Int32), Rz Γ 7 (QmX Γ encL 4 24) 1 6 39 [(0, .ref 0), (1, .int x1), (2, .int x2), (3, .int x3), (4, .long x4), (6, .int x6)] [] (f_X10_safe_b39 fu x1 x2 x3 x4 x6) := by
  intro fu
  induction fu with
  | zero => intro _ _ _ _ _; exact rz_none
  | succ fu ih =>
    intro x1 x2 x3 x4 x6
    rw [f_X10_safe_b39]
    refine rz_iload G 5 rfl (dq jX10_safe 19 rfl) ?_
    refine rz_bipush G (v := 20) (dq jX10_safe 20 rfl) (by decide) ?_
    refine rz_icmp_gt G (tgt := 76) rfl (dq jX10_safe 21 rfl) (fun c1 => ?_) (fun c1 => ?_)
    · refine rz_lload G 4 rfl (dq jX10_safe 39 rfl) ?_
      exact rz_lretX G (by decide) (dq jX10_safe 40 rfl)
    · refine rz_aload_n G 0 rfl rfl (dq jX10_safe 22 rfl) ?_
      refine rz_iload G 5 rfl (dq jX10_safe 23 rfl) ?_
      refine rz_iload_n G 1 rfl rfl (dq jX10_safe 24 rfl) ?_
      refine rz_iload_n G 2 rfl rfl (dq jX10_safe 25 rfl) ?_
      refine rz_iload_n G 3 rfl rfl (dq jX10_safe 26 rfl) ?_
      refine rz_callVi G (st := []) (c_X10_staysOn (cLn Γ) x6 x1 x2 x3) lkX10_357 sh0 rfl rfl rfl (Nat.le_of_ble_eq_true rfl) (Nat.le_of_ble_eq_true rfl) (dq jX10_safe 27 rfl) rfl (fun r2 => ?_)
      refine rz_if_eq G (tgt := 70) rfl (dq jX10_safe 28 rfl) (fun c3 => ?_) (fun c3 => ?_)
      · exact rz_lv [0, 1, 2, 3, 4, 5] rfl (z_X10_safe_b70 G N hlt (f_X10_safe_b39 fu) ih x1 x2 x3 x4 x6)
      · refine rz_lload G 4 rfl (dq jX10_safe 29 rfl) ?_
        refine rz_lconst G (v := 1) (dq jX10_safe 30 rfl) rfl ?_
        refine rz_bipush G (v := 20) (dq jX10_safe 31 rfl) (by decide) ?_
        refine rz_iload G 5 rfl (dq jX10_safe 32 rfl) ?_
        refine rz_iadd G (dq jX10_safe 33 rfl) ?_
        refine rz_lshl G (dq jX10_safe 34 rfl) ?_
        refine rz_lor G (dq jX10_safe 35 rfl) ?_
        refine rz_ltl (fun w4 e_w4 => ?_)
        refine rz_lstore G (lv' := [(4, .long w4), (0, .ref 0), (1, .int x1), (2, .int x2), (3, .int x3), (6, .int x6)]) (Nat.le_of_ble_eq_true rfl) rfl (dq jX10_safe 36 rfl) ?_
        exact rz_lv [1, 2, 3, 4, 0, 5] rfl (z_X10_safe_b70 G N hlt (f_X10_safe_b39 fu) ih x1 x2 x3 w4 x6)
theorem z_X10_safe_b29 {Γ : Cx} (G : GG Γ RX10 cX10_safe 7 (some .long) 9 0 0) (N : NX Γ 4 24) (hlt : (cLn Γ).stackTraces = false) (x1 : Int32) (x2 : Int32) (x3 : Int32) (xs0 : Int32) : Rz Γ 7 (QmX Γ encL 4 24) 0 0 29 [(0, .ref 0), (1, .int x1), (2, .int x2), (3, .int x3)] [.int xs0] (f_X10_safe_b29 x1 x2 x3 xs0) := by
  unfold f_X10_safe_b29
  refine rz_callX G N (st := []) (c_X10_demand (cLn Γ) hlt xs0) lkX10_82 (k' := 1) (n' := 6) ⟨rfl, rfl⟩ (by decide) rfl (Nat.le_of_ble_eq_true rfl) (Nat.le_of_ble_eq_true rfl) (dq jX10_safe 14 rfl) rfl (fun _ => ?_)
  have G := G.up (k' := 1) (n' := 6) N (by decide) (by decide)
  refine rz_lconst G (v := 0) (dq jX10_safe 15 rfl) rfl ?_
  refine rz_lstore G (lv' := [(4, .long 0), (0, .ref 0), (1, .int x1), (2, .int x2), (3, .int x3)]) (Nat.le_of_ble_eq_true rfl) rfl (dq jX10_safe 16 rfl) ?_
  refine rz_bipush G (v := (-20)) (dq jX10_safe 17 rfl) (by decide) ?_
  refine rz_istore G (lv' := [(6, .int ((-20))), (4, .long 0), (0, .ref 0), (1, .int x1), (2, .int x2), (3, .int x3)]) (Nat.le_of_ble_eq_true rfl) rfl (dq jX10_safe 18 rfl) ?_
  exact rz_lv [2, 3, 4, 5, 1, 0] rfl (z_X10_safe_b39 G N hlt FU x1 x2 x3 0 ((-20)))
theorem z_X10_safe_b28 {Γ : Cx} (G : GG Γ RX10 cX10_safe 7 (some .long) 9 0 0) (N : NX Γ 4 24) (hlt : (cLn Γ).stackTraces = false) (x1 : Int32) (x2 : Int32) (x3 : Int32) : Rz Γ 7 (QmX Γ encL 4 24) 0 0 28 [(0, .ref 0), (1, .int x1), (2, .int x2), (3, .int x3)] [] (f_X10_safe_b28 x1 x2 x3) := by
  unfold f_X10_safe_b28
  refine rz_iconst G (v := 0) (dq jX10_safe 13 rfl) rfl ?_
  exact rz_lv [0, 1, 2, 3] rfl (z_X10_safe_b29 G N hlt x1 x2 x3 0)
theorem c_X10_safe (l : Launch) (hlt : l.stackTraces = false) (x1 : Int32) (x2 : Int32) (x3 : Int32) : CtX l yX10_safe cX10_safe 7 (some .long) 9 4 24 encL [.ref 0, .int x1, .int x2, .int x3] (f_X10_safe x1 x2 x3) := by
  refine ctX_of (own := RX10) (by decide) rfl (Nat.le_of_ble_eq_true rfl) (fun Γ hl0 G N => ?_)
  subst hl0
  show Rz Γ 7 (QmX Γ encL 4 24) 0 0 0 [(0, .ref 0), (1, .int x1), (2, .int x2), (3, .int x3)] [] _
  unfold f_X10_safe
  refine rz_iload_n G 1 rfl rfl (dq jX10_safe 0 rfl) ?_
  refine rz_callSi G (st := []) (c_X10_isToldHeight (cLn Γ) x1) lkX10_351 rfl (Nat.le_of_ble_eq_true rfl) (Nat.le_of_ble_eq_true rfl) (dq jX10_safe 1 rfl) rfl (fun r1 => ?_)
  refine rz_if_eq G (tgt := 28) rfl (dq jX10_safe 2 rfl) (fun c2 => ?_) (fun c2 => ?_)
  · exact rz_lv [0, 1, 2, 3] rfl (z_X10_safe_b28 G N hlt x1 x2 x3)
  · refine rz_iload_n G 2 rfl rfl (dq jX10_safe 3 rfl) ?_
    refine rz_callSi G (st := []) (c_X10_isCorrects (cLn Γ) x2) lkX10_327 rfl (Nat.le_of_ble_eq_true rfl) (Nat.le_of_ble_eq_true rfl) (dq jX10_safe 4 rfl) rfl (fun r3 => ?_)
    refine rz_if_eq G (tgt := 28) rfl (dq jX10_safe 5 rfl) (fun c4 => ?_) (fun c4 => ?_)
    · exact rz_lv [0, 1, 2, 3] rfl (z_X10_safe_b28 G N hlt x1 x2 x3)
    · refine rz_iload_n G 3 rfl rfl (dq jX10_safe 6 rfl) ?_
      refine rz_if_lt G (tgt := 28) rfl (dq jX10_safe 7 rfl) (fun c5 => ?_) (fun c5 => ?_)
      · exact rz_lv [0, 1, 2, 3] rfl (z_X10_safe_b28 G N hlt x1 x2 x3)
      · refine rz_iload_n G 3 rfl rfl (dq jX10_safe 8 rfl) ?_
        refine rz_bipush G (v := 100) (dq jX10_safe 9 rfl) (by decide) ?_
        refine rz_icmp_gt G (tgt := 28) rfl (dq jX10_safe 10 rfl) (fun c6 => ?_) (fun c6 => ?_)
        · exact rz_lv [0, 1, 2, 3] rfl (z_X10_safe_b28 G N hlt x1 x2 x3)
        · refine rz_iconst G (v := 1) (dq jX10_safe 11 rfl) rfl ?_
          refine rz_goto G (tgt := 29) rfl (dq jX10_safe 12 rfl) ?_
          exact rz_lv [0, 1, 2, 3] rfl (z_X10_safe_b29 G N hlt x1 x2 x3 1)
theorem z_X10_second_b173 {Γ : Cx} (G : GG Γ RX10 cX10_second 10 (some .int) 9 2 12) (N : NX Γ 4 24) (hlt : (cLn Γ).stackTraces = false) (k62 : Int32 → Int32 → Int32 → Int32 → Int32 → Int32 → Int32 → Int32 → Sg → Option ((Int32 ⊕ Bool) × Sg)) (hk62 : ∀ (x1 : Int32) (x2 : Int32) (x3 : Int32) (x4 : Int32) (x5 : Int32) (x6 : Int32) (x7 : Int32) (x8 : Int32), Rz Γ 10 (QmX Γ encI 4 24) 2 12 62 [(0, .ref 0), (1, .int x1), (2, .int x2), (3, .int x3), (4, .int x4), (5, .int x5), (6, .int x6), (7, .int x7), (8, .int x8)] [] (k62 x1 x2 x3 x4 x5 x6 x7 x8)) (k72 : Int32 → Int32 → Int32 → Int32 → Int32 → Int32 → Int32 → Int32 → Int32 → Sg → Option ((Int32 ⊕ Bool) × Sg)) (hk72 : ∀ (x1 : Int32) (x2 : Int32) (x3 : Int32) (x4 : Int32) (x5 : Int32) (x6 : Int32) (x7 : Int32) (x8 : Int32) (x9 : Int32), Rz Γ 10 (QmX Γ encI 4 24) 2 12 72 [(0, .ref 0), (1, .int x1), (2, .int x2), (3, .int x3), (4, .int x4), (5, .int x5), (6, .int x6), (7, .int x7), (8, .int x8), (9, .int x9)] [] (k72 x1 x2 x3 x4 x5 x6 x7 x8 x9)) (x1 : Int32) (x2 : Int32) (x3 : Int32) (x4 : Int32) (x5 : Int32) (x6 : Int32) (x7 : Int32) (x8 : Int32) (x9 : Int32) : Rz Γ 10 (QmX Γ encI 4 24) 2 12 173 [(0, .ref 0), (1, .int x1), (2, .int x2), (3, .int x3), (4, .int x4), (5, .int x5), (6, .int x6), (7, .int x7), (8, .int x8), (9, .int x9)] [] (f_X10_second_b173 k62 k72 x1 x2 x3 x4 x5 x6 x7 x8 x9) := by
  unfold f_X10_second_b173
  refine rz_iinc G 9 (v := x9 + 1) (lv' := [(9, .int (x9 + 1)), (0, .ref 0), (1, .int x1), (2, .int x2), (3, .int x3), (4, .int x4), (5, .int x5), (6, .int x6), (7, .int x7), (8, .int x8)]) rfl (congrArg (HAdd.hAdd _) (by decide)) (Nat.le_of_ble_eq_true rfl) rfl (dq jX10_second 85 rfl) ?_
  refine rz_goto G (tgt := 72) rfl (dq jX10_second 86 rfl) ?_
  exact rz_lv [1, 2, 3, 4, 5, 6, 7, 8, 9, 0] rfl (hk72 x1 x2 x3 x4 x5 x6 x7 x8 (x9 + 1))
theorem z_X10_second_b95 {Γ : Cx} (G : GG Γ RX10 cX10_second 10 (some .int) 9 2 12) (N : NX Γ 4 24) (hlt : (cLn Γ).stackTraces = false) (k62 : Int32 → Int32 → Int32 → Int32 → Int32 → Int32 → Int32 → Int32 → Sg → Option ((Int32 ⊕ Bool) × Sg)) (hk62 : ∀ (x1 : Int32) (x2 : Int32) (x3 : Int32) (x4 : Int32) (x5 : Int32) (x6 : Int32) (x7 : Int32) (x8 : Int32), Rz Γ 10 (QmX Γ encI 4 24) 2 12 62 [(0, .ref 0), (1, .int x1), (2, .int x2), (3, .int x3), (4, .int x4), (5, .int x5), (6, .int x6), (7, .int x7), (8, .int x8)] [] (k62 x1 x2 x3 x4 x5 x6 x7 x8)) (k72 : Int32 → Int32 → Int32 → Int32 → Int32 → Int32 → Int32 → Int32 → Int32 → Sg → Option ((Int32 ⊕ Bool) × Sg)) (hk72 : ∀ (x1 : Int32) (x2 : Int32) (x3 : Int32) (x4 : Int32) (x5 : Int32) (x6 : Int32) (x7 : Int32) (x8 : Int32) (x9 : Int32), Rz Γ 10 (QmX Γ encI 4 24) 2 12 72 [(0, .ref 0), (1, .int x1), (2, .int x2), (3, .int x3), (4, .int x4), (5, .int x5), (6, .int x6), (7, .int x7), (8, .int x8), (9, .int x9)] [] (k72 x1 x2 x3 x4 x5 x6 x7 x8 x9)) (x1 : Int32) (x2 : Int32) (x3 : Int32) (x4 : Int32) (x5 : Int32) (x6 : Int32) (x7 : Int32) (x8 : Int32) (x9 : Int32) : Rz Γ 10 (QmX Γ encI 4 24) 2 12 95 [(0, .ref 0), (1, .int x1), (2, .int x2), (3, .int x3), (4, .int x4), (5, .int x5), (6, .int x6), (7, .int x7), (8, .int x8), (9, .int x9)] [] (f_X10_second_b95 k62 k72 x1 x2 x3 x4 x5 x6 x7 x8 x9) := by
  unfold f_X10_second_b95
  refine rz_aload_n G 0 rfl rfl (dq jX10_second 47 rfl) ?_
  refine rz_callVv G (st := []) (c_X10_prepare (cLn Γ)) lkX10_217 sh0 rfl rfl rfl (Nat.le_of_ble_eq_true rfl) (Nat.le_of_ble_eq_true rfl) (dq jX10_second 48 rfl) rfl (fun _ => ?_)
  refine rz_aload_n G 0 rfl rfl (dq jX10_second 49 rfl) ?_
  refine rz_getC G flX10_60 sh0 (t := 17) rfl rfl (dq jX10_second 50 rfl) ?_
  refine rz_iload_n G 1 rfl rfl (dq jX10_second 51 rfl) ?_
  refine rz_callVr G (st := []) (c_X4_flyer (cLn Γ) x1) lkX10_184 sh17 rfl rfl rfl (Nat.le_of_ble_eq_true rfl) (Nat.le_of_ble_eq_true rfl) (dq jX10_second 52 rfl) rfl (fun u1 => ?_)
  refine rz_gd (fun h_u1 => ?_)
  refine rz_iload G 8 rfl (dq jX10_second 53 rfl) ?_
  refine rz_callVv G (st := []) (c_X1_startIn (cLn Γ) u1 x8) lkX10_256 (fl_sh h_u1) rfl rfl rfl (Nat.le_of_ble_eq_true rfl) (Nat.le_of_ble_eq_true rfl) (dq jX10_second 54 rfl) rfl (fun _ => ?_)
  refine rz_aload_n G 0 rfl rfl (dq jX10_second 55 rfl) ?_
  refine rz_getC G flX10_60 sh0 (t := 17) rfl rfl (dq jX10_second 56 rfl) ?_
  refine rz_iload_n G 2 rfl rfl (dq jX10_second 57 rfl) ?_
  refine rz_callVr G (st := []) (c_X4_flyer (cLn Γ) x2) lkX10_184 sh17 rfl rfl rfl (Nat.le_of_ble_eq_true rfl) (Nat.le_of_ble_eq_true rfl) (dq jX10_second 58 rfl) rfl (fun u2 => ?_)
  refine rz_gd (fun h_u2 => ?_)
  refine rz_iload G 9 rfl (dq jX10_second 59 rfl) ?_
  refine rz_callVv G (st := []) (c_X1_startIn (cLn Γ) u2 x9) lkX10_256 (fl_sh h_u2) rfl rfl rfl (Nat.le_of_ble_eq_true rfl) (Nat.le_of_ble_eq_true rfl) (dq jX10_second 60 rfl) rfl (fun _ => ?_)
  refine rz_aload_n G 0 rfl rfl (dq jX10_second 61 rfl) ?_
  refine rz_getC G flX10_60 sh0 (t := 17) rfl rfl (dq jX10_second 62 rfl) ?_
  refine rz_iconst G (v := 0) (dq jX10_second 63 rfl) rfl ?_
  refine rz_iload_n G 3 rfl rfl (dq jX10_second 64 rfl) ?_
  refine rz_iconst G (v := 1) (dq jX10_second 65 rfl) rfl ?_
  refine rz_iadd G (dq jX10_second 66 rfl) ?_
  refine rz_callVv G (st := []) (c_X4_go (cLn Γ) 0 (x3 + 1)) lkX10_220 sh17 rfl rfl rfl (Nat.le_of_ble_eq_true rfl) (Nat.le_of_ble_eq_true rfl) (dq jX10_second 67 rfl) rfl (fun _ => ?_)
  refine rz_aload_n G 0 rfl rfl (dq jX10_second 68 rfl) ?_
  refine rz_getC G flX10_60 sh0 (t := 17) rfl rfl (dq jX10_second 69 rfl) ?_
  refine rz_iload_n G 1 rfl rfl (dq jX10_second 70 rfl) ?_
  refine rz_callVr G (st := []) (c_X4_flyer (cLn Γ) x1) lkX10_184 sh17 rfl rfl rfl (Nat.le_of_ble_eq_true rfl) (Nat.le_of_ble_eq_true rfl) (dq jX10_second 71 rfl) rfl (fun u3 => ?_)
  refine rz_gd (fun h_u3 => ?_)
  refine rz_iload_n G 3 rfl rfl (dq jX10_second 72 rfl) ?_
  refine rz_callVi G (st := []) (c_X1_heightIn (cLn Γ) u3 x3) lkX10_224 (fl_sh h_u3) rfl rfl rfl (Nat.le_of_ble_eq_true rfl) (Nat.le_of_ble_eq_true rfl) (dq jX10_second 73 rfl) rfl (fun r4 => ?_)
  refine rz_iload G 4 rfl (dq jX10_second 74 rfl) ?_
  refine rz_icmp_ne G (tgt := 173) rfl (dq jX10_second 75 rfl) (fun c5 => ?_) (fun c5 => ?_)
  · refine rz_aload_n G 0 rfl rfl (dq jX10_second 76 rfl) ?_
    refine rz_getC G flX10_60 sh0 (t := 17) rfl rfl (dq jX10_second 77 rfl) ?_
    refine rz_iload_n G 2 rfl rfl (dq jX10_second 78 rfl) ?_
    refine rz_callVr G (st := []) (c_X4_flyer (cLn Γ) x2) lkX10_184 sh17 rfl rfl rfl (Nat.le_of_ble_eq_true rfl) (Nat.le_of_ble_eq_true rfl) (dq jX10_second 79 rfl) rfl (fun u6 => ?_)
    refine rz_gd (fun h_u6 => ?_)
    refine rz_iload_n G 3 rfl rfl (dq jX10_second 80 rfl) ?_
    refine rz_callVi G (st := []) (c_X1_heightIn (cLn Γ) u6 x3) lkX10_224 (fl_sh h_u6) rfl rfl rfl (Nat.le_of_ble_eq_true rfl) (Nat.le_of_ble_eq_true rfl) (dq jX10_second 81 rfl) rfl (fun r7 => ?_)
    refine rz_iload G 5 rfl (dq jX10_second 82 rfl) ?_
    refine rz_icmp_ne G (tgt := 173) rfl (dq jX10_second 83 rfl) (fun c8 => ?_) (fun c8 => ?_)
    · refine rz_iinc G 7 (v := x7 + 1) (lv' := [(7, .int (x7 + 1)), (0, .ref 0), (1, .int x1), (2, .int x2), (3, .int x3), (4, .int x4), (5, .int x5), (6, .int x6), (8, .int x8), (9, .int x9)]) rfl (congrArg (HAdd.hAdd _) (by decide)) (Nat.le_of_ble_eq_true rfl) rfl (dq jX10_second 84 rfl) ?_
      exact rz_lv [1, 2, 3, 4, 5, 6, 7, 0, 8, 9] rfl (z_X10_second_b173 G N hlt k62 hk62 k72 hk72 x1 x2 x3 x4 x5 x6 (x7 + 1) x8 x9)
    · exact rz_lv [0, 1, 2, 3, 4, 5, 6, 7, 8, 9] rfl (z_X10_second_b173 G N hlt k62 hk62 k72 hk72 x1 x2 x3 x4 x5 x6 x7 x8 x9)
  · exact rz_lv [0, 1, 2, 3, 4, 5, 6, 7, 8, 9] rfl (z_X10_second_b173 G N hlt k62 hk62 k72 hk72 x1 x2 x3 x4 x5 x6 x7 x8 x9)
theorem z_X10_second_b179 {Γ : Cx} (G : GG Γ RX10 cX10_second 10 (some .int) 9 2 12) (N : NX Γ 4 24) (hlt : (cLn Γ).stackTraces = false) (k62 : Int32 → Int32 → Int32 → Int32 → Int32 → Int32 → Int32 → Int32 → Sg → Option ((Int32 ⊕ Bool) × Sg)) (hk62 : ∀ (x1 : Int32) (x2 : Int32) (x3 : Int32) (x4 : Int32) (x5 : Int32) (x6 : Int32) (x7 : Int32) (x8 : Int32), Rz Γ 10 (QmX Γ encI 4 24) 2 12 62 [(0, .ref 0), (1, .int x1), (2, .int x2), (3, .int x3), (4, .int x4), (5, .int x5), (6, .int x6), (7, .int x7), (8, .int x8)] [] (k62 x1 x2 x3 x4 x5 x6 x7 x8)) (x1 : Int32) (x2 : Int32) (x3 : Int32) (x4 : Int32) (x5 : Int32) (x6 : Int32) (x7 : Int32) (x8 : Int32) : Rz Γ 10 (QmX Γ encI 4 24) 2 12 179 [(0, .ref 0), (1, .int x1), (2, .int x2), (3, .int x3), (4, .int x4), (5, .int x5), (6, .int x6), (7, .int x7), (8, .int x8)] [] (f_X10_second_b179 k62 x1 x2 x3 x4 x5 x6 x7 x8) := by
  unfold f_X10_second_b179
  refine rz_iinc G 8 (v := x8 + 1) (lv' := [(8, .int (x8 + 1)), (0, .ref 0), (1, .int x1), (2, .int x2), (3, .int x3), (4, .int x4), (5, .int x5), (6, .int x6), (7, .int x7)]) rfl (congrArg (HAdd.hAdd _) (by decide)) (Nat.le_of_ble_eq_true rfl) rfl (dq jX10_second 87 rfl) ?_
  refine rz_goto G (tgt := 62) rfl (dq jX10_second 88 rfl) ?_
  exact rz_lv [1, 2, 3, 4, 5, 6, 7, 8, 0] rfl (hk62 x1 x2 x3 x4 x5 x6 x7 (x8 + 1))
theorem z_X10_second_b72 {Γ : Cx} (G : GG Γ RX10 cX10_second 10 (some .int) 9 2 12) (N : NX Γ 4 24) (hlt : (cLn Γ).stackTraces = false) (k62 : Int32 → Int32 → Int32 → Int32 → Int32 → Int32 → Int32 → Int32 → Sg → Option ((Int32 ⊕ Bool) × Sg)) (hk62 : ∀ (x1 : Int32) (x2 : Int32) (x3 : Int32) (x4 : Int32) (x5 : Int32) (x6 : Int32) (x7 : Int32) (x8 : Int32), Rz Γ 10 (QmX Γ encI 4 24) 2 12 62 [(0, .ref 0), (1, .int x1), (2, .int x2), (3, .int x3), (4, .int x4), (5, .int x5), (6, .int x6), (7, .int x7), (8, .int x8)] [] (k62 x1 x2 x3 x4 x5 x6 x7 x8)) : ∀ (fu : Nat) (x1 : Int32) (x2 : Int32) (x3 : Int32) (x4 : Int32) (x5 : Int32) (x6 : Int32) (x7 : Int32) (x8 : Int32) (x9 : Int32), Rz Γ 10 (QmX Γ encI 4 24) 2 12 72 [(0, .ref 0), (1, .int x1), (2, .int x2), (3, .int x3), (4, .int x4), (5, .int x5), (6, .int x6), (7, .int x7), (8, .int x8), (9, .int x9)] [] (f_X10_second_b72 k62 fu x1 x2 x3 x4 x5 x6 x7 x8 x9) := by
  intro fu
  induction fu with
  | zero => intro _ _ _ _ _ _ _ _ _; exact rz_none
  | succ fu ih =>
    intro x1 x2 x3 x4 x5 x6 x7 x8 x9
    rw [f_X10_second_b72]
    refine rz_iload G 9 rfl (dq jX10_second 37 rfl) ?_
    refine rz_bipush G (v := 24) (dq jX10_second 38 rfl) (by decide) ?_
    refine rz_icmp_ge G (tgt := 179) rfl (dq jX10_second 39 rfl) (fun c1 => ?_) (fun c1 => ?_)
    · exact rz_lv [0, 1, 2, 3, 4, 5, 6, 7, 8] rfl (z_X10_second_b179 G N hlt k62 hk62 x1 x2 x3 x4 x5 x6 x7 x8)
    · refine rz_iload G 6 rfl (dq jX10_second 40 rfl) ?_
      refine rz_iconst G (v := 1) (dq jX10_second 41 rfl) rfl ?_
      refine rz_icmp_ne G (tgt := 95) rfl (dq jX10_second 42 rfl) (fun c2 => ?_) (fun c2 => ?_)
      · refine rz_iload G 8 rfl (dq jX10_second 43 rfl) ?_
        refine rz_iload G 9 rfl (dq jX10_second 44 rfl) ?_
        refine rz_icmp_gt G (tgt := 95) rfl (dq jX10_second 45 rfl) (fun c3 => ?_) (fun c3 => ?_)
        · exact rz_lv [0, 1, 2, 3, 4, 5, 6, 7, 8, 9] rfl (z_X10_second_b95 G N hlt k62 hk62 (f_X10_second_b72 k62 fu) ih x1 x2 x3 x4 x5 x6 x7 x8 x9)
        · refine rz_goto G (tgt := 173) rfl (dq jX10_second 46 rfl) ?_
          exact rz_lv [0, 1, 2, 3, 4, 5, 6, 7, 8, 9] rfl (z_X10_second_b173 G N hlt k62 hk62 (f_X10_second_b72 k62 fu) ih x1 x2 x3 x4 x5 x6 x7 x8 x9)
      · exact rz_lv [0, 1, 2, 3, 4, 5, 6, 7, 8, 9] rfl (z_X10_second_b95 G N hlt k62 hk62 (f_X10_second_b72 k62 fu) ih x1 x2 x3 x4 x5 x6 x7 x8 x9)
theorem z_X10_second_b62 {Γ : Cx} (G : GG Γ RX10 cX10_second 10 (some .int) 9 2 12) (N : NX Γ 4 24) (hlt : (cLn Γ).stackTraces = false) : ∀ (fu : Nat) (x1 : Int32) (x2 : Int32) (x3 : Int32) (x4 : Int32) (x5 : Int32) (x6 : Int32) (x7 : Int32) (x8 : Int32), Rz Γ 10 (QmX Γ encI 4 24) 2 12 62 [(0, .ref 0), (1, .int x1), (2, .int x2), (3, .int x3), (4, .int x4), (5, .int x5), (6, .int x6), (7, .int x7), (8, .int x8)] [] (f_X10_second_b62 fu x1 x2 x3 x4 x5 x6 x7 x8) := by
  intro fu
  induction fu with
  | zero => intro _ _ _ _ _ _ _ _; exact rz_none
  | succ fu ih =>
    intro x1 x2 x3 x4 x5 x6 x7 x8
    rw [f_X10_second_b62]
    refine rz_iload G 8 rfl (dq jX10_second 32 rfl) ?_
    refine rz_bipush G (v := 24) (dq jX10_second 33 rfl) (by decide) ?_
    refine rz_icmp_ge G (tgt := 185) rfl (dq jX10_second 34 rfl) (fun c1 => ?_) (fun c1 => ?_)
    · refine rz_iload G 7 rfl (dq jX10_second 89 rfl) ?_
      exact rz_iretX G (by decide) (dq jX10_second 90 rfl)
    · refine rz_iconst G (v := 0) (dq jX10_second 35 rfl) rfl ?_
      refine rz_istore G (lv' := [(9, .int 0), (0, .ref 0), (1, .int x1), (2, .int x2), (3, .int x3), (4, .int x4), (5, .int x5), (6, .int x6), (7, .int x7), (8, .int x8)]) (Nat.le_of_ble_eq_true rfl) rfl (dq jX10_second 36 rfl) ?_
      exact rz_lv [1, 2, 3, 4, 5, 6, 7, 8, 9, 0] rfl (z_X10_second_b72 G N hlt (f_X10_second_b62 fu) ih FU x1 x2 x3 x4 x5 x6 x7 x8 0)
theorem z_X10_second_b53 {Γ : Cx} (G : GG Γ RX10 cX10_second 10 (some .int) 9 1 6) (N : NX Γ 4 24) (hlt : (cLn Γ).stackTraces = false) (x1 : Int32) (x2 : Int32) (x3 : Int32) (x4 : Int32) (x5 : Int32) (x6 : Int32) (xs0 : Int32) : Rz Γ 10 (QmX Γ encI 4 24) 1 6 53 [(0, .ref 0), (1, .int x1), (2, .int x2), (3, .int x3), (4, .int x4), (5, .int x5), (6, .int x6)] [.int xs0] (f_X10_second_b53 x1 x2 x3 x4 x5 x6 xs0) := by
  unfold f_X10_second_b53
  refine rz_callX G N (st := []) (c_X10_demand (cLn Γ) hlt xs0) lkX10_82 (k' := 2) (n' := 12) ⟨rfl, rfl⟩ (by decide) rfl (Nat.le_of_ble_eq_true rfl) (Nat.le_of_ble_eq_true rfl) (dq jX10_second 27 rfl) rfl (fun _ => ?_)
  have G := G.up (k' := 2) (n' := 12) N (by decide) (by decide)
  refine rz_iconst G (v := 0) (dq jX10_second 28 rfl) rfl ?_
  refine rz_istore G (lv' := [(7, .int 0), (0, .ref 0), (1, .int x1), (2, .int x2), (3, .int x3), (4, .int x4), (5, .int x5), (6, .int x6)]) (Nat.le_of_ble_eq_true rfl) rfl (dq jX10_second 29 rfl) ?_
  refine rz_iconst G (v := 0) (dq jX10_second 30 rfl) rfl ?_
  refine rz_istore G (lv' := [(8, .int 0), (7, .int 0), (0, .ref 0), (1, .int x1), (2, .int x2), (3, .int x3), (4, .int x4), (5, .int x5), (6, .int x6)]) (Nat.le_of_ble_eq_true rfl) rfl (dq jX10_second 31 rfl) ?_
  exact rz_lv [2, 3, 4, 5, 6, 7, 8, 1, 0] rfl (z_X10_second_b62 G N hlt FU x1 x2 x3 x4 x5 x6 0 0)
theorem z_X10_second_b40 {Γ : Cx} (G : GG Γ RX10 cX10_second 10 (some .int) 9 0 0) (N : NX Γ 4 24) (hlt : (cLn Γ).stackTraces = false) (x1 : Int32) (x2 : Int32) (x3 : Int32) (x4 : Int32) (x5 : Int32) (x6 : Int32) (xs0 : Int32) : Rz Γ 10 (QmX Γ encI 4 24) 0 0 40 [(0, .ref 0), (1, .int x1), (2, .int x2), (3, .int x3), (4, .int x4), (5, .int x5), (6, .int x6)] [.int xs0] (f_X10_second_b40 x1 x2 x3 x4 x5 x6 xs0) := by
  unfold f_X10_second_b40
  refine rz_callX G N (st := []) (c_X10_need (cLn Γ) hlt xs0) lkX10_98 (k' := 1) (n' := 6) ⟨rfl, rfl⟩ (by decide) rfl (Nat.le_of_ble_eq_true rfl) (Nat.le_of_ble_eq_true rfl) (dq jX10_second 20 rfl) rfl (fun _ => ?_)
  have G := G.up (k' := 1) (n' := 6) N (by decide) (by decide)
  refine rz_iload_n G 1 rfl rfl (dq jX10_second 21 rfl) ?_
  refine rz_iload_n G 2 rfl rfl (dq jX10_second 22 rfl) ?_
  refine rz_icmp_eq G (tgt := 52) rfl (dq jX10_second 23 rfl) (fun c1 => ?_) (fun c1 => ?_)
  · refine rz_iconst G (v := 0) (dq jX10_second 26 rfl) rfl ?_
    exact rz_lv [0, 1, 2, 3, 4, 5, 6] rfl (z_X10_second_b53 G N hlt x1 x2 x3 x4 x5 x6 0)
  · refine rz_iconst G (v := 1) (dq jX10_second 24 rfl) rfl ?_
    refine rz_goto G (tgt := 53) rfl (dq jX10_second 25 rfl) ?_
    exact rz_lv [0, 1, 2, 3, 4, 5, 6] rfl (z_X10_second_b53 G N hlt x1 x2 x3 x4 x5 x6 1)
theorem z_X10_second_b35 {Γ : Cx} (G : GG Γ RX10 cX10_second 10 (some .int) 9 0 0) (N : NX Γ 4 24) (hlt : (cLn Γ).stackTraces = false) (x1 : Int32) (x2 : Int32) (x3 : Int32) (x4 : Int32) (x5 : Int32) (x6 : Int32) : Rz Γ 10 (QmX Γ encI 4 24) 0 0 35 [(0, .ref 0), (1, .int x1), (2, .int x2), (3, .int x3), (4, .int x4), (5, .int x5), (6, .int x6)] [] (f_X10_second_b35 x1 x2 x3 x4 x5 x6) := by
  unfold f_X10_second_b35
  refine rz_iconst G (v := 1) (dq jX10_second 17 rfl) rfl ?_
  refine rz_goto G (tgt := 40) rfl (dq jX10_second 18 rfl) ?_
  exact rz_lv [0, 1, 2, 3, 4, 5, 6] rfl (z_X10_second_b40 G N hlt x1 x2 x3 x4 x5 x6 1)
theorem z_X10_second_b39 {Γ : Cx} (G : GG Γ RX10 cX10_second 10 (some .int) 9 0 0) (N : NX Γ 4 24) (hlt : (cLn Γ).stackTraces = false) (x1 : Int32) (x2 : Int32) (x3 : Int32) (x4 : Int32) (x5 : Int32) (x6 : Int32) : Rz Γ 10 (QmX Γ encI 4 24) 0 0 39 [(0, .ref 0), (1, .int x1), (2, .int x2), (3, .int x3), (4, .int x4), (5, .int x5), (6, .int x6)] [] (f_X10_second_b39 x1 x2 x3 x4 x5 x6) := by
  unfold f_X10_second_b39
  refine rz_iconst G (v := 0) (dq jX10_second 19 rfl) rfl ?_
  exact rz_lv [0, 1, 2, 3, 4, 5, 6] rfl (z_X10_second_b40 G N hlt x1 x2 x3 x4 x5 x6 0)
theorem c_X10_second (l : Launch) (hlt : l.stackTraces = false) (x1 : Int32) (x2 : Int32) (x3 : Int32) (x4 : Int32) (x5 : Int32) (x6 : Int32) : CtX l yX10_second cX10_second 10 (some .int) 9 4 24 encI [.ref 0, .int x1, .int x2, .int x3, .int x4, .int x5, .int x6] (f_X10_second x1 x2 x3 x4 x5 x6) := by
  refine ctX_of (own := RX10) (by decide) rfl (Nat.le_of_ble_eq_true rfl) (fun Γ hl0 G N => ?_)
  subst hl0
  show Rz Γ 10 (QmX Γ encI 4 24) 0 0 0 [(0, .ref 0), (1, .int x1), (2, .int x2), (3, .int x3), (4, .int x4), (5, .int x5), (6, .int x6)] [] _
  unfold f_X10_second
  refine rz_aload_n G 0 rfl rfl (dq jX10_second 0 rfl) ?_
  refine rz_iload_n G 1 rfl rfl (dq jX10_second 1 rfl) ?_
  refine rz_callVi G (st := []) (c_X10_isJumper (cLn Γ) x1) lkX10_159 sh0 rfl rfl rfl (Nat.le_of_ble_eq_true rfl) (Nat.le_of_ble_eq_true rfl) (dq jX10_second 2 rfl) rfl (fun r1 => ?_)
  refine rz_if_eq G (tgt := 39) rfl (dq jX10_second 3 rfl) (fun c2 => ?_) (fun c2 => ?_)
  · exact rz_lv [0, 1, 2, 3, 4, 5, 6] rfl (z_X10_second_b39 G N hlt x1 x2 x3 x4 x5 x6)
  · refine rz_aload_n G 0 rfl rfl (dq jX10_second 4 rfl) ?_
    refine rz_iload_n G 2 rfl rfl (dq jX10_second 5 rfl) ?_
    refine rz_callVi G (st := []) (c_X10_isJumper (cLn Γ) x2) lkX10_159 sh0 rfl rfl rfl (Nat.le_of_ble_eq_true rfl) (Nat.le_of_ble_eq_true rfl) (dq jX10_second 6 rfl) rfl (fun r3 => ?_)
    refine rz_if_eq G (tgt := 39) rfl (dq jX10_second 7 rfl) (fun c4 => ?_) (fun c4 => ?_)
    · exact rz_lv [0, 1, 2, 3, 4, 5, 6] rfl (z_X10_second_b39 G N hlt x1 x2 x3 x4 x5 x6)
    · refine rz_aload_n G 0 rfl rfl (dq jX10_second 8 rfl) ?_
      refine rz_iload_n G 3 rfl rfl (dq jX10_second 9 rfl) ?_
      refine rz_callVi G (st := []) (c_X10_isTick (cLn Γ) x3) lkX10_214 sh0 rfl rfl rfl (Nat.le_of_ble_eq_true rfl) (Nat.le_of_ble_eq_true rfl) (dq jX10_second 10 rfl) rfl (fun r5 => ?_)
      refine rz_if_eq G (tgt := 39) rfl (dq jX10_second 11 rfl) (fun c6 => ?_) (fun c6 => ?_)
      · exact rz_lv [0, 1, 2, 3, 4, 5, 6] rfl (z_X10_second_b39 G N hlt x1 x2 x3 x4 x5 x6)
      · refine rz_iload G 6 rfl (dq jX10_second 12 rfl) ?_
        refine rz_if_eq G (tgt := 35) rfl (dq jX10_second 13 rfl) (fun c7 => ?_) (fun c7 => ?_)
        · exact rz_lv [0, 1, 2, 3, 4, 5, 6] rfl (z_X10_second_b35 G N hlt x1 x2 x3 x4 x5 x6)
        · refine rz_iload G 6 rfl (dq jX10_second 14 rfl) ?_
          refine rz_iconst G (v := 1) (dq jX10_second 15 rfl) rfl ?_
          refine rz_icmp_ne G (tgt := 39) rfl (dq jX10_second 16 rfl) (fun c8 => ?_) (fun c8 => ?_)
          · exact rz_lv [0, 1, 2, 3, 4, 5, 6] rfl (z_X10_second_b35 G N hlt x1 x2 x3 x4 x5 x6)
          · exact rz_lv [0, 1, 2, 3, 4, 5, 6] rfl (z_X10_second_b39 G N hlt x1 x2 x3 x4 x5 x6)
