theorem z_X11_isGreater_b82 {Γ : Cx} (G : GG Γ RX11 cX11_isGreater 21 (some .boolean) 1 0 0)  : Rz Γ 21 (Qm Γ encI 0 0) 0 0 82 [] [] (f_X11_isGreater_b82 ) := by
  unfold f_X11_isGreater_b82
  refine rz_iconst G (v := 0) (dq jX11_isGreater 46 rfl) rfl ?_
  refine rz_goto G (tgt := 105) rfl (dq jX11_isGreater 47 rfl) ?_
  exact rz_zret0 G (by decide) (dq jX11_isGreater 59 rfl)
theorem z_X11_isGreater_b59 {Γ : Cx} (G : GG Γ RX11 cX11_isGreater 21 (some .boolean) 1 0 0) (x16 : Int32) (x17 : Int64) (x19 : Int64) : Rz Γ 21 (Qm Γ encI 0 0) 0 0 59 [(16, .int x16), (17, .long x17), (19, .long x19)] [] (f_X11_isGreater_b59 x16 x17 x19) := by
  unfold f_X11_isGreater_b59
  refine rz_iload G 0 rfl (dq jX11_isGreater 34 rfl) ?_
  refine rz_if_eq G (tgt := 86) rfl (dq jX11_isGreater 35 rfl) (fun c1 => ?_) (fun c1 => ?_)
  · refine rz_lload G 1 rfl (dq jX11_isGreater 48 rfl) ?_
    refine rz_lconst G (v := 0) (dq jX11_isGreater 49 rfl) rfl ?_
    refine rz_lcmp G (dq jX11_isGreater 50 rfl) ?_
    refine rz_if_le G (tgt := 104) rfl (dq jX11_isGreater 51 rfl) (fun c2 => ?_) (fun c2 => ?_)
    · refine rz_iconst G (v := 0) (dq jX11_isGreater 58 rfl) rfl ?_
      exact rz_zret0 G (by decide) (dq jX11_isGreater 59 rfl)
    · refine rz_lload G 2 rfl (dq jX11_isGreater 52 rfl) ?_
      refine rz_lconst G (v := 0) (dq jX11_isGreater 53 rfl) rfl ?_
      refine rz_lcmp G (dq jX11_isGreater 54 rfl) ?_
      refine rz_if_ne G (tgt := 104) rfl (dq jX11_isGreater 55 rfl) (fun c3 => ?_) (fun c3 => ?_)
      · refine rz_iconst G (v := 1) (dq jX11_isGreater 56 rfl) rfl ?_
        refine rz_goto G (tgt := 105) rfl (dq jX11_isGreater 57 rfl) ?_
        exact rz_zret0 G (by decide) (dq jX11_isGreater 59 rfl)
      · refine rz_iconst G (v := 0) (dq jX11_isGreater 58 rfl) rfl ?_
        exact rz_zret0 G (by decide) (dq jX11_isGreater 59 rfl)
  · refine rz_lload G 1 rfl (dq jX11_isGreater 36 rfl) ?_
    refine rz_lconst G (v := 0) (dq jX11_isGreater 37 rfl) rfl ?_
    refine rz_lcmp G (dq jX11_isGreater 38 rfl) ?_
    refine rz_if_ne G (tgt := 82) rfl (dq jX11_isGreater 39 rfl) (fun c4 => ?_) (fun c4 => ?_)
    · refine rz_lload G 2 rfl (dq jX11_isGreater 40 rfl) ?_
      refine rz_lconst G (v := 0) (dq jX11_isGreater 41 rfl) rfl ?_
      refine rz_lcmp G (dq jX11_isGreater 42 rfl) ?_
      refine rz_if_le G (tgt := 82) rfl (dq jX11_isGreater 43 rfl) (fun c5 => ?_) (fun c5 => ?_)
      · exact rz_lv [] rfl (z_X11_isGreater_b82 G)
      · refine rz_iconst G (v := 1) (dq jX11_isGreater 44 rfl) rfl ?_
        refine rz_goto G (tgt := 105) rfl (dq jX11_isGreater 45 rfl) ?_
        exact rz_zret0 G (by decide) (dq jX11_isGreater 59 rfl)
    · exact rz_lv [] rfl (z_X11_isGreater_b82 G)
theorem z_X11_isGreater_b132 {Γ : Cx} (G : GG Γ RX11 cX11_isGreater 21 (some .boolean) 1 0 0) (k17 : Int64 → Int64 → Int64 → Int64 → Int32 → Sg → Option (Int32 × Sg)) (hk17 : ∀ (x8 : Int64) (x10 : Int64) (x12 : Int64) (x14 : Int64) (x16 : Int32), Rz Γ 21 (Qm Γ encI 0 0) 0 0 17 [(8, .long x8), (10, .long x10), (12, .long x12), (14, .long x14), (16, .int x16)] [] (k17 x8 x10 x12 x14 x16)) (x8 : Int64) (x10 : Int64) (x12 : Int64) (x14 : Int64) (xs0 : Int32) : Rz Γ 21 (Qm Γ encI 0 0) 0 0 132 [(8, .long x8), (10, .long x10), (12, .long x12), (14, .long x14)] [.int xs0] (f_X11_isGreater_b132 k17 x8 x10 x12 x14 xs0) := by
  unfold f_X11_isGreater_b132
  refine rz_istore G (lv' := [(16, .int xs0), (8, .long x8), (10, .long x10), (12, .long x12), (14, .long x14)]) (Nat.le_of_ble_eq_true rfl) rfl (dq jX11_isGreater 73 rfl) ?_
  refine rz_goto G (tgt := 17) rfl (dq jX11_isGreater 74 rfl) ?_
  exact rz_lv [1, 2, 3, 4, 0] rfl (hk17 x8 x10 x12 x14 xs0)
theorem z_X11_isGreater_b137 {Γ : Cx} (G : GG Γ RX11 cX11_isGreater 21 (some .boolean) 1 0 0) (x8 : Int64) (x10 : Int64) (x12 : Int64) (x14 : Int64) (x16 : Int32) : Rz Γ 21 (Qm Γ encI 0 0) 0 0 137 [(8, .long x8), (10, .long x10), (12, .long x12), (14, .long x14), (16, .int x16)] [] (f_X11_isGreater_b137 x8 x10 x12 x14 x16) := by
  unfold f_X11_isGreater_b137
  refine rz_iload G 4 rfl (dq jX11_isGreater 75 rfl) ?_
  refine rz_if_eq G (tgt := 164) rfl (dq jX11_isGreater 76 rfl) (fun c1 => ?_) (fun c1 => ?_)
  · refine rz_lload G 0 rfl (dq jX11_isGreater 89 rfl) ?_
    refine rz_lload G 1 rfl (dq jX11_isGreater 90 rfl) ?_
    refine rz_ldiv G (dq jX11_isGreater 91 rfl) ?_
    refine rz_lload G 2 rfl (dq jX11_isGreater 92 rfl) ?_
    refine rz_lload G 3 rfl (dq jX11_isGreater 93 rfl) ?_
    refine rz_ldiv G (dq jX11_isGreater 94 rfl) ?_
    refine rz_lcmp G (dq jX11_isGreater 95 rfl) ?_
    refine rz_if_le G (tgt := 182) rfl (dq jX11_isGreater 96 rfl) (fun c2 => ?_) (fun c2 => ?_)
    · refine rz_iconst G (v := 0) (dq jX11_isGreater 99 rfl) rfl ?_
      exact rz_zret0 G (by decide) (dq jX11_isGreater 100 rfl)
    · refine rz_iconst G (v := 1) (dq jX11_isGreater 97 rfl) rfl ?_
      refine rz_goto G (tgt := 183) rfl (dq jX11_isGreater 98 rfl) ?_
      exact rz_zret0 G (by decide) (dq jX11_isGreater 100 rfl)
  · refine rz_lload G 0 rfl (dq jX11_isGreater 77 rfl) ?_
    refine rz_lload G 1 rfl (dq jX11_isGreater 78 rfl) ?_
    refine rz_ldiv G (dq jX11_isGreater 79 rfl) ?_
    refine rz_lload G 2 rfl (dq jX11_isGreater 80 rfl) ?_
    refine rz_lload G 3 rfl (dq jX11_isGreater 81 rfl) ?_
    refine rz_ldiv G (dq jX11_isGreater 82 rfl) ?_
    refine rz_lcmp G (dq jX11_isGreater 83 rfl) ?_
    refine rz_if_ge G (tgt := 160) rfl (dq jX11_isGreater 84 rfl) (fun c3 => ?_) (fun c3 => ?_)
    · refine rz_iconst G (v := 0) (dq jX11_isGreater 87 rfl) rfl ?_
      refine rz_goto G (tgt := 183) rfl (dq jX11_isGreater 88 rfl) ?_
      exact rz_zret0 G (by decide) (dq jX11_isGreater 100 rfl)
    · refine rz_iconst G (v := 1) (dq jX11_isGreater 85 rfl) rfl ?_
      refine rz_goto G (tgt := 183) rfl (dq jX11_isGreater 86 rfl) ?_
      exact rz_zret0 G (by decide) (dq jX11_isGreater 100 rfl)
theorem z_X11_isGreater_b17 {Γ : Cx} (G : GG Γ RX11 cX11_isGreater 21 (some .boolean) 1 0 0) : ∀ (fu : Nat) (x8 : Int64) (x10 : Int64) (x12 : Int64) (x14 : Int64) (x16 : Int32), Rz Γ 21 (Qm Γ encI 0 0) 0 0 17 [(8, .long x8), (10, .long x10), (12, .long x12), (14, .long x14), (16, .int x16)] [] (f_X11_isGreater_b17 fu x8 x10 x12 x14 x16) := by
  intro fu
  induction fu with
  | zero => intro _ _ _ _ _; exact rz_none
  | succ fu ih =>
    intro x8 x10 x12 x14 x16
    rw [f_X11_isGreater_b17]
    refine rz_lload G 0 rfl (dq jX11_isGreater 10 rfl) ?_
    refine rz_lload G 1 rfl (dq jX11_isGreater 11 rfl) ?_
    refine rz_ldiv G (dq jX11_isGreater 12 rfl) ?_
    refine rz_lload G 2 rfl (dq jX11_isGreater 13 rfl) ?_
    refine rz_lload G 3 rfl (dq jX11_isGreater 14 rfl) ?_
    refine rz_ldiv G (dq jX11_isGreater 15 rfl) ?_
    refine rz_lcmp G (dq jX11_isGreater 16 rfl) ?_
    refine rz_if_ne G (tgt := 137) rfl (dq jX11_isGreater 17 rfl) (fun c1 => ?_) (fun c1 => ?_)
    · refine rz_lload G 0 rfl (dq jX11_isGreater 18 rfl) ?_
      refine rz_lload G 1 rfl (dq jX11_isGreater 19 rfl) ?_
      refine rz_lrem G (dq jX11_isGreater 20 rfl) ?_
      refine rz_ltl (fun w2 e_w2 => ?_)
      refine rz_lstore G (lv' := [(17, .long w2), (8, .long x8), (10, .long x10), (12, .long x12), (14, .long x14), (16, .int x16)]) (Nat.le_of_ble_eq_true rfl) rfl (dq jX11_isGreater 21 rfl) ?_
      refine rz_lload G 3 rfl (dq jX11_isGreater 22 rfl) ?_
      refine rz_lload G 4 rfl (dq jX11_isGreater 23 rfl) ?_
      refine rz_lrem G (dq jX11_isGreater 24 rfl) ?_
      refine rz_ltl (fun w3 e_w3 => ?_)
      refine rz_lstore G (lv' := [(19, .long w3), (17, .long w2), (8, .long x8), (10, .long x10), (12, .long x12), (14, .long x14), (16, .int x16)]) (Nat.le_of_ble_eq_true rfl) rfl (dq jX11_isGreater 25 rfl) ?_
      refine rz_lload G 1 rfl (dq jX11_isGreater 26 rfl) ?_
      refine rz_lconst G (v := 0) (dq jX11_isGreater 27 rfl) rfl ?_
      refine rz_lcmp G (dq jX11_isGreater 28 rfl) ?_
      refine rz_if_eq G (tgt := 59) rfl (dq jX11_isGreater 29 rfl) (fun c4 => ?_) (fun c4 => ?_)
      · exact rz_lv [6, 1, 0] rfl (z_X11_isGreater_b59 G x16 w2 w3)
      · refine rz_lload G 0 rfl (dq jX11_isGreater 30 rfl) ?_
        refine rz_lconst G (v := 0) (dq jX11_isGreater 31 rfl) rfl ?_
        refine rz_lcmp G (dq jX11_isGreater 32 rfl) ?_
        refine rz_if_ne G (tgt := 106) rfl (dq jX11_isGreater 33 rfl) (fun c5 => ?_) (fun c5 => ?_)
        · exact rz_lv [6, 1, 0] rfl (z_X11_isGreater_b59 G x16 w2 w3)
        · refine rz_lload G 3 rfl (dq jX11_isGreater 60 rfl) ?_
          refine rz_lstore G (lv' := [(8, .long x10), (19, .long w3), (17, .long w2), (10, .long x10), (12, .long x12), (14, .long x14), (16, .int x16)]) (Nat.le_of_ble_eq_true rfl) rfl (dq jX11_isGreater 61 rfl) ?_
          refine rz_lload G 2 rfl (dq jX11_isGreater 62 rfl) ?_
          refine rz_lstore G (lv' := [(10, .long w2), (8, .long x10), (19, .long w3), (17, .long w2), (12, .long x12), (14, .long x14), (16, .int x16)]) (Nat.le_of_ble_eq_true rfl) rfl (dq jX11_isGreater 63 rfl) ?_
          refine rz_lload G 5 rfl (dq jX11_isGreater 64 rfl) ?_
          refine rz_lstore G (lv' := [(12, .long x14), (10, .long w2), (8, .long x10), (19, .long w3), (17, .long w2), (14, .long x14), (16, .int x16)]) (Nat.le_of_ble_eq_true rfl) rfl (dq jX11_isGreater 65 rfl) ?_
          refine rz_lload G 3 rfl (dq jX11_isGreater 66 rfl) ?_
          refine rz_lstore G (lv' := [(14, .long w3), (12, .long x14), (10, .long w2), (8, .long x10), (19, .long w3), (17, .long w2), (16, .int x16)]) (Nat.le_of_ble_eq_true rfl) rfl (dq jX11_isGreater 67 rfl) ?_
          refine rz_iload G 6 rfl (dq jX11_isGreater 68 rfl) ?_
          refine rz_if_ne G (tgt := 131) rfl (dq jX11_isGreater 69 rfl) (fun c6 => ?_) (fun c6 => ?_)
          · refine rz_iconst G (v := 1) (dq jX11_isGreater 70 rfl) rfl ?_
            refine rz_goto G (tgt := 132) rfl (dq jX11_isGreater 71 rfl) ?_
            exact rz_lv [3, 2, 1, 0] rfl (z_X11_isGreater_b132 G (f_X11_isGreater_b17 fu) ih x10 w2 x14 w3 1)
          · refine rz_iconst G (v := 0) (dq jX11_isGreater 72 rfl) rfl ?_
            exact rz_lv [3, 2, 1, 0] rfl (z_X11_isGreater_b132 G (f_X11_isGreater_b17 fu) ih x10 w2 x14 w3 0)
    · exact rz_lv [0, 1, 2, 3, 4] rfl (z_X11_isGreater_b137 G x8 x10 x12 x14 x16)
theorem c_X11_isGreater (l : Launch) (x0 : Int64) (x2 : Int64) (x4 : Int64) (x6 : Int64) : Ct l yX11_isGreater cX11_isGreater 21 (some .boolean) 1 encI [.long x0, .long x2, .long x4, .long x6] (f_X11_isGreater x0 x2 x4 x6) := by
  refine ct_of (own := RX11) (by decide) rfl (Nat.le_of_ble_eq_true rfl) (fun Γ hl G => ?_)
  show Rz Γ 21 (Qm Γ encI 0 0) 0 0 0 [(0, .long x0), (2, .long x2), (4, .long x4), (6, .long x6)] [] _
  unfold f_X11_isGreater
  refine rz_lload_n G 0 rfl rfl (dq jX11_isGreater 0 rfl) ?_
  refine rz_lstore G (lv' := [(8, .long x0), (0, .long x0), (2, .long x2), (4, .long x4), (6, .long x6)]) (Nat.le_of_ble_eq_true rfl) rfl (dq jX11_isGreater 1 rfl) ?_
  refine rz_lload_n G 2 rfl rfl (dq jX11_isGreater 2 rfl) ?_
  refine rz_lstore G (lv' := [(10, .long x2), (8, .long x0), (0, .long x0), (2, .long x2), (4, .long x4), (6, .long x6)]) (Nat.le_of_ble_eq_true rfl) rfl (dq jX11_isGreater 3 rfl) ?_
  refine rz_lload G 4 rfl (dq jX11_isGreater 4 rfl) ?_
  refine rz_lstore G (lv' := [(12, .long x4), (10, .long x2), (8, .long x0), (0, .long x0), (2, .long x2), (4, .long x4), (6, .long x6)]) (Nat.le_of_ble_eq_true rfl) rfl (dq jX11_isGreater 5 rfl) ?_
  refine rz_lload G 6 rfl (dq jX11_isGreater 6 rfl) ?_
  refine rz_lstore G (lv' := [(14, .long x6), (12, .long x4), (10, .long x2), (8, .long x0), (0, .long x0), (2, .long x2), (4, .long x4), (6, .long x6)]) (Nat.le_of_ble_eq_true rfl) rfl (dq jX11_isGreater 7 rfl) ?_
  refine rz_iconst G (v := 0) (dq jX11_isGreater 8 rfl) rfl ?_
  refine rz_istore G (lv' := [(16, .int 0), (14, .long x6), (12, .long x4), (10, .long x2), (8, .long x0), (0, .long x0), (2, .long x2), (4, .long x4), (6, .long x6)]) (Nat.le_of_ble_eq_true rfl) rfl (dq jX11_isGreater 9 rfl) ?_
  exact rz_lv [4, 3, 2, 1, 0] rfl (z_X11_isGreater_b17 G FU x0 x2 x4 x6 0)
theorem z_X11_egg_b88 {Γ : Cx} (G : GG Γ RX11 cX11_egg 20 (some .long) 3 0 0) (k37 : Int32 → Int32 → Sg → Option (Int64 × Sg)) (hk37 : ∀ (x1 : Int32) (x2 : Int32), Rz Γ 20 (Qm Γ encL 0 0) 0 0 37 [(0, .ref 56), (1, .int x1), (2, .int x2)] [] (k37 x1 x2)) (x1 : Int32) (x2 : Int32) (x3 : Int32) : Rz Γ 20 (Qm Γ encL 0 0) 0 0 88 [(0, .ref 56), (1, .int x1), (2, .int x2), (3, .int x3)] [] (f_X11_egg_b88 k37 x1 x2 x3) := by
  unfold f_X11_egg_b88
  refine rz_aload_n G 0 rfl rfl (dq jX11_egg 54 rfl) ?_
  refine rz_getC G flX11_136 sh56 (t := 91) rfl rfl (dq jX11_egg 55 rfl) ?_
  refine rz_iload_n G 3 rfl rfl (dq jX11_egg 56 rfl) ?_
  refine rz_aload_n G 0 rfl rfl (dq jX11_egg 57 rfl) ?_
  refine rz_getC G flX11_32 sh56 (t := 60) rfl rfl (dq jX11_egg 58 rfl) ?_
  refine rz_iload_n G 2 rfl rfl (dq jX11_egg 59 rfl) ?_
  refine rz_iald G sh60 (dq jX11_egg 60 rfl) (fun v1 => ?_)
  refine rz_iast G sh91 (dq jX11_egg 61 rfl) ?_
  refine rz_iinc G 2 (v := x2 + 1) (lv' := [(2, .int (x2 + 1)), (0, .ref 56), (1, .int x1), (3, .int x3)]) rfl (congrArg (HAdd.hAdd _) (by decide)) (Nat.le_of_ble_eq_true rfl) rfl (dq jX11_egg 62 rfl) ?_
  refine rz_goto G (tgt := 37) rfl (dq jX11_egg 63 rfl) ?_
  exact rz_lv [1, 2, 0] rfl (hk37 x1 (x2 + 1))
theorem z_X11_egg_b47 {Γ : Cx} (G : GG Γ RX11 cX11_egg 20 (some .long) 3 0 0) (k37 : Int32 → Int32 → Sg → Option (Int64 × Sg)) (hk37 : ∀ (x1 : Int32) (x2 : Int32), Rz Γ 20 (Qm Γ encL 0 0) 0 0 37 [(0, .ref 56), (1, .int x1), (2, .int x2)] [] (k37 x1 x2)) : ∀ (fu : Nat) (x1 : Int32) (x2 : Int32) (x3 : Int32), Rz Γ 20 (Qm Γ encL 0 0) 0 0 47 [(0, .ref 56), (1, .int x1), (2, .int x2), (3, .int x3)] [] (f_X11_egg_b47 k37 fu x1 x2 x3) := by
  intro fu
  induction fu with
  | zero => intro _ _ _; exact rz_none
  | succ fu ih =>
    intro x1 x2 x3
    rw [f_X11_egg_b47]
    refine rz_iload_n G 3 rfl rfl (dq jX11_egg 29 rfl) ?_
    refine rz_if_le G (tgt := 88) rfl (dq jX11_egg 30 rfl) (fun c1 => ?_) (fun c1 => ?_)
    · exact rz_lv [0, 1, 2, 3] rfl (z_X11_egg_b88 G k37 hk37 x1 x2 x3)
    · refine rz_aload_n G 0 rfl rfl (dq jX11_egg 31 rfl) ?_
      refine rz_getC G flX11_136 sh56 (t := 91) rfl rfl (dq jX11_egg 32 rfl) ?_
      refine rz_iload_n G 3 rfl rfl (dq jX11_egg 33 rfl) ?_
      refine rz_iconst G (v := 1) (dq jX11_egg 34 rfl) rfl ?_
      refine rz_isub G (dq jX11_egg 35 rfl) ?_
      refine rz_iald G sh91 (dq jX11_egg 36 rfl) (fun v2 => ?_)
      refine rz_aload_n G 0 rfl rfl (dq jX11_egg 37 rfl) ?_
      refine rz_getC G flX11_32 sh56 (t := 60) rfl rfl (dq jX11_egg 38 rfl) ?_
      refine rz_iload_n G 2 rfl rfl (dq jX11_egg 39 rfl) ?_
      refine rz_iald G sh60 (dq jX11_egg 40 rfl) (fun v3 => ?_)
      refine rz_icmp_ge G (tgt := 88) rfl (dq jX11_egg 41 rfl) (fun c4 => ?_) (fun c4 => ?_)
      · exact rz_lv [0, 1, 2, 3] rfl (z_X11_egg_b88 G k37 hk37 x1 x2 x3)
      · refine rz_aload_n G 0 rfl rfl (dq jX11_egg 42 rfl) ?_
        refine rz_getC G flX11_136 sh56 (t := 91) rfl rfl (dq jX11_egg 43 rfl) ?_
        refine rz_iload_n G 3 rfl rfl (dq jX11_egg 44 rfl) ?_
        refine rz_aload_n G 0 rfl rfl (dq jX11_egg 45 rfl) ?_
        refine rz_getC G flX11_136 sh56 (t := 91) rfl rfl (dq jX11_egg 46 rfl) ?_
        refine rz_iload_n G 3 rfl rfl (dq jX11_egg 47 rfl) ?_
        refine rz_iconst G (v := 1) (dq jX11_egg 48 rfl) rfl ?_
        refine rz_isub G (dq jX11_egg 49 rfl) ?_
        refine rz_iald G sh91 (dq jX11_egg 50 rfl) (fun v5 => ?_)
        refine rz_iast G sh91 (dq jX11_egg 51 rfl) ?_
        refine rz_iinc G 3 (v := x3 + (-1)) (lv' := [(3, .int (x3 + (-1))), (0, .ref 56), (1, .int x1), (2, .int x2)]) rfl (congrArg (HAdd.hAdd _) (by decide)) (Nat.le_of_ble_eq_true rfl) rfl (dq jX11_egg 52 rfl) ?_
        refine rz_goto G (tgt := 47) rfl (dq jX11_egg 53 rfl) ?_
        exact rz_lv [1, 2, 3, 0] rfl (ih x1 x2 (x3 + (-1)))
theorem z_X11_egg_b255 {Γ : Cx} (G : GG Γ RX11 cX11_egg 20 (some .long) 3 0 0) (k129 : Int32 → Int64 → Int64 → Int32 → Int64 → Int64 → Int32 → Sg → Option (Int64 × Sg)) (hk129 : ∀ (x1 : Int32) (x2 : Int64) (x4 : Int64) (x6 : Int32) (x7 : Int64) (x9 : Int64) (x11 : Int32), Rz Γ 20 (Qm Γ encL 0 0) 0 0 129 [(0, .ref 56), (1, .int x1), (2, .long x2), (4, .long x4), (6, .int x6), (7, .long x7), (9, .long x9), (11, .int x11)] [] (k129 x1 x2 x4 x6 x7 x9 x11)) (x1 : Int32) (x2 : Int64) (x4 : Int64) (x6 : Int32) (x7 : Int64) (x9 : Int64) (x11 : Int32) : Rz Γ 20 (Qm Γ encL 0 0) 0 0 255 [(0, .ref 56), (1, .int x1), (2, .long x2), (4, .long x4), (6, .int x6), (7, .long x7), (9, .long x9), (11, .int x11)] [] (f_X11_egg_b255 k129 x1 x2 x4 x6 x7 x9 x11) := by
  unfold f_X11_egg_b255
  refine rz_iinc G 7 (v := x11 + 1) (lv' := [(11, .int (x11 + 1)), (0, .ref 56), (1, .int x1), (2, .long x2), (4, .long x4), (6, .int x6), (7, .long x7), (9, .long x9)]) rfl (congrArg (HAdd.hAdd _) (by decide)) (Nat.le_of_ble_eq_true rfl) rfl (dq jX11_egg_s1 1 rfl) ?_
  refine rz_goto G (tgt := 129) rfl (dq jX11_egg_s1 2 rfl) ?_
  exact rz_lv [1, 2, 3, 4, 5, 6, 7, 0] rfl (hk129 x1 x2 x4 x6 x7 x9 (x11 + 1))
theorem z_X11_egg_b244 {Γ : Cx} (G : GG Γ RX11 cX11_egg 20 (some .long) 3 0 0) (k129 : Int32 → Int64 → Int64 → Int32 → Int64 → Int64 → Int32 → Sg → Option (Int64 × Sg)) (hk129 : ∀ (x1 : Int32) (x2 : Int64) (x4 : Int64) (x6 : Int32) (x7 : Int64) (x9 : Int64) (x11 : Int32), Rz Γ 20 (Qm Γ encL 0 0) 0 0 129 [(0, .ref 56), (1, .int x1), (2, .long x2), (4, .long x4), (6, .int x6), (7, .long x7), (9, .long x9), (11, .int x11)] [] (k129 x1 x2 x4 x6 x7 x9 x11)) (x1 : Int32) (x7 : Int64) (x9 : Int64) (x11 : Int32) (x16 : Int64) (x18 : Int64) : Rz Γ 20 (Qm Γ encL 0 0) 0 0 244 [(0, .ref 56), (1, .int x1), (7, .long x7), (9, .long x9), (11, .int x11), (16, .long x16), (18, .long x18)] [] (f_X11_egg_b244 k129 x1 x7 x9 x11 x16 x18) := by
  unfold f_X11_egg_b244
  refine rz_iload G 4 rfl (dq jX11_egg 145 rfl) ?_
  refine rz_istore G (lv' := [(6, .int x11), (0, .ref 56), (1, .int x1), (7, .long x7), (9, .long x9), (11, .int x11), (16, .long x16), (18, .long x18)]) (Nat.le_of_ble_eq_true rfl) rfl (dq jX11_egg 146 rfl) ?_
  refine rz_lload G 6 rfl (dq jX11_egg 147 rfl) ?_
  refine rz_lstore_n G (lv' := [(2, .long x16), (6, .int x11), (0, .ref 56), (1, .int x1), (7, .long x7), (9, .long x9), (11, .int x11), (16, .long x16), (18, .long x18)]) rfl (Nat.le_of_ble_eq_true rfl) rfl (dq jX11_egg 148 rfl) ?_
  refine rz_lload G 8 rfl (dq jX11_egg 149 rfl) ?_
  refine rz_lstore G (lv' := [(4, .long x18), (2, .long x16), (6, .int x11), (0, .ref 56), (1, .int x1), (7, .long x7), (9, .long x9), (11, .int x11), (16, .long x16), (18, .long x18)]) (Nat.le_of_ble_eq_true rfl) rfl (dq jX11_egg_s1 0 rfl) ?_
  exact rz_lv [3, 4, 1, 0, 2, 5, 6, 7] rfl (z_X11_egg_b255 G k129 hk129 x1 x16 x18 x11 x7 x9 x11)
theorem z_X11_egg_b261 {Γ : Cx} (G : GG Γ RX11 cX11_egg 20 (some .long) 3 0 0) (x1 : Int32) (x2 : Int64) (x4 : Int64) (x6 : Int32) : Rz Γ 20 (Qm Γ encL 0 0) 0 0 261 [(1, .int x1), (2, .long x2), (4, .long x4), (6, .int x6)] [] (f_X11_egg_b261 x1 x2 x4 x6) := by
  unfold f_X11_egg_b261
  refine rz_iload_n G 0 rfl rfl (dq jX11_egg_s1 3 rfl) ?_
  refine rz_if_ne G (tgt := 269) rfl (dq jX11_egg_s1 4 rfl) (fun c1 => ?_) (fun c1 => ?_)
  · refine rz_lload_n G 1 rfl rfl (dq jX11_egg_s1 5 rfl) ?_
    refine rz_goto G (tgt := 282) rfl (dq jX11_egg_s1 6 rfl) ?_
    exact rz_lret G (dq jX11_egg_s1 14 rfl)
  · refine rz_iload_n G 0 rfl rfl (dq jX11_egg_s1 7 rfl) ?_
    refine rz_iconst G (v := 1) (dq jX11_egg_s1 8 rfl) rfl ?_
    refine rz_icmp_ne G (tgt := 279) rfl (dq jX11_egg_s1 9 rfl) (fun c2 => ?_) (fun c2 => ?_)
    · refine rz_lload G 2 rfl (dq jX11_egg_s1 10 rfl) ?_
      refine rz_goto G (tgt := 282) rfl (dq jX11_egg_s1 11 rfl) ?_
      exact rz_lret G (dq jX11_egg_s1 14 rfl)
    · refine rz_iload G 3 rfl (dq jX11_egg_s1 12 rfl) ?_
      refine rz_i2l G (dq jX11_egg_s1 13 rfl) ?_
      exact rz_lret G (dq jX11_egg_s1 14 rfl)
theorem z_X11_egg_b129 {Γ : Cx} (G : GG Γ RX11 cX11_egg 20 (some .long) 3 0 0) : ∀ (fu : Nat) (x1 : Int32) (x2 : Int64) (x4 : Int64) (x6 : Int32) (x7 : Int64) (x9 : Int64) (x11 : Int32), Rz Γ 20 (Qm Γ encL 0 0) 0 0 129 [(0, .ref 56), (1, .int x1), (2, .long x2), (4, .long x4), (6, .int x6), (7, .long x7), (9, .long x9), (11, .int x11)] [] (f_X11_egg_b129 fu x1 x2 x4 x6 x7 x9 x11) := by
  intro fu
  induction fu with
  | zero => intro _ _ _ _ _ _ _; exact rz_none
  | succ fu ih =>
    intro x1 x2 x4 x6 x7 x9 x11
    rw [f_X11_egg_b129]
    refine rz_iload G 7 rfl (dq jX11_egg 80 rfl) ?_
    refine rz_aload_n G 0 rfl rfl (dq jX11_egg 81 rfl) ?_
    refine rz_getI G flX11_329 sh56 rfl (dq jX11_egg 82 rfl) (fun v1 => ?_)
    refine rz_icmp_gt G (tgt := 261) rfl (dq jX11_egg 83 rfl) (fun c2 => ?_) (fun c2 => ?_)
    · exact rz_lv [1, 2, 3, 4] rfl (z_X11_egg_b261 G x1 x2 x4 x6)
    · refine rz_lload G 5 rfl (dq jX11_egg 84 rfl) ?_
      refine rz_aload_n G 0 rfl rfl (dq jX11_egg 85 rfl) ?_
      refine rz_getC G flX11_136 sh56 (t := 91) rfl rfl (dq jX11_egg 86 rfl) ?_
      refine rz_iload G 7 rfl (dq jX11_egg 87 rfl) ?_
      refine rz_iconst G (v := 1) (dq jX11_egg 88 rfl) rfl ?_
      refine rz_isub G (dq jX11_egg 89 rfl) ?_
      refine rz_iald G sh91 (dq jX11_egg 90 rfl) (fun v3 => ?_)
      refine rz_i2l G (dq jX11_egg 91 rfl) ?_
      refine rz_lmul G (dq jX11_egg 92 rfl) ?_
      refine rz_lload G 6 rfl (dq jX11_egg 93 rfl) ?_
      refine rz_ladd G (dq jX11_egg 94 rfl) ?_
      refine rz_ltl (fun w4 e_w4 => ?_)
      refine rz_lstore G (lv' := [(12, .long w4), (0, .ref 56), (1, .int x1), (2, .long x2), (4, .long x4), (6, .int x6), (7, .long x7), (9, .long x9), (11, .int x11)]) (Nat.le_of_ble_eq_true rfl) rfl (dq jX11_egg 95 rfl) ?_
      refine rz_lload G 7 rfl (dq jX11_egg 96 rfl) ?_
      refine rz_aload_n G 1 rfl rfl (dq jX11_egg 97 rfl) ?_
      refine rz_getC G flX11_136 sh56 (t := 91) rfl rfl (dq jX11_egg 98 rfl) ?_
      refine rz_iload G 8 rfl (dq jX11_egg 99 rfl) ?_
      refine rz_iconst G (v := 1) (dq jX11_egg 100 rfl) rfl ?_
      refine rz_isub G (dq jX11_egg 101 rfl) ?_
      refine rz_iald G sh91 (dq jX11_egg 102 rfl) (fun v5 => ?_)
      refine rz_i2l G (dq jX11_egg 103 rfl) ?_
      refine rz_lmul G (dq jX11_egg 104 rfl) ?_
      refine rz_ltl (fun w6 e_w6 => ?_)
      refine rz_lstore G (lv' := [(14, .long w6), (12, .long w4), (0, .ref 56), (1, .int x1), (2, .long x2), (4, .long x4), (6, .int x6), (7, .long x7), (9, .long x9), (11, .int x11)]) (Nat.le_of_ble_eq_true rfl) rfl (dq jX11_egg 105 rfl) ?_
      refine rz_lload G 1 rfl (dq jX11_egg 106 rfl) ?_
      refine rz_lload G 0 rfl (dq jX11_egg 107 rfl) ?_
      refine rz_iconst G (v := 0) (dq jX11_egg 108 rfl) rfl ?_
      refine rz_callSl G (st := []) (c_X11_portion (cLn Γ) w4 w6 0) lkX11_476 rfl (Nat.le_of_ble_eq_true rfl) (Nat.le_of_ble_eq_true rfl) (dq jX11_egg 109 rfl) rfl (fun r7 => ?_)
      refine rz_lstore G (lv' := [(7, .long r7), (14, .long w6), (12, .long w4), (0, .ref 56), (1, .int x1), (2, .long x2), (4, .long x4), (6, .int x6), (9, .long x9), (11, .int x11)]) (Nat.le_of_ble_eq_true rfl) rfl (dq jX11_egg 110 rfl) ?_
      refine rz_lload G 2 rfl (dq jX11_egg 111 rfl) ?_
      refine rz_lload G 1 rfl (dq jX11_egg 112 rfl) ?_
      refine rz_iconst G (v := 1) (dq jX11_egg 113 rfl) rfl ?_
      refine rz_callSl G (st := []) (c_X11_portion (cLn Γ) w4 w6 1) lkX11_476 rfl (Nat.le_of_ble_eq_true rfl) (Nat.le_of_ble_eq_true rfl) (dq jX11_egg 114 rfl) rfl (fun r8 => ?_)
      refine rz_lstore G (lv' := [(9, .long r8), (7, .long r7), (14, .long w6), (12, .long w4), (0, .ref 56), (1, .int x1), (2, .long x2), (4, .long x4), (6, .int x6), (11, .int x11)]) (Nat.le_of_ble_eq_true rfl) rfl (dq jX11_egg 115 rfl) ?_
      refine rz_iload G 9 rfl (dq jX11_egg 116 rfl) ?_
      refine rz_iconst G (v := 1) (dq jX11_egg 117 rfl) rfl ?_
      refine rz_isub G (dq jX11_egg 118 rfl) ?_
      refine rz_i2l G (dq jX11_egg 119 rfl) ?_
      refine rz_lload G 0 rfl (dq jX11_egg 120 rfl) ?_
      refine rz_lmul G (dq jX11_egg 121 rfl) ?_
      refine rz_lload G 1 rfl (dq jX11_egg 122 rfl) ?_
      refine rz_iconst G (v := 0) (dq jX11_egg 123 rfl) rfl ?_
      refine rz_callSl G (st := []) (c_X11_portion (cLn Γ) (((x11 - 1).toInt64) * r8) r7 0) lkX11_476 rfl (Nat.le_of_ble_eq_true rfl) (Nat.le_of_ble_eq_true rfl) (dq jX11_egg 124 rfl) rfl (fun r9 => ?_)
      refine rz_lstore G (lv' := [(16, .long r9), (9, .long r8), (7, .long r7), (14, .long w6), (12, .long w4), (0, .ref 56), (1, .int x1), (2, .long x2), (4, .long x4), (6, .int x6), (11, .int x11)]) (Nat.le_of_ble_eq_true rfl) rfl (dq jX11_egg 125 rfl) ?_
      refine rz_iload G 10 rfl (dq jX11_egg 126 rfl) ?_
      refine rz_iconst G (v := 1) (dq jX11_egg 127 rfl) rfl ?_
      refine rz_isub G (dq jX11_egg 128 rfl) ?_
      refine rz_i2l G (dq jX11_egg 129 rfl) ?_
      refine rz_lload G 1 rfl (dq jX11_egg 130 rfl) ?_
      refine rz_lmul G (dq jX11_egg 131 rfl) ?_
      refine rz_lload G 2 rfl (dq jX11_egg 132 rfl) ?_
      refine rz_iconst G (v := 1) (dq jX11_egg 133 rfl) rfl ?_
      refine rz_callSl G (st := []) (c_X11_portion (cLn Γ) (((x11 - 1).toInt64) * r8) r7 1) lkX11_476 rfl (Nat.le_of_ble_eq_true rfl) (Nat.le_of_ble_eq_true rfl) (dq jX11_egg 134 rfl) rfl (fun r10 => ?_)
      refine rz_lstore G (lv' := [(18, .long r10), (16, .long r9), (9, .long r8), (7, .long r7), (14, .long w6), (12, .long w4), (0, .ref 56), (1, .int x1), (2, .long x2), (4, .long x4), (6, .int x6), (11, .int x11)]) (Nat.le_of_ble_eq_true rfl) rfl (dq jX11_egg 135 rfl) ?_
      refine rz_iload G 10 rfl (dq jX11_egg 136 rfl) ?_
      refine rz_if_le G (tgt := 244) rfl (dq jX11_egg 137 rfl) (fun c11 => ?_) (fun c11 => ?_)
      · exact rz_lv [6, 7, 3, 2, 11, 1, 0] rfl (z_X11_egg_b244 G (f_X11_egg_b129 fu) ih x1 r7 r8 x11 r9 r10)
      · refine rz_lload G 1 rfl (dq jX11_egg 138 rfl) ?_
        refine rz_lload G 0 rfl (dq jX11_egg 139 rfl) ?_
        refine rz_lload_n G 8 rfl rfl (dq jX11_egg 140 rfl) ?_
        refine rz_lload G 9 rfl (dq jX11_egg 141 rfl) ?_
        refine rz_callSi G (st := []) (c_X11_isGreater (cLn Γ) r9 r10 x2 x4) lkX11_489 rfl (Nat.le_of_ble_eq_true rfl) (Nat.le_of_ble_eq_true rfl) (dq jX11_egg 142 rfl) rfl (fun r12 => ?_)
        refine rz_if_ne G (tgt := 244) rfl (dq jX11_egg 143 rfl) (fun c13 => ?_) (fun c13 => ?_)
        · refine rz_goto G (tgt := 255) rfl (dq jX11_egg 144 rfl) ?_
          exact rz_lv [6, 7, 8, 9, 10, 3, 2, 11] rfl (z_X11_egg_b255 G (f_X11_egg_b129 fu) ih x1 x2 x4 x6 r7 r8 x11)
        · exact rz_lv [6, 7, 3, 2, 11, 1, 0] rfl (z_X11_egg_b244 G (f_X11_egg_b129 fu) ih x1 r7 r8 x11 r9 r10)
theorem z_X11_egg_b106 {Γ : Cx} (G : GG Γ RX11 cX11_egg 20 (some .long) 3 0 0) (x1 : Int32) : Rz Γ 20 (Qm Γ encL 0 0) 0 0 106 [(0, .ref 56), (1, .int x1)] [] (f_X11_egg_b106 x1) := by
  unfold f_X11_egg_b106
  refine rz_lconst G (v := 0) (dq jX11_egg 64 rfl) rfl ?_
  refine rz_lstore_n G (lv' := [(2, .long 0), (0, .ref 56), (1, .int x1)]) rfl (Nat.le_of_ble_eq_true rfl) rfl (dq jX11_egg 65 rfl) ?_
  refine rz_lconst G (v := 1) (dq jX11_egg 66 rfl) rfl ?_
  refine rz_lstore G (lv' := [(4, .long 1), (2, .long 0), (0, .ref 56), (1, .int x1)]) (Nat.le_of_ble_eq_true rfl) rfl (dq jX11_egg 67 rfl) ?_
  refine rz_iconst G (v := 0) (dq jX11_egg 68 rfl) rfl ?_
  refine rz_istore G (lv' := [(6, .int 0), (4, .long 1), (2, .long 0), (0, .ref 56), (1, .int x1)]) (Nat.le_of_ble_eq_true rfl) rfl (dq jX11_egg 69 rfl) ?_
  refine rz_lconst G (v := 1) (dq jX11_egg 70 rfl) rfl ?_
  refine rz_lstore G (lv' := [(7, .long 1), (6, .int 0), (4, .long 1), (2, .long 0), (0, .ref 56), (1, .int x1)]) (Nat.le_of_ble_eq_true rfl) rfl (dq jX11_egg 71 rfl) ?_
  refine rz_aload_n G 4 rfl rfl (dq jX11_egg 72 rfl) ?_
  refine rz_getC G flX11_136 sh56 (t := 91) rfl rfl (dq jX11_egg 73 rfl) ?_
  refine rz_iconst G (v := 0) (dq jX11_egg 74 rfl) rfl ?_
  refine rz_ialdN G (by decide) sh91 (dq jX11_egg 75 rfl) (fun v1 => ?_)
  refine rz_i2l G (dq jX11_egg 76 rfl) ?_
  refine rz_lstore G (lv' := [(9, .long v1.toInt64), (7, .long 1), (6, .int 0), (4, .long 1), (2, .long 0), (0, .ref 56), (1, .int x1)]) (Nat.le_of_ble_eq_true rfl) rfl (dq jX11_egg 77 rfl) ?_
  refine rz_iconst G (v := 2) (dq jX11_egg 78 rfl) rfl ?_
  refine rz_istore G (lv' := [(11, .int 2), (9, .long v1.toInt64), (7, .long 1), (6, .int 0), (4, .long 1), (2, .long 0), (0, .ref 56), (1, .int x1)]) (Nat.le_of_ble_eq_true rfl) rfl (dq jX11_egg 79 rfl) ?_
  exact rz_lv [6, 7, 5, 4, 3, 2, 1, 0] rfl (z_X11_egg_b129 G FU x1 0 1 0 1 v1.toInt64 2)
theorem z_X11_egg_b37 {Γ : Cx} (G : GG Γ RX11 cX11_egg 20 (some .long) 3 0 0) : ∀ (fu : Nat) (x1 : Int32) (x2 : Int32), Rz Γ 20 (Qm Γ encL 0 0) 0 0 37 [(0, .ref 56), (1, .int x1), (2, .int x2)] [] (f_X11_egg_b37 fu x1 x2) := by
  intro fu
  induction fu with
  | zero => intro _ _; exact rz_none
  | succ fu ih =>
    intro x1 x2
    rw [f_X11_egg_b37]
    refine rz_iload_n G 2 rfl rfl (dq jX11_egg 23 rfl) ?_
    refine rz_aload_n G 0 rfl rfl (dq jX11_egg 24 rfl) ?_
    refine rz_getI G flX11_329 sh56 rfl (dq jX11_egg 25 rfl) (fun v1 => ?_)
    refine rz_icmp_ge G (tgt := 106) rfl (dq jX11_egg 26 rfl) (fun c2 => ?_) (fun c2 => ?_)
    · exact rz_lv [0, 1] rfl (z_X11_egg_b106 G x1)
    · refine rz_iload_n G 2 rfl rfl (dq jX11_egg 27 rfl) ?_
      refine rz_istore_n G (lv' := [(3, .int x2), (0, .ref 56), (1, .int x1), (2, .int x2)]) rfl (Nat.le_of_ble_eq_true rfl) rfl (dq jX11_egg 28 rfl) ?_
      exact rz_lv [1, 2, 3, 0] rfl (z_X11_egg_b47 G (f_X11_egg_b37 fu) ih FU x1 x2 x2)
theorem c_X11_egg (l : Launch) (x1 : Int32) : Ct l yX11_egg cX11_egg 20 (some .long) 3 encL [.ref 56, .int x1] (f_X11_egg x1) := by
  refine ct_of (own := RX11) (by decide) rfl (Nat.le_of_ble_eq_true rfl) (fun Γ hl G => ?_)
  show Rz Γ 20 (Qm Γ encL 0 0) 0 0 0 [(0, .ref 56), (1, .int x1)] [] _
  unfold f_X11_egg
  refine rz_aload_n G 0 rfl rfl (dq jX11_egg 0 rfl) ?_
  refine rz_iconst G (v := 0) (dq jX11_egg 1 rfl) rfl ?_
  refine rz_putI G flX11_148 sh56 rfl (dq jX11_egg 2 rfl) ?_
  refine rz_aload_n G 0 rfl rfl (dq jX11_egg 3 rfl) ?_
  refine rz_iload_n G 1 rfl rfl (dq jX11_egg 4 rfl) ?_
  refine rz_iconst G (v := 2) (dq jX11_egg 5 rfl) rfl ?_
  refine rz_callVi G (st := []) (c_X11_isWhat (cLn Γ) x1 2) lkX11_353 sh56 rfl rfl rfl (Nat.le_of_ble_eq_true rfl) (Nat.le_of_ble_eq_true rfl) (dq jX11_egg 6 rfl) rfl (fun r1 => ?_)
  refine rz_if_ne G (tgt := 16) rfl (dq jX11_egg 7 rfl) (fun c2 => ?_) (fun c2 => ?_)
  · refine rz_lconst G (v := 0) (dq jX11_egg 8 rfl) rfl ?_
    exact rz_lret G (dq jX11_egg 9 rfl)
  · refine rz_aload_n G 0 rfl rfl (dq jX11_egg 10 rfl) ?_
    refine rz_getI G flX11_329 sh56 rfl (dq jX11_egg 11 rfl) (fun v3 => ?_)
    refine rz_iconst G (v := 2) (dq jX11_egg 12 rfl) rfl ?_
    refine rz_icmp_ge G (tgt := 35) rfl (dq jX11_egg 13 rfl) (fun c4 => ?_) (fun c4 => ?_)
    · refine rz_iconst G (v := 0) (dq jX11_egg 21 rfl) rfl ?_
      refine rz_istore_n G (lv' := [(2, .int 0), (0, .ref 56), (1, .int x1)]) rfl (Nat.le_of_ble_eq_true rfl) rfl (dq jX11_egg 22 rfl) ?_
      exact rz_lv [1, 2, 0] rfl (z_X11_egg_b37 G FU x1 0)
    · refine rz_iload_n G 1 rfl rfl (dq jX11_egg 14 rfl) ?_
      refine rz_iconst G (v := 1) (dq jX11_egg 15 rfl) rfl ?_
      refine rz_icmp_ne G (tgt := 33) rfl (dq jX11_egg 16 rfl) (fun c5 => ?_) (fun c5 => ?_)
      · refine rz_lconst G (v := 1) (dq jX11_egg 17 rfl) rfl ?_
        refine rz_goto G (tgt := 34) rfl (dq jX11_egg 18 rfl) ?_
        exact rz_lret G (dq jX11_egg 20 rfl)
      · refine rz_lconst G (v := 0) (dq jX11_egg 19 rfl) rfl ?_
        exact rz_lret G (dq jX11_egg 20 rfl)
theorem z_X11_afternoons_b187 {Γ : Cx} (G : GG Γ RX11 cX11_afternoons 10 (some .int) 6 0 0) (k80 : Int32 → Int32 → Int32 → Int32 → Int32 → Int32 → Int32 → Sg → Option (Int32 × Sg)) (hk80 : ∀ (x2 : Int32) (x3 : Int32) (x4 : Int32) (x5 : Int32) (x6 : Int32) (x7 : Int32) (x8 : Int32), Rz Γ 10 (Qm Γ encI 0 0) 0 0 80 [(0, .ref 56), (2, .int x2), (3, .int x3), (4, .int x4), (5, .int x5), (6, .int x6), (7, .int x7), (8, .int x8)] [] (k80 x2 x3 x4 x5 x6 x7 x8)) (x2 : Int32) (x3 : Int32) (x4 : Int32) (x5 : Int32) (x6 : Int32) (x8 : Int32) (xs0 : Int32) (xs1 : Int32) : Rz Γ 10 (Qm Γ encI 0 0) 0 0 187 [(0, .ref 56), (2, .int x2), (3, .int x3), (4, .int x4), (5, .int x5), (6, .int x6), (8, .int x8)] [.int xs0, .int xs1] (f_X11_afternoons_b187 k80 x2 x3 x4 x5 x6 x8 xs0 xs1) := by
  unfold f_X11_afternoons_b187
  refine rz_iadd G (dq jX11_afternoons 102 rfl) ?_
  refine rz_istore G (lv' := [(7, .int (xs1 + xs0)), (0, .ref 56), (2, .int x2), (3, .int x3), (4, .int x4), (5, .int x5), (6, .int x6), (8, .int x8)]) (Nat.le_of_ble_eq_true rfl) rfl (dq jX11_afternoons 103 rfl) ?_
  refine rz_iinc G 7 (v := x8 + 1) (lv' := [(8, .int (x8 + 1)), (7, .int (xs1 + xs0)), (0, .ref 56), (2, .int x2), (3, .int x3), (4, .int x4), (5, .int x5), (6, .int x6)]) rfl (congrArg (HAdd.hAdd _) (by decide)) (Nat.le_of_ble_eq_true rfl) rfl (dq jX11_afternoons 104 rfl) ?_
  refine rz_goto G (tgt := 80) rfl (dq jX11_afternoons 105 rfl) ?_
  exact rz_lv [2, 3, 4, 5, 6, 7, 1, 0] rfl (hk80 x2 x3 x4 x5 x6 (xs1 + xs0) (x8 + 1))
theorem z_X11_afternoons_b171 {Γ : Cx} (G : GG Γ RX11 cX11_afternoons 10 (some .int) 6 0 0) (k80 : Int32 → Int32 → Int32 → Int32 → Int32 → Int32 → Int32 → Sg → Option (Int32 × Sg)) (hk80 : ∀ (x2 : Int32) (x3 : Int32) (x4 : Int32) (x5 : Int32) (x6 : Int32) (x7 : Int32) (x8 : Int32), Rz Γ 10 (Qm Γ encI 0 0) 0 0 80 [(0, .ref 56), (2, .int x2), (3, .int x3), (4, .int x4), (5, .int x5), (6, .int x6), (7, .int x7), (8, .int x8)] [] (k80 x2 x3 x4 x5 x6 x7 x8)) (x2 : Int32) (x3 : Int32) (x4 : Int32) (x5 : Int32) (x7 : Int32) (x8 : Int32) (xs0 : Int32) : Rz Γ 10 (Qm Γ encI 0 0) 0 0 171 [(0, .ref 56), (2, .int x2), (3, .int x3), (4, .int x4), (5, .int x5), (7, .int x7), (8, .int x8)] [.int xs0] (f_X11_afternoons_b171 k80 x2 x3 x4 x5 x7 x8 xs0) := by
  unfold f_X11_afternoons_b171
  refine rz_istore G (lv' := [(6, .int xs0), (0, .ref 56), (2, .int x2), (3, .int x3), (4, .int x4), (5, .int x5), (7, .int x7), (8, .int x8)]) (Nat.le_of_ble_eq_true rfl) rfl (dq jX11_afternoons 94 rfl) ?_
  refine rz_iload G 6 rfl (dq jX11_afternoons 95 rfl) ?_
  refine rz_aload_n G 1 rfl rfl (dq jX11_afternoons 96 rfl) ?_
  refine rz_callVi G (st := [.int x7]) (c_X11_isHurt (cLn Γ)) lkX11_447 sh56 rfl rfl rfl (Nat.le_of_ble_eq_true rfl) (Nat.le_of_ble_eq_true rfl) (dq jX11_afternoons 97 rfl) rfl (fun r1 => ?_)
  refine rz_if_eq G (tgt := 186) rfl (dq jX11_afternoons 98 rfl) (fun c2 => ?_) (fun c2 => ?_)
  · refine rz_iconst G (v := 1) (dq jX11_afternoons 101 rfl) rfl ?_
    exact rz_lv [1, 2, 3, 4, 5, 0, 7] rfl (z_X11_afternoons_b187 G k80 hk80 x2 x3 x4 x5 xs0 x8 1 x7)
  · refine rz_iconst G (v := 0) (dq jX11_afternoons 99 rfl) rfl ?_
    refine rz_goto G (tgt := 187) rfl (dq jX11_afternoons 100 rfl) ?_
    exact rz_lv [1, 2, 3, 4, 5, 0, 7] rfl (z_X11_afternoons_b187 G k80 hk80 x2 x3 x4 x5 xs0 x8 0 x7)
theorem z_X11_afternoons_b140 {Γ : Cx} (G : GG Γ RX11 cX11_afternoons 10 (some .int) 6 0 0) (k80 : Int32 → Int32 → Int32 → Int32 → Int32 → Int32 → Int32 → Sg → Option (Int32 × Sg)) (hk80 : ∀ (x2 : Int32) (x3 : Int32) (x4 : Int32) (x5 : Int32) (x6 : Int32) (x7 : Int32) (x8 : Int32), Rz Γ 10 (Qm Γ encI 0 0) 0 0 80 [(0, .ref 56), (2, .int x2), (3, .int x3), (4, .int x4), (5, .int x5), (6, .int x6), (7, .int x7), (8, .int x8)] [] (k80 x2 x3 x4 x5 x6 x7 x8)) (x2 : Int32) (x3 : Int32) (x4 : Int32) (x5 : Int32) (x6 : Int32) (x7 : Int32) (x8 : Int32) : Rz Γ 10 (Qm Γ encI 0 0) 0 0 140 [(0, .ref 56), (2, .int x2), (3, .int x3), (4, .int x4), (5, .int x5), (6, .int x6), (7, .int x7), (8, .int x8)] [] (f_X11_afternoons_b140 k80 x2 x3 x4 x5 x6 x7 x8) := by
  unfold f_X11_afternoons_b140
  refine rz_aload_n G 0 rfl rfl (dq jX11_afternoons 79 rfl) ?_
  refine rz_callVv G (st := []) (c_X11_runsAll (cLn Γ)) lkX11_440 sh56 rfl rfl rfl (Nat.le_of_ble_eq_true rfl) (Nat.le_of_ble_eq_true rfl) (dq jX11_afternoons 80 rfl) rfl (fun _ => ?_)
  refine rz_iload G 4 rfl (dq jX11_afternoons 81 rfl) ?_
  refine rz_aload_n G 0 rfl rfl (dq jX11_afternoons 82 rfl) ?_
  refine rz_callVi G (st := [.int x5]) (c_X11_hurtsAll (cLn Γ)) lkX11_483 sh56 rfl rfl rfl (Nat.le_of_ble_eq_true rfl) (Nat.le_of_ble_eq_true rfl) (dq jX11_afternoons 83 rfl) rfl (fun r1 => ?_)
  refine rz_iadd G (dq jX11_afternoons 84 rfl) ?_
  refine rz_istore G (lv' := [(5, .int (x5 + r1)), (0, .ref 56), (2, .int x2), (3, .int x3), (4, .int x4), (6, .int x6), (7, .int x7), (8, .int x8)]) (Nat.le_of_ble_eq_true rfl) rfl (dq jX11_afternoons 85 rfl) ?_
  refine rz_aload_n G 1 rfl rfl (dq jX11_afternoons 86 rfl) ?_
  refine rz_callVi G (st := []) (c_X11_funAll (cLn Γ)) lkX11_486 sh56 rfl rfl rfl (Nat.le_of_ble_eq_true rfl) (Nat.le_of_ble_eq_true rfl) (dq jX11_afternoons 87 rfl) rfl (fun r2 => ?_)
  refine rz_iload G 5 rfl (dq jX11_afternoons 88 rfl) ?_
  refine rz_icmp_le G (tgt := 169) rfl (dq jX11_afternoons 89 rfl) (fun c3 => ?_) (fun c3 => ?_)
  · refine rz_iload G 5 rfl (dq jX11_afternoons 93 rfl) ?_
    exact rz_lv [1, 2, 3, 4, 0, 6, 7] rfl (z_X11_afternoons_b171 G k80 hk80 x2 x3 x4 (x5 + r1) x7 x8 x6)
  · refine rz_aload_n G 1 rfl rfl (dq jX11_afternoons 90 rfl) ?_
    refine rz_callVi G (st := []) (c_X11_funAll (cLn Γ)) lkX11_486 sh56 rfl rfl rfl (Nat.le_of_ble_eq_true rfl) (Nat.le_of_ble_eq_true rfl) (dq jX11_afternoons 91 rfl) rfl (fun r4 => ?_)
    refine rz_goto G (tgt := 171) rfl (dq jX11_afternoons 92 rfl) ?_
    exact rz_lv [1, 2, 3, 4, 0, 6, 7] rfl (z_X11_afternoons_b171 G k80 hk80 x2 x3 x4 (x5 + r1) x7 x8 r4)
theorem z_X11_afternoons_b89 {Γ : Cx} (G : GG Γ RX11 cX11_afternoons 10 (some .int) 6 0 0) (k80 : Int32 → Int32 → Int32 → Int32 → Int32 → Int32 → Int32 → Sg → Option (Int32 × Sg)) (hk80 : ∀ (x2 : Int32) (x3 : Int32) (x4 : Int32) (x5 : Int32) (x6 : Int32) (x7 : Int32) (x8 : Int32), Rz Γ 10 (Qm Γ encI 0 0) 0 0 80 [(0, .ref 56), (2, .int x2), (3, .int x3), (4, .int x4), (5, .int x5), (6, .int x6), (7, .int x7), (8, .int x8)] [] (k80 x2 x3 x4 x5 x6 x7 x8)) : ∀ (fu : Nat) (x2 : Int32) (x3 : Int32) (x4 : Int32) (x5 : Int32) (x6 : Int32) (x7 : Int32) (x8 : Int32) (x9 : Int32), Rz Γ 10 (Qm Γ encI 0 0) 0 0 89 [(0, .ref 56), (2, .int x2), (3, .int x3), (4, .int x4), (5, .int x5), (6, .int x6), (7, .int x7), (8, .int x8), (9, .int x9)] [] (f_X11_afternoons_b89 k80 fu x2 x3 x4 x5 x6 x7 x8 x9) := by
  intro fu
  induction fu with
  | zero => intro _ _ _ _ _ _ _ _; exact rz_none
  | succ fu ih =>
    intro x2 x3 x4 x5 x6 x7 x8 x9
    rw [f_X11_afternoons_b89]
    refine rz_iload G 8 rfl (dq jX11_afternoons 52 rfl) ?_
    refine rz_aload_n G 0 rfl rfl (dq jX11_afternoons 53 rfl) ?_
    refine rz_getI G flX11_323 sh56 rfl (dq jX11_afternoons 54 rfl) (fun v1 => ?_)
    refine rz_icmp_ge G (tgt := 140) rfl (dq jX11_afternoons 55 rfl) (fun c2 => ?_) (fun c2 => ?_)
    · exact rz_lv [0, 1, 2, 3, 4, 5, 6, 7] rfl (z_X11_afternoons_b140 G k80 hk80 x2 x3 x4 x5 x6 x7 x8)
    · refine rz_iload G 3 rfl (dq jX11_afternoons 56 rfl) ?_
      refine rz_ldcw G kX11_493 (dq jX11_afternoons 57 rfl) ?_
      refine rz_imul G (dq jX11_afternoons 58 rfl) ?_
      refine rz_sipush G (v := 12345) (dq jX11_afternoons 59 rfl) (by decide) ?_
      refine rz_iadd G (dq jX11_afternoons 60 rfl) ?_
      refine rz_lti (fun w3 e_w3 => ?_)
      refine rz_istore G (lv' := [(4, .int w3), (0, .ref 56), (2, .int x2), (3, .int x3), (5, .int x5), (6, .int x6), (7, .int x7), (8, .int x8), (9, .int x9)]) (Nat.le_of_ble_eq_true rfl) rfl (dq jX11_afternoons 61 rfl) ?_
      refine rz_aload_n G 1 rfl rfl (dq jX11_afternoons 62 rfl) ?_
      refine rz_getC G flX11_26 sh56 (t := 58) rfl rfl (dq jX11_afternoons 63 rfl) ?_
      refine rz_bipush G (v := 6) (dq jX11_afternoons 64 rfl) (by decide) ?_
      refine rz_iload G 8 rfl (dq jX11_afternoons 65 rfl) ?_
      refine rz_imul G (dq jX11_afternoons 66 rfl) ?_
      refine rz_iconst G (v := 3) (dq jX11_afternoons 67 rfl) rfl ?_
      refine rz_iadd G (dq jX11_afternoons 68 rfl) ?_
      refine rz_iload G 0 rfl (dq jX11_afternoons 69 rfl) ?_
      refine rz_bipush G (v := 16) (dq jX11_afternoons 70 rfl) (by decide) ?_
      refine rz_ishr G (dq jX11_afternoons 71 rfl) ?_
      refine rz_sipush G (v := 32767) (dq jX11_afternoons 72 rfl) (by decide) ?_
      refine rz_iand G (dq jX11_afternoons 73 rfl) ?_
      refine rz_bipush G (v := 40) (dq jX11_afternoons 74 rfl) (by decide) ?_
      refine rz_iremN G (by decide) (dq jX11_afternoons 75 rfl) ?_
      refine rz_iast G sh58 (dq jX11_afternoons 76 rfl) ?_
      refine rz_iinc G 8 (v := x9 + 1) (lv' := [(9, .int (x9 + 1)), (4, .int w3), (0, .ref 56), (2, .int x2), (3, .int x3), (5, .int x5), (6, .int x6), (7, .int x7), (8, .int x8)]) rfl (congrArg (HAdd.hAdd _) (by decide)) (Nat.le_of_ble_eq_true rfl) rfl (dq jX11_afternoons 77 rfl) ?_
      refine rz_goto G (tgt := 89) rfl (dq jX11_afternoons 78 rfl) ?_
      exact rz_lv [2, 3, 4, 1, 5, 6, 7, 8, 0] rfl (ih x2 x3 w3 x5 x6 x7 x8 (x9 + 1))
theorem z_X11_afternoons_b230 {Γ : Cx} (G : GG Γ RX11 cX11_afternoons 10 (some .int) 6 0 0) (x3 : Int32) (x5 : Int32) (x6 : Int32) (x7 : Int32) : Rz Γ 10 (Qm Γ encI 0 0) 0 0 230 [(3, .int x3), (5, .int x5), (6, .int x6), (7, .int x7)] [] (f_X11_afternoons_b230 x3 x5 x6 x7) := by
  unfold f_X11_afternoons_b230
  refine rz_iload_n G 0 rfl rfl (dq jX11_afternoons 125 rfl) ?_
  refine rz_if_ne G (tgt := 239) rfl (dq jX11_afternoons 126 rfl) (fun c1 => ?_) (fun c1 => ?_)
  · refine rz_iload G 1 rfl (dq jX11_afternoons 127 rfl) ?_
    refine rz_goto G (tgt := 251) rfl (dq jX11_afternoons 128 rfl) ?_
    exact rz_iret G (dq jX11_afternoons 135 rfl)
  · refine rz_iload_n G 0 rfl rfl (dq jX11_afternoons 129 rfl) ?_
    refine rz_iconst G (v := 1) (dq jX11_afternoons 130 rfl) rfl ?_
    refine rz_icmp_ne G (tgt := 249) rfl (dq jX11_afternoons 131 rfl) (fun c2 => ?_) (fun c2 => ?_)
    · refine rz_iload G 2 rfl (dq jX11_afternoons 132 rfl) ?_
      refine rz_goto G (tgt := 251) rfl (dq jX11_afternoons 133 rfl) ?_
      exact rz_iret G (dq jX11_afternoons 135 rfl)
    · refine rz_iload G 3 rfl (dq jX11_afternoons 134 rfl) ?_
      exact rz_iret G (dq jX11_afternoons 135 rfl)
theorem z_X11_afternoons_b199 {Γ : Cx} (G : GG Γ RX11 cX11_afternoons 10 (some .int) 6 0 0) : ∀ (fu : Nat) (x3 : Int32) (x5 : Int32) (x6 : Int32) (x7 : Int32) (x8 : Int32), Rz Γ 10 (Qm Γ encI 0 0) 0 0 199 [(0, .ref 56), (3, .int x3), (5, .int x5), (6, .int x6), (7, .int x7), (8, .int x8)] [] (f_X11_afternoons_b199 fu x3 x5 x6 x7 x8) := by
  intro fu
  induction fu with
  | zero => intro _ _ _ _ _; exact rz_none
  | succ fu ih =>
    intro x3 x5 x6 x7 x8
    rw [f_X11_afternoons_b199]
    refine rz_iload G 5 rfl (dq jX11_afternoons 108 rfl) ?_
    refine rz_iconst G (v := 4) (dq jX11_afternoons 109 rfl) rfl ?_
    refine rz_icmp_ge G (tgt := 230) rfl (dq jX11_afternoons 110 rfl) (fun c1 => ?_) (fun c1 => ?_)
    · exact rz_lv [1, 2, 3, 4] rfl (z_X11_afternoons_b230 G x3 x5 x6 x7)
    · refine rz_aload_n G 0 rfl rfl (dq jX11_afternoons 111 rfl) ?_
      refine rz_getC G flX11_26 sh56 (t := 58) rfl rfl (dq jX11_afternoons 112 rfl) ?_
      refine rz_bipush G (v := 6) (dq jX11_afternoons 113 rfl) (by decide) ?_
      refine rz_iload G 5 rfl (dq jX11_afternoons 114 rfl) ?_
      refine rz_imul G (dq jX11_afternoons 115 rfl) ?_
      refine rz_iconst G (v := 3) (dq jX11_afternoons 116 rfl) rfl ?_
      refine rz_iadd G (dq jX11_afternoons 117 rfl) ?_
      refine rz_aload_n G 0 rfl rfl (dq jX11_afternoons 118 rfl) ?_
      refine rz_getC G flX11_120 sh56 (t := 86) rfl rfl (dq jX11_afternoons 119 rfl) ?_
      refine rz_iload G 5 rfl (dq jX11_afternoons 120 rfl) ?_
      refine rz_iald G sh86 (dq jX11_afternoons 121 rfl) (fun v2 => ?_)
      refine rz_iast G sh58 (dq jX11_afternoons 122 rfl) ?_
      refine rz_iinc G 5 (v := x8 + 1) (lv' := [(8, .int (x8 + 1)), (0, .ref 56), (3, .int x3), (5, .int x5), (6, .int x6), (7, .int x7)]) rfl (congrArg (HAdd.hAdd _) (by decide)) (Nat.le_of_ble_eq_true rfl) rfl (dq jX11_afternoons 123 rfl) ?_
      refine rz_goto G (tgt := 199) rfl (dq jX11_afternoons 124 rfl) ?_
      exact rz_lv [1, 2, 3, 4, 5, 0] rfl (ih x3 x5 x6 x7 (x8 + 1))
theorem z_X11_afternoons_b196 {Γ : Cx} (G : GG Γ RX11 cX11_afternoons 10 (some .int) 6 0 0) (x3 : Int32) (x5 : Int32) (x6 : Int32) (x7 : Int32) : Rz Γ 10 (Qm Γ encI 0 0) 0 0 196 [(0, .ref 56), (3, .int x3), (5, .int x5), (6, .int x6), (7, .int x7)] [] (f_X11_afternoons_b196 x3 x5 x6 x7) := by
  unfold f_X11_afternoons_b196
  refine rz_iconst G (v := 0) (dq jX11_afternoons 106 rfl) rfl ?_
  refine rz_istore G (lv' := [(8, .int 0), (0, .ref 56), (3, .int x3), (5, .int x5), (6, .int x6), (7, .int x7)]) (Nat.le_of_ble_eq_true rfl) rfl (dq jX11_afternoons 107 rfl) ?_
  exact rz_lv [1, 2, 3, 4, 5, 0] rfl (z_X11_afternoons_b199 G FU x3 x5 x6 x7 0)
theorem z_X11_afternoons_b80 {Γ : Cx} (G : GG Γ RX11 cX11_afternoons 10 (some .int) 6 0 0) : ∀ (fu : Nat) (x2 : Int32) (x3 : Int32) (x4 : Int32) (x5 : Int32) (x6 : Int32) (x7 : Int32) (x8 : Int32), Rz Γ 10 (Qm Γ encI 0 0) 0 0 80 [(0, .ref 56), (2, .int x2), (3, .int x3), (4, .int x4), (5, .int x5), (6, .int x6), (7, .int x7), (8, .int x8)] [] (f_X11_afternoons_b80 fu x2 x3 x4 x5 x6 x7 x8) := by
  intro fu
  induction fu with
  | zero => intro _ _ _ _ _ _ _; exact rz_none
  | succ fu ih =>
    intro x2 x3 x4 x5 x6 x7 x8
    rw [f_X11_afternoons_b80]
    refine rz_iload G 7 rfl (dq jX11_afternoons 47 rfl) ?_
    refine rz_iload_n G 1 rfl rfl (dq jX11_afternoons 48 rfl) ?_
    refine rz_icmp_ge G (tgt := 196) rfl (dq jX11_afternoons 49 rfl) (fun c1 => ?_) (fun c1 => ?_)
    · exact rz_lv [0, 2, 4, 5, 6] rfl (z_X11_afternoons_b196 G x3 x5 x6 x7)
    · refine rz_iconst G (v := 0) (dq jX11_afternoons 50 rfl) rfl ?_
      refine rz_istore G (lv' := [(9, .int 0), (0, .ref 56), (2, .int x2), (3, .int x3), (4, .int x4), (5, .int x5), (6, .int x6), (7, .int x7), (8, .int x8)]) (Nat.le_of_ble_eq_true rfl) rfl (dq jX11_afternoons 51 rfl) ?_
      exact rz_lv [1, 2, 3, 4, 5, 6, 7, 8, 0] rfl (z_X11_afternoons_b89 G (f_X11_afternoons_b80 fu) ih FU x2 x3 x4 x5 x6 x7 x8 0)
theorem z_X11_afternoons_b65 {Γ : Cx} (G : GG Γ RX11 cX11_afternoons 10 (some .int) 6 0 0) (x1 : Int32) (x2 : Int32) (x3 : Int32) : Rz Γ 10 (Qm Γ encI 0 0) 0 0 65 [(0, .ref 56), (1, .int x1), (2, .int x2), (3, .int x3)] [] (f_X11_afternoons_b65 x1 x2 x3) := by
  unfold f_X11_afternoons_b65
  refine rz_iload_n G 1 rfl rfl (dq jX11_afternoons 37 rfl) ?_
  refine rz_istore G (lv' := [(4, .int x1), (0, .ref 56), (1, .int x1), (2, .int x2), (3, .int x3)]) (Nat.le_of_ble_eq_true rfl) rfl (dq jX11_afternoons 38 rfl) ?_
  refine rz_iconst G (v := 0) (dq jX11_afternoons 39 rfl) rfl ?_
  refine rz_istore G (lv' := [(5, .int 0), (4, .int x1), (0, .ref 56), (1, .int x1), (2, .int x2), (3, .int x3)]) (Nat.le_of_ble_eq_true rfl) rfl (dq jX11_afternoons 40 rfl) ?_
  refine rz_iconst G (v := 0) (dq jX11_afternoons 41 rfl) rfl ?_
  refine rz_istore G (lv' := [(6, .int 0), (5, .int 0), (4, .int x1), (0, .ref 56), (1, .int x1), (2, .int x2), (3, .int x3)]) (Nat.le_of_ble_eq_true rfl) rfl (dq jX11_afternoons 42 rfl) ?_
  refine rz_iconst G (v := 0) (dq jX11_afternoons 43 rfl) rfl ?_
  refine rz_istore G (lv' := [(7, .int 0), (6, .int 0), (5, .int 0), (4, .int x1), (0, .ref 56), (1, .int x1), (2, .int x2), (3, .int x3)]) (Nat.le_of_ble_eq_true rfl) rfl (dq jX11_afternoons 44 rfl) ?_
  refine rz_iconst G (v := 0) (dq jX11_afternoons 45 rfl) rfl ?_
  refine rz_istore G (lv' := [(8, .int 0), (7, .int 0), (6, .int 0), (5, .int 0), (4, .int x1), (0, .ref 56), (1, .int x1), (2, .int x2), (3, .int x3)]) (Nat.le_of_ble_eq_true rfl) rfl (dq jX11_afternoons 46 rfl) ?_
  exact rz_lv [5, 7, 8, 4, 3, 2, 1, 0] rfl (z_X11_afternoons_b80 G FU x2 x3 x1 0 0 0 0)
theorem z_X11_afternoons_b34 {Γ : Cx} (G : GG Γ RX11 cX11_afternoons 10 (some .int) 6 0 0) : ∀ (fu : Nat) (x1 : Int32) (x2 : Int32) (x3 : Int32) (x4 : Int32), Rz Γ 10 (Qm Γ encI 0 0) 0 0 34 [(0, .ref 56), (1, .int x1), (2, .int x2), (3, .int x3), (4, .int x4)] [] (f_X11_afternoons_b34 fu x1 x2 x3 x4) := by
  intro fu
  induction fu with
  | zero => intro _ _ _ _; exact rz_none
  | succ fu ih =>
    intro x1 x2 x3 x4
    rw [f_X11_afternoons_b34]
    refine rz_iload G 4 rfl (dq jX11_afternoons 20 rfl) ?_
    refine rz_iconst G (v := 4) (dq jX11_afternoons 21 rfl) rfl ?_
    refine rz_icmp_ge G (tgt := 65) rfl (dq jX11_afternoons 22 rfl) (fun c1 => ?_) (fun c1 => ?_)
    · exact rz_lv [0, 1, 2, 3] rfl (z_X11_afternoons_b65 G x1 x2 x3)
    · refine rz_aload_n G 0 rfl rfl (dq jX11_afternoons 23 rfl) ?_
      refine rz_getC G flX11_120 sh56 (t := 86) rfl rfl (dq jX11_afternoons 24 rfl) ?_
      refine rz_iload G 4 rfl (dq jX11_afternoons 25 rfl) ?_
      refine rz_aload_n G 0 rfl rfl (dq jX11_afternoons 26 rfl) ?_
      refine rz_getC G flX11_26 sh56 (t := 58) rfl rfl (dq jX11_afternoons 27 rfl) ?_
      refine rz_bipush G (v := 6) (dq jX11_afternoons 28 rfl) (by decide) ?_
      refine rz_iload G 4 rfl (dq jX11_afternoons 29 rfl) ?_
      refine rz_imul G (dq jX11_afternoons 30 rfl) ?_
      refine rz_iconst G (v := 3) (dq jX11_afternoons 31 rfl) rfl ?_
      refine rz_iadd G (dq jX11_afternoons 32 rfl) ?_
      refine rz_iald G sh58 (dq jX11_afternoons 33 rfl) (fun v2 => ?_)
      refine rz_iast G sh86 (dq jX11_afternoons 34 rfl) ?_
      refine rz_iinc G 4 (v := x4 + 1) (lv' := [(4, .int (x4 + 1)), (0, .ref 56), (1, .int x1), (2, .int x2), (3, .int x3)]) rfl (congrArg (HAdd.hAdd _) (by decide)) (Nat.le_of_ble_eq_true rfl) rfl (dq jX11_afternoons 35 rfl) ?_
      refine rz_goto G (tgt := 34) rfl (dq jX11_afternoons 36 rfl) ?_
      exact rz_lv [1, 2, 3, 4, 0] rfl (ih x1 x2 x3 (x4 + 1))
theorem c_X11_afternoons (l : Launch) (x1 : Int32) (x2 : Int32) (x3 : Int32) : Ct l yX11_afternoons cX11_afternoons 10 (some .int) 6 encI [.ref 56, .int x1, .int x2, .int x3] (f_X11_afternoons x1 x2 x3) := by
  refine ct_of (own := RX11) (by decide) rfl (Nat.le_of_ble_eq_true rfl) (fun Γ hl G => ?_)
  show Rz Γ 10 (Qm Γ encI 0 0) 0 0 0 [(0, .ref 56), (1, .int x1), (2, .int x2), (3, .int x3)] [] _
  unfold f_X11_afternoons
  refine rz_aload_n G 0 rfl rfl (dq jX11_afternoons 0 rfl) ?_
  refine rz_iconst G (v := 0) (dq jX11_afternoons 1 rfl) rfl ?_
  refine rz_putI G flX11_148 sh56 rfl (dq jX11_afternoons 2 rfl) ?_
  refine rz_aload_n G 0 rfl rfl (dq jX11_afternoons 3 rfl) ?_
  refine rz_iload_n G 3 rfl rfl (dq jX11_afternoons 4 rfl) ?_
  refine rz_iconst G (v := 2) (dq jX11_afternoons 5 rfl) rfl ?_
  refine rz_callVi G (st := []) (c_X11_isWhat (cLn Γ) x3 2) lkX11_353 sh56 rfl rfl rfl (Nat.le_of_ble_eq_true rfl) (Nat.le_of_ble_eq_true rfl) (dq jX11_afternoons 6 rfl) rfl (fun r1 => ?_)
  refine rz_if_eq G (tgt := 29) rfl (dq jX11_afternoons 7 rfl) (fun c2 => ?_) (fun c2 => ?_)
  · refine rz_iconst G (v := 0) (dq jX11_afternoons 16 rfl) rfl ?_
    exact rz_iret G (dq jX11_afternoons 17 rfl)
  · refine rz_aload_n G 0 rfl rfl (dq jX11_afternoons 8 rfl) ?_
    refine rz_iload_n G 2 rfl rfl (dq jX11_afternoons 9 rfl) ?_
    refine rz_iconst G (v := 0) (dq jX11_afternoons 10 rfl) rfl ?_
    refine rz_bipush G (v := 40) (dq jX11_afternoons 11 rfl) (by decide) ?_
    refine rz_callSi G (st := [.ref 56]) (c_X11_within (cLn Γ) x2 0 40) lkX11_346 rfl (Nat.le_of_ble_eq_true rfl) (Nat.le_of_ble_eq_true rfl) (dq jX11_afternoons 12 rfl) rfl (fun r3 => ?_)
    refine rz_iconst G (v := 2) (dq jX11_afternoons 13 rfl) rfl ?_
    refine rz_callVi G (st := []) (c_X11_right (cLn Γ) r3 2) lkX11_313 sh56 rfl rfl rfl (Nat.le_of_ble_eq_true rfl) (Nat.le_of_ble_eq_true rfl) (dq jX11_afternoons 14 rfl) rfl (fun r4 => ?_)
    refine rz_if_ne G (tgt := 31) rfl (dq jX11_afternoons 15 rfl) (fun c5 => ?_) (fun c5 => ?_)
    · refine rz_iconst G (v := 0) (dq jX11_afternoons 16 rfl) rfl ?_
      exact rz_iret G (dq jX11_afternoons 17 rfl)
    · refine rz_iconst G (v := 0) (dq jX11_afternoons 18 rfl) rfl ?_
      refine rz_istore G (lv' := [(4, .int 0), (0, .ref 56), (1, .int x1), (2, .int x2), (3, .int x3)]) (Nat.le_of_ble_eq_true rfl) rfl (dq jX11_afternoons 19 rfl) ?_
      exact rz_lv [1, 2, 3, 4, 0] rfl (z_X11_afternoons_b34 G FU x1 x2 x3 0)
theorem z_X11_copies_58_92_b2 {Γ : Cx} (G : GG Γ RX11 cX11_copies 4 none 1 0 0) : ∀ (fu : Nat) (x3 : Int32), Rz Γ 4 (Qm Γ encV 0 0) 0 0 2 [(1, .ref 58), (2, .ref 92), (3, .int x3)] [] (f_X11_copies_58_92_b2 fu x3) := by
  intro fu
  induction fu with
  | zero => intro _; exact rz_none
  | succ fu ih =>
    intro x3
    rw [f_X11_copies_58_92_b2]
    refine rz_iload_n G 2 rfl rfl (dq jX11_copies 2 rfl) ?_
    refine rz_aload_n G 0 rfl rfl (dq jX11_copies 3 rfl) ?_
    refine rz_alen G (v := 24) sh58 (by decide) (by decide) (dq jX11_copies 4 rfl) ?_
    refine rz_icmp_ge G (tgt := 20) rfl (dq jX11_copies 5 rfl) (fun c1 => ?_) (fun c1 => ?_)
    · exact rz_vret G (dq jX11_copies 14 rfl)
    · refine rz_aload_n G 1 rfl rfl (dq jX11_copies 6 rfl) ?_
      refine rz_iload_n G 2 rfl rfl (dq jX11_copies 7 rfl) ?_
      refine rz_aload_n G 0 rfl rfl (dq jX11_copies 8 rfl) ?_
      refine rz_iload_n G 2 rfl rfl (dq jX11_copies 9 rfl) ?_
      refine rz_iald G sh58 (dq jX11_copies 10 rfl) (fun v2 => ?_)
      refine rz_iast G sh92 (dq jX11_copies 11 rfl) ?_
      refine rz_iinc G 2 (v := x3 + 1) (lv' := [(3, .int (x3 + 1)), (1, .ref 58), (2, .ref 92)]) rfl (congrArg (HAdd.hAdd _) (by decide)) (Nat.le_of_ble_eq_true rfl) rfl (dq jX11_copies 12 rfl) ?_
      refine rz_goto G (tgt := 2) rfl (dq jX11_copies 13 rfl) ?_
      exact rz_lv [1, 2, 0] rfl (ih (x3 + 1))
theorem c_X11_copies_58_92 (l : Launch)  : Ct l yX11_copies cX11_copies 4 none 1 encV [.ref 56, .ref 58, .ref 92] (f_X11_copies_58_92 ) := by
  refine ct_of (own := RX11) (by decide) rfl (Nat.le_of_ble_eq_true rfl) (fun Γ hl G => ?_)
  show Rz Γ 4 (Qm Γ encV 0 0) 0 0 0 [(0, .ref 56), (1, .ref 58), (2, .ref 92)] [] _
  unfold f_X11_copies_58_92
  refine rz_iconst G (v := 0) (dq jX11_copies 0 rfl) rfl ?_
  refine rz_istore_n G (lv' := [(3, .int 0), (0, .ref 56), (1, .ref 58), (2, .ref 92)]) rfl (Nat.le_of_ble_eq_true rfl) rfl (dq jX11_copies 1 rfl) ?_
  exact rz_lv [2, 3, 0] rfl (z_X11_copies_58_92_b2 G FU 0)
theorem z_X11_copies_71_93_b2 {Γ : Cx} (G : GG Γ RX11 cX11_copies 4 none 1 0 0) : ∀ (fu : Nat) (x3 : Int32), Rz Γ 4 (Qm Γ encV 0 0) 0 0 2 [(1, .ref 71), (2, .ref 93), (3, .int x3)] [] (f_X11_copies_71_93_b2 fu x3) := by
  intro fu
  induction fu with
  | zero => intro _; exact rz_none
  | succ fu ih =>
    intro x3
    rw [f_X11_copies_71_93_b2]
    refine rz_iload_n G 2 rfl rfl (dq jX11_copies 2 rfl) ?_
    refine rz_aload_n G 0 rfl rfl (dq jX11_copies 3 rfl) ?_
    refine rz_alen G (v := 80) sh71 (by decide) (by decide) (dq jX11_copies 4 rfl) ?_
    refine rz_icmp_ge G (tgt := 20) rfl (dq jX11_copies 5 rfl) (fun c1 => ?_) (fun c1 => ?_)
    · exact rz_vret G (dq jX11_copies 14 rfl)
    · refine rz_aload_n G 1 rfl rfl (dq jX11_copies 6 rfl) ?_
      refine rz_iload_n G 2 rfl rfl (dq jX11_copies 7 rfl) ?_
      refine rz_aload_n G 0 rfl rfl (dq jX11_copies 8 rfl) ?_
      refine rz_iload_n G 2 rfl rfl (dq jX11_copies 9 rfl) ?_
      refine rz_iald G sh71 (dq jX11_copies 10 rfl) (fun v2 => ?_)
      refine rz_iast G sh93 (dq jX11_copies 11 rfl) ?_
      refine rz_iinc G 2 (v := x3 + 1) (lv' := [(3, .int (x3 + 1)), (1, .ref 71), (2, .ref 93)]) rfl (congrArg (HAdd.hAdd _) (by decide)) (Nat.le_of_ble_eq_true rfl) rfl (dq jX11_copies 12 rfl) ?_
      refine rz_goto G (tgt := 2) rfl (dq jX11_copies 13 rfl) ?_
      exact rz_lv [1, 2, 0] rfl (ih (x3 + 1))
theorem c_X11_copies_71_93 (l : Launch)  : Ct l yX11_copies cX11_copies 4 none 1 encV [.ref 56, .ref 71, .ref 93] (f_X11_copies_71_93 ) := by
  refine ct_of (own := RX11) (by decide) rfl (Nat.le_of_ble_eq_true rfl) (fun Γ hl G => ?_)
  show Rz Γ 4 (Qm Γ encV 0 0) 0 0 0 [(0, .ref 56), (1, .ref 71), (2, .ref 93)] [] _
  unfold f_X11_copies_71_93
  refine rz_iconst G (v := 0) (dq jX11_copies 0 rfl) rfl ?_
  refine rz_istore_n G (lv' := [(3, .int 0), (0, .ref 56), (1, .ref 71), (2, .ref 93)]) rfl (Nat.le_of_ble_eq_true rfl) rfl (dq jX11_copies 1 rfl) ?_
  exact rz_lv [2, 3, 0] rfl (z_X11_copies_71_93_b2 G FU 0)
theorem z_X11_copies_90_94_b2 {Γ : Cx} (G : GG Γ RX11 cX11_copies 4 none 1 0 0) : ∀ (fu : Nat) (x3 : Int32), Rz Γ 4 (Qm Γ encV 0 0) 0 0 2 [(1, .ref 90), (2, .ref 94), (3, .int x3)] [] (f_X11_copies_90_94_b2 fu x3) := by
  intro fu
  induction fu with
  | zero => intro _; exact rz_none
  | succ fu ih =>
    intro x3
    rw [f_X11_copies_90_94_b2]
    refine rz_iload_n G 2 rfl rfl (dq jX11_copies 2 rfl) ?_
    refine rz_aload_n G 0 rfl rfl (dq jX11_copies 3 rfl) ?_
    refine rz_alen G (v := 20) sh90 (by decide) (by decide) (dq jX11_copies 4 rfl) ?_
    refine rz_icmp_ge G (tgt := 20) rfl (dq jX11_copies 5 rfl) (fun c1 => ?_) (fun c1 => ?_)
    · exact rz_vret G (dq jX11_copies 14 rfl)
    · refine rz_aload_n G 1 rfl rfl (dq jX11_copies 6 rfl) ?_
      refine rz_iload_n G 2 rfl rfl (dq jX11_copies 7 rfl) ?_
      refine rz_aload_n G 0 rfl rfl (dq jX11_copies 8 rfl) ?_
      refine rz_iload_n G 2 rfl rfl (dq jX11_copies 9 rfl) ?_
      refine rz_iald G sh90 (dq jX11_copies 10 rfl) (fun v2 => ?_)
      refine rz_iast G sh94 (dq jX11_copies 11 rfl) ?_
      refine rz_iinc G 2 (v := x3 + 1) (lv' := [(3, .int (x3 + 1)), (1, .ref 90), (2, .ref 94)]) rfl (congrArg (HAdd.hAdd _) (by decide)) (Nat.le_of_ble_eq_true rfl) rfl (dq jX11_copies 12 rfl) ?_
      refine rz_goto G (tgt := 2) rfl (dq jX11_copies 13 rfl) ?_
      exact rz_lv [1, 2, 0] rfl (ih (x3 + 1))
theorem c_X11_copies_90_94 (l : Launch)  : Ct l yX11_copies cX11_copies 4 none 1 encV [.ref 56, .ref 90, .ref 94] (f_X11_copies_90_94 ) := by
  refine ct_of (own := RX11) (by decide) rfl (Nat.le_of_ble_eq_true rfl) (fun Γ hl G => ?_)
  show Rz Γ 4 (Qm Γ encV 0 0) 0 0 0 [(0, .ref 56), (1, .ref 90), (2, .ref 94)] [] _
  unfold f_X11_copies_90_94
  refine rz_iconst G (v := 0) (dq jX11_copies 0 rfl) rfl ?_
  refine rz_istore_n G (lv' := [(3, .int 0), (0, .ref 56), (1, .ref 90), (2, .ref 94)]) rfl (Nat.le_of_ble_eq_true rfl) rfl (dq jX11_copies 1 rfl) ?_
  exact rz_lv [2, 3, 0] rfl (z_X11_copies_90_94_b2 G FU 0)
theorem c_X11_image (l : Launch)  : Ct l yX11_image cX11_image 1 none 2 encV [.ref 56] (f_X11_image ) := by
  refine ct_of (own := RX11) (by decide) rfl (Nat.le_of_ble_eq_true rfl) (fun Γ hl G => ?_)
  show Rz Γ 1 (Qm Γ encV 0 0) 0 0 0 [(0, .ref 56)] [] _
  unfold f_X11_image
  refine rz_aload_n G 0 rfl rfl (dq jX11_image 0 rfl) ?_
  refine rz_iconst G (v := 0) (dq jX11_image 1 rfl) rfl ?_
  refine rz_putI G flX11_148 sh56 rfl (dq jX11_image 2 rfl) ?_
  refine rz_aload_n G 0 rfl rfl (dq jX11_image 3 rfl) ?_
  refine rz_iconst G (v := 1) (dq jX11_image 4 rfl) rfl ?_
  refine rz_putZ G (by decide) flX11_342 sh56 rfl (dq jX11_image 5 rfl) ?_
  refine rz_aload_n G 0 rfl rfl (dq jX11_image 6 rfl) ?_
  refine rz_aload_n G 0 rfl rfl (dq jX11_image 7 rfl) ?_
  refine rz_getI G flX11_69 sh56 rfl (dq jX11_image 8 rfl) (fun v1 => ?_)
  refine rz_putI G flX11_494 sh56 rfl (dq jX11_image 9 rfl) ?_
  refine rz_aload_n G 0 rfl rfl (dq jX11_image 10 rfl) ?_
  refine rz_aload_n G 0 rfl rfl (dq jX11_image 11 rfl) ?_
  refine rz_getI G flX11_72 sh56 rfl (dq jX11_image 12 rfl) (fun v2 => ?_)
  refine rz_putI G flX11_497 sh56 rfl (dq jX11_image 13 rfl) ?_
  refine rz_aload_n G 0 rfl rfl (dq jX11_image 14 rfl) ?_
  refine rz_aload_n G 0 rfl rfl (dq jX11_image 15 rfl) ?_
  refine rz_getI G flX11_336 sh56 rfl (dq jX11_image 16 rfl) (fun v3 => ?_)
  refine rz_putI G flX11_500 sh56 rfl (dq jX11_image 17 rfl) ?_
  refine rz_aload_n G 0 rfl rfl (dq jX11_image 18 rfl) ?_
  refine rz_aload_n G 0 rfl rfl (dq jX11_image 19 rfl) ?_
  refine rz_getI G flX11_339 sh56 rfl (dq jX11_image 20 rfl) (fun v4 => ?_)
  refine rz_putI G flX11_503 sh56 rfl (dq jX11_image 21 rfl) ?_
  refine rz_aload_n G 0 rfl rfl (dq jX11_image 22 rfl) ?_
  refine rz_aload_n G 0 rfl rfl (dq jX11_image 23 rfl) ?_
  refine rz_getC G flX11_26 sh56 (t := 58) rfl rfl (dq jX11_image 24 rfl) ?_
  refine rz_aload_n G 0 rfl rfl (dq jX11_image 25 rfl) ?_
  refine rz_getC G flX11_139 sh56 (t := 92) rfl rfl (dq jX11_image 26 rfl) ?_
  refine rz_callVv G (st := []) (c_X11_copies_58_92 (cLn Γ)) lkX11_332 sh56 rfl rfl rfl (Nat.le_of_ble_eq_true rfl) (Nat.le_of_ble_eq_true rfl) (dq jX11_image 27 rfl) rfl (fun _ => ?_)
  refine rz_aload_n G 0 rfl rfl (dq jX11_image 28 rfl) ?_
  refine rz_aload_n G 0 rfl rfl (dq jX11_image 29 rfl) ?_
  refine rz_getC G flX11_75 sh56 (t := 71) rfl rfl (dq jX11_image 30 rfl) ?_
  refine rz_aload_n G 0 rfl rfl (dq jX11_image 31 rfl) ?_
  refine rz_getC G flX11_142 sh56 (t := 93) rfl rfl (dq jX11_image 32 rfl) ?_
  refine rz_callVv G (st := []) (c_X11_copies_71_93 (cLn Γ)) lkX11_332 sh56 rfl rfl rfl (Nat.le_of_ble_eq_true rfl) (Nat.le_of_ble_eq_true rfl) (dq jX11_image 33 rfl) rfl (fun _ => ?_)
  refine rz_aload_n G 0 rfl rfl (dq jX11_image 34 rfl) ?_
  refine rz_aload_n G 0 rfl rfl (dq jX11_image 35 rfl) ?_
  refine rz_getC G flX11_133 sh56 (t := 90) rfl rfl (dq jX11_image 36 rfl) ?_
  refine rz_aload_n G 0 rfl rfl (dq jX11_image 37 rfl) ?_
  refine rz_getC G flX11_145 sh56 (t := 94) rfl rfl (dq jX11_image 38 rfl) ?_
  refine rz_callVv G (st := []) (c_X11_copies_90_94 (cLn Γ)) lkX11_332 sh56 rfl rfl rfl (Nat.le_of_ble_eq_true rfl) (Nat.le_of_ble_eq_true rfl) (dq jX11_image 39 rfl) rfl (fun _ => ?_)
  exact rz_vret G (dq jX11_image 40 rfl)
theorem z_X11_copies_92_58_b2 {Γ : Cx} (G : GG Γ RX11 cX11_copies 4 none 1 0 0) : ∀ (fu : Nat) (x3 : Int32), Rz Γ 4 (Qm Γ encV 0 0) 0 0 2 [(1, .ref 92), (2, .ref 58), (3, .int x3)] [] (f_X11_copies_92_58_b2 fu x3) := by
  intro fu
  induction fu with
  | zero => intro _; exact rz_none
  | succ fu ih =>
    intro x3
    rw [f_X11_copies_92_58_b2]
    refine rz_iload_n G 2 rfl rfl (dq jX11_copies 2 rfl) ?_
    refine rz_aload_n G 0 rfl rfl (dq jX11_copies 3 rfl) ?_
    refine rz_alen G (v := 24) sh92 (by decide) (by decide) (dq jX11_copies 4 rfl) ?_
    refine rz_icmp_ge G (tgt := 20) rfl (dq jX11_copies 5 rfl) (fun c1 => ?_) (fun c1 => ?_)
    · exact rz_vret G (dq jX11_copies 14 rfl)
    · refine rz_aload_n G 1 rfl rfl (dq jX11_copies 6 rfl) ?_
      refine rz_iload_n G 2 rfl rfl (dq jX11_copies 7 rfl) ?_
      refine rz_aload_n G 0 rfl rfl (dq jX11_copies 8 rfl) ?_
      refine rz_iload_n G 2 rfl rfl (dq jX11_copies 9 rfl) ?_
      refine rz_iald G sh92 (dq jX11_copies 10 rfl) (fun v2 => ?_)
      refine rz_iast G sh58 (dq jX11_copies 11 rfl) ?_
      refine rz_iinc G 2 (v := x3 + 1) (lv' := [(3, .int (x3 + 1)), (1, .ref 92), (2, .ref 58)]) rfl (congrArg (HAdd.hAdd _) (by decide)) (Nat.le_of_ble_eq_true rfl) rfl (dq jX11_copies 12 rfl) ?_
      refine rz_goto G (tgt := 2) rfl (dq jX11_copies 13 rfl) ?_
      exact rz_lv [1, 2, 0] rfl (ih (x3 + 1))
theorem c_X11_copies_92_58 (l : Launch)  : Ct l yX11_copies cX11_copies 4 none 1 encV [.ref 56, .ref 92, .ref 58] (f_X11_copies_92_58 ) := by
  refine ct_of (own := RX11) (by decide) rfl (Nat.le_of_ble_eq_true rfl) (fun Γ hl G => ?_)
  show Rz Γ 4 (Qm Γ encV 0 0) 0 0 0 [(0, .ref 56), (1, .ref 92), (2, .ref 58)] [] _
  unfold f_X11_copies_92_58
  refine rz_iconst G (v := 0) (dq jX11_copies 0 rfl) rfl ?_
  refine rz_istore_n G (lv' := [(3, .int 0), (0, .ref 56), (1, .ref 92), (2, .ref 58)]) rfl (Nat.le_of_ble_eq_true rfl) rfl (dq jX11_copies 1 rfl) ?_
  exact rz_lv [2, 3, 0] rfl (z_X11_copies_92_58_b2 G FU 0)
theorem z_X11_copies_93_71_b2 {Γ : Cx} (G : GG Γ RX11 cX11_copies 4 none 1 0 0) : ∀ (fu : Nat) (x3 : Int32), Rz Γ 4 (Qm Γ encV 0 0) 0 0 2 [(1, .ref 93), (2, .ref 71), (3, .int x3)] [] (f_X11_copies_93_71_b2 fu x3) := by
  intro fu
  induction fu with
  | zero => intro _; exact rz_none
  | succ fu ih =>
    intro x3
    rw [f_X11_copies_93_71_b2]
    refine rz_iload_n G 2 rfl rfl (dq jX11_copies 2 rfl) ?_
    refine rz_aload_n G 0 rfl rfl (dq jX11_copies 3 rfl) ?_
    refine rz_alen G (v := 80) sh93 (by decide) (by decide) (dq jX11_copies 4 rfl) ?_
    refine rz_icmp_ge G (tgt := 20) rfl (dq jX11_copies 5 rfl) (fun c1 => ?_) (fun c1 => ?_)
    · exact rz_vret G (dq jX11_copies 14 rfl)
    · refine rz_aload_n G 1 rfl rfl (dq jX11_copies 6 rfl) ?_
      refine rz_iload_n G 2 rfl rfl (dq jX11_copies 7 rfl) ?_
      refine rz_aload_n G 0 rfl rfl (dq jX11_copies 8 rfl) ?_
      refine rz_iload_n G 2 rfl rfl (dq jX11_copies 9 rfl) ?_
      refine rz_iald G sh93 (dq jX11_copies 10 rfl) (fun v2 => ?_)
      refine rz_iast G sh71 (dq jX11_copies 11 rfl) ?_
      refine rz_iinc G 2 (v := x3 + 1) (lv' := [(3, .int (x3 + 1)), (1, .ref 93), (2, .ref 71)]) rfl (congrArg (HAdd.hAdd _) (by decide)) (Nat.le_of_ble_eq_true rfl) rfl (dq jX11_copies 12 rfl) ?_
      refine rz_goto G (tgt := 2) rfl (dq jX11_copies 13 rfl) ?_
      exact rz_lv [1, 2, 0] rfl (ih (x3 + 1))
theorem c_X11_copies_93_71 (l : Launch)  : Ct l yX11_copies cX11_copies 4 none 1 encV [.ref 56, .ref 93, .ref 71] (f_X11_copies_93_71 ) := by
  refine ct_of (own := RX11) (by decide) rfl (Nat.le_of_ble_eq_true rfl) (fun Γ hl G => ?_)
  show Rz Γ 4 (Qm Γ encV 0 0) 0 0 0 [(0, .ref 56), (1, .ref 93), (2, .ref 71)] [] _
  unfold f_X11_copies_93_71
  refine rz_iconst G (v := 0) (dq jX11_copies 0 rfl) rfl ?_
  refine rz_istore_n G (lv' := [(3, .int 0), (0, .ref 56), (1, .ref 93), (2, .ref 71)]) rfl (Nat.le_of_ble_eq_true rfl) rfl (dq jX11_copies 1 rfl) ?_
  exact rz_lv [2, 3, 0] rfl (z_X11_copies_93_71_b2 G FU 0)
theorem z_X11_copies_94_90_b2 {Γ : Cx} (G : GG Γ RX11 cX11_copies 4 none 1 0 0) : ∀ (fu : Nat) (x3 : Int32), Rz Γ 4 (Qm Γ encV 0 0) 0 0 2 [(1, .ref 94), (2, .ref 90), (3, .int x3)] [] (f_X11_copies_94_90_b2 fu x3) := by
  intro fu
  induction fu with
  | zero => intro _; exact rz_none
  | succ fu ih =>
    intro x3
    rw [f_X11_copies_94_90_b2]
    refine rz_iload_n G 2 rfl rfl (dq jX11_copies 2 rfl) ?_
    refine rz_aload_n G 0 rfl rfl (dq jX11_copies 3 rfl) ?_
    refine rz_alen G (v := 20) sh94 (by decide) (by decide) (dq jX11_copies 4 rfl) ?_
    refine rz_icmp_ge G (tgt := 20) rfl (dq jX11_copies 5 rfl) (fun c1 => ?_) (fun c1 => ?_)
    · exact rz_vret G (dq jX11_copies 14 rfl)
    · refine rz_aload_n G 1 rfl rfl (dq jX11_copies 6 rfl) ?_
      refine rz_iload_n G 2 rfl rfl (dq jX11_copies 7 rfl) ?_
      refine rz_aload_n G 0 rfl rfl (dq jX11_copies 8 rfl) ?_
      refine rz_iload_n G 2 rfl rfl (dq jX11_copies 9 rfl) ?_
      refine rz_iald G sh94 (dq jX11_copies 10 rfl) (fun v2 => ?_)
      refine rz_iast G sh90 (dq jX11_copies 11 rfl) ?_
      refine rz_iinc G 2 (v := x3 + 1) (lv' := [(3, .int (x3 + 1)), (1, .ref 94), (2, .ref 90)]) rfl (congrArg (HAdd.hAdd _) (by decide)) (Nat.le_of_ble_eq_true rfl) rfl (dq jX11_copies 12 rfl) ?_
      refine rz_goto G (tgt := 2) rfl (dq jX11_copies 13 rfl) ?_
      exact rz_lv [1, 2, 0] rfl (ih (x3 + 1))
theorem c_X11_copies_94_90 (l : Launch)  : Ct l yX11_copies cX11_copies 4 none 1 encV [.ref 56, .ref 94, .ref 90] (f_X11_copies_94_90 ) := by
  refine ct_of (own := RX11) (by decide) rfl (Nat.le_of_ble_eq_true rfl) (fun Γ hl G => ?_)
  show Rz Γ 4 (Qm Γ encV 0 0) 0 0 0 [(0, .ref 56), (1, .ref 94), (2, .ref 90)] [] _
  unfold f_X11_copies_94_90
  refine rz_iconst G (v := 0) (dq jX11_copies 0 rfl) rfl ?_
  refine rz_istore_n G (lv' := [(3, .int 0), (0, .ref 56), (1, .ref 94), (2, .ref 90)]) rfl (Nat.le_of_ble_eq_true rfl) rfl (dq jX11_copies 1 rfl) ?_
  exact rz_lv [2, 3, 0] rfl (z_X11_copies_94_90_b2 G FU 0)
theorem c_X11_restore (l : Launch)  : Ct l yX11_restore cX11_restore 1 (some .boolean) 2 encI [.ref 56] (f_X11_restore ) := by
  refine ct_of (own := RX11) (by decide) rfl (Nat.le_of_ble_eq_true rfl) (fun Γ hl G => ?_)
  show Rz Γ 1 (Qm Γ encI 0 0) 0 0 0 [(0, .ref 56)] [] _
  unfold f_X11_restore
  refine rz_aload_n G 0 rfl rfl (dq jX11_restore 0 rfl) ?_
  refine rz_iconst G (v := 0) (dq jX11_restore 1 rfl) rfl ?_
  refine rz_putI G flX11_148 sh56 rfl (dq jX11_restore 2 rfl) ?_
  refine rz_aload_n G 0 rfl rfl (dq jX11_restore 3 rfl) ?_
  refine rz_getI G flX11_342 sh56 rfl (dq jX11_restore 4 rfl) (fun v1 => ?_)
  refine rz_if_ne G (tgt := 14) rfl (dq jX11_restore 5 rfl) (fun c2 => ?_) (fun c2 => ?_)
  · refine rz_iconst G (v := 0) (dq jX11_restore 6 rfl) rfl ?_
    exact rz_zret0 G (by decide) (dq jX11_restore 7 rfl)
  · refine rz_aload_n G 0 rfl rfl (dq jX11_restore 8 rfl) ?_
    refine rz_aload_n G 0 rfl rfl (dq jX11_restore 9 rfl) ?_
    refine rz_getI G flX11_494 sh56 rfl (dq jX11_restore 10 rfl) (fun v3 => ?_)
    refine rz_putI G flX11_69 sh56 rfl (dq jX11_restore 11 rfl) ?_
    refine rz_aload_n G 0 rfl rfl (dq jX11_restore 12 rfl) ?_
    refine rz_aload_n G 0 rfl rfl (dq jX11_restore 13 rfl) ?_
    refine rz_getI G flX11_497 sh56 rfl (dq jX11_restore 14 rfl) (fun v4 => ?_)
    refine rz_putI G flX11_72 sh56 rfl (dq jX11_restore 15 rfl) ?_
    refine rz_aload_n G 0 rfl rfl (dq jX11_restore 16 rfl) ?_
    refine rz_aload_n G 0 rfl rfl (dq jX11_restore 17 rfl) ?_
    refine rz_getI G flX11_500 sh56 rfl (dq jX11_restore 18 rfl) (fun v5 => ?_)
    refine rz_putI G flX11_336 sh56 rfl (dq jX11_restore 19 rfl) ?_
    refine rz_aload_n G 0 rfl rfl (dq jX11_restore 20 rfl) ?_
    refine rz_aload_n G 0 rfl rfl (dq jX11_restore 21 rfl) ?_
    refine rz_getI G flX11_503 sh56 rfl (dq jX11_restore 22 rfl) (fun v6 => ?_)
    refine rz_putI G flX11_339 sh56 rfl (dq jX11_restore 23 rfl) ?_
    refine rz_aload_n G 0 rfl rfl (dq jX11_restore 24 rfl) ?_
    refine rz_aload_n G 0 rfl rfl (dq jX11_restore 25 rfl) ?_
    refine rz_getC G flX11_139 sh56 (t := 92) rfl rfl (dq jX11_restore 26 rfl) ?_
    refine rz_aload_n G 0 rfl rfl (dq jX11_restore 27 rfl) ?_
    refine rz_getC G flX11_26 sh56 (t := 58) rfl rfl (dq jX11_restore 28 rfl) ?_
    refine rz_callVv G (st := []) (c_X11_copies_92_58 (cLn Γ)) lkX11_332 sh56 rfl rfl rfl (Nat.le_of_ble_eq_true rfl) (Nat.le_of_ble_eq_true rfl) (dq jX11_restore 29 rfl) rfl (fun _ => ?_)
    refine rz_aload_n G 0 rfl rfl (dq jX11_restore 30 rfl) ?_
    refine rz_aload_n G 0 rfl rfl (dq jX11_restore 31 rfl) ?_
    refine rz_getC G flX11_142 sh56 (t := 93) rfl rfl (dq jX11_restore 32 rfl) ?_
    refine rz_aload_n G 0 rfl rfl (dq jX11_restore 33 rfl) ?_
    refine rz_getC G flX11_75 sh56 (t := 71) rfl rfl (dq jX11_restore 34 rfl) ?_
    refine rz_callVv G (st := []) (c_X11_copies_93_71 (cLn Γ)) lkX11_332 sh56 rfl rfl rfl (Nat.le_of_ble_eq_true rfl) (Nat.le_of_ble_eq_true rfl) (dq jX11_restore 35 rfl) rfl (fun _ => ?_)
    refine rz_aload_n G 0 rfl rfl (dq jX11_restore 36 rfl) ?_
    refine rz_aload_n G 0 rfl rfl (dq jX11_restore 37 rfl) ?_
    refine rz_getC G flX11_145 sh56 (t := 94) rfl rfl (dq jX11_restore 38 rfl) ?_
    refine rz_aload_n G 0 rfl rfl (dq jX11_restore 39 rfl) ?_
    refine rz_getC G flX11_133 sh56 (t := 90) rfl rfl (dq jX11_restore 40 rfl) ?_
    refine rz_callVv G (st := []) (c_X11_copies_94_90 (cLn Γ)) lkX11_332 sh56 rfl rfl rfl (Nat.le_of_ble_eq_true rfl) (Nat.le_of_ble_eq_true rfl) (dq jX11_restore 41 rfl) rfl (fun _ => ?_)
    refine rz_iconst G (v := 1) (dq jX11_restore 42 rfl) rfl ?_
    exact rz_zret0 G (by decide) (dq jX11_restore 43 rfl)
theorem c_J6_compare_7cf53 (l : Launch) (x0 : Int32) (x1 : Int32) : Ct l yJ6_compare_7cf53 cJ6_compare_7cf53 2 (some .int) 1 encI [.int x0, .int x1] (f_J6_compare_7cf53 x0 x1) := by
  refine ct_of (own := RJ6) (by decide) rfl (Nat.le_of_ble_eq_true rfl) (fun Γ hl G => ?_)
  show Rz Γ 2 (Qm Γ encI 0 0) 0 0 0 [(0, .int x0), (1, .int x1)] [] _
  unfold f_J6_compare_7cf53
  refine rz_iload_n G 0 rfl rfl (dq jJ6_compare_7cf53 0 rfl) ?_
  refine rz_iload_n G 1 rfl rfl (dq jJ6_compare_7cf53 1 rfl) ?_
  refine rz_icmp_ge G (tgt := 9) rfl (dq jJ6_compare_7cf53 2 rfl) (fun c1 => ?_) (fun c1 => ?_)
  · refine rz_iload_n G 0 rfl rfl (dq jJ6_compare_7cf53 5 rfl) ?_
    refine rz_iload_n G 1 rfl rfl (dq jJ6_compare_7cf53 6 rfl) ?_
    refine rz_icmp_ne G (tgt := 18) rfl (dq jJ6_compare_7cf53 7 rfl) (fun c2 => ?_) (fun c2 => ?_)
    · refine rz_iconst G (v := 0) (dq jJ6_compare_7cf53 8 rfl) rfl ?_
      refine rz_goto G (tgt := 19) rfl (dq jJ6_compare_7cf53 9 rfl) ?_
      exact rz_iret G (dq jJ6_compare_7cf53 11 rfl)
    · refine rz_iconst G (v := 1) (dq jJ6_compare_7cf53 10 rfl) rfl ?_
      exact rz_iret G (dq jJ6_compare_7cf53 11 rfl)
  · refine rz_iconst G (v := (-1)) (dq jJ6_compare_7cf53 3 rfl) rfl ?_
    refine rz_goto G (tgt := 19) rfl (dq jJ6_compare_7cf53 4 rfl) ?_
    exact rz_iret G (dq jJ6_compare_7cf53 11 rfl)
theorem c_X8_tellRule (l : Launch)  : Ct l yX8_tellRule cX8_tellRule 1 (some .boolean) 129 encI [.ref 14] (f_X8_tellRule ) := by
  refine ct_of (own := RX8) (by decide) rfl (Nat.le_of_ble_eq_true rfl) (fun Γ hl G => ?_)
  show Rz Γ 1 (Qm Γ encI 0 0) 0 0 0 [(0, .ref 14)] [] _
  unfold f_X8_tellRule
  refine rz_aload_n G 0 rfl rfl (dq jX8_tellRule 0 rfl) ?_
  refine rz_getR G flX8_21 sh14 rfl (dq jX8_tellRule 1 rfl) (fun u1 => ?_)
  refine rz_gd (fun h_u1 => ?_)
  refine rz_getC G flX8_160 (gd_sh h_u1) (t := (u1 + 3)) rfl rfl (dq jX8_tellRule 2 rfl) ?_
  refine rz_getI G flX8_164 (gd_s3 h_u1) rfl (dq jX8_tellRule 3 rfl) (fun v2 => ?_)
  refine rz_iconst G (v := 4) (dq jX8_tellRule 4 rfl) rfl ?_
  refine rz_icmp_lt G (tgt := 20) rfl (dq jX8_tellRule 5 rfl) (fun c3 => ?_) (fun c3 => ?_)
  · refine rz_aload_n G 0 rfl rfl (dq jX8_tellRule 10 rfl) ?_
    refine rz_getC G flX8_12 sh14 (t := 15) rfl rfl (dq jX8_tellRule 11 rfl) ?_
    refine rz_callVv G (st := []) (c_X5_next (cLn Γ)) lkX8_99 sh15 rfl rfl rfl (Nat.le_of_ble_eq_true rfl) (Nat.le_of_ble_eq_true rfl) (dq jX8_tellRule 12 rfl) rfl (fun _ => ?_)
    refine rz_aload_n G 0 rfl rfl (dq jX8_tellRule 13 rfl) ?_
    refine rz_iconst G (v := 0) (dq jX8_tellRule 14 rfl) rfl ?_
    refine rz_callVi G (st := []) (c_X8_either (cLn Γ) 8 0) lkX8_169 sh14 rfl rfl rfl (Nat.le_of_ble_eq_true rfl) (Nat.le_of_ble_eq_true rfl) (dq jX8_tellRule 15 rfl) rfl (fun r4 => ?_)
    refine rz_if_ne G (tgt := 37) rfl (dq jX8_tellRule 16 rfl) (fun c5 => ?_) (fun c5 => ?_)
    · refine rz_iconst G (v := 0) (dq jX8_tellRule 17 rfl) rfl ?_
      exact rz_zret0 G (by decide) (dq jX8_tellRule 18 rfl)
    · refine rz_aload_n G 0 rfl rfl (dq jX8_tellRule 19 rfl) ?_
      refine rz_getR G flX8_21 sh14 rfl (dq jX8_tellRule 20 rfl) (fun u6 => ?_)
      refine rz_gd (fun h_u6 => ?_)
      refine rz_getC G flX8_160 (gd_sh h_u6) (t := (u6 + 3)) rfl rfl (dq jX8_tellRule 21 rfl) ?_
      refine rz_callVv G (st := []) (c_X6_endRule (cLn Γ) (u6 + 3)) lkX8_172 (gd_s3 h_u6) rfl rfl rfl (Nat.le_of_ble_eq_true rfl) (Nat.le_of_ble_eq_true rfl) (dq jX8_tellRule 22 rfl) rfl (fun _ => ?_)
      refine rz_iconst G (v := 1) (dq jX8_tellRule 23 rfl) rfl ?_
      exact rz_zret0 G (by decide) (dq jX8_tellRule 24 rfl)
  · refine rz_aload_n G 0 rfl rfl (dq jX8_tellRule 6 rfl) ?_
    refine rz_iconst G (v := 2) (dq jX8_tellRule 7 rfl) rfl ?_
    refine rz_callVi G (st := []) (c_X8_fail (cLn Γ) 2) lkX8_89 sh14 rfl rfl rfl (Nat.le_of_ble_eq_true rfl) (Nat.le_of_ble_eq_true rfl) (dq jX8_tellRule 8 rfl) rfl (fun r7 => ?_)
    exact rz_zret G (dq jX8_tellRule 9 rfl)
theorem c_X8_tellLine (l : Launch)  : Ct l yX8_tellLine cX8_tellLine 1 (some .boolean) 130 encI [.ref 14] (f_X8_tellLine ) := by
  refine ct_of (own := RX8) (by decide) rfl (Nat.le_of_ble_eq_true rfl) (fun Γ hl G => ?_)
  show Rz Γ 1 (Qm Γ encI 0 0) 0 0 0 [(0, .ref 14)] [] _
  unfold f_X8_tellLine
  refine rz_aload_n G 0 rfl rfl (dq jX8_tellLine 0 rfl) ?_
  refine rz_getC G flX8_12 sh14 (t := 15) rfl rfl (dq jX8_tellLine 1 rfl) ?_
  refine rz_ldcS G (List.mem_of_getElem? (l := ldcL) (i := 2) rfl) (dq jX8_tellLine 2 rfl) ?_
  refine rz_callVi G (st := []) (c_X5_isWord (cLn Γ) 2) lkX8_52 sh15 rfl rfl rfl (Nat.le_of_ble_eq_true rfl) (Nat.le_of_ble_eq_true rfl) (dq jX8_tellLine 3 rfl) rfl (fun r1 => ?_)
  refine rz_if_eq G (tgt := 17) rfl (dq jX8_tellLine 4 rfl) (fun c2 => ?_) (fun c2 => ?_)
  · refine rz_aload_n G 0 rfl rfl (dq jX8_tellLine 8 rfl) ?_
    refine rz_getC G flX8_12 sh14 (t := 15) rfl rfl (dq jX8_tellLine 9 rfl) ?_
    refine rz_ldcS G (List.mem_of_getElem? (l := ldcL) (i := 3) rfl) (dq jX8_tellLine 10 rfl) ?_
    refine rz_callVi G (st := []) (c_X5_isWord (cLn Γ) 3) lkX8_52 sh15 rfl rfl rfl (Nat.le_of_ble_eq_true rfl) (Nat.le_of_ble_eq_true rfl) (dq jX8_tellLine 11 rfl) rfl (fun r3 => ?_)
    refine rz_if_eq G (tgt := 34) rfl (dq jX8_tellLine 12 rfl) (fun c4 => ?_) (fun c4 => ?_)
    · refine rz_aload_n G 0 rfl rfl (dq jX8_tellLine 16 rfl) ?_
      refine rz_getC G flX8_12 sh14 (t := 15) rfl rfl (dq jX8_tellLine 17 rfl) ?_
      refine rz_ldcS G (List.mem_of_getElem? (l := ldcL) (i := 4) rfl) (dq jX8_tellLine 18 rfl) ?_
      refine rz_callVi G (st := []) (c_X5_isWord (cLn Γ) 4) lkX8_52 sh15 rfl rfl rfl (Nat.le_of_ble_eq_true rfl) (Nat.le_of_ble_eq_true rfl) (dq jX8_tellLine 19 rfl) rfl (fun r5 => ?_)
      refine rz_if_eq G (tgt := 51) rfl (dq jX8_tellLine 20 rfl) (fun c6 => ?_) (fun c6 => ?_)
      · refine rz_aload_n G 0 rfl rfl (dq jX8_tellLine 24 rfl) ?_
        refine rz_getC G flX8_12 sh14 (t := 15) rfl rfl (dq jX8_tellLine 25 rfl) ?_
        refine rz_ldcS G (List.mem_of_getElem? (l := ldcL) (i := 5) rfl) (dq jX8_tellLine 26 rfl) ?_
        refine rz_callVi G (st := []) (c_X5_isWord (cLn Γ) 5) lkX8_52 sh15 rfl rfl rfl (Nat.le_of_ble_eq_true rfl) (Nat.le_of_ble_eq_true rfl) (dq jX8_tellLine 27 rfl) rfl (fun r7 => ?_)
        refine rz_if_eq G (tgt := 68) rfl (dq jX8_tellLine 28 rfl) (fun c8 => ?_) (fun c8 => ?_)
        · refine rz_aload_n G 0 rfl rfl (dq jX8_tellLine 32 rfl) ?_
          refine rz_getC G flX8_12 sh14 (t := 15) rfl rfl (dq jX8_tellLine 33 rfl) ?_
          refine rz_ldcS G (List.mem_of_getElem? (l := ldcL) (i := 6) rfl) (dq jX8_tellLine 34 rfl) ?_
          refine rz_callVi G (st := []) (c_X5_isWord (cLn Γ) 6) lkX8_52 sh15 rfl rfl rfl (Nat.le_of_ble_eq_true rfl) (Nat.le_of_ble_eq_true rfl) (dq jX8_tellLine 35 rfl) rfl (fun r9 => ?_)
          refine rz_if_eq G (tgt := 85) rfl (dq jX8_tellLine 36 rfl) (fun c10 => ?_) (fun c10 => ?_)
          · refine rz_aload_n G 0 rfl rfl (dq jX8_tellLine 40 rfl) ?_
            refine rz_getC G flX8_12 sh14 (t := 15) rfl rfl (dq jX8_tellLine 41 rfl) ?_
            refine rz_ldcS G (List.mem_of_getElem? (l := ldcL) (i := 8) rfl) (dq jX8_tellLine 42 rfl) ?_
            refine rz_callVi G (st := []) (c_X5_isWord (cLn Γ) 8) lkX8_52 sh15 rfl rfl rfl (Nat.le_of_ble_eq_true rfl) (Nat.le_of_ble_eq_true rfl) (dq jX8_tellLine 43 rfl) rfl (fun r11 => ?_)
            refine rz_if_eq G (tgt := 102) rfl (dq jX8_tellLine 44 rfl) (fun c12 => ?_) (fun c12 => ?_)
            · refine rz_aload_n G 0 rfl rfl (dq jX8_tellLine 48 rfl) ?_
              refine rz_getC G flX8_12 sh14 (t := 15) rfl rfl (dq jX8_tellLine 49 rfl) ?_
              refine rz_ldcS G (List.mem_of_getElem? (l := ldcL) (i := 20) rfl) (dq jX8_tellLine 50 rfl) ?_
              refine rz_callVi G (st := []) (c_X5_isWord (cLn Γ) 20) lkX8_52 sh15 rfl rfl rfl (Nat.le_of_ble_eq_true rfl) (Nat.le_of_ble_eq_true rfl) (dq jX8_tellLine 51 rfl) rfl (fun r13 => ?_)
              refine rz_if_eq G (tgt := 119) rfl (dq jX8_tellLine 52 rfl) (fun c14 => ?_) (fun c14 => ?_)
              · refine rz_aload_n G 0 rfl rfl (dq jX8_tellLine 56 rfl) ?_
                refine rz_iconst G (v := 1) (dq jX8_tellLine 57 rfl) rfl ?_
                refine rz_callVi G (st := []) (c_X8_fail (cLn Γ) 1) lkX8_89 sh14 rfl rfl rfl (Nat.le_of_ble_eq_true rfl) (Nat.le_of_ble_eq_true rfl) (dq jX8_tellLine 58 rfl) rfl (fun r15 => ?_)
                exact rz_zret G (dq jX8_tellLine 59 rfl)
              · refine rz_aload_n G 0 rfl rfl (dq jX8_tellLine 53 rfl) ?_
                refine rz_callVi G (st := []) (c_X8_tellEgg (cLn Γ)) lkX8_86 sh14 rfl rfl rfl (Nat.le_of_ble_eq_true rfl) (Nat.le_of_ble_eq_true rfl) (dq jX8_tellLine 54 rfl) rfl (fun r16 => ?_)
                exact rz_zret G (dq jX8_tellLine 55 rfl)
            · refine rz_aload_n G 0 rfl rfl (dq jX8_tellLine 45 rfl) ?_
              refine rz_callVi G (st := []) (c_X8_tellRule (cLn Γ)) lkX8_81 sh14 rfl rfl rfl (Nat.le_of_ble_eq_true rfl) (Nat.le_of_ble_eq_true rfl) (dq jX8_tellLine 46 rfl) rfl (fun r17 => ?_)
              exact rz_zret G (dq jX8_tellLine 47 rfl)
          · refine rz_aload_n G 0 rfl rfl (dq jX8_tellLine 37 rfl) ?_
            refine rz_callVi G (st := []) (c_X8_tellJumper (cLn Γ)) lkX8_76 sh14 rfl rfl rfl (Nat.le_of_ble_eq_true rfl) (Nat.le_of_ble_eq_true rfl) (dq jX8_tellLine 38 rfl) rfl (fun r18 => ?_)
            exact rz_zret G (dq jX8_tellLine 39 rfl)
        · refine rz_aload_n G 0 rfl rfl (dq jX8_tellLine 29 rfl) ?_
          refine rz_callVi G (st := []) (c_X8_tellSlips (cLn Γ)) lkX8_71 sh14 rfl rfl rfl (Nat.le_of_ble_eq_true rfl) (Nat.le_of_ble_eq_true rfl) (dq jX8_tellLine 30 rfl) rfl (fun r19 => ?_)
          exact rz_zret G (dq jX8_tellLine 31 rfl)
      · refine rz_aload_n G 0 rfl rfl (dq jX8_tellLine 21 rfl) ?_
        refine rz_callVi G (st := []) (c_X8_tellNear (cLn Γ)) lkX8_66 sh14 rfl rfl rfl (Nat.le_of_ble_eq_true rfl) (Nat.le_of_ble_eq_true rfl) (dq jX8_tellLine 22 rfl) rfl (fun r20 => ?_)
        exact rz_zret G (dq jX8_tellLine 23 rfl)
    · refine rz_aload_n G 0 rfl rfl (dq jX8_tellLine 13 rfl) ?_
      refine rz_callVi G (st := []) (c_X8_tellBroken (cLn Γ)) lkX8_61 sh14 rfl rfl rfl (Nat.le_of_ble_eq_true rfl) (Nat.le_of_ble_eq_true rfl) (dq jX8_tellLine 14 rfl) rfl (fun r21 => ?_)
      exact rz_zret G (dq jX8_tellLine 15 rfl)
  · refine rz_aload_n G 0 rfl rfl (dq jX8_tellLine 5 rfl) ?_
    refine rz_callVi G (st := []) (c_X8_tellMat (cLn Γ)) lkX8_56 sh14 rfl rfl rfl (Nat.le_of_ble_eq_true rfl) (Nat.le_of_ble_eq_true rfl) (dq jX8_tellLine 6 rfl) rfl (fun r22 => ?_)
    exact rz_zret G (dq jX8_tellLine 7 rfl)
theorem z_X8_tell_b23 {Γ : Cx} (G : GG Γ RX8 cX8_tell 4 (some .int) 131 0 0) : ∀ (fu : Nat) (x3 : Int32), Rz Γ 4 (Qm Γ encI 0 0) 0 0 23 [(0, .ref 14), (3, .int x3)] [] (f_X8_tell_b23 fu x3) := by
  intro fu
  induction fu with
  | zero => intro _; exact rz_none
  | succ fu ih =>
    intro x3
    rw [f_X8_tell_b23]
    refine rz_iload_n G 1 rfl rfl (dq jX8_tell 13 rfl) ?_
    refine rz_sipush G (v := 600) (dq jX8_tell 14 rfl) (by decide) ?_
    refine rz_icmp_gt G (tgt := 70) rfl (dq jX8_tell 15 rfl) (fun c1 => ?_) (fun c1 => ?_)
    · refine rz_iconst G (v := 0) (dq jX8_tell 33 rfl) rfl ?_
      exact rz_iret G (dq jX8_tell 34 rfl)
    · refine rz_aload_n G 0 rfl rfl (dq jX8_tell 16 rfl) ?_
      refine rz_getC G flX8_12 sh14 (t := 15) rfl rfl (dq jX8_tell 17 rfl) ?_
      refine rz_getI G flX8_36 sh15 rfl (dq jX8_tell 18 rfl) (fun v2 => ?_)
      refine rz_sipush G (v := 258) (dq jX8_tell 19 rfl) (by decide) ?_
      refine rz_icmp_eq G (tgt := 70) rfl (dq jX8_tell 20 rfl) (fun c3 => ?_) (fun c3 => ?_)
      · refine rz_iconst G (v := 0) (dq jX8_tell 33 rfl) rfl ?_
        exact rz_iret G (dq jX8_tell 34 rfl)
      · refine rz_aload_n G 0 rfl rfl (dq jX8_tell 21 rfl) ?_
        refine rz_callVi G (st := []) (c_X8_tellLine (cLn Γ)) lkX8_39 sh14 rfl rfl rfl (Nat.le_of_ble_eq_true rfl) (Nat.le_of_ble_eq_true rfl) (dq jX8_tell 22 rfl) rfl (fun r4 => ?_)
        refine rz_if_eq G (tgt := 59) rfl (dq jX8_tell 23 rfl) (fun c5 => ?_) (fun c5 => ?_)
        · refine rz_aload_n G 0 rfl rfl (dq jX8_tell 28 rfl) ?_
          refine rz_getI G flX8_47 sh14 rfl (dq jX8_tell 29 rfl) (fun v6 => ?_)
          exact rz_iret G (dq jX8_tell 30 rfl)
        · refine rz_aload_n G 0 rfl rfl (dq jX8_tell 24 rfl) ?_
          refine rz_bipush G (v := 59) (dq jX8_tell 25 rfl) (by decide) ?_
          refine rz_callVi G (st := []) (c_X8_pass (cLn Γ) 59) lkX8_43 sh14 rfl rfl rfl (Nat.le_of_ble_eq_true rfl) (Nat.le_of_ble_eq_true rfl) (dq jX8_tell 26 rfl) rfl (fun r7 => ?_)
          refine rz_if_ne G (tgt := 64) rfl (dq jX8_tell 27 rfl) (fun c8 => ?_) (fun c8 => ?_)
          · refine rz_aload_n G 0 rfl rfl (dq jX8_tell 28 rfl) ?_
            refine rz_getI G flX8_47 sh14 rfl (dq jX8_tell 29 rfl) (fun v9 => ?_)
            exact rz_iret G (dq jX8_tell 30 rfl)
          · refine rz_iinc G 1 (v := x3 + 1) (lv' := [(3, .int (x3 + 1)), (0, .ref 14)]) rfl (congrArg (HAdd.hAdd _) (by decide)) (Nat.le_of_ble_eq_true rfl) rfl (dq jX8_tell 31 rfl) ?_
            refine rz_goto G (tgt := 23) rfl (dq jX8_tell 32 rfl) ?_
            exact rz_lv [1, 0] rfl (ih (x3 + 1))
theorem c_X8_tell (l : Launch) (q1 : Nat) (x2 : Int32) : Ct l yX8_tell cX8_tell 4 (some .int) 131 encI [.ref 14, .ref q1, .int x2] (f_X8_tell q1 x2) := by
  refine ct_of (own := RX8) (by decide) rfl (Nat.le_of_ble_eq_true rfl) (fun Γ hl G => ?_)
  show Rz Γ 4 (Qm Γ encI 0 0) 0 0 0 [(0, .ref 14), (1, .ref q1), (2, .int x2)] [] _
  unfold f_X8_tell
  refine rz_gd (fun e_q1 => ?_)
  subst e_q1
  refine rz_aload_n G 0 rfl rfl (dq jX8_tell 0 rfl) ?_
  refine rz_getR G flX8_21 sh14 rfl (dq jX8_tell 1 rfl) (fun u1 => ?_)
  refine rz_gd (fun h_u1 => ?_)
  refine rz_callVv G (st := []) (c_X2_clear (cLn Γ) u1) lkX8_25 (gd_sh h_u1) rfl rfl rfl (Nat.le_of_ble_eq_true rfl) (Nat.le_of_ble_eq_true rfl) (dq jX8_tell 2 rfl) rfl (fun _ => ?_)
  refine rz_aload_n G 0 rfl rfl (dq jX8_tell 3 rfl) ?_
  refine rz_iconst G (v := 0) (dq jX8_tell 4 rfl) rfl ?_
  refine rz_putI G flX8_28 sh14 rfl (dq jX8_tell 5 rfl) ?_
  refine rz_aload_n G 0 rfl rfl (dq jX8_tell 6 rfl) ?_
  refine rz_getC G flX8_12 sh14 (t := 15) rfl rfl (dq jX8_tell 7 rfl) ?_
  refine rz_aload_n G 1 rfl rfl (dq jX8_tell 8 rfl) ?_
  refine rz_iload_n G 2 rfl rfl (dq jX8_tell 9 rfl) ?_
  refine rz_callVv G (st := []) (c_X5_begin (cLn Γ) 1 x2) lkX8_32 sh15 rfl rfl rfl (Nat.le_of_ble_eq_true rfl) (Nat.le_of_ble_eq_true rfl) (dq jX8_tell 10 rfl) rfl (fun _ => ?_)
  refine rz_iconst G (v := 0) (dq jX8_tell 11 rfl) rfl ?_
  refine rz_istore_n G (lv' := [(3, .int 0), (0, .ref 14), (1, .ref 1), (2, .int x2)]) rfl (Nat.le_of_ble_eq_true rfl) rfl (dq jX8_tell 12 rfl) ?_
  exact rz_lv [1, 0] rfl (z_X8_tell_b23 G FU 0)
