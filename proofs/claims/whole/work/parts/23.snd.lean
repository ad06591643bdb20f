theorem z_X8_both_b12 {Γ : Cx} (kE : Int32 → Sg → Option (Int32 × Sg)) {he : Nat} (hE : ∀ a, Ct (cLn Γ) yX8_either cX8_either 3 (some .boolean) he encI [.ref 14, .int a] (kE a)) (G : GG Γ RX8 cX8_both 3 (some .boolean) (he + 15) 0 0) : ∀ (fu : Nat) (x1 : Int32) (x2 : Int32), Rz Γ 3 (Qm Γ encI 0 0) 0 0 12 [(0, .ref 14), (1, .int x1), (2, .int x2)] [] (f_X8_both_b12 kE fu x1 x2) := by
  intro fu
  induction fu with
  | zero => intro _ _; exact rz_none
  | succ fu ih =>
    intro x1 x2
    rw [f_X8_both_b12]
    refine rz_iload_n G 2 rfl rfl (dq jX8_both 8 rfl) ?_
    refine rz_sipush G (v := 600) (dq jX8_both 9 rfl) (by decide) ?_
    refine rz_icmp_ge G (tgt := 66) rfl (dq jX8_both 10 rfl) (fun c1 => ?_) (fun c1 => ?_)
    · refine rz_iconst G (v := 1) (dq jX8_both 32 rfl) rfl ?_
      exact rz_zret0 G (by decide) (dq jX8_both 33 rfl)
    · refine rz_aload_n G 0 rfl rfl (dq jX8_both 11 rfl) ?_
      refine rz_getC G flX8_12 sh14 (t := 15) rfl rfl (dq jX8_both 12 rfl) ?_
      refine rz_ldcS G (List.mem_of_getElem? (l := ldcL) (i := 18) rfl) (dq jX8_both 13 rfl) ?_
      refine rz_callVi G (st := []) (c_X5_isWord (cLn Γ) 18) lkX8_52 sh15 rfl rfl rfl (by omega) (Nat.le_of_ble_eq_true rfl) (dq jX8_both 14 rfl) rfl (fun r2 => ?_)
      refine rz_if_eq G (tgt := 66) rfl (dq jX8_both 15 rfl) (fun c3 => ?_) (fun c3 => ?_)
      · refine rz_iconst G (v := 1) (dq jX8_both 32 rfl) rfl ?_
        exact rz_zret0 G (by decide) (dq jX8_both 33 rfl)
      · refine rz_aload_n G 0 rfl rfl (dq jX8_both 16 rfl) ?_
        refine rz_getC G flX8_12 sh14 (t := 15) rfl rfl (dq jX8_both 17 rfl) ?_
        refine rz_callVv G (st := []) (c_X5_next (cLn Γ)) lkX8_99 sh15 rfl rfl rfl (by omega) (Nat.le_of_ble_eq_true rfl) (dq jX8_both 18 rfl) rfl (fun _ => ?_)
        refine rz_aload_n G 0 rfl rfl (dq jX8_both 19 rfl) ?_
        refine rz_iload_n G 1 rfl rfl (dq jX8_both 20 rfl) ?_
        refine rz_callVi G (st := []) (c_X8_denied (cLn Γ) kE hE x1) lkX8_186 sh14 rfl rfl rfl (by omega) (Nat.le_of_ble_eq_true rfl) (dq jX8_both 21 rfl) rfl (fun r4 => ?_)
        refine rz_if_ne G (tgt := 48) rfl (dq jX8_both 22 rfl) (fun c5 => ?_) (fun c5 => ?_)
        · refine rz_iconst G (v := 0) (dq jX8_both 23 rfl) rfl ?_
          exact rz_zret0 G (by decide) (dq jX8_both 24 rfl)
        · refine rz_aload_n G 0 rfl rfl (dq jX8_both 25 rfl) ?_
          refine rz_getR G flX8_21 sh14 rfl (dq jX8_both 26 rfl) (fun u6 => ?_)
          refine rz_gd (fun h_u6 => ?_)
          refine rz_getC G flX8_160 (gd_sh h_u6) (t := (u6 + 3)) rfl rfl (dq jX8_both 27 rfl) ?_
          refine rz_bipush G (v := (-2)) (dq jX8_both 28 rfl) (by decide) ?_
          refine rz_callVv G (st := []) (c_X6_add (cLn Γ) (u6 + 3) ((-2))) lkX8_183 (gd_s3 h_u6) rfl rfl rfl (by omega) (Nat.le_of_ble_eq_true rfl) (dq jX8_both 29 rfl) rfl (fun _ => ?_)
          refine rz_iinc G 2 (v := x2 + 1) (lv' := [(2, .int (x2 + 1)), (0, .ref 14), (1, .int x1)]) rfl (congrArg (HAdd.hAdd _) (by decide)) (Nat.le_of_ble_eq_true rfl) rfl (dq jX8_both 30 rfl) ?_
          refine rz_goto G (tgt := 12) rfl (dq jX8_both 31 rfl) ?_
          exact rz_lv [1, 2, 0] rfl (ih x1 (x2 + 1))
theorem c_X8_both (l : Launch) (kE : Int32 → Sg → Option (Int32 × Sg)) {he : Nat} (hE : ∀ a, Ct l yX8_either cX8_either 3 (some .boolean) he encI [.ref 14, .int a] (kE a)) (x1 : Int32) : Ct l yX8_both cX8_both 3 (some .boolean) (he + 15) encI [.ref 14, .int x1] (f_X8_both kE x1) := by
  refine ct_of (own := RX8) (by decide) rfl (Nat.le_of_ble_eq_true rfl) (fun Γ hl G => ?_)
  subst hl
  show Rz Γ 3 (Qm Γ encI 0 0) 0 0 0 [(0, .ref 14), (1, .int x1)] [] _
  unfold f_X8_both
  refine rz_aload_n G 0 rfl rfl (dq jX8_both 0 rfl) ?_
  refine rz_iload_n G 1 rfl rfl (dq jX8_both 1 rfl) ?_
  refine rz_callVi G (st := []) (c_X8_denied (cLn Γ) kE hE x1) lkX8_186 sh14 rfl rfl rfl (by omega) (Nat.le_of_ble_eq_true rfl) (dq jX8_both 2 rfl) rfl (fun r1 => ?_)
  refine rz_if_ne G (tgt := 10) rfl (dq jX8_both 3 rfl) (fun c2 => ?_) (fun c2 => ?_)
  · refine rz_iconst G (v := 0) (dq jX8_both 4 rfl) rfl ?_
    exact rz_zret0 G (by decide) (dq jX8_both 5 rfl)
  · refine rz_iconst G (v := 0) (dq jX8_both 6 rfl) rfl ?_
    refine rz_istore_n G (lv' := [(2, .int 0), (0, .ref 14), (1, .int x1)]) rfl (Nat.le_of_ble_eq_true rfl) rfl (dq jX8_both 7 rfl) ?_
    exact rz_lv [1, 2, 0] rfl (z_X8_both_b12 kE hE G FU x1 0)
theorem z_X8_eitherB_b19 {Γ : Cx} (kE : Int32 → Sg → Option (Int32 × Sg)) {he : Nat} (hE : ∀ a, Ct (cLn Γ) yX8_either cX8_either 3 (some .boolean) he encI [.ref 14, .int a] (kE a)) (G : GG Γ RX8 cX8_either 3 (some .boolean) (he + 16) 0 0) (xs0 : Int32) : Rz Γ 3 (Qm Γ encI 0 0) 0 0 19 [] [.int xs0, .ref 14] (f_X8_eitherB_b19 kE xs0) := by
  unfold f_X8_eitherB_b19
  refine rz_callVi G (st := []) (c_X8_fail (cLn Γ) xs0) lkX8_89 sh14 rfl rfl rfl (by omega) (Nat.le_of_ble_eq_true rfl) (dq jX8_either 10 rfl) rfl (fun r1 => ?_)
  exact rz_zret G (dq jX8_either 11 rfl)
theorem z_X8_eitherB_b35 {Γ : Cx} (kE : Int32 → Sg → Option (Int32 × Sg)) {he : Nat} (hE : ∀ a, Ct (cLn Γ) yX8_either cX8_either 3 (some .boolean) he encI [.ref 14, .int a] (kE a)) (G : GG Γ RX8 cX8_either 3 (some .boolean) (he + 16) 0 0) : ∀ (fu : Nat) (x1 : Int32) (x2 : Int32), Rz Γ 3 (Qm Γ encI 0 0) 0 0 35 [(0, .ref 14), (1, .int x1), (2, .int x2)] [] (f_X8_eitherB_b35 kE fu x1 x2) := by
  intro fu
  induction fu with
  | zero => intro _ _; exact rz_none
  | succ fu ih =>
    intro x1 x2
    rw [f_X8_eitherB_b35]
    refine rz_iload_n G 2 rfl rfl (dq jX8_either 20 rfl) ?_
    refine rz_sipush G (v := 600) (dq jX8_either 21 rfl) (by decide) ?_
    refine rz_icmp_ge G (tgt := 88) rfl (dq jX8_either 22 rfl) (fun c1 => ?_) (fun c1 => ?_)
    · refine rz_iconst G (v := 1) (dq jX8_either 44 rfl) rfl ?_
      exact rz_zret0 G (by decide) (dq jX8_either 45 rfl)
    · refine rz_aload_n G 0 rfl rfl (dq jX8_either 23 rfl) ?_
      refine rz_getC G flX8_12 sh14 (t := 15) rfl rfl (dq jX8_either 24 rfl) ?_
      refine rz_ldcS G (List.mem_of_getElem? (l := ldcL) (i := 19) rfl) (dq jX8_either 25 rfl) ?_
      refine rz_callVi G (st := []) (c_X5_isWord (cLn Γ) 19) lkX8_52 sh15 rfl rfl rfl (by omega) (Nat.le_of_ble_eq_true rfl) (dq jX8_either 26 rfl) rfl (fun r2 => ?_)
      refine rz_if_eq G (tgt := 88) rfl (dq jX8_either 27 rfl) (fun c3 => ?_) (fun c3 => ?_)
      · refine rz_iconst G (v := 1) (dq jX8_either 44 rfl) rfl ?_
        exact rz_zret0 G (by decide) (dq jX8_either 45 rfl)
      · refine rz_aload_n G 0 rfl rfl (dq jX8_either 28 rfl) ?_
        refine rz_getC G flX8_12 sh14 (t := 15) rfl rfl (dq jX8_either 29 rfl) ?_
        refine rz_callVv G (st := []) (c_X5_next (cLn Γ)) lkX8_99 sh15 rfl rfl rfl (by omega) (Nat.le_of_ble_eq_true rfl) (dq jX8_either 30 rfl) rfl (fun _ => ?_)
        refine rz_aload_n G 0 rfl rfl (dq jX8_either 31 rfl) ?_
        refine rz_iload_n G 1 rfl rfl (dq jX8_either 32 rfl) ?_
        refine rz_callVi G (st := []) (c_X8_both (cLn Γ) kE hE x1) lkX8_178 sh14 rfl rfl rfl (by omega) (Nat.le_of_ble_eq_true rfl) (dq jX8_either 33 rfl) rfl (fun r4 => ?_)
        refine rz_if_ne G (tgt := 71) rfl (dq jX8_either 34 rfl) (fun c5 => ?_) (fun c5 => ?_)
        · refine rz_iconst G (v := 0) (dq jX8_either 35 rfl) rfl ?_
          exact rz_zret0 G (by decide) (dq jX8_either 36 rfl)
        · refine rz_aload_n G 0 rfl rfl (dq jX8_either 37 rfl) ?_
          refine rz_getR G flX8_21 sh14 rfl (dq jX8_either 38 rfl) (fun u6 => ?_)
          refine rz_gd (fun h_u6 => ?_)
          refine rz_getC G flX8_160 (gd_sh h_u6) (t := (u6 + 3)) rfl rfl (dq jX8_either 39 rfl) ?_
          refine rz_iconst G (v := (-1)) (dq jX8_either 40 rfl) rfl ?_
          refine rz_callVv G (st := []) (c_X6_add (cLn Γ) (u6 + 3) ((-1))) lkX8_183 (gd_s3 h_u6) rfl rfl rfl (by omega) (Nat.le_of_ble_eq_true rfl) (dq jX8_either 41 rfl) rfl (fun _ => ?_)
          refine rz_iinc G 2 (v := x2 + 1) (lv' := [(2, .int (x2 + 1)), (0, .ref 14), (1, .int x1)]) rfl (congrArg (HAdd.hAdd _) (by decide)) (Nat.le_of_ble_eq_true rfl) rfl (dq jX8_either 42 rfl) ?_
          refine rz_goto G (tgt := 35) rfl (dq jX8_either 43 rfl) ?_
          exact rz_lv [1, 2, 0] rfl (ih x1 (x2 + 1))
theorem c_X8_eitherB (l : Launch) (kE : Int32 → Sg → Option (Int32 × Sg)) {he : Nat} (hE : ∀ a, Ct l yX8_either cX8_either 3 (some .boolean) he encI [.ref 14, .int a] (kE a)) (x1 : Int32) : Ct l yX8_either cX8_either 3 (some .boolean) (he + 16) encI [.ref 14, .int x1] (f_X8_eitherB kE x1) := by
  refine ct_of (own := RX8) (by decide) rfl (Nat.le_of_ble_eq_true rfl) (fun Γ hl G => ?_)
  subst hl
  show Rz Γ 3 (Qm Γ encI 0 0) 0 0 0 [(0, .ref 14), (1, .int x1)] [] _
  unfold f_X8_eitherB
  refine rz_iload_n G 1 rfl rfl (dq jX8_either 0 rfl) ?_
  refine rz_bipush G (v := 6) (dq jX8_either 1 rfl) (by decide) ?_
  refine rz_icmp_lt G (tgt := 23) rfl (dq jX8_either 2 rfl) (fun c1 => ?_) (fun c1 => ?_)
  · refine rz_aload_n G 0 rfl rfl (dq jX8_either 12 rfl) ?_
    refine rz_iload_n G 1 rfl rfl (dq jX8_either 13 rfl) ?_
    refine rz_callVi G (st := []) (c_X8_both (cLn Γ) kE hE x1) lkX8_178 sh14 rfl rfl rfl (by omega) (Nat.le_of_ble_eq_true rfl) (dq jX8_either 14 rfl) rfl (fun r2 => ?_)
    refine rz_if_ne G (tgt := 33) rfl (dq jX8_either 15 rfl) (fun c3 => ?_) (fun c3 => ?_)
    · refine rz_iconst G (v := 0) (dq jX8_either 16 rfl) rfl ?_
      exact rz_zret0 G (by decide) (dq jX8_either 17 rfl)
    · refine rz_iconst G (v := 0) (dq jX8_either 18 rfl) rfl ?_
      refine rz_istore_n G (lv' := [(2, .int 0), (0, .ref 14), (1, .int x1)]) rfl (Nat.le_of_ble_eq_true rfl) rfl (dq jX8_either 19 rfl) ?_
      exact rz_lv [1, 2, 0] rfl (z_X8_eitherB_b35 kE hE G FU x1 0)
  · refine rz_aload_n G 0 rfl rfl (dq jX8_either 3 rfl) ?_
    refine rz_aload_n G 0 rfl rfl (dq jX8_either 4 rfl) ?_
    refine rz_callVi G (st := [.ref 14]) (c_X8_mayBeginPart (cLn Γ)) lkX8_175 sh14 rfl rfl rfl (by omega) (Nat.le_of_ble_eq_true rfl) (dq jX8_either 5 rfl) rfl (fun r4 => ?_)
    refine rz_if_eq G (tgt := 18) rfl (dq jX8_either 6 rfl) (fun c5 => ?_) (fun c5 => ?_)
    · refine rz_iconst G (v := 1) (dq jX8_either 9 rfl) rfl ?_
      exact rz_lv [] rfl (z_X8_eitherB_b19 kE hE G 1)
    · refine rz_iconst G (v := 2) (dq jX8_either 7 rfl) rfl ?_
      refine rz_goto G (tgt := 19) rfl (dq jX8_either 8 rfl) ?_
      exact rz_lv [] rfl (z_X8_eitherB_b19 kE hE G 2)
theorem c_X8_either (l : Launch) : ∀ (fu : Nat) (x1 : Int32), Ct l yX8_either cX8_either 3 (some .boolean) (16 * fu) encI [.ref 14, .int x1] (f_X8_either fu x1) := by
  intro fu
  induction fu with
  | zero => intro x1 E σ r h; cases h
  | succ fu ih =>
    intro x1
    exact c_X8_eitherB l (f_X8_either fu) ih x1
theorem z_X8_tellEgg_b45 {Γ : Cx} (G : GG Γ RX8 cX8_tellEgg 2 (some .boolean) 10 0 0)  : Rz Γ 2 (Qm Γ encI 0 0) 0 0 45 [(0, .ref 14)] [] (f_X8_tellEgg_b45 ) := by
  unfold f_X8_tellEgg_b45
  refine rz_aload_n G 0 rfl rfl (dq jX8_tellEgg 21 rfl) ?_
  refine rz_iconst G (v := 2) (dq jX8_tellEgg 22 rfl) rfl ?_
  refine rz_callVi G (st := []) (c_X8_fail (cLn Γ) 2) lkX8_89 sh14 rfl rfl rfl (Nat.le_of_ble_eq_true rfl) (Nat.le_of_ble_eq_true rfl) (dq jX8_tellEgg 23 rfl) rfl (fun r1 => ?_)
  exact rz_zret G (dq jX8_tellEgg 24 rfl)
theorem z_X8_tellEgg_b13 {Γ : Cx} (G : GG Γ RX8 cX8_tellEgg 2 (some .boolean) 10 0 0) : ∀ (fu : Nat) (x1 : Int32), Rz Γ 2 (Qm Γ encI 0 0) 0 0 13 [(0, .ref 14), (1, .int x1)] [] (f_X8_tellEgg_b13 fu x1) := by
  intro fu
  induction fu with
  | zero => intro _; exact rz_none
  | succ fu ih =>
    intro x1
    rw [f_X8_tellEgg_b13]
    refine rz_iload_n G 1 rfl rfl (dq jX8_tellEgg 8 rfl) ?_
    refine rz_sipush G (v := 600) (dq jX8_tellEgg 9 rfl) (by decide) ?_
    refine rz_icmp_ge G (tgt := 80) rfl (dq jX8_tellEgg 10 rfl) (fun c1 => ?_) (fun c1 => ?_)
    · refine rz_iconst G (v := 1) (dq jX8_tellEgg 39 rfl) rfl ?_
      exact rz_zret0 G (by decide) (dq jX8_tellEgg 40 rfl)
    · refine rz_aload_n G 0 rfl rfl (dq jX8_tellEgg 11 rfl) ?_
      refine rz_getC G flX8_12 sh14 (t := 15) rfl rfl (dq jX8_tellEgg 12 rfl) ?_
      refine rz_getI G flX8_36 sh15 rfl (dq jX8_tellEgg 13 rfl) (fun v2 => ?_)
      refine rz_sipush G (v := 257) (dq jX8_tellEgg 14 rfl) (by decide) ?_
      refine rz_icmp_ne G (tgt := 80) rfl (dq jX8_tellEgg 15 rfl) (fun c3 => ?_) (fun c3 => ?_)
      · refine rz_aload_n G 0 rfl rfl (dq jX8_tellEgg 16 rfl) ?_
        refine rz_getR G flX8_21 sh14 rfl (dq jX8_tellEgg 17 rfl) (fun u4 => ?_)
        refine rz_gd (fun h_u4 => ?_)
        refine rz_getI G flX8_153 (gd_sh h_u4) rfl (dq jX8_tellEgg 18 rfl) (fun v5 => ?_)
        refine rz_bipush G (v := 8) (dq jX8_tellEgg 19 rfl) (by decide) ?_
        refine rz_icmp_lt G (tgt := 51) rfl (dq jX8_tellEgg 20 rfl) (fun c6 => ?_) (fun c6 => ?_)
        · refine rz_aload_n G 0 rfl rfl (dq jX8_tellEgg 25 rfl) ?_
          refine rz_iconst G (v := 1) (dq jX8_tellEgg 26 rfl) rfl ?_
          refine rz_bipush G (v := 99) (dq jX8_tellEgg 27 rfl) (by decide) ?_
          refine rz_callVi G (st := []) (c_X8_number (cLn Γ) 1 99) lkX8_108 sh14 rfl rfl rfl (Nat.le_of_ble_eq_true rfl) (Nat.le_of_ble_eq_true rfl) (dq jX8_tellEgg 28 rfl) rfl (fun r7 => ?_)
          refine rz_if_ne G (tgt := 63) rfl (dq jX8_tellEgg 29 rfl) (fun c8 => ?_) (fun c8 => ?_)
          · refine rz_iconst G (v := 0) (dq jX8_tellEgg 30 rfl) rfl ?_
            exact rz_zret0 G (by decide) (dq jX8_tellEgg 31 rfl)
          · refine rz_aload_n G 0 rfl rfl (dq jX8_tellEgg 32 rfl) ?_
            refine rz_getR G flX8_21 sh14 rfl (dq jX8_tellEgg 33 rfl) (fun u9 => ?_)
            refine rz_gd (fun h_u9 => ?_)
            refine rz_aload_n G 0 rfl rfl (dq jX8_tellEgg 34 rfl) ?_
            refine rz_getI G flX8_105 sh14 rfl (dq jX8_tellEgg 35 rfl) (fun v10 => ?_)
            refine rz_callVv G (st := []) (c_X2_addPush (cLn Γ) u9 v10) lkX8_156 (gd_sh h_u9) rfl rfl rfl (Nat.le_of_ble_eq_true rfl) (Nat.le_of_ble_eq_true rfl) (dq jX8_tellEgg 36 rfl) rfl (fun _ => ?_)
            refine rz_iinc G 1 (v := x1 + 1) (lv' := [(1, .int (x1 + 1)), (0, .ref 14)]) rfl (congrArg (HAdd.hAdd _) (by decide)) (Nat.le_of_ble_eq_true rfl) rfl (dq jX8_tellEgg 37 rfl) ?_
            refine rz_goto G (tgt := 13) rfl (dq jX8_tellEgg 38 rfl) ?_
            exact rz_lv [1, 0] rfl (ih (x1 + 1))
        · exact rz_lv [0] rfl (z_X8_tellEgg_b45 G)
      · refine rz_iconst G (v := 1) (dq jX8_tellEgg 39 rfl) rfl ?_
        exact rz_zret0 G (by decide) (dq jX8_tellEgg 40 rfl)
theorem c_X8_tellEgg (l : Launch)  : Ct l yX8_tellEgg cX8_tellEgg 2 (some .boolean) 10 encI [.ref 14] (f_X8_tellEgg ) := by
  refine ct_of (own := RX8) (by decide) rfl (Nat.le_of_ble_eq_true rfl) (fun Γ hl G => ?_)
  show Rz Γ 2 (Qm Γ encI 0 0) 0 0 0 [(0, .ref 14)] [] _
  unfold f_X8_tellEgg
  refine rz_aload_n G 0 rfl rfl (dq jX8_tellEgg 0 rfl) ?_
  refine rz_bipush G (v := 16) (dq jX8_tellEgg 1 rfl) (by decide) ?_
  refine rz_callVi G (st := []) (c_X8_passOnce (cLn Γ) 16) lkX8_115 sh14 rfl rfl rfl (Nat.le_of_ble_eq_true rfl) (Nat.le_of_ble_eq_true rfl) (dq jX8_tellEgg 2 rfl) rfl (fun r1 => ?_)
  refine rz_if_ne G (tgt := 11) rfl (dq jX8_tellEgg 3 rfl) (fun c2 => ?_) (fun c2 => ?_)
  · refine rz_iconst G (v := 0) (dq jX8_tellEgg 4 rfl) rfl ?_
    exact rz_zret0 G (by decide) (dq jX8_tellEgg 5 rfl)
  · refine rz_iconst G (v := 0) (dq jX8_tellEgg 6 rfl) rfl ?_
    refine rz_istore_n G (lv' := [(1, .int 0), (0, .ref 14)]) rfl (Nat.le_of_ble_eq_true rfl) rfl (dq jX8_tellEgg 7 rfl) ?_
    exact rz_lv [1, 0] rfl (z_X8_tellEgg_b13 G FU 0)
theorem z_X9_comeTo_b26 {Γ : Cx} (G : GG Γ RX9 cX9_comeTo 6 none 2 0 0) (x3 : Int64) : Rz Γ 6 (Qm Γ encV 0 0) 0 0 26 [(0, .ref 30), (3, .long x3)] [] (f_X9_comeTo_b26 x3) := by
  unfold f_X9_comeTo_b26
  refine rz_aload_n G 0 rfl rfl (dq jX9_comeTo 13 rfl) ?_
  refine rz_dup G rfl (dq jX9_comeTo 14 rfl) ?_
  refine rz_getL G flX9_18 sh30 rfl (dq jX9_comeTo 15 rfl) (fun v1 => ?_)
  refine rz_lload_n G 1 rfl rfl (dq jX9_comeTo 16 rfl) ?_
  refine rz_ladd G (dq jX9_comeTo 17 rfl) ?_
  refine rz_putL G flX9_18 sh30 rfl (dq jX9_comeTo 18 rfl) ?_
  refine rz_goto G (tgt := 50) rfl (dq jX9_comeTo 19 rfl) ?_
  exact rz_vret G (dq jX9_comeTo 28 rfl)
theorem c_X9_comeTo (l : Launch) (q1 : Nat) (x2 : Int32) (x3 : Int64) : Ct l yX9_comeTo cX9_comeTo 6 none 2 encV [.ref 30, .ref q1, .int x2, .long x3] (f_X9_comeTo q1 x2 x3) := by
  refine ct_of (own := RX9) (by decide) rfl (Nat.le_of_ble_eq_true rfl) (fun Γ hl G => ?_)
  show Rz Γ 6 (Qm Γ encV 0 0) 0 0 0 [(0, .ref 30), (1, .ref q1), (2, .int x2), (3, .long x3)] [] _
  unfold f_X9_comeTo
  refine rz_gd (fun h_q1 => ?_)
  refine rz_iload_n G 2 rfl rfl (dq jX9_comeTo 0 rfl) ?_
  refine rz_bipush G (v := 20) (dq jX9_comeTo 1 rfl) (by decide) ?_
  refine rz_iadd G (dq jX9_comeTo 2 rfl) ?_
  refine rz_istore G (lv' := [(5, .int (x2 + 20)), (0, .ref 30), (1, .ref q1), (2, .int x2), (3, .long x3)]) (Nat.le_of_ble_eq_true rfl) rfl (dq jX9_comeTo 3 rfl) ?_
  refine rz_aload_n G 2 rfl rfl (dq jX9_comeTo 4 rfl) ?_
  refine rz_iload_n G 3 rfl rfl (dq jX9_comeTo 5 rfl) ?_
  refine rz_callVi G (st := []) (c_X2_isBeyond (cLn Γ) q1 x2) lkX9_52 (gd_sh h_q1) rfl rfl rfl (Nat.le_of_ble_eq_true rfl) (Nat.le_of_ble_eq_true rfl) (dq jX9_comeTo 6 rfl) rfl (fun r1 => ?_)
  refine rz_if_ne G (tgt := 26) rfl (dq jX9_comeTo 7 rfl) (fun c2 => ?_) (fun c2 => ?_)
  · refine rz_iload G 0 rfl (dq jX9_comeTo 8 rfl) ?_
    refine rz_if_lt G (tgt := 26) rfl (dq jX9_comeTo 9 rfl) (fun c3 => ?_) (fun c3 => ?_)
    · exact rz_lv [1, 4] rfl (z_X9_comeTo_b26 G x3)
    · refine rz_iload G 0 rfl (dq jX9_comeTo 10 rfl) ?_
      refine rz_bipush G (v := 41) (dq jX9_comeTo 11 rfl) (by decide) ?_
      refine rz_icmp_lt G (tgt := 39) rfl (dq jX9_comeTo 12 rfl) (fun c4 => ?_) (fun c4 => ?_)
      · refine rz_aload_n G 1 rfl rfl (dq jX9_comeTo 20 rfl) ?_
        refine rz_getC G flX9_15 sh30 (t := 32) rfl rfl (dq jX9_comeTo 21 rfl) ?_
        refine rz_iload G 0 rfl (dq jX9_comeTo 22 rfl) ?_
        refine rz_lti (fun w5 e_w5 => ?_)
        refine rz_dup2 G rfl rfl (dq jX9_comeTo 23 rfl) ?_
        refine rz_lald G sh32 (dq jX9_comeTo 24 rfl) (fun v6 => ?_)
        refine rz_lload_n G 4 rfl rfl (dq jX9_comeTo 25 rfl) ?_
        refine rz_ladd G (dq jX9_comeTo 26 rfl) ?_
        refine rz_last G sh32 (dq jX9_comeTo 27 rfl) ?_
        exact rz_vret G (dq jX9_comeTo 28 rfl)
      · exact rz_lv [1, 4] rfl (z_X9_comeTo_b26 G x3)
  · exact rz_lv [1, 4] rfl (z_X9_comeTo_b26 G x3)
theorem z_J7_fill_d0a16_b6 {Γ : Cx} (G : GG Γ RJ7 cJ7_fill_d0a16 5 none 1 0 0) : ∀ (fu : Nat) (x1 : Int64) (x3 : Int32) (x4 : Int32), Rz Γ 5 (Qm Γ encV 0 0) 0 0 6 [(0, .ref 32), (1, .long x1), (3, .int x3), (4, .int x4)] [] (f_J7_fill_d0a16_b6 fu x1 x3 x4) := by
  intro fu
  induction fu with
  | zero => intro _ _ _; exact rz_none
  | succ fu ih =>
    intro x1 x3 x4
    rw [f_J7_fill_d0a16_b6]
    refine rz_iload_n G 2 rfl rfl (dq jJ7_fill_d0a16 5 rfl) ?_
    refine rz_iload G 3 rfl (dq jJ7_fill_d0a16 6 rfl) ?_
    refine rz_icmp_ge G (tgt := 22) rfl (dq jJ7_fill_d0a16 7 rfl) (fun c1 => ?_) (fun c1 => ?_)
    · exact rz_vret G (dq jJ7_fill_d0a16 14 rfl)
    · refine rz_aload_n G 0 rfl rfl (dq jJ7_fill_d0a16 8 rfl) ?_
      refine rz_iload_n G 2 rfl rfl (dq jJ7_fill_d0a16 9 rfl) ?_
      refine rz_lload_n G 1 rfl rfl (dq jJ7_fill_d0a16 10 rfl) ?_
      refine rz_last G sh32 (dq jJ7_fill_d0a16 11 rfl) ?_
      refine rz_iinc G 2 (v := x3 + 1) (lv' := [(3, .int (x3 + 1)), (0, .ref 32), (1, .long x1), (4, .int x4)]) rfl (congrArg (HAdd.hAdd _) (by decide)) (Nat.le_of_ble_eq_true rfl) rfl (dq jJ7_fill_d0a16 12 rfl) ?_
      refine rz_goto G (tgt := 6) rfl (dq jJ7_fill_d0a16 13 rfl) ?_
      exact rz_lv [1, 2, 0, 3] rfl (ih x1 (x3 + 1) x4)
theorem c_J7_fill_d0a16 (l : Launch) (x1 : Int64) : Ct l yJ7_fill_d0a16 cJ7_fill_d0a16 5 none 1 encV [.ref 32, .long x1] (f_J7_fill_d0a16 x1) := by
  refine ct_of (own := RJ7) (by decide) rfl (Nat.le_of_ble_eq_true rfl) (fun Γ hl G => ?_)
  show Rz Γ 5 (Qm Γ encV 0 0) 0 0 0 [(0, .ref 32), (1, .long x1)] [] _
  unfold f_J7_fill_d0a16
  refine rz_iconst G (v := 0) (dq jJ7_fill_d0a16 0 rfl) rfl ?_
  refine rz_istore_n G (lv' := [(3, .int 0), (0, .ref 32), (1, .long x1)]) rfl (Nat.le_of_ble_eq_true rfl) rfl (dq jJ7_fill_d0a16 1 rfl) ?_
  refine rz_aload_n G 1 rfl rfl (dq jJ7_fill_d0a16 2 rfl) ?_
  refine rz_alen G (v := 41) sh32 (by decide) (by decide) (dq jJ7_fill_d0a16 3 rfl) ?_
  refine rz_istore G (lv' := [(4, .int 41), (3, .int 0), (0, .ref 32), (1, .long x1)]) (Nat.le_of_ble_eq_true rfl) rfl (dq jJ7_fill_d0a16 4 rfl) ?_
  exact rz_lv [2, 3, 1, 0] rfl (z_J7_fill_d0a16_b6 G FU x1 0 41)
theorem c_X9_takeNext (l : Launch)  : Ct l yX9_takeNext cX9_takeNext 1 none 2 encV [.ref 30] (f_X9_takeNext ) := by
  refine ct_of (own := RX9) (by decide) rfl (Nat.le_of_ble_eq_true rfl) (fun Γ hl G => ?_)
  show Rz Γ 1 (Qm Γ encV 0 0) 0 0 0 [(0, .ref 30)] [] _
  unfold f_X9_takeNext
  refine rz_aload_n G 0 rfl rfl (dq jX9_takeNext 0 rfl) ?_
  refine rz_getC G flX9_15 sh30 (t := 32) rfl rfl (dq jX9_takeNext 1 rfl) ?_
  refine rz_iconst G (v := 0) (dq jX9_takeNext 2 rfl) rfl ?_
  refine rz_aload_n G 0 rfl rfl (dq jX9_takeNext 3 rfl) ?_
  refine rz_getC G flX9_11 sh30 (t := 31) rfl rfl (dq jX9_takeNext 4 rfl) ?_
  refine rz_iconst G (v := 0) (dq jX9_takeNext 5 rfl) rfl ?_
  refine rz_bipush G (v := 41) (dq jX9_takeNext 6 rfl) (by decide) ?_
  refine rz_copyl G 0 0 41 cpX9_56 sh32 sh31 (by decide) (by decide) (by decide) (by decide) (Nat.le_of_ble_eq_true rfl) (dq jX9_takeNext 7 rfl) ?_
  refine rz_aload_n G 0 rfl rfl (dq jX9_takeNext 8 rfl) ?_
  refine rz_getC G flX9_15 sh30 (t := 32) rfl rfl (dq jX9_takeNext 9 rfl) ?_
  refine rz_lconst G (v := 0) (dq jX9_takeNext 10 rfl) rfl ?_
  refine rz_callSv G (st := []) (c_J7_fill_d0a16 (cLn Γ) 0) lkX9_62 rfl (Nat.le_of_ble_eq_true rfl) (Nat.le_of_ble_eq_true rfl) (dq jX9_takeNext 11 rfl) rfl (fun _ => ?_)
  exact rz_vret G (dq jX9_takeNext 12 rfl)
theorem z_X9_jump_b139 {Γ : Cx} (G : GG Γ RX9 cX9_jump 7 none 3 0 0) (k43 : Nat → Int32 → Int32 → Int32 → Sg → Option (Unit × Sg)) (hk43 : ∀ (q1 : Nat) (x2 : Int32) (x3 : Int32) (x5 : Int32), Rz Γ 7 (Qm Γ encV 0 0) 0 0 43 [(0, .ref 30), (1, .ref q1), (2, .int x2), (3, .int x3), (5, .int x5)] [] (k43 q1 x2 x3 x5)) (q1 : Nat) (x2 : Int32) (x3 : Int32) (x5 : Int32) : Rz Γ 7 (Qm Γ encV 0 0) 0 0 139 [(0, .ref 30), (1, .ref q1), (2, .int x2), (3, .int x3), (5, .int x5)] [] (f_X9_jump_b139 k43 q1 x2 x3 x5) := by
  unfold f_X9_jump_b139
  refine rz_gd (fun h_q1 => ?_)
  refine rz_iinc G 4 (v := x5 + 1) (lv' := [(5, .int (x5 + 1)), (0, .ref 30), (1, .ref q1), (2, .int x2), (3, .int x3)]) rfl (congrArg (HAdd.hAdd _) (by decide)) (Nat.le_of_ble_eq_true rfl) rfl (dq jX9_jump 83 rfl) ?_
  refine rz_goto G (tgt := 43) rfl (dq jX9_jump 84 rfl) ?_
  exact rz_lv [1, 2, 3, 4, 0] rfl (hk43 q1 x2 x3 (x5 + 1))
theorem z_X9_jump_b43 {Γ : Cx} (G : GG Γ RX9 cX9_jump 7 none 3 0 0) : ∀ (fu : Nat) (q1 : Nat) (x2 : Int32) (x3 : Int32) (x5 : Int32), Rz Γ 7 (Qm Γ encV 0 0) 0 0 43 [(0, .ref 30), (1, .ref q1), (2, .int x2), (3, .int x3), (5, .int x5)] [] (f_X9_jump_b43 fu q1 x2 x3 x5) := by
  intro fu
  induction fu with
  | zero => intro _ _ _ _; exact rz_none
  | succ fu ih =>
    intro q1 x2 x3 x5
    rw [f_X9_jump_b43]
    refine rz_gd (fun h_q1 => ?_)
    refine rz_iload G 4 rfl (dq jX9_jump 25 rfl) ?_
    refine rz_bipush G (v := 41) (dq jX9_jump 26 rfl) (by decide) ?_
    refine rz_icmp_ge G (tgt := 145) rfl (dq jX9_jump 27 rfl) (fun c1 => ?_) (fun c1 => ?_)
    · exact rz_vret G (dq jX9_jump 85 rfl)
    · refine rz_aload_n G 0 rfl rfl (dq jX9_jump 28 rfl) ?_
      refine rz_getC G flX9_11 sh30 (t := 31) rfl rfl (dq jX9_jump 29 rfl) ?_
      refine rz_iload G 4 rfl (dq jX9_jump 30 rfl) ?_
      refine rz_lald G sh31 (dq jX9_jump 31 rfl) (fun v2 => ?_)
      refine rz_lconst G (v := 0) (dq jX9_jump 32 rfl) rfl ?_
      refine rz_lcmp G (dq jX9_jump 33 rfl) ?_
      refine rz_if_eq G (tgt := 139) rfl (dq jX9_jump 34 rfl) (fun c3 => ?_) (fun c3 => ?_)
      · exact rz_lv [0, 1, 2, 3, 4] rfl (z_X9_jump_b139 G (f_X9_jump_b43 fu) ih q1 x2 x3 x5)
      · refine rz_aload_n G 1 rfl rfl (dq jX9_jump 35 rfl) ?_
        refine rz_iload G 4 rfl (dq jX9_jump 36 rfl) ?_
        refine rz_bipush G (v := 20) (dq jX9_jump 37 rfl) (by decide) ?_
        refine rz_isub G (dq jX9_jump 38 rfl) ?_
        refine rz_iload_n G 2 rfl rfl (dq jX9_jump 39 rfl) ?_
        refine rz_iload_n G 3 rfl rfl (dq jX9_jump 40 rfl) ?_
        refine rz_callVi G (st := []) (c_X2_comesTo (cLn Γ) q1 (x5 - 20) x2 x3) lkX9_48 (gd_sh h_q1) rfl rfl rfl (Nat.le_of_ble_eq_true rfl) (Nat.le_of_ble_eq_true rfl) (dq jX9_jump 41 rfl) rfl (fun r4 => ?_)
        refine rz_istore G (lv' := [(6, .int r4), (0, .ref 30), (1, .ref q1), (2, .int x2), (3, .int x3), (5, .int x5)]) (Nat.le_of_ble_eq_true rfl) rfl (dq jX9_jump 42 rfl) ?_
        refine rz_aload_n G 1 rfl rfl (dq jX9_jump 43 rfl) ?_
        refine rz_aload_n G 2 rfl rfl (dq jX9_jump 44 rfl) ?_
        refine rz_iload G 0 rfl (dq jX9_jump 45 rfl) ?_
        refine rz_iconst G (v := 1) (dq jX9_jump 46 rfl) rfl ?_
        refine rz_isub G (dq jX9_jump 47 rfl) ?_
        refine rz_aload_n G 1 rfl rfl (dq jX9_jump 48 rfl) ?_
        refine rz_getC G flX9_11 sh30 (t := 31) rfl rfl (dq jX9_jump 49 rfl) ?_
        refine rz_iload G 5 rfl (dq jX9_jump 50 rfl) ?_
        refine rz_lald G sh31 (dq jX9_jump 51 rfl) (fun v5 => ?_)
        refine rz_aload_n G 2 rfl rfl (dq jX9_jump 52 rfl) ?_
        refine rz_getI G flX9_36 (gd_sh h_q1) rfl (dq jX9_jump 53 rfl) (fun v6 => ?_)
        refine rz_i2l G (dq jX9_jump 54 rfl) ?_
        refine rz_lmul G (dq jX9_jump 55 rfl) ?_
        refine rz_callVv G (st := []) (c_X9_comeTo (cLn Γ) q1 (r4 - 1) (v5 * v6.toInt64)) lkX9_25 sh30 rfl rfl rfl (Nat.le_of_ble_eq_true rfl) (Nat.le_of_ble_eq_true rfl) (dq jX9_jump 56 rfl) rfl (fun _ => ?_)
        refine rz_aload_n G 1 rfl rfl (dq jX9_jump 57 rfl) ?_
        refine rz_aload_n G 2 rfl rfl (dq jX9_jump 58 rfl) ?_
        refine rz_iload G 0 rfl (dq jX9_jump 59 rfl) ?_
        refine rz_aload_n G 1 rfl rfl (dq jX9_jump 60 rfl) ?_
        refine rz_getC G flX9_11 sh30 (t := 31) rfl rfl (dq jX9_jump 61 rfl) ?_
        refine rz_iload G 5 rfl (dq jX9_jump 62 rfl) ?_
        refine rz_lald G sh31 (dq jX9_jump 63 rfl) (fun v7 => ?_)
        refine rz_aload_n G 2 rfl rfl (dq jX9_jump 64 rfl) ?_
        refine rz_getI G flX9_42 (gd_sh h_q1) rfl (dq jX9_jump 65 rfl) (fun v8 => ?_)
        refine rz_i2l G (dq jX9_jump 66 rfl) ?_
        refine rz_lmul G (dq jX9_jump 67 rfl) ?_
        refine rz_callVv G (st := []) (c_X9_comeTo (cLn Γ) q1 r4 (v7 * v8.toInt64)) lkX9_25 sh30 rfl rfl rfl (Nat.le_of_ble_eq_true rfl) (Nat.le_of_ble_eq_true rfl) (dq jX9_jump 68 rfl) rfl (fun _ => ?_)
        refine rz_aload_n G 1 rfl rfl (dq jX9_jump 69 rfl) ?_
        refine rz_aload_n G 2 rfl rfl (dq jX9_jump 70 rfl) ?_
        refine rz_iload G 0 rfl (dq jX9_jump 71 rfl) ?_
        refine rz_iconst G (v := 1) (dq jX9_jump 72 rfl) rfl ?_
        refine rz_iadd G (dq jX9_jump 73 rfl) ?_
        refine rz_aload_n G 1 rfl rfl (dq jX9_jump 74 rfl) ?_
        refine rz_getC G flX9_11 sh30 (t := 31) rfl rfl (dq jX9_jump 75 rfl) ?_
        refine rz_iload G 5 rfl (dq jX9_jump 76 rfl) ?_
        refine rz_lald G sh31 (dq jX9_jump 77 rfl) (fun v9 => ?_)
        refine rz_aload_n G 2 rfl rfl (dq jX9_jump 78 rfl) ?_
        refine rz_getI G flX9_45 (gd_sh h_q1) rfl (dq jX9_jump 79 rfl) (fun v10 => ?_)
        refine rz_i2l G (dq jX9_jump 80 rfl) ?_
        refine rz_lmul G (dq jX9_jump 81 rfl) ?_
        refine rz_callVv G (st := []) (c_X9_comeTo (cLn Γ) q1 (r4 + 1) (v9 * v10.toInt64)) lkX9_25 sh30 rfl rfl rfl (Nat.le_of_ble_eq_true rfl) (Nat.le_of_ble_eq_true rfl) (dq jX9_jump 82 rfl) rfl (fun _ => ?_)
        exact rz_lv [1, 2, 3, 4, 5] rfl (z_X9_jump_b139 G (f_X9_jump_b43 fu) ih q1 x2 x3 x5)
theorem c_X9_jump (l : Launch) (q1 : Nat) (x2 : Int32) (x3 : Int32) : Ct l yX9_jump cX9_jump 7 none 3 encV [.ref 30, .ref q1, .int x2, .int x3] (f_X9_jump q1 x2 x3) := by
  refine ct_of (own := RX9) (by decide) rfl (Nat.le_of_ble_eq_true rfl) (fun Γ hl G => ?_)
  show Rz Γ 7 (Qm Γ encV 0 0) 0 0 0 [(0, .ref 30), (1, .ref q1), (2, .int x2), (3, .int x3)] [] _
  unfold f_X9_jump
  refine rz_gd (fun h_q1 => ?_)
  refine rz_aload_n G 1 rfl rfl (dq jX9_jump 0 rfl) ?_
  refine rz_getI G flX9_36 (gd_sh h_q1) rfl (dq jX9_jump 1 rfl) (fun v1 => ?_)
  refine rz_aload_n G 1 rfl rfl (dq jX9_jump 2 rfl) ?_
  refine rz_getI G flX9_42 (gd_sh h_q1) rfl (dq jX9_jump 3 rfl) (fun v2 => ?_)
  refine rz_iadd G (dq jX9_jump 4 rfl) ?_
  refine rz_aload_n G 1 rfl rfl (dq jX9_jump 5 rfl) ?_
  refine rz_getI G flX9_45 (gd_sh h_q1) rfl (dq jX9_jump 6 rfl) (fun v3 => ?_)
  refine rz_iadd G (dq jX9_jump 7 rfl) ?_
  refine rz_istore G (lv' := [(4, .int ((v1 + v2) + v3)), (0, .ref 30), (1, .ref q1), (2, .int x2), (3, .int x3)]) (Nat.le_of_ble_eq_true rfl) rfl (dq jX9_jump 8 rfl) ?_
  refine rz_aload_n G 1 rfl rfl (dq jX9_jump 9 rfl) ?_
  refine rz_dup G rfl (dq jX9_jump 10 rfl) ?_
  refine rz_getL G flX9_18 sh30 rfl (dq jX9_jump 11 rfl) (fun v4 => ?_)
  refine rz_iload G 0 rfl (dq jX9_jump 12 rfl) ?_
  refine rz_i2l G (dq jX9_jump 13 rfl) ?_
  refine rz_lmul G (dq jX9_jump 14 rfl) ?_
  refine rz_putL G flX9_18 sh30 rfl (dq jX9_jump 15 rfl) ?_
  refine rz_aload_n G 1 rfl rfl (dq jX9_jump 16 rfl) ?_
  refine rz_dup G rfl (dq jX9_jump 17 rfl) ?_
  refine rz_getL G flX9_22 sh30 rfl (dq jX9_jump 18 rfl) (fun v5 => ?_)
  refine rz_iload G 0 rfl (dq jX9_jump 19 rfl) ?_
  refine rz_i2l G (dq jX9_jump 20 rfl) ?_
  refine rz_lmul G (dq jX9_jump 21 rfl) ?_
  refine rz_putL G flX9_22 sh30 rfl (dq jX9_jump 22 rfl) ?_
  refine rz_iconst G (v := 0) (dq jX9_jump 23 rfl) rfl ?_
  refine rz_istore G (lv' := [(5, .int 0), (4, .int ((v1 + v2) + v3)), (0, .ref 30), (1, .ref q1), (2, .int x2), (3, .int x3)]) (Nat.le_of_ble_eq_true rfl) rfl (dq jX9_jump 24 rfl) ?_
  exact rz_lv [2, 3, 4, 5, 0] rfl (z_X9_jump_b43 G FU q1 x2 x3 0)
theorem z_X9_go_b24 {Γ : Cx} (G : GG Γ RX9 cX9_go 7 none 4 0 0) : ∀ (fu : Nat) (q1 : Nat) (x3 : Int32) (x4 : Int32) (x5 : Int32) (x6 : Int32), Rz Γ 7 (Qm Γ encV 0 0) 0 0 24 [(0, .ref 30), (1, .ref q1), (3, .int x3), (4, .int x4), (5, .int x5), (6, .int x6)] [] (f_X9_go_b24 fu q1 x3 x4 x5 x6) := by
  intro fu
  induction fu with
  | zero => intro _ _ _ _ _; exact rz_none
  | succ fu ih =>
    intro q1 x3 x4 x5 x6
    rw [f_X9_go_b24]
    refine rz_gd (fun h_q1 => ?_)
    refine rz_iload G 5 rfl (dq jX9_go 15 rfl) ?_
    refine rz_iload G 4 rfl (dq jX9_go 16 rfl) ?_
    refine rz_icmp_ge G (tgt := 49) rfl (dq jX9_go 17 rfl) (fun c1 => ?_) (fun c1 => ?_)
    · exact rz_vret G (dq jX9_go 27 rfl)
    · refine rz_aload_n G 0 rfl rfl (dq jX9_go 18 rfl) ?_
      refine rz_aload_n G 1 rfl rfl (dq jX9_go 19 rfl) ?_
      refine rz_iload_n G 2 rfl rfl (dq jX9_go 20 rfl) ?_
      refine rz_iload G 3 rfl (dq jX9_go 21 rfl) ?_
      refine rz_callVv G (st := []) (c_X9_jump (cLn Γ) q1 x3 x4) lkX9_32 sh30 rfl rfl rfl (Nat.le_of_ble_eq_true rfl) (Nat.le_of_ble_eq_true rfl) (dq jX9_go 22 rfl) rfl (fun _ => ?_)
      refine rz_aload_n G 0 rfl rfl (dq jX9_go 23 rfl) ?_
      refine rz_callVv G (st := []) (c_X9_takeNext (cLn Γ)) lkX9_29 sh30 rfl rfl rfl (Nat.le_of_ble_eq_true rfl) (Nat.le_of_ble_eq_true rfl) (dq jX9_go 24 rfl) rfl (fun _ => ?_)
      refine rz_iinc G 5 (v := x6 + 1) (lv' := [(6, .int (x6 + 1)), (0, .ref 30), (1, .ref q1), (3, .int x3), (4, .int x4), (5, .int x5)]) rfl (congrArg (HAdd.hAdd _) (by decide)) (Nat.le_of_ble_eq_true rfl) rfl (dq jX9_go 25 rfl) ?_
      refine rz_goto G (tgt := 24) rfl (dq jX9_go 26 rfl) ?_
      exact rz_lv [1, 2, 3, 4, 5, 0] rfl (ih q1 x3 x4 x5 (x6 + 1))
theorem c_X9_go (l : Launch) (q1 : Nat) (x2 : Int32) (x3 : Int32) (x4 : Int32) (x5 : Int32) : Ct l yX9_go cX9_go 7 none 4 encV [.ref 30, .ref q1, .int x2, .int x3, .int x4, .int x5] (f_X9_go q1 x2 x3 x4 x5) := by
  refine ct_of (own := RX9) (by decide) rfl (Nat.le_of_ble_eq_true rfl) (fun Γ hl G => ?_)
  show Rz Γ 7 (Qm Γ encV 0 0) 0 0 0 [(0, .ref 30), (1, .ref q1), (2, .int x2), (3, .int x3), (4, .int x4), (5, .int x5)] [] _
  unfold f_X9_go
  refine rz_gd (fun h_q1 => ?_)
  refine rz_aload_n G 0 rfl rfl (dq jX9_go 0 rfl) ?_
  refine rz_lconst G (v := 0) (dq jX9_go 1 rfl) rfl ?_
  refine rz_putL G flX9_18 sh30 rfl (dq jX9_go 2 rfl) ?_
  refine rz_aload_n G 0 rfl rfl (dq jX9_go 3 rfl) ?_
  refine rz_lconst G (v := 1) (dq jX9_go 4 rfl) rfl ?_
  refine rz_putL G flX9_22 sh30 rfl (dq jX9_go 5 rfl) ?_
  refine rz_aload_n G 0 rfl rfl (dq jX9_go 6 rfl) ?_
  refine rz_aload_n G 1 rfl rfl (dq jX9_go 7 rfl) ?_
  refine rz_iload_n G 2 rfl rfl (dq jX9_go 8 rfl) ?_
  refine rz_lconst G (v := 1) (dq jX9_go 9 rfl) rfl ?_
  refine rz_callVv G (st := []) (c_X9_comeTo (cLn Γ) q1 x2 1) lkX9_25 sh30 rfl rfl rfl (Nat.le_of_ble_eq_true rfl) (Nat.le_of_ble_eq_true rfl) (dq jX9_go 10 rfl) rfl (fun _ => ?_)
  refine rz_aload_n G 0 rfl rfl (dq jX9_go 11 rfl) ?_
  refine rz_callVv G (st := []) (c_X9_takeNext (cLn Γ)) lkX9_29 sh30 rfl rfl rfl (Nat.le_of_ble_eq_true rfl) (Nat.le_of_ble_eq_true rfl) (dq jX9_go 12 rfl) rfl (fun _ => ?_)
  refine rz_iconst G (v := 0) (dq jX9_go 13 rfl) rfl ?_
  refine rz_istore G (lv' := [(6, .int 0), (0, .ref 30), (1, .ref q1), (2, .int x2), (3, .int x3), (4, .int x4), (5, .int x5)]) (Nat.le_of_ble_eq_true rfl) rfl (dq jX9_go 14 rfl) ?_
  exact rz_lv [1, 2, 4, 5, 6, 0] rfl (z_X9_go_b24 G FU q1 x3 x4 x5 0)
theorem c_X9_waysAt (l : Launch) (x1 : Int32) : Ct l yX9_waysAt cX9_waysAt 2 (some .long) 1 encL [.ref 30, .int x1] (f_X9_waysAt x1) := by
  refine ct_of (own := RX9) (by decide) rfl (Nat.le_of_ble_eq_true rfl) (fun Γ hl G => ?_)
  show Rz Γ 2 (Qm Γ encL 0 0) 0 0 0 [(0, .ref 30), (1, .int x1)] [] _
  unfold f_X9_waysAt
  refine rz_iload_n G 1 rfl rfl (dq jX9_waysAt 0 rfl) ?_
  refine rz_bipush G (v := (-20)) (dq jX9_waysAt 1 rfl) (by decide) ?_
  refine rz_icmp_lt G (tgt := 24) rfl (dq jX9_waysAt 2 rfl) (fun c1 => ?_) (fun c1 => ?_)
  · refine rz_lconst G (v := 0) (dq jX9_waysAt 13 rfl) rfl ?_
    exact rz_lret G (dq jX9_waysAt 14 rfl)
  · refine rz_iload_n G 1 rfl rfl (dq jX9_waysAt 3 rfl) ?_
    refine rz_bipush G (v := 20) (dq jX9_waysAt 4 rfl) (by decide) ?_
    refine rz_icmp_gt G (tgt := 24) rfl (dq jX9_waysAt 5 rfl) (fun c2 => ?_) (fun c2 => ?_)
    · refine rz_lconst G (v := 0) (dq jX9_waysAt 13 rfl) rfl ?_
      exact rz_lret G (dq jX9_waysAt 14 rfl)
    · refine rz_aload_n G 0 rfl rfl (dq jX9_waysAt 6 rfl) ?_
      refine rz_getC G flX9_11 sh30 (t := 31) rfl rfl (dq jX9_waysAt 7 rfl) ?_
      refine rz_iload_n G 1 rfl rfl (dq jX9_waysAt 8 rfl) ?_
      refine rz_bipush G (v := 20) (dq jX9_waysAt 9 rfl) (by decide) ?_
      refine rz_iadd G (dq jX9_waysAt 10 rfl) ?_
      refine rz_lald G sh31 (dq jX9_waysAt 11 rfl) (fun v3 => ?_)
      refine rz_goto G (tgt := 25) rfl (dq jX9_waysAt 12 rfl) ?_
      exact rz_lret G (dq jX9_waysAt 14 rfl)
theorem z_X10_addFour_b42 {Γ : Cx} (G : GG Γ RX10 cX10_addFour 3 none 1 0 0) (k3 : Int32 → Int32 → Sg → Option (Unit × Sg)) (hk3 : ∀ (x1 : Int32) (x2 : Int32), Rz Γ 3 (Qm Γ encV 0 0) 0 0 3 [(0, .ref 0), (1, .int x1), (2, .int x2)] [] (k3 x1 x2)) (x1 : Int32) (x2 : Int32) : Rz Γ 3 (Qm Γ encV 0 0) 0 0 42 [(0, .ref 0), (1, .int x1), (2, .int x2)] [] (f_X10_addFour_b42 k3 x1 x2) := by
  unfold f_X10_addFour_b42
  refine rz_iinc G 2 (v := x2 + (-8)) (lv' := [(2, .int (x2 + (-8))), (0, .ref 0), (1, .int x1)]) rfl (congrArg (HAdd.hAdd _) (by decide)) (Nat.le_of_ble_eq_true rfl) rfl (dq jX10_addFour 25 rfl) ?_
  refine rz_goto G (tgt := 3) rfl (dq jX10_addFour 26 rfl) ?_
  exact rz_lv [1, 2, 0] rfl (hk3 x1 (x2 + (-8)))
theorem z_X10_addFour_b3 {Γ : Cx} (G : GG Γ RX10 cX10_addFour 3 none 1 0 0) : ∀ (fu : Nat) (x1 : Int32) (x2 : Int32), Rz Γ 3 (Qm Γ encV 0 0) 0 0 3 [(0, .ref 0), (1, .int x1), (2, .int x2)] [] (f_X10_addFour_b3 fu x1 x2) := by
  intro fu
  induction fu with
  | zero => intro _ _; exact rz_none
  | succ fu ih =>
    intro x1 x2
    rw [f_X10_addFour_b3]
    refine rz_iload_n G 2 rfl rfl (dq jX10_addFour 2 rfl) ?_
    refine rz_if_lt G (tgt := 48) rfl (dq jX10_addFour 3 rfl) (fun c1 => ?_) (fun c1 => ?_)
    · exact rz_vret G (dq jX10_addFour 27 rfl)
    · refine rz_aload_n G 0 rfl rfl (dq jX10_addFour 4 rfl) ?_
      refine rz_getI G flX10_13 sh0 rfl (dq jX10_addFour 5 rfl) (fun v2 => ?_)
      refine rz_aload_n G 0 rfl rfl (dq jX10_addFour 6 rfl) ?_
      refine rz_getC G flX10_9 sh0 (t := 1) rfl rfl (dq jX10_addFour 7 rfl) ?_
      refine rz_alen G (v := 600) sh1 (by decide) (by decide) (dq jX10_addFour 8 rfl) ?_
      refine rz_icmp_ge G (tgt := 42) rfl (dq jX10_addFour 9 rfl) (fun c3 => ?_) (fun c3 => ?_)
      · exact rz_lv [0, 1, 2] rfl (z_X10_addFour_b42 G (f_X10_addFour_b3 fu) ih x1 x2)
      · refine rz_aload_n G 0 rfl rfl (dq jX10_addFour 10 rfl) ?_
        refine rz_getC G flX10_9 sh0 (t := 1) rfl rfl (dq jX10_addFour 11 rfl) ?_
        refine rz_aload_n G 0 rfl rfl (dq jX10_addFour 12 rfl) ?_
        refine rz_getI G flX10_13 sh0 rfl (dq jX10_addFour 13 rfl) (fun v4 => ?_)
        refine rz_iload_n G 1 rfl rfl (dq jX10_addFour 14 rfl) ?_
        refine rz_iload_n G 2 rfl rfl (dq jX10_addFour 15 rfl) ?_
        refine rz_ishr G (dq jX10_addFour 16 rfl) ?_
        refine rz_i2b G (dq jX10_addFour 17 rfl) ?_
        refine rz_bast G sh1 (dq jX10_addFour 18 rfl) ?_
        refine rz_aload_n G 0 rfl rfl (dq jX10_addFour 19 rfl) ?_
        refine rz_dup G rfl (dq jX10_addFour 20 rfl) ?_
        refine rz_getI G flX10_13 sh0 rfl (dq jX10_addFour 21 rfl) (fun v5 => ?_)
        refine rz_iconst G (v := 1) (dq jX10_addFour 22 rfl) rfl ?_
        refine rz_iadd G (dq jX10_addFour 23 rfl) ?_
        refine rz_putI G flX10_13 sh0 rfl (dq jX10_addFour 24 rfl) ?_
        exact rz_lv [0, 1, 2] rfl (z_X10_addFour_b42 G (f_X10_addFour_b3 fu) ih x1 x2)
theorem c_X10_addFour (l : Launch) (x1 : Int32) : Ct l yX10_addFour cX10_addFour 3 none 1 encV [.ref 0, .int x1] (f_X10_addFour x1) := by
  refine ct_of (own := RX10) (by decide) rfl (Nat.le_of_ble_eq_true rfl) (fun Γ hl G => ?_)
  show Rz Γ 3 (Qm Γ encV 0 0) 0 0 0 [(0, .ref 0), (1, .int x1)] [] _
  unfold f_X10_addFour
  refine rz_bipush G (v := 24) (dq jX10_addFour 0 rfl) (by decide) ?_
  refine rz_istore_n G (lv' := [(2, .int 24), (0, .ref 0), (1, .int x1)]) rfl (Nat.le_of_ble_eq_true rfl) rfl (dq jX10_addFour 1 rfl) ?_
  exact rz_lv [1, 2, 0] rfl (z_X10_addFour_b3 G FU x1 24)
theorem c_X10_feed (l : Launch) (x1 : Int32) (x2 : Int32) (x3 : Int32) (x4 : Int32) (x5 : Int32) : Ct l yX10_feed cX10_feed 6 (some .int) 2 encI [.ref 0, .int x1, .int x2, .int x3, .int x4, .int x5] (f_X10_feed x1 x2 x3 x4 x5) := by
  refine ct_of (own := RX10) (by decide) rfl (Nat.le_of_ble_eq_true rfl) (fun Γ hl G => ?_)
  show Rz Γ 6 (Qm Γ encI 0 0) 0 0 0 [(0, .ref 0), (1, .int x1), (2, .int x2), (3, .int x3), (4, .int x4), (5, .int x5)] [] _
  unfold f_X10_feed
  refine rz_aload_n G 0 rfl rfl (dq jX10_feed 0 rfl) ?_
  refine rz_getI G flX10_13 sh0 rfl (dq jX10_feed 1 rfl) (fun v1 => ?_)
  refine rz_sipush G (v := 580) (dq jX10_feed 2 rfl) (by decide) ?_
  refine rz_icmp_le G (tgt := 12) rfl (dq jX10_feed 3 rfl) (fun c2 => ?_) (fun c2 => ?_)
  · refine rz_aload_n G 0 rfl rfl (dq jX10_feed 6 rfl) ?_
    refine rz_iload_n G 1 rfl rfl (dq jX10_feed 7 rfl) ?_
    refine rz_callVv G (st := []) (c_X10_addFour (cLn Γ) x1) lkX10_78 sh0 rfl rfl rfl (Nat.le_of_ble_eq_true rfl) (Nat.le_of_ble_eq_true rfl) (dq jX10_feed 8 rfl) rfl (fun _ => ?_)
    refine rz_aload_n G 0 rfl rfl (dq jX10_feed 9 rfl) ?_
    refine rz_iload_n G 2 rfl rfl (dq jX10_feed 10 rfl) ?_
    refine rz_callVv G (st := []) (c_X10_addFour (cLn Γ) x2) lkX10_78 sh0 rfl rfl rfl (Nat.le_of_ble_eq_true rfl) (Nat.le_of_ble_eq_true rfl) (dq jX10_feed 11 rfl) rfl (fun _ => ?_)
    refine rz_aload_n G 0 rfl rfl (dq jX10_feed 12 rfl) ?_
    refine rz_iload_n G 3 rfl rfl (dq jX10_feed 13 rfl) ?_
    refine rz_callVv G (st := []) (c_X10_addFour (cLn Γ) x3) lkX10_78 sh0 rfl rfl rfl (Nat.le_of_ble_eq_true rfl) (Nat.le_of_ble_eq_true rfl) (dq jX10_feed 14 rfl) rfl (fun _ => ?_)
    refine rz_aload_n G 0 rfl rfl (dq jX10_feed 15 rfl) ?_
    refine rz_iload G 4 rfl (dq jX10_feed 16 rfl) ?_
    refine rz_callVv G (st := []) (c_X10_addFour (cLn Γ) x4) lkX10_78 sh0 rfl rfl rfl (Nat.le_of_ble_eq_true rfl) (Nat.le_of_ble_eq_true rfl) (dq jX10_feed 17 rfl) rfl (fun _ => ?_)
    refine rz_aload_n G 0 rfl rfl (dq jX10_feed 18 rfl) ?_
    refine rz_iload G 5 rfl (dq jX10_feed 19 rfl) ?_
    refine rz_callVv G (st := []) (c_X10_addFour (cLn Γ) x5) lkX10_78 sh0 rfl rfl rfl (Nat.le_of_ble_eq_true rfl) (Nat.le_of_ble_eq_true rfl) (dq jX10_feed 20 rfl) rfl (fun _ => ?_)
    refine rz_aload_n G 0 rfl rfl (dq jX10_feed 21 rfl) ?_
    refine rz_getI G flX10_13 sh0 rfl (dq jX10_feed 22 rfl) (fun v3 => ?_)
    exact rz_iret G (dq jX10_feed 23 rfl)
  · refine rz_iconst G (v := (-1)) (dq jX10_feed 4 rfl) rfl ?_
    exact rz_iret G (dq jX10_feed 5 rfl)
theorem c_X10_fault (l : Launch)  : Ct l yX10_fault cX10_fault 1 (some .int) 1 encI [.ref 0] (f_X10_fault ) := by
  refine ct_of (own := RX10) (by decide) rfl (Nat.le_of_ble_eq_true rfl) (fun Γ hl G => ?_)
  show Rz Γ 1 (Qm Γ encI 0 0) 0 0 0 [(0, .ref 0)] [] _
  unfold f_X10_fault
  refine rz_aload_n G 0 rfl rfl (dq jX10_fault 0 rfl) ?_
  refine rz_getI G flX10_17 sh0 rfl (dq jX10_fault 1 rfl) (fun v1 => ?_)
  exact rz_iret G (dq jX10_fault 2 rfl)
theorem c_X10_countTold (l : Launch) (x1 : Int32) : Ct l yX10_countTold cX10_countTold 2 (some .int) 1 encI [.ref 0, .int x1] (f_X10_countTold x1) := by
  refine ct_of (own := RX10) (by decide) rfl (Nat.le_of_ble_eq_true rfl) (fun Γ hl G => ?_)
  show Rz Γ 2 (Qm Γ encI 0 0) 0 0 0 [(0, .ref 0), (1, .int x1)] [] _
  unfold f_X10_countTold
  refine rz_iload_n G 1 rfl rfl (dq jX10_countTold 0 rfl) ?_
  refine rz_br (fun c1 => ?_) (fun c1 => ?_)
  · refine rz_tableIn G 0 (tgt := 52) swX10_countTold_1 (by rw [c1]; rfl) (by decide) rfl rfl ?_
    refine rz_aload_n G 0 rfl rfl (dq jX10_countTold_s1 0 rfl) ?_
    refine rz_getR G flX10_32 sh0 rfl (dq jX10_countTold_s1 1 rfl) (fun u2 => ?_)
    refine rz_gd (fun h_u2 => ?_)
    refine rz_getI G flX10_108 (gd_sh h_u2) rfl (dq jX10_countTold_s1 2 rfl) (fun v3 => ?_)
    exact rz_iret G (dq jX10_countTold_s1 3 rfl)
  · refine rz_br (fun c4 => ?_) (fun c4 => ?_)
    · refine rz_tableIn G 1 (tgt := 60) swX10_countTold_1 (by rw [c4]; rfl) (by decide) rfl rfl ?_
      refine rz_aload_n G 0 rfl rfl (dq jX10_countTold_s1 4 rfl) ?_
      refine rz_getR G flX10_32 sh0 rfl (dq jX10_countTold_s1 5 rfl) (fun u5 => ?_)
      refine rz_gd (fun h_u5 => ?_)
      refine rz_getI G flX10_111 (gd_sh h_u5) rfl (dq jX10_countTold_s1 6 rfl) (fun v6 => ?_)
      exact rz_iret G (dq jX10_countTold_s1 7 rfl)
    · refine rz_br (fun c7 => ?_) (fun c7 => ?_)
      · refine rz_tableIn G 2 (tgt := 68) swX10_countTold_1 (by rw [c7]; rfl) (by decide) rfl rfl ?_
        refine rz_aload_n G 0 rfl rfl (dq jX10_countTold_s1 8 rfl) ?_
        refine rz_getR G flX10_32 sh0 rfl (dq jX10_countTold_s1 9 rfl) (fun u8 => ?_)
        refine rz_gd (fun h_u8 => ?_)
        refine rz_getI G flX10_114 (gd_sh h_u8) rfl (dq jX10_countTold_s1 10 rfl) (fun v9 => ?_)
        exact rz_iret G (dq jX10_countTold_s1 11 rfl)
      · refine rz_br (fun c10 => ?_) (fun c10 => ?_)
        · refine rz_tableIn G 3 (tgt := 76) swX10_countTold_1 (by rw [c10]; rfl) (by decide) rfl rfl ?_
          refine rz_aload_n G 0 rfl rfl (dq jX10_countTold_s1 12 rfl) ?_
          refine rz_getR G flX10_32 sh0 rfl (dq jX10_countTold_s1 13 rfl) (fun u11 => ?_)
          refine rz_gd (fun h_u11 => ?_)
          refine rz_getI G flX10_117 (gd_sh h_u11) rfl (dq jX10_countTold_s1 14 rfl) (fun v12 => ?_)
          exact rz_iret G (dq jX10_countTold_s1 15 rfl)
        · refine rz_br (fun c13 => ?_) (fun c13 => ?_)
          · refine rz_tableIn G 4 (tgt := 84) swX10_countTold_1 (by rw [c13]; rfl) (by decide) rfl rfl ?_
            refine rz_aload_n G 0 rfl rfl (dq jX10_countTold_s1 16 rfl) ?_
            refine rz_getR G flX10_32 sh0 rfl (dq jX10_countTold_s1 17 rfl) (fun u14 => ?_)
            refine rz_gd (fun h_u14 => ?_)
            refine rz_getI G flX10_120 (gd_sh h_u14) rfl (dq jX10_countTold_s1 18 rfl) (fun v15 => ?_)
            exact rz_iret G (dq jX10_countTold_s1 19 rfl)
          · refine rz_br (fun c16 => ?_) (fun c16 => ?_)
            · refine rz_tableIn G 5 (tgt := 92) swX10_countTold_1 (by rw [c16]; rfl) (by decide) rfl rfl ?_
              refine rz_aload_n G 0 rfl rfl (dq jX10_countTold_s1 20 rfl) ?_
              refine rz_getR G flX10_32 sh0 rfl (dq jX10_countTold_s1 21 rfl) (fun u17 => ?_)
              refine rz_gd (fun h_u17 => ?_)
              refine rz_getI G flX10_123 (gd_sh h_u17) rfl (dq jX10_countTold_s1 22 rfl) (fun v18 => ?_)
              exact rz_iret G (dq jX10_countTold_s1 23 rfl)
            · refine rz_br (fun c19 => ?_) (fun c19 => ?_)
              · refine rz_tableIn G 6 (tgt := 100) swX10_countTold_1 (by rw [c19]; rfl) (by decide) rfl rfl ?_
                refine rz_aload_n G 0 rfl rfl (dq jX10_countTold_s1 24 rfl) ?_
                refine rz_getR G flX10_32 sh0 rfl (dq jX10_countTold_s1 25 rfl) (fun u20 => ?_)
                refine rz_gd (fun h_u20 => ?_)
                refine rz_getI G flX10_126 (gd_sh h_u20) rfl (dq jX10_countTold_s1 26 rfl) (fun v21 => ?_)
                exact rz_iret G (dq jX10_countTold_s1 27 rfl)
              · refine rz_br (fun c22 => ?_) (fun c22 => ?_)
                · refine rz_tableIn G 7 (tgt := 108) swX10_countTold_1 (by rw [c22]; rfl) (by decide) rfl rfl ?_
                  refine rz_aload_n G 0 rfl rfl (dq jX10_countTold_s1 28 rfl) ?_
                  refine rz_getR G flX10_32 sh0 rfl (dq jX10_countTold_s1 29 rfl) (fun u23 => ?_)
                  refine rz_gd (fun h_u23 => ?_)
                  refine rz_getI G flX10_129 (gd_sh h_u23) rfl (dq jX10_countTold_s1 30 rfl) (fun v24 => ?_)
                  exact rz_iret G (dq jX10_countTold_s1 31 rfl)
                · refine rz_br (fun c25 => ?_) (fun c25 => ?_)
                  · refine rz_tableIn G 8 (tgt := 116) swX10_countTold_1 (by rw [c25]; rfl) (by decide) rfl rfl ?_
                    refine rz_aload_n G 0 rfl rfl (dq jX10_countTold_s1 32 rfl) ?_
                    refine rz_getR G flX10_32 sh0 rfl (dq jX10_countTold_s1 33 rfl) (fun u26 => ?_)
                    refine rz_gd (fun h_u26 => ?_)
                    refine rz_getI G flX10_132 (gd_sh h_u26) rfl (dq jX10_countTold_s1 34 rfl) (fun v27 => ?_)
                    exact rz_iret G (dq jX10_countTold_s1 35 rfl)
                  · have n_c1 := ne_toInt (z := 0) (by decide) c1; have n_c4 := ne_toInt (z := 1) (by decide) c4; have n_c7 := ne_toInt (z := 2) (by decide) c7; have n_c10 := ne_toInt (z := 3) (by decide) c10; have n_c13 := ne_toInt (z := 4) (by decide) c13; have n_c16 := ne_toInt (z := 5) (by decide) c16; have n_c19 := ne_toInt (z := 6) (by decide) c19; have n_c22 := ne_toInt (z := 7) (by decide) c22; have n_c25 := ne_toInt (z := 8) (by decide) c25
                    refine rz_tableOut G (tgt := 124) swX10_countTold_1 (by omega) rfl ?_
                    refine rz_aload_n G 0 rfl rfl (dq jX10_countTold_s1 36 rfl) ?_
                    refine rz_getR G flX10_32 sh0 rfl (dq jX10_countTold_s1 37 rfl) (fun u28 => ?_)
                    refine rz_gd (fun h_u28 => ?_)
                    refine rz_getC G flX10_135 (gd_sh h_u28) (t := (u28 + 3)) rfl rfl (dq jX10_countTold_s1 38 rfl) ?_
                    refine rz_getI G flX10_139 (gd_s3 h_u28) rfl (dq jX10_countTold_s1 39 rfl) (fun v29 => ?_)
                    exact rz_iret G (dq jX10_countTold_s1 40 rfl)
theorem c_X10_countNow (l : Launch) (x1 : Int32) : Ct l yX10_countNow cX10_countNow 2 (some .int) 1 encI [.ref 0, .int x1] (f_X10_countNow x1) := by
  refine ct_of (own := RX10) (by decide) rfl (Nat.le_of_ble_eq_true rfl) (fun Γ hl G => ?_)
  show Rz Γ 2 (Qm Γ encI 0 0) 0 0 0 [(0, .ref 0), (1, .int x1)] [] _
  unfold f_X10_countNow
  refine rz_iload_n G 1 rfl rfl (dq jX10_countNow 0 rfl) ?_
  refine rz_br (fun c1 => ?_) (fun c1 => ?_)
  · refine rz_tableIn G 0 (tgt := 48) swX10_countNow_1 (by rw [c1]; rfl) (by decide) rfl rfl ?_
    refine rz_aload_n G 0 rfl rfl (dq jX10_countNow_s1 0 rfl) ?_
    refine rz_getC G flX10_39 sh0 (t := 2) rfl rfl (dq jX10_countNow_s1 1 rfl) ?_
    refine rz_getI G flX10_144 sh2 rfl (dq jX10_countNow_s1 2 rfl) (fun v2 => ?_)
    exact rz_iret G (dq jX10_countNow_s1 3 rfl)
  · refine rz_br (fun c3 => ?_) (fun c3 => ?_)
    · refine rz_tableIn G 1 (tgt := 56) swX10_countNow_1 (by rw [c3]; rfl) (by decide) rfl rfl ?_
      refine rz_aload_n G 0 rfl rfl (dq jX10_countNow_s1 4 rfl) ?_
      refine rz_getC G flX10_39 sh0 (t := 2) rfl rfl (dq jX10_countNow_s1 5 rfl) ?_
      refine rz_getI G flX10_147 sh2 rfl (dq jX10_countNow_s1 6 rfl) (fun v4 => ?_)
      exact rz_iret G (dq jX10_countNow_s1 7 rfl)
    · refine rz_br (fun c5 => ?_) (fun c5 => ?_)
      · refine rz_tableIn G 2 (tgt := 64) swX10_countNow_1 (by rw [c5]; rfl) (by decide) rfl rfl ?_
        refine rz_aload_n G 0 rfl rfl (dq jX10_countNow_s1 8 rfl) ?_
        refine rz_getR G flX10_32 sh0 rfl (dq jX10_countNow_s1 9 rfl) (fun u6 => ?_)
        refine rz_gd (fun h_u6 => ?_)
        refine rz_getI G flX10_150 (gd_sh h_u6) rfl (dq jX10_countNow_s1 10 rfl) (fun v7 => ?_)
        exact rz_iret G (dq jX10_countNow_s1 11 rfl)
      · refine rz_br (fun c8 => ?_) (fun c8 => ?_)
        · refine rz_tableIn G 3 (tgt := 72) swX10_countNow_1 (by rw [c8]; rfl) (by decide) rfl rfl ?_
          refine rz_aload_n G 0 rfl rfl (dq jX10_countNow_s1 12 rfl) ?_
          refine rz_getC G flX10_39 sh0 (t := 2) rfl rfl (dq jX10_countNow_s1 13 rfl) ?_
          refine rz_getI G flX10_153 sh2 rfl (dq jX10_countNow_s1 14 rfl) (fun v9 => ?_)
          exact rz_iret G (dq jX10_countNow_s1 15 rfl)
        · refine rz_br (fun c10 => ?_) (fun c10 => ?_)
          · refine rz_tableIn G 4 (tgt := 80) swX10_countNow_1 (by rw [c10]; rfl) (by decide) rfl rfl ?_
            refine rz_aload_n G 0 rfl rfl (dq jX10_countNow_s1 16 rfl) ?_
            refine rz_getC G flX10_39 sh0 (t := 2) rfl rfl (dq jX10_countNow_s1 17 rfl) ?_
            refine rz_getI G flX10_156 sh2 rfl (dq jX10_countNow_s1 18 rfl) (fun v11 => ?_)
            exact rz_iret G (dq jX10_countNow_s1 19 rfl)
          · refine rz_br (fun c12 => ?_) (fun c12 => ?_)
            · refine rz_tableIn G 5 (tgt := 88) swX10_countNow_1 (by rw [c12]; rfl) (by decide) rfl rfl ?_
              refine rz_aload_n G 0 rfl rfl (dq jX10_countNow_s1 20 rfl) ?_
              refine rz_getI G flX10_13 sh0 rfl (dq jX10_countNow_s1 21 rfl) (fun v13 => ?_)
              exact rz_iret G (dq jX10_countNow_s1 22 rfl)
            · refine rz_br (fun c14 => ?_) (fun c14 => ?_)
              · refine rz_tableIn G 6 (tgt := 93) swX10_countNow_1 (by rw [c14]; rfl) (by decide) rfl rfl ?_
                refine rz_aload_n G 0 rfl rfl (dq jX10_countNow_s1 23 rfl) ?_
                refine rz_getI G flX10_20 sh0 rfl (dq jX10_countNow_s1 24 rfl) (fun v15 => ?_)
                exact rz_iret G (dq jX10_countNow_s1 25 rfl)
              · refine rz_br (fun c16 => ?_) (fun c16 => ?_)
                · refine rz_tableIn G 7 (tgt := 98) swX10_countNow_1 (by rw [c16]; rfl) (by decide) rfl rfl ?_
                  refine rz_aload_n G 0 rfl rfl (dq jX10_countNow_s1 26 rfl) ?_
                  refine rz_getI G flX10_23 sh0 rfl (dq jX10_countNow_s1 27 rfl) (fun v17 => ?_)
                  exact rz_iret G (dq jX10_countNow_s1 28 rfl)
                · have n_c1 := ne_toInt (z := 10) (by decide) c1; have n_c3 := ne_toInt (z := 11) (by decide) c3; have n_c5 := ne_toInt (z := 12) (by decide) c5; have n_c8 := ne_toInt (z := 13) (by decide) c8; have n_c10 := ne_toInt (z := 14) (by decide) c10; have n_c12 := ne_toInt (z := 15) (by decide) c12; have n_c14 := ne_toInt (z := 16) (by decide) c14; have n_c16 := ne_toInt (z := 17) (by decide) c16
                  refine rz_tableOut G (tgt := 103) swX10_countNow_1 (by omega) rfl ?_
                  refine rz_aload_n G 0 rfl rfl (dq jX10_countNow_s1 29 rfl) ?_
                  refine rz_getI G flX10_26 sh0 rfl (dq jX10_countNow_s1 30 rfl) (fun v18 => ?_)
                  exact rz_iret G (dq jX10_countNow_s1 31 rfl)
theorem c_X10_mostOf (l : Launch) (x0 : Int32) : Ct l yX10_mostOf cX10_mostOf 1 (some .int) 1 encI [.int x0] (f_X10_mostOf x0) := by
  refine ct_of (own := RX10) (by decide) rfl (Nat.le_of_ble_eq_true rfl) (fun Γ hl G => ?_)
  show Rz Γ 1 (Qm Γ encI 0 0) 0 0 0 [(0, .int x0)] [] _
  unfold f_X10_mostOf
  refine rz_iload_n G 0 rfl rfl (dq jX10_mostOf 0 rfl) ?_
  refine rz_br (fun c1 => ?_) (fun c1 => ?_)
  · refine rz_lookup G (off := 27) (tgt := 28) swX10_mostOf_1 (by decide) (by rw [c1]; decide) rfl ?_
    refine rz_bipush G (v := 99) (dq jX10_mostOf_s1 0 rfl) (by decide) ?_
    exact rz_iret G (dq jX10_mostOf_s1 1 rfl)
  · refine rz_br (fun c2 => ?_) (fun c2 => ?_)
    · refine rz_lookup G (off := 30) (tgt := 31) swX10_mostOf_1 (by decide) (by rw [c2]; decide) rfl ?_
      refine rz_bipush G (v := 60) (dq jX10_mostOf_s1 2 rfl) (by decide) ?_
      exact rz_iret G (dq jX10_mostOf_s1 3 rfl)
    · have n_c1 := ne_toInt (z := 3) (by decide) c1; have n_c2 := ne_toInt (z := 4) (by decide) c2
      refine rz_lookup G (off := 33) (tgt := 34) swX10_mostOf_1 (by decide) (lk_out2 n_c1 n_c2) rfl ?_
      refine rz_bipush G (v := 9) (dq jX10_mostOf_s1 4 rfl) (by decide) ?_
      exact rz_iret G (dq jX10_mostOf_s1 5 rfl)
theorem c_X10_isRule (l : Launch) (x1 : Int32) : Ct l yX10_isRule cX10_isRule 2 (some .boolean) 1 encI [.ref 0, .int x1] (f_X10_isRule x1) := by
  refine ct_of (own := RX10) (by decide) rfl (Nat.le_of_ble_eq_true rfl) (fun Γ hl G => ?_)
  show Rz Γ 2 (Qm Γ encI 0 0) 0 0 0 [(0, .ref 0), (1, .int x1)] [] _
  unfold f_X10_isRule
  refine rz_iload_n G 1 rfl rfl (dq jX10_isRule 0 rfl) ?_
  refine rz_iconst G (v := (-1)) (dq jX10_isRule 1 rfl) rfl ?_
  refine rz_icmp_lt G (tgt := 23) rfl (dq jX10_isRule 2 rfl) (fun c1 => ?_) (fun c1 => ?_)
  · refine rz_iconst G (v := 0) (dq jX10_isRule 11 rfl) rfl ?_
    exact rz_zret0 G (by decide) (dq jX10_isRule 12 rfl)
  · refine rz_iload_n G 1 rfl rfl (dq jX10_isRule 3 rfl) ?_
    refine rz_aload_n G 0 rfl rfl (dq jX10_isRule 4 rfl) ?_
    refine rz_getR G flX10_32 sh0 rfl (dq jX10_isRule 5 rfl) (fun u2 => ?_)
    refine rz_gd (fun h_u2 => ?_)
    refine rz_getC G flX10_135 (gd_sh h_u2) (t := (u2 + 3)) rfl rfl (dq jX10_isRule 6 rfl) ?_
    refine rz_getI G flX10_139 (gd_s3 h_u2) rfl (dq jX10_isRule 7 rfl) (fun v3 => ?_)
    refine rz_icmp_ge G (tgt := 23) rfl (dq jX10_isRule 8 rfl) (fun c4 => ?_) (fun c4 => ?_)
    · refine rz_iconst G (v := 0) (dq jX10_isRule 11 rfl) rfl ?_
      exact rz_zret0 G (by decide) (dq jX10_isRule 12 rfl)
    · refine rz_iconst G (v := 1) (dq jX10_isRule 9 rfl) rfl ?_
      refine rz_goto G (tgt := 24) rfl (dq jX10_isRule 10 rfl) ?_
      exact rz_zret0 G (by decide) (dq jX10_isRule 12 rfl)
theorem c_X10_obey (l : Launch) (x1 : Int32) : Ct l yX10_obey cX10_obey 2 (some .boolean) 4 encI [.ref 0, .int x1] (f_X10_obey x1) := by
  refine ct_of (own := RX10) (by decide) rfl (Nat.le_of_ble_eq_true rfl) (fun Γ hl G => ?_)
  show Rz Γ 2 (Qm Γ encI 0 0) 0 0 0 [(0, .ref 0), (1, .int x1)] [] _
  unfold f_X10_obey
  refine rz_aload_n G 0 rfl rfl (dq jX10_obey 0 rfl) ?_
  refine rz_iload_n G 1 rfl rfl (dq jX10_obey 1 rfl) ?_
  refine rz_callVi G (st := []) (c_X10_isRule (cLn Γ) x1) lkX10_174 sh0 rfl rfl rfl (Nat.le_of_ble_eq_true rfl) (Nat.le_of_ble_eq_true rfl) (dq jX10_obey 2 rfl) rfl (fun r1 => ?_)
  refine rz_if_ne G (tgt := 20) rfl (dq jX10_obey 3 rfl) (fun c2 => ?_) (fun c2 => ?_)
  · refine rz_aload_n G 0 rfl rfl (dq jX10_obey 4 rfl) ?_
    refine rz_dup G rfl (dq jX10_obey 5 rfl) ?_
    refine rz_getI G flX10_23 sh0 rfl (dq jX10_obey 6 rfl) (fun v3 => ?_)
    refine rz_iconst G (v := 1) (dq jX10_obey 7 rfl) rfl ?_
    refine rz_iadd G (dq jX10_obey 8 rfl) ?_
    refine rz_putI G flX10_23 sh0 rfl (dq jX10_obey 9 rfl) ?_
    refine rz_iconst G (v := 0) (dq jX10_obey 10 rfl) rfl ?_
    exact rz_zret0 G (by decide) (dq jX10_obey 11 rfl)
  · refine rz_aload_n G 0 rfl rfl (dq jX10_obey 12 rfl) ?_
    refine rz_getC G flX10_39 sh0 (t := 2) rfl rfl (dq jX10_obey 13 rfl) ?_
    refine rz_iconst G (v := 3) (dq jX10_obey 14 rfl) rfl ?_
    refine rz_iconst G (v := 0) (dq jX10_obey 15 rfl) rfl ?_
    refine rz_iload_n G 1 rfl rfl (dq jX10_obey 16 rfl) ?_
    refine rz_callVi G (st := []) (c_X7_act (cLn Γ) 2 3 0 x1) lkX10_170 sh2 rfl rfl rfl (Nat.le_of_ble_eq_true rfl) (Nat.le_of_ble_eq_true rfl) (dq jX10_obey 17 rfl) rfl (fun r4 => ?_)
    refine rz_pop G rfl (dq jX10_obey 18 rfl) ?_
    refine rz_iconst G (v := 1) (dq jX10_obey 19 rfl) rfl ?_
    exact rz_zret0 G (by decide) (dq jX10_obey 20 rfl)
theorem z_X10_last_b12 {Γ : Cx} (G : GG Γ RX10 cX10_last 2 (some .boolean) 4 0 0)  : Rz Γ 2 (Qm Γ encI 0 0) 0 0 12 [(0, .ref 0)] [] (f_X10_last_b12 ) := by
  unfold f_X10_last_b12
  refine rz_aload_n G 0 rfl rfl (dq jX10_last 6 rfl) ?_
  refine rz_dup G rfl (dq jX10_last 7 rfl) ?_
  refine rz_getI G flX10_23 sh0 rfl (dq jX10_last 8 rfl) (fun v1 => ?_)
  refine rz_iconst G (v := 1) (dq jX10_last 9 rfl) rfl ?_
  refine rz_iadd G (dq jX10_last 10 rfl) ?_
  refine rz_putI G flX10_23 sh0 rfl (dq jX10_last 11 rfl) ?_
  refine rz_iconst G (v := 0) (dq jX10_last 12 rfl) rfl ?_
  exact rz_zret0 G (by decide) (dq jX10_last 13 rfl)
theorem c_X10_last (l : Launch) (x1 : Int32) : Ct l yX10_last cX10_last 2 (some .boolean) 4 encI [.ref 0, .int x1] (f_X10_last x1) := by
  refine ct_of (own := RX10) (by decide) rfl (Nat.le_of_ble_eq_true rfl) (fun Γ hl G => ?_)
  show Rz Γ 2 (Qm Γ encI 0 0) 0 0 0 [(0, .ref 0), (1, .int x1)] [] _
  unfold f_X10_last
  refine rz_iload_n G 1 rfl rfl (dq jX10_last 0 rfl) ?_
  refine rz_iconst G (v := 1) (dq jX10_last 1 rfl) rfl ?_
  refine rz_icmp_lt G (tgt := 12) rfl (dq jX10_last 2 rfl) (fun c1 => ?_) (fun c1 => ?_)
  · exact rz_lv [0] rfl (z_X10_last_b12 G)
  · refine rz_iload_n G 1 rfl rfl (dq jX10_last 3 rfl) ?_
    refine rz_sipush G (v := 600) (dq jX10_last 4 rfl) (by decide) ?_
    refine rz_icmp_le G (tgt := 24) rfl (dq jX10_last 5 rfl) (fun c2 => ?_) (fun c2 => ?_)
    · refine rz_aload_n G 0 rfl rfl (dq jX10_last 14 rfl) ?_
      refine rz_getC G flX10_39 sh0 (t := 2) rfl rfl (dq jX10_last 15 rfl) ?_
      refine rz_iconst G (v := 4) (dq jX10_last 16 rfl) rfl ?_
      refine rz_iconst G (v := 0) (dq jX10_last 17 rfl) rfl ?_
      refine rz_iload_n G 1 rfl rfl (dq jX10_last 18 rfl) ?_
      refine rz_callVi G (st := []) (c_X7_act (cLn Γ) 2 4 0 x1) lkX10_170 sh2 rfl rfl rfl (Nat.le_of_ble_eq_true rfl) (Nat.le_of_ble_eq_true rfl) (dq jX10_last 19 rfl) rfl (fun r3 => ?_)
      refine rz_pop G rfl (dq jX10_last 20 rfl) ?_
      refine rz_iconst G (v := 1) (dq jX10_last 21 rfl) rfl ?_
      exact rz_zret0 G (by decide) (dq jX10_last 22 rfl)
    · exact rz_lv [0] rfl (z_X10_last_b12 G)
theorem c_X10_undo (l : Launch)  : Ct l yX10_undo cX10_undo 1 (some .int) 3 encI [.ref 0] (f_X10_undo ) := by
  refine ct_of (own := RX10) (by decide) rfl (Nat.le_of_ble_eq_true rfl) (fun Γ hl G => ?_)
  show Rz Γ 1 (Qm Γ encI 0 0) 0 0 0 [(0, .ref 0)] [] _
  unfold f_X10_undo
  refine rz_aload_n G 0 rfl rfl (dq jX10_undo 0 rfl) ?_
  refine rz_getC G flX10_39 sh0 (t := 2) rfl rfl (dq jX10_undo 1 rfl) ?_
  refine rz_callVi G (st := []) (c_X7_takeBack (cLn Γ) 2) lkX10_177 sh2 rfl rfl rfl (Nat.le_of_ble_eq_true rfl) (Nat.le_of_ble_eq_true rfl) (dq jX10_undo 2 rfl) rfl (fun r1 => ?_)
  refine rz_if_eq G (tgt := 20) rfl (dq jX10_undo 3 rfl) (fun c2 => ?_) (fun c2 => ?_)
  · refine rz_iconst G (v := (-1)) (dq jX10_undo 8 rfl) rfl ?_
    exact rz_iret G (dq jX10_undo 9 rfl)
  · refine rz_aload_n G 0 rfl rfl (dq jX10_undo 4 rfl) ?_
    refine rz_getC G flX10_39 sh0 (t := 2) rfl rfl (dq jX10_undo 5 rfl) ?_
    refine rz_getI G flX10_153 sh2 rfl (dq jX10_undo 6 rfl) (fun v3 => ?_)
    refine rz_goto G (tgt := 21) rfl (dq jX10_undo 7 rfl) ?_
    exact rz_iret G (dq jX10_undo 9 rfl)
theorem c_X10_worthOf (l : Launch) (q0 : Nat) (x1 : Int32) : Ct l yX10_worthOf cX10_worthOf 2 (some .int) 1 encI [.ref q0, .int x1] (f_X10_worthOf q0 x1) := by
  refine ct_of (own := RX10) (by decide) rfl (Nat.le_of_ble_eq_true rfl) (fun Γ hl G => ?_)
  show Rz Γ 2 (Qm Γ encI 0 0) 0 0 0 [(0, .ref q0), (1, .int x1)] [] _
  unfold f_X10_worthOf
  refine rz_gd (fun h_q0 => ?_)
  refine rz_iload_n G 1 rfl rfl (dq jX10_worthOf 0 rfl) ?_
  refine rz_br (fun c1 => ?_) (fun c1 => ?_)
  · refine rz_lookup G (off := 27) (tgt := 28) swX10_worthOf_1 (by decide) (by rw [c1]; decide) rfl ?_
    refine rz_aload_n G 0 rfl rfl (dq jX10_worthOf_s1 0 rfl) ?_
    refine rz_getI G flX10_193 (fl_sh h_q0) rfl (dq jX10_worthOf_s1 1 rfl) (fun v2 => ?_)
    exact rz_iret G (dq jX10_worthOf_s1 2 rfl)
  · refine rz_br (fun c3 => ?_) (fun c3 => ?_)
    · refine rz_lookup G (off := 32) (tgt := 33) swX10_worthOf_1 (by decide) (by rw [c3]; decide) rfl ?_
      refine rz_aload_n G 0 rfl rfl (dq jX10_worthOf_s1 3 rfl) ?_
      refine rz_getI G flX10_196 (fl_sh h_q0) rfl (dq jX10_worthOf_s1 4 rfl) (fun v4 => ?_)
      exact rz_iret G (dq jX10_worthOf_s1 5 rfl)
    · have n_c1 := ne_toInt (z := 0) (by decide) c1; have n_c3 := ne_toInt (z := 1) (by decide) c3
      refine rz_lookup G (off := 37) (tgt := 38) swX10_worthOf_1 (by decide) (lk_out2 n_c1 n_c3) rfl ?_
      refine rz_aload_n G 0 rfl rfl (dq jX10_worthOf_s1 6 rfl) ?_
      refine rz_getI G flX10_202 (fl_sh h_q0) rfl (dq jX10_worthOf_s1 7 rfl) (fun v5 => ?_)
      refine rz_ineg G (dq jX10_worthOf_s1 8 rfl) ?_
      exact rz_iret G (dq jX10_worthOf_s1 9 rfl)
theorem c_X10_prepare (l : Launch)  : Ct l yX10_prepare cX10_prepare 1 none 4 encV [.ref 0] (f_X10_prepare ) := by
  refine ct_of (own := RX10) (by decide) rfl (Nat.le_of_ble_eq_true rfl) (fun Γ hl G => ?_)
  show Rz Γ 1 (Qm Γ encV 0 0) 0 0 0 [(0, .ref 0)] [] _
  unfold f_X10_prepare
  refine rz_aload_n G 0 rfl rfl (dq jX10_prepare 0 rfl) ?_
  refine rz_getC G flX10_60 sh0 (t := 17) rfl rfl (dq jX10_prepare 1 rfl) ?_
  refine rz_aload_n G 0 rfl rfl (dq jX10_prepare 2 rfl) ?_
  refine rz_getR G flX10_32 sh0 rfl (dq jX10_prepare 3 rfl) (fun u1 => ?_)
  refine rz_gd (fun h_u1 => ?_)
  refine rz_aload_n G 0 rfl rfl (dq jX10_prepare 4 rfl) ?_
  refine rz_getC G flX10_39 sh0 (t := 2) rfl rfl (dq jX10_prepare 5 rfl) ?_
  refine rz_callVv G (st := []) (c_X4_begin (cLn Γ) u1 2) lkX10_397 sh17 rfl rfl rfl (Nat.le_of_ble_eq_true rfl) (Nat.le_of_ble_eq_true rfl) (dq jX10_prepare 6 rfl) rfl (fun _ => ?_)
  exact rz_vret G (dq jX10_prepare 7 rfl)
theorem c_X10_hurtAmong (l : Launch) (x1 : Int32) : Ct l yX10_hurtAmong cX10_hurtAmong 2 (some .boolean) 6 encI [.ref 0, .int x1] (f_X10_hurtAmong x1) := by
  refine ct_of (own := RX10) (by decide) rfl (Nat.le_of_ble_eq_true rfl) (fun Γ hl G => ?_)
  show Rz Γ 2 (Qm Γ encI 0 0) 0 0 0 [(0, .ref 0), (1, .int x1)] [] _
  unfold f_X10_hurtAmong
  refine rz_aload_n G 0 rfl rfl (dq jX10_hurtAmong 0 rfl) ?_
  refine rz_callVv G (st := []) (c_X10_prepare (cLn Γ)) lkX10_217 sh0 rfl rfl rfl (Nat.le_of_ble_eq_true rfl) (Nat.le_of_ble_eq_true rfl) (dq jX10_hurtAmong 1 rfl) rfl (fun _ => ?_)
  refine rz_aload_n G 0 rfl rfl (dq jX10_hurtAmong 2 rfl) ?_
  refine rz_getC G flX10_60 sh0 (t := 17) rfl rfl (dq jX10_hurtAmong 3 rfl) ?_
  refine rz_iload_n G 1 rfl rfl (dq jX10_hurtAmong 4 rfl) ?_
  refine rz_callVv G (st := []) (c_X4_keepOnly (cLn Γ) x1) lkX10_290 sh17 rfl rfl rfl (Nat.le_of_ble_eq_true rfl) (Nat.le_of_ble_eq_true rfl) (dq jX10_hurtAmong 5 rfl) rfl (fun _ => ?_)
  refine rz_aload_n G 0 rfl rfl (dq jX10_hurtAmong 6 rfl) ?_
  refine rz_getC G flX10_60 sh0 (t := 17) rfl rfl (dq jX10_hurtAmong 7 rfl) ?_
  refine rz_iconst G (v := 0) (dq jX10_hurtAmong 8 rfl) rfl ?_
  refine rz_aload_n G 0 rfl rfl (dq jX10_hurtAmong 9 rfl) ?_
  refine rz_getC G flX10_39 sh0 (t := 2) rfl rfl (dq jX10_hurtAmong 10 rfl) ?_
  refine rz_getI G flX10_147 sh2 rfl (dq jX10_hurtAmong 11 rfl) (fun v1 => ?_)
  refine rz_callVv G (st := []) (c_X4_go (cLn Γ) 0 v1) lkX10_220 sh17 rfl rfl rfl (Nat.le_of_ble_eq_true rfl) (Nat.le_of_ble_eq_true rfl) (dq jX10_hurtAmong 12 rfl) rfl (fun _ => ?_)
  refine rz_aload_n G 0 rfl rfl (dq jX10_hurtAmong 13 rfl) ?_
  refine rz_getC G flX10_60 sh0 (t := 17) rfl rfl (dq jX10_hurtAmong 14 rfl) ?_
  refine rz_getI G flX10_250 sh17 rfl (dq jX10_hurtAmong 15 rfl) (fun v2 => ?_)
  refine rz_iconst G (v := (-1)) (dq jX10_hurtAmong 16 rfl) rfl ?_
  refine rz_icmp_eq G (tgt := 42) rfl (dq jX10_hurtAmong 17 rfl) (fun c3 => ?_) (fun c3 => ?_)
  · refine rz_iconst G (v := 0) (dq jX10_hurtAmong 20 rfl) rfl ?_
    exact rz_zret0 G (by decide) (dq jX10_hurtAmong 21 rfl)
  · refine rz_iconst G (v := 1) (dq jX10_hurtAmong 18 rfl) rfl ?_
    refine rz_goto G (tgt := 43) rfl (dq jX10_hurtAmong 19 rfl) ?_
    exact rz_zret0 G (by decide) (dq jX10_hurtAmong 21 rfl)
theorem c_X10_pairBit (l : Launch) (x0 : Int32) (x1 : Int32) : Ct l yX10_pairBit cX10_pairBit 2 (some .int) 1 encI [.int x0, .int x1] (f_X10_pairBit x0 x1) := by
  refine ct_of (own := RX10) (by decide) rfl (Nat.le_of_ble_eq_true rfl) (fun Γ hl G => ?_)
  show Rz Γ 2 (Qm Γ encI 0 0) 0 0 0 [(0, .int x0), (1, .int x1)] [] _
  unfold f_X10_pairBit
  refine rz_iconst G (v := 1) (dq jX10_pairBit 0 rfl) rfl ?_
  refine rz_iconst G (v := 4) (dq jX10_pairBit 1 rfl) rfl ?_
  refine rz_iload_n G 0 rfl rfl (dq jX10_pairBit 2 rfl) ?_
  refine rz_imul G (dq jX10_pairBit 3 rfl) ?_
  refine rz_iload_n G 1 rfl rfl (dq jX10_pairBit 4 rfl) ?_
  refine rz_iadd G (dq jX10_pairBit 5 rfl) ?_
  refine rz_ishl G (dq jX10_pairBit 6 rfl) ?_
  exact rz_iret G (dq jX10_pairBit 7 rfl)
theorem z_X10_pairs_b52 {Γ : Cx} (G : GG Γ RX10 cX10_pairs 4 (some .int) 7 0 0) (k4 : Int32 → Int32 → Sg → Option (Int32 × Sg)) (hk4 : ∀ (x1 : Int32) (x2 : Int32), Rz Γ 4 (Qm Γ encI 0 0) 0 0 4 [(0, .ref 0), (1, .int x1), (2, .int x2)] [] (k4 x1 x2)) (k19 : Int32 → Int32 → Int32 → Sg → Option (Int32 × Sg)) (hk19 : ∀ (x1 : Int32) (x2 : Int32) (x3 : Int32), Rz Γ 4 (Qm Γ encI 0 0) 0 0 19 [(0, .ref 0), (1, .int x1), (2, .int x2), (3, .int x3)] [] (k19 x1 x2 x3)) (x1 : Int32) (x2 : Int32) (x3 : Int32) : Rz Γ 4 (Qm Γ encI 0 0) 0 0 52 [(0, .ref 0), (1, .int x1), (2, .int x2), (3, .int x3)] [] (f_X10_pairs_b52 k4 k19 x1 x2 x3) := by
  unfold f_X10_pairs_b52
  refine rz_iinc G 3 (v := x3 + 1) (lv' := [(3, .int (x3 + 1)), (0, .ref 0), (1, .int x1), (2, .int x2)]) rfl (congrArg (HAdd.hAdd _) (by decide)) (Nat.le_of_ble_eq_true rfl) rfl (dq jX10_pairs 34 rfl) ?_
  refine rz_goto G (tgt := 19) rfl (dq jX10_pairs 35 rfl) ?_
  exact rz_lv [1, 2, 3, 0] rfl (hk19 x1 x2 (x3 + 1))
theorem z_X10_pairs_b58 {Γ : Cx} (G : GG Γ RX10 cX10_pairs 4 (some .int) 7 0 0) (k4 : Int32 → Int32 → Sg → Option (Int32 × Sg)) (hk4 : ∀ (x1 : Int32) (x2 : Int32), Rz Γ 4 (Qm Γ encI 0 0) 0 0 4 [(0, .ref 0), (1, .int x1), (2, .int x2)] [] (k4 x1 x2)) (x1 : Int32) (x2 : Int32) : Rz Γ 4 (Qm Γ encI 0 0) 0 0 58 [(0, .ref 0), (1, .int x1), (2, .int x2)] [] (f_X10_pairs_b58 k4 x1 x2) := by
  unfold f_X10_pairs_b58
  refine rz_iinc G 2 (v := x2 + 1) (lv' := [(2, .int (x2 + 1)), (0, .ref 0), (1, .int x1)]) rfl (congrArg (HAdd.hAdd _) (by decide)) (Nat.le_of_ble_eq_true rfl) rfl (dq jX10_pairs 36 rfl) ?_
  refine rz_goto G (tgt := 4) rfl (dq jX10_pairs 37 rfl) ?_
  exact rz_lv [1, 2, 0] rfl (hk4 x1 (x2 + 1))
theorem z_X10_pairs_b19 {Γ : Cx} (G : GG Γ RX10 cX10_pairs 4 (some .int) 7 0 0) (k4 : Int32 → Int32 → Sg → Option (Int32 × Sg)) (hk4 : ∀ (x1 : Int32) (x2 : Int32), Rz Γ 4 (Qm Γ encI 0 0) 0 0 4 [(0, .ref 0), (1, .int x1), (2, .int x2)] [] (k4 x1 x2)) : ∀ (fu : Nat) (x1 : Int32) (x2 : Int32) (x3 : Int32), Rz Γ 4 (Qm Γ encI 0 0) 0 0 19 [(0, .ref 0), (1, .int x1), (2, .int x2), (3, .int x3)] [] (f_X10_pairs_b19 k4 fu x1 x2 x3) := by
  intro fu
  induction fu with
  | zero => intro _ _ _; exact rz_none
  | succ fu ih =>
    intro x1 x2 x3
    rw [f_X10_pairs_b19]
    refine rz_iload_n G 3 rfl rfl (dq jX10_pairs 13 rfl) ?_
    refine rz_aload_n G 0 rfl rfl (dq jX10_pairs 14 rfl) ?_
    refine rz_getC G flX10_39 sh0 (t := 2) rfl rfl (dq jX10_pairs 15 rfl) ?_
    refine rz_getI G flX10_283 sh2 rfl (dq jX10_pairs 16 rfl) (fun v1 => ?_)
    refine rz_icmp_ge G (tgt := 58) rfl (dq jX10_pairs 17 rfl) (fun c2 => ?_) (fun c2 => ?_)
    · exact rz_lv [0, 1, 2] rfl (z_X10_pairs_b58 G k4 hk4 x1 x2)
    · refine rz_aload_n G 0 rfl rfl (dq jX10_pairs 18 rfl) ?_
      refine rz_iconst G (v := 1) (dq jX10_pairs 19 rfl) rfl ?_
      refine rz_iload_n G 2 rfl rfl (dq jX10_pairs 20 rfl) ?_
      refine rz_ishl G (dq jX10_pairs 21 rfl) ?_
      refine rz_iconst G (v := 1) (dq jX10_pairs 22 rfl) rfl ?_
      refine rz_iload_n G 3 rfl rfl (dq jX10_pairs 23 rfl) ?_
      refine rz_ishl G (dq jX10_pairs 24 rfl) ?_
      refine rz_ior G (dq jX10_pairs 25 rfl) ?_
      refine rz_callVi G (st := []) (c_X10_hurtAmong (cLn Γ) (((1 : Int32) <<< (x2 &&& 31)) ||| ((1 : Int32) <<< (x3 &&& 31)))) lkX10_284 sh0 rfl rfl rfl (Nat.le_of_ble_eq_true rfl) (Nat.le_of_ble_eq_true rfl) (dq jX10_pairs 26 rfl) rfl (fun r3 => ?_)
      refine rz_if_eq G (tgt := 52) rfl (dq jX10_pairs 27 rfl) (fun c4 => ?_) (fun c4 => ?_)
      · exact rz_lv [0, 1, 2, 3] rfl (z_X10_pairs_b52 G k4 hk4 (f_X10_pairs_b19 k4 fu) ih x1 x2 x3)
      · refine rz_iload_n G 1 rfl rfl (dq jX10_pairs 28 rfl) ?_
        refine rz_iload_n G 2 rfl rfl (dq jX10_pairs 29 rfl) ?_
        refine rz_iload_n G 3 rfl rfl (dq jX10_pairs 30 rfl) ?_
        refine rz_callSi G (st := [.int x1]) (c_X10_pairBit (cLn Γ) x2 x3) lkX10_287 rfl (Nat.le_of_ble_eq_true rfl) (Nat.le_of_ble_eq_true rfl) (dq jX10_pairs 31 rfl) rfl (fun r5 => ?_)
        refine rz_ior G (dq jX10_pairs 32 rfl) ?_
        refine rz_istore_n G (lv' := [(1, .int (x1 ||| r5)), (0, .ref 0), (2, .int x2), (3, .int x3)]) rfl (Nat.le_of_ble_eq_true rfl) rfl (dq jX10_pairs 33 rfl) ?_
        exact rz_lv [1, 0, 2, 3] rfl (z_X10_pairs_b52 G k4 hk4 (f_X10_pairs_b19 k4 fu) ih (x1 ||| r5) x2 x3)
theorem z_X10_pairs_b4 {Γ : Cx} (G : GG Γ RX10 cX10_pairs 4 (some .int) 7 0 0) : ∀ (fu : Nat) (x1 : Int32) (x2 : Int32), Rz Γ 4 (Qm Γ encI 0 0) 0 0 4 [(0, .ref 0), (1, .int x1), (2, .int x2)] [] (f_X10_pairs_b4 fu x1 x2) := by
  intro fu
  induction fu with
  | zero => intro _ _; exact rz_none
  | succ fu ih =>
    intro x1 x2
    rw [f_X10_pairs_b4]
    refine rz_iload_n G 2 rfl rfl (dq jX10_pairs 4 rfl) ?_
    refine rz_aload_n G 0 rfl rfl (dq jX10_pairs 5 rfl) ?_
    refine rz_getC G flX10_39 sh0 (t := 2) rfl rfl (dq jX10_pairs 6 rfl) ?_
    refine rz_getI G flX10_283 sh2 rfl (dq jX10_pairs 7 rfl) (fun v1 => ?_)
    refine rz_icmp_ge G (tgt := 64) rfl (dq jX10_pairs 8 rfl) (fun c2 => ?_) (fun c2 => ?_)
    · refine rz_iload_n G 1 rfl rfl (dq jX10_pairs 38 rfl) ?_
      exact rz_iret G (dq jX10_pairs 39 rfl)
    · refine rz_iload_n G 2 rfl rfl (dq jX10_pairs 9 rfl) ?_
      refine rz_iconst G (v := 1) (dq jX10_pairs 10 rfl) rfl ?_
      refine rz_iadd G (dq jX10_pairs 11 rfl) ?_
      refine rz_istore_n G (lv' := [(3, .int (x2 + 1)), (0, .ref 0), (1, .int x1), (2, .int x2)]) rfl (Nat.le_of_ble_eq_true rfl) rfl (dq jX10_pairs 12 rfl) ?_
      exact rz_lv [1, 2, 3, 0] rfl (z_X10_pairs_b19 G (f_X10_pairs_b4 fu) ih FU x1 x2 (x2 + 1))
theorem c_X10_pairs (l : Launch)  : Ct l yX10_pairs cX10_pairs 4 (some .int) 7 encI [.ref 0] (f_X10_pairs ) := by
  refine ct_of (own := RX10) (by decide) rfl (Nat.le_of_ble_eq_true rfl) (fun Γ hl G => ?_)
  show Rz Γ 4 (Qm Γ encI 0 0) 0 0 0 [(0, .ref 0)] [] _
  unfold f_X10_pairs
  refine rz_iconst G (v := 0) (dq jX10_pairs 0 rfl) rfl ?_
  refine rz_istore_n G (lv' := [(1, .int 0), (0, .ref 0)]) rfl (Nat.le_of_ble_eq_true rfl) rfl (dq jX10_pairs 1 rfl) ?_
  refine rz_iconst G (v := 0) (dq jX10_pairs 2 rfl) rfl ?_
  refine rz_istore_n G (lv' := [(2, .int 0), (1, .int 0), (0, .ref 0)]) rfl (Nat.le_of_ble_eq_true rfl) rfl (dq jX10_pairs 3 rfl) ?_
  exact rz_lv [2, 1, 0] rfl (z_X10_pairs_b4 G FU 0 0)
theorem z_X10_lawHolds_b86 {Γ : Cx} (G : GG Γ RX10 cX10_lawHolds 7 (some .boolean) 2 0 0) (k2 : Int32 → Int32 → Int32 → Sg → Option (Int32 × Sg)) (hk2 : ∀ (x1 : Int32) (x2 : Int32) (x3 : Int32), Rz Γ 7 (Qm Γ encI 0 0) 0 0 2 [(0, .ref 0), (1, .int x1), (2, .int x2), (3, .int x3)] [] (k2 x1 x2 x3)) (k18 : Int32 → Int32 → Int32 → Int32 → Sg → Option (Int32 × Sg)) (hk18 : ∀ (x1 : Int32) (x2 : Int32) (x3 : Int32) (x4 : Int32), Rz Γ 7 (Qm Γ encI 0 0) 0 0 18 [(0, .ref 0), (1, .int x1), (2, .int x2), (3, .int x3), (4, .int x4)] [] (k18 x1 x2 x3 x4)) (x1 : Int32) (x2 : Int32) (x3 : Int32) (x4 : Int32) (xs0 : Int32) (xs1 : Int32) : Rz Γ 7 (Qm Γ encI 0 0) 0 0 86 [(0, .ref 0), (1, .int x1), (2, .int x2), (3, .int x3), (4, .int x4)] [.int xs0, .int xs1] (f_X10_lawHolds_b86 k2 k18 x1 x2 x3 x4 xs0 xs1) := by
  unfold f_X10_lawHolds_b86
  refine rz_icmp_eq G (tgt := 91) rfl (dq jX10_lawHolds 46 rfl) (fun c1 => ?_) (fun c1 => ?_)
  · refine rz_iinc G 4 (v := x4 + 1) (lv' := [(4, .int (x4 + 1)), (0, .ref 0), (1, .int x1), (2, .int x2), (3, .int x3)]) rfl (congrArg (HAdd.hAdd _) (by decide)) (Nat.le_of_ble_eq_true rfl) rfl (dq jX10_lawHolds 49 rfl) ?_
    refine rz_goto G (tgt := 18) rfl (dq jX10_lawHolds 50 rfl) ?_
    exact rz_lv [1, 2, 3, 4, 0] rfl (hk18 x1 x2 x3 (x4 + 1))
  · refine rz_iconst G (v := 0) (dq jX10_lawHolds 47 rfl) rfl ?_
    exact rz_zret0 G (by decide) (dq jX10_lawHolds 48 rfl)
theorem z_X10_lawHolds_b71 {Γ : Cx} (G : GG Γ RX10 cX10_lawHolds 7 (some .boolean) 2 0 0) (k2 : Int32 → Int32 → Int32 → Sg → Option (Int32 × Sg)) (hk2 : ∀ (x1 : Int32) (x2 : Int32) (x3 : Int32), Rz Γ 7 (Qm Γ encI 0 0) 0 0 2 [(0, .ref 0), (1, .int x1), (2, .int x2), (3, .int x3)] [] (k2 x1 x2 x3)) (k18 : Int32 → Int32 → Int32 → Int32 → Sg → Option (Int32 × Sg)) (hk18 : ∀ (x1 : Int32) (x2 : Int32) (x3 : Int32) (x4 : Int32), Rz Γ 7 (Qm Γ encI 0 0) 0 0 18 [(0, .ref 0), (1, .int x1), (2, .int x2), (3, .int x3), (4, .int x4)] [] (k18 x1 x2 x3 x4)) (x1 : Int32) (x2 : Int32) (x3 : Int32) (x4 : Int32) (x5 : Int32) (xs0 : Int32) : Rz Γ 7 (Qm Γ encI 0 0) 0 0 71 [(0, .ref 0), (1, .int x1), (2, .int x2), (3, .int x3), (4, .int x4), (5, .int x5)] [.int xs0] (f_X10_lawHolds_b71 k2 k18 x1 x2 x3 x4 x5 xs0) := by
  unfold f_X10_lawHolds_b71
  refine rz_istore G (lv' := [(6, .int xs0), (0, .ref 0), (1, .int x1), (2, .int x2), (3, .int x3), (4, .int x4), (5, .int x5)]) (Nat.le_of_ble_eq_true rfl) rfl (dq jX10_lawHolds 38 rfl) ?_
  refine rz_iload G 0 rfl (dq jX10_lawHolds 39 rfl) ?_
  refine rz_iload G 6 rfl (dq jX10_lawHolds 40 rfl) ?_
  refine rz_iload_n G 2 rfl rfl (dq jX10_lawHolds 41 rfl) ?_
  refine rz_icmp_lt G (tgt := 85) rfl (dq jX10_lawHolds 42 rfl) (fun c1 => ?_) (fun c1 => ?_)
  · refine rz_iconst G (v := 0) (dq jX10_lawHolds 45 rfl) rfl ?_
    exact rz_lv [1, 2, 3, 4, 5] rfl (z_X10_lawHolds_b86 G k2 hk2 k18 hk18 x1 x2 x3 x4 0 xs0)
  · refine rz_iconst G (v := 1) (dq jX10_lawHolds 43 rfl) rfl ?_
    refine rz_goto G (tgt := 86) rfl (dq jX10_lawHolds 44 rfl) ?_
    exact rz_lv [1, 2, 3, 4, 5] rfl (z_X10_lawHolds_b86 G k2 hk2 k18 hk18 x1 x2 x3 x4 1 xs0)
theorem z_X10_lawHolds_b97 {Γ : Cx} (G : GG Γ RX10 cX10_lawHolds 7 (some .boolean) 2 0 0) (k2 : Int32 → Int32 → Int32 → Sg → Option (Int32 × Sg)) (hk2 : ∀ (x1 : Int32) (x2 : Int32) (x3 : Int32), Rz Γ 7 (Qm Γ encI 0 0) 0 0 2 [(0, .ref 0), (1, .int x1), (2, .int x2), (3, .int x3)] [] (k2 x1 x2 x3)) (x1 : Int32) (x2 : Int32) (x3 : Int32) : Rz Γ 7 (Qm Γ encI 0 0) 0 0 97 [(0, .ref 0), (1, .int x1), (2, .int x2), (3, .int x3)] [] (f_X10_lawHolds_b97 k2 x1 x2 x3) := by
  unfold f_X10_lawHolds_b97
  refine rz_iinc G 3 (v := x3 + 1) (lv' := [(3, .int (x3 + 1)), (0, .ref 0), (1, .int x1), (2, .int x2)]) rfl (congrArg (HAdd.hAdd _) (by decide)) (Nat.le_of_ble_eq_true rfl) rfl (dq jX10_lawHolds 51 rfl) ?_
  refine rz_goto G (tgt := 2) rfl (dq jX10_lawHolds 52 rfl) ?_
  exact rz_lv [1, 2, 3, 0] rfl (hk2 x1 x2 (x3 + 1))
theorem z_X10_lawHolds_b18 {Γ : Cx} (G : GG Γ RX10 cX10_lawHolds 7 (some .boolean) 2 0 0) (k2 : Int32 → Int32 → Int32 → Sg → Option (Int32 × Sg)) (hk2 : ∀ (x1 : Int32) (x2 : Int32) (x3 : Int32), Rz Γ 7 (Qm Γ encI 0 0) 0 0 2 [(0, .ref 0), (1, .int x1), (2, .int x2), (3, .int x3)] [] (k2 x1 x2 x3)) : ∀ (fu : Nat) (x1 : Int32) (x2 : Int32) (x3 : Int32) (x4 : Int32), Rz Γ 7 (Qm Γ encI 0 0) 0 0 18 [(0, .ref 0), (1, .int x1), (2, .int x2), (3, .int x3), (4, .int x4)] [] (f_X10_lawHolds_b18 k2 fu x1 x2 x3 x4) := by
  intro fu
  induction fu with
  | zero => intro _ _ _ _; exact rz_none
  | succ fu ih =>
    intro x1 x2 x3 x4
    rw [f_X10_lawHolds_b18]
    refine rz_iload G 4 rfl (dq jX10_lawHolds 11 rfl) ?_
    refine rz_aload_n G 0 rfl rfl (dq jX10_lawHolds 12 rfl) ?_
    refine rz_getC G flX10_39 sh0 (t := 2) rfl rfl (dq jX10_lawHolds 13 rfl) ?_
    refine rz_getI G flX10_283 sh2 rfl (dq jX10_lawHolds 14 rfl) (fun v1 => ?_)
    refine rz_icmp_ge G (tgt := 97) rfl (dq jX10_lawHolds 15 rfl) (fun c2 => ?_) (fun c2 => ?_)
    · exact rz_lv [0, 1, 2, 3] rfl (z_X10_lawHolds_b97 G k2 hk2 x1 x2 x3)
    · refine rz_aload_n G 0 rfl rfl (dq jX10_lawHolds 16 rfl) ?_
      refine rz_getC G flX10_39 sh0 (t := 2) rfl rfl (dq jX10_lawHolds 17 rfl) ?_
      refine rz_iload_n G 3 rfl rfl (dq jX10_lawHolds 18 rfl) ?_
      refine rz_iconst G (v := 0) (dq jX10_lawHolds 19 rfl) rfl ?_
      refine rz_callVi G (st := []) (c_X7_told (cLn Γ) 2 x3 0) lkX10_163 sh2 rfl rfl rfl (Nat.le_of_ble_eq_true rfl) (Nat.le_of_ble_eq_true rfl) (dq jX10_lawHolds 20 rfl) rfl (fun r3 => ?_)
      refine rz_aload_n G 0 rfl rfl (dq jX10_lawHolds 21 rfl) ?_
      refine rz_getC G flX10_39 sh0 (t := 2) rfl rfl (dq jX10_lawHolds 22 rfl) ?_
      refine rz_iload G 4 rfl (dq jX10_lawHolds 23 rfl) ?_
      refine rz_iconst G (v := 0) (dq jX10_lawHolds 24 rfl) rfl ?_
      refine rz_callVi G (st := [.int r3]) (c_X7_told (cLn Γ) 2 x4 0) lkX10_163 sh2 rfl rfl rfl (Nat.le_of_ble_eq_true rfl) (Nat.le_of_ble_eq_true rfl) (dq jX10_lawHolds 25 rfl) rfl (fun r4 => ?_)
      refine rz_isub G (dq jX10_lawHolds 26 rfl) ?_
      refine rz_mabs G mtX10_301 (by decide) (Nat.le_of_ble_eq_true rfl) (dq jX10_lawHolds 27 rfl) ?_
      refine rz_lti (fun w5 e_w5 => ?_)
      refine rz_istore G (lv' := [(5, .int w5), (0, .ref 0), (1, .int x1), (2, .int x2), (3, .int x3), (4, .int x4)]) (Nat.le_of_ble_eq_true rfl) rfl (dq jX10_lawHolds 28 rfl) ?_
      refine rz_iload_n G 3 rfl rfl (dq jX10_lawHolds 29 rfl) ?_
      refine rz_iload_n G 4 rfl rfl (dq jX10_lawHolds 30 rfl) ?_
      refine rz_iload G 5 rfl (dq jX10_lawHolds 31 rfl) ?_
      refine rz_callSi G (st := [.int x2]) (c_X10_pairBit (cLn Γ) x3 x4) lkX10_287 rfl (Nat.le_of_ble_eq_true rfl) (Nat.le_of_ble_eq_true rfl) (dq jX10_lawHolds 32 rfl) rfl (fun r6 => ?_)
      refine rz_iand G (dq jX10_lawHolds 33 rfl) ?_
      refine rz_if_eq G (tgt := 70) rfl (dq jX10_lawHolds 34 rfl) (fun c7 => ?_) (fun c7 => ?_)
      · refine rz_iconst G (v := 0) (dq jX10_lawHolds 37 rfl) rfl ?_
        exact rz_lv [1, 2, 3, 4, 5, 0] rfl (z_X10_lawHolds_b71 G k2 hk2 (f_X10_lawHolds_b18 k2 fu) ih x1 x2 x3 x4 w5 0)
      · refine rz_iconst G (v := 1) (dq jX10_lawHolds 35 rfl) rfl ?_
        refine rz_goto G (tgt := 71) rfl (dq jX10_lawHolds 36 rfl) ?_
        exact rz_lv [1, 2, 3, 4, 5, 0] rfl (z_X10_lawHolds_b71 G k2 hk2 (f_X10_lawHolds_b18 k2 fu) ih x1 x2 x3 x4 w5 1)
theorem z_X10_lawHolds_b2 {Γ : Cx} (G : GG Γ RX10 cX10_lawHolds 7 (some .boolean) 2 0 0) : ∀ (fu : Nat) (x1 : Int32) (x2 : Int32) (x3 : Int32), Rz Γ 7 (Qm Γ encI 0 0) 0 0 2 [(0, .ref 0), (1, .int x1), (2, .int x2), (3, .int x3)] [] (f_X10_lawHolds_b2 fu x1 x2 x3) := by
  intro fu
  induction fu with
  | zero => intro _ _ _; exact rz_none
  | succ fu ih =>
    intro x1 x2 x3
    rw [f_X10_lawHolds_b2]
    refine rz_iload_n G 3 rfl rfl (dq jX10_lawHolds 2 rfl) ?_
    refine rz_aload_n G 0 rfl rfl (dq jX10_lawHolds 3 rfl) ?_
    refine rz_getC G flX10_39 sh0 (t := 2) rfl rfl (dq jX10_lawHolds 4 rfl) ?_
    refine rz_getI G flX10_283 sh2 rfl (dq jX10_lawHolds 5 rfl) (fun v1 => ?_)
    refine rz_icmp_ge G (tgt := 103) rfl (dq jX10_lawHolds 6 rfl) (fun c2 => ?_) (fun c2 => ?_)
    · refine rz_iconst G (v := 1) (dq jX10_lawHolds 53 rfl) rfl ?_
      exact rz_zret0 G (by decide) (dq jX10_lawHolds 54 rfl)
    · refine rz_iload_n G 3 rfl rfl (dq jX10_lawHolds 7 rfl) ?_
      refine rz_iconst G (v := 1) (dq jX10_lawHolds 8 rfl) rfl ?_
      refine rz_iadd G (dq jX10_lawHolds 9 rfl) ?_
      refine rz_istore G (lv' := [(4, .int (x3 + 1)), (0, .ref 0), (1, .int x1), (2, .int x2), (3, .int x3)]) (Nat.le_of_ble_eq_true rfl) rfl (dq jX10_lawHolds 10 rfl) ?_
      exact rz_lv [1, 2, 3, 4, 0] rfl (z_X10_lawHolds_b18 G (f_X10_lawHolds_b2 fu) ih FU x1 x2 x3 (x3 + 1))
theorem c_X10_lawHolds (l : Launch) (x1 : Int32) (x2 : Int32) : Ct l yX10_lawHolds cX10_lawHolds 7 (some .boolean) 2 encI [.ref 0, .int x1, .int x2] (f_X10_lawHolds x1 x2) := by
  refine ct_of (own := RX10) (by decide) rfl (Nat.le_of_ble_eq_true rfl) (fun Γ hl G => ?_)
  show Rz Γ 7 (Qm Γ encI 0 0) 0 0 0 [(0, .ref 0), (1, .int x1), (2, .int x2)] [] _
  unfold f_X10_lawHolds
  refine rz_iconst G (v := 0) (dq jX10_lawHolds 0 rfl) rfl ?_
  refine rz_istore_n G (lv' := [(3, .int 0), (0, .ref 0), (1, .int x1), (2, .int x2)]) rfl (Nat.le_of_ble_eq_true rfl) rfl (dq jX10_lawHolds 1 rfl) ?_
  exact rz_lv [1, 2, 3, 0] rfl (z_X10_lawHolds_b2 G FU x1 x2 0)
theorem z_X10_apart_b7 {Γ : Cx} (G : GG Γ RX10 cX10_apart 3 (some .int) 8 0 0) : ∀ (fu : Nat) (x1 : Int32) (x2 : Int32), Rz Γ 3 (Qm Γ encI 0 0) 0 0 7 [(0, .ref 0), (1, .int x1), (2, .int x2)] [] (f_X10_apart_b7 fu x1 x2) := by
  intro fu
  induction fu with
  | zero => intro _ _; exact rz_none
  | succ fu ih =>
    intro x1 x2
    rw [f_X10_apart_b7]
    refine rz_iload_n G 2 rfl rfl (dq jX10_apart 5 rfl) ?_
    refine rz_bipush G (v := 99) (dq jX10_apart 6 rfl) (by decide) ?_
    refine rz_icmp_gt G (tgt := 30) rfl (dq jX10_apart 7 rfl) (fun c1 => ?_) (fun c1 => ?_)
    · refine rz_iconst G (v := (-1)) (dq jX10_apart 17 rfl) rfl ?_
      exact rz_iret G (dq jX10_apart 18 rfl)
    · refine rz_aload_n G 0 rfl rfl (dq jX10_apart 8 rfl) ?_
      refine rz_iload_n G 2 rfl rfl (dq jX10_apart 9 rfl) ?_
      refine rz_iload_n G 1 rfl rfl (dq jX10_apart 10 rfl) ?_
      refine rz_callVi G (st := []) (c_X10_lawHolds (cLn Γ) x2 x1) lkX10_297 sh0 rfl rfl rfl (Nat.le_of_ble_eq_true rfl) (Nat.le_of_ble_eq_true rfl) (dq jX10_apart 11 rfl) rfl (fun r2 => ?_)
      refine rz_if_eq G (tgt := 24) rfl (dq jX10_apart 12 rfl) (fun c3 => ?_) (fun c3 => ?_)
      · refine rz_iinc G 2 (v := x2 + 1) (lv' := [(2, .int (x2 + 1)), (0, .ref 0), (1, .int x1)]) rfl (congrArg (HAdd.hAdd _) (by decide)) (Nat.le_of_ble_eq_true rfl) rfl (dq jX10_apart 15 rfl) ?_
        refine rz_goto G (tgt := 7) rfl (dq jX10_apart 16 rfl) ?_
        exact rz_lv [1, 2, 0] rfl (ih x1 (x2 + 1))
      · refine rz_iload_n G 2 rfl rfl (dq jX10_apart 13 rfl) ?_
        exact rz_iret G (dq jX10_apart 14 rfl)
theorem c_X10_apart (l : Launch)  : Ct l yX10_apart cX10_apart 3 (some .int) 8 encI [.ref 0] (f_X10_apart ) := by
  refine ct_of (own := RX10) (by decide) rfl (Nat.le_of_ble_eq_true rfl) (fun Γ hl G => ?_)
  show Rz Γ 3 (Qm Γ encI 0 0) 0 0 0 [(0, .ref 0)] [] _
  unfold f_X10_apart
  refine rz_aload_n G 0 rfl rfl (dq jX10_apart 0 rfl) ?_
  refine rz_callVi G (st := []) (c_X10_pairs (cLn Γ)) lkX10_293 sh0 rfl rfl rfl (Nat.le_of_ble_eq_true rfl) (Nat.le_of_ble_eq_true rfl) (dq jX10_apart 1 rfl) rfl (fun r1 => ?_)
  refine rz_istore_n G (lv' := [(1, .int r1), (0, .ref 0)]) rfl (Nat.le_of_ble_eq_true rfl) rfl (dq jX10_apart 2 rfl) ?_
  refine rz_iconst G (v := 0) (dq jX10_apart 3 rfl) rfl ?_
  refine rz_istore_n G (lv' := [(2, .int 0), (1, .int r1), (0, .ref 0)]) rfl (Nat.le_of_ble_eq_true rfl) rfl (dq jX10_apart 4 rfl) ?_
  exact rz_lv [2, 1, 0] rfl (z_X10_apart_b7 G FU r1 0)
theorem c_X10_playBy (l : Launch) (x1 : Int32) : Ct l yX10_playBy cX10_playBy 2 none 6 encV [.ref 0, .int x1] (f_X10_playBy x1) := by
  refine ct_of (own := RX10) (by decide) rfl (Nat.le_of_ble_eq_true rfl) (fun Γ hl G => ?_)
  show Rz Γ 2 (Qm Γ encV 0 0) 0 0 0 [(0, .ref 0), (1, .int x1)] [] _
  unfold f_X10_playBy
  refine rz_aload_n G 0 rfl rfl (dq jX10_playBy 0 rfl) ?_
  refine rz_callVv G (st := []) (c_X10_prepare (cLn Γ)) lkX10_217 sh0 rfl rfl rfl (Nat.le_of_ble_eq_true rfl) (Nat.le_of_ble_eq_true rfl) (dq jX10_playBy 1 rfl) rfl (fun _ => ?_)
  refine rz_aload_n G 0 rfl rfl (dq jX10_playBy 2 rfl) ?_
  refine rz_getC G flX10_60 sh0 (t := 17) rfl rfl (dq jX10_playBy 3 rfl) ?_
  refine rz_iload_n G 1 rfl rfl (dq jX10_playBy 4 rfl) ?_
  refine rz_putI G flX10_315 sh17 rfl (dq jX10_playBy 5 rfl) ?_
  refine rz_aload_n G 0 rfl rfl (dq jX10_playBy 6 rfl) ?_
  refine rz_getC G flX10_60 sh0 (t := 17) rfl rfl (dq jX10_playBy 7 rfl) ?_
  refine rz_iconst G (v := 0) (dq jX10_playBy 8 rfl) rfl ?_
  refine rz_aload_n G 0 rfl rfl (dq jX10_playBy 9 rfl) ?_
  refine rz_getC G flX10_39 sh0 (t := 2) rfl rfl (dq jX10_playBy 10 rfl) ?_
  refine rz_getI G flX10_147 sh2 rfl (dq jX10_playBy 11 rfl) (fun v1 => ?_)
  refine rz_callVv G (st := []) (c_X4_go (cLn Γ) 0 v1) lkX10_220 sh17 rfl rfl rfl (Nat.le_of_ble_eq_true rfl) (Nat.le_of_ble_eq_true rfl) (dq jX10_playBy 12 rfl) rfl (fun _ => ?_)
  exact rz_vret G (dq jX10_playBy 13 rfl)
theorem z_X10_best_b81 {Γ : Cx} (G : GG Γ RX10 cX10_best 7 (some .int) 7 0 0) (k9 : Int32 → Int32 → Int32 → Int32 → Sg → Option (Int32 × Sg)) (hk9 : ∀ (x1 : Int32) (x2 : Int32) (x3 : Int32) (x4 : Int32), Rz Γ 7 (Qm Γ encI 0 0) 0 0 9 [(0, .ref 0), (1, .int x1), (2, .int x2), (3, .int x3), (4, .int x4)] [] (k9 x1 x2 x3 x4)) (x1 : Int32) (x2 : Int32) (x3 : Int32) (x4 : Int32) : Rz Γ 7 (Qm Γ encI 0 0) 0 0 81 [(0, .ref 0), (1, .int x1), (2, .int x2), (3, .int x3), (4, .int x4)] [] (f_X10_best_b81 k9 x1 x2 x3 x4) := by
  unfold f_X10_best_b81
  refine rz_iinc G 4 (v := x4 + 1) (lv' := [(4, .int (x4 + 1)), (0, .ref 0), (1, .int x1), (2, .int x2), (3, .int x3)]) rfl (congrArg (HAdd.hAdd _) (by decide)) (Nat.le_of_ble_eq_true rfl) rfl (dq jX10_best 43 rfl) ?_
  refine rz_goto G (tgt := 9) rfl (dq jX10_best 44 rfl) ?_
  exact rz_lv [1, 2, 3, 4, 0] rfl (hk9 x1 x2 x3 (x4 + 1))
theorem z_X10_best_b72 {Γ : Cx} (G : GG Γ RX10 cX10_best 7 (some .int) 7 0 0) (k9 : Int32 → Int32 → Int32 → Int32 → Sg → Option (Int32 × Sg)) (hk9 : ∀ (x1 : Int32) (x2 : Int32) (x3 : Int32) (x4 : Int32), Rz Γ 7 (Qm Γ encI 0 0) 0 0 9 [(0, .ref 0), (1, .int x1), (2, .int x2), (3, .int x3), (4, .int x4)] [] (k9 x1 x2 x3 x4)) (x4 : Int32) (x5 : Int32) (x6 : Int32) : Rz Γ 7 (Qm Γ encI 0 0) 0 0 72 [(0, .ref 0), (4, .int x4), (5, .int x5), (6, .int x6)] [] (f_X10_best_b72 k9 x4 x5 x6) := by
  unfold f_X10_best_b72
  refine rz_iload G 1 rfl (dq jX10_best 37 rfl) ?_
  refine rz_istore_n G (lv' := [(1, .int x4), (0, .ref 0), (4, .int x4), (5, .int x5), (6, .int x6)]) rfl (Nat.le_of_ble_eq_true rfl) rfl (dq jX10_best 38 rfl) ?_
  refine rz_iload G 3 rfl (dq jX10_best 39 rfl) ?_
  refine rz_istore_n G (lv' := [(2, .int x5), (1, .int x4), (0, .ref 0), (4, .int x4), (5, .int x5), (6, .int x6)]) rfl (Nat.le_of_ble_eq_true rfl) rfl (dq jX10_best 40 rfl) ?_
  refine rz_iload G 5 rfl (dq jX10_best 41 rfl) ?_
  refine rz_istore_n G (lv' := [(3, .int x6), (2, .int x5), (1, .int x4), (0, .ref 0), (4, .int x4), (5, .int x5), (6, .int x6)]) rfl (Nat.le_of_ble_eq_true rfl) rfl (dq jX10_best 42 rfl) ?_
  exact rz_lv [3, 2, 1, 0, 4] rfl (z_X10_best_b81 G k9 hk9 x4 x5 x6 x4)
theorem z_X10_best_b9 {Γ : Cx} (G : GG Γ RX10 cX10_best 7 (some .int) 7 0 0) : ∀ (fu : Nat) (x1 : Int32) (x2 : Int32) (x3 : Int32) (x4 : Int32), Rz Γ 7 (Qm Γ encI 0 0) 0 0 9 [(0, .ref 0), (1, .int x1), (2, .int x2), (3, .int x3), (4, .int x4)] [] (f_X10_best_b9 fu x1 x2 x3 x4) := by
  intro fu
  induction fu with
  | zero => intro _ _ _ _; exact rz_none
  | succ fu ih =>
    intro x1 x2 x3 x4
    rw [f_X10_best_b9]
    refine rz_iload G 4 rfl (dq jX10_best 8 rfl) ?_
    refine rz_aload_n G 0 rfl rfl (dq jX10_best 9 rfl) ?_
    refine rz_getR G flX10_32 sh0 rfl (dq jX10_best 10 rfl) (fun u1 => ?_)
    refine rz_gd (fun h_u1 => ?_)
    refine rz_getC G flX10_135 (gd_sh h_u1) (t := (u1 + 3)) rfl rfl (dq jX10_best 11 rfl) ?_
    refine rz_getI G flX10_139 (gd_s3 h_u1) rfl (dq jX10_best 12 rfl) (fun v2 => ?_)
    refine rz_icmp_ge G (tgt := 87) rfl (dq jX10_best 13 rfl) (fun c3 => ?_) (fun c3 => ?_)
    · refine rz_iload_n G 1 rfl rfl (dq jX10_best 45 rfl) ?_
      exact rz_iret G (dq jX10_best 46 rfl)
    · refine rz_aload_n G 0 rfl rfl (dq jX10_best 14 rfl) ?_
      refine rz_iload G 4 rfl (dq jX10_best 15 rfl) ?_
      refine rz_callVv G (st := []) (c_X10_playBy (cLn Γ) x4) lkX10_306 sh0 rfl rfl rfl (Nat.le_of_ble_eq_true rfl) (Nat.le_of_ble_eq_true rfl) (dq jX10_best 16 rfl) rfl (fun _ => ?_)
      refine rz_aload_n G 0 rfl rfl (dq jX10_best 17 rfl) ?_
      refine rz_getC G flX10_60 sh0 (t := 17) rfl rfl (dq jX10_best 18 rfl) ?_
      refine rz_callVi G (st := []) (c_X4_hurtsOfAll (cLn Γ)) lkX10_309 sh17 rfl rfl rfl (Nat.le_of_ble_eq_true rfl) (Nat.le_of_ble_eq_true rfl) (dq jX10_best 19 rfl) rfl (fun r4 => ?_)
      refine rz_istore G (lv' := [(5, .int r4), (0, .ref 0), (1, .int x1), (2, .int x2), (3, .int x3), (4, .int x4)]) (Nat.le_of_ble_eq_true rfl) rfl (dq jX10_best 20 rfl) ?_
      refine rz_aload_n G 1 rfl rfl (dq jX10_best 21 rfl) ?_
      refine rz_getC G flX10_60 sh0 (t := 17) rfl rfl (dq jX10_best 22 rfl) ?_
      refine rz_callVi G (st := []) (c_X4_funOfAll (cLn Γ)) lkX10_312 sh17 rfl rfl rfl (Nat.le_of_ble_eq_true rfl) (Nat.le_of_ble_eq_true rfl) (dq jX10_best 23 rfl) rfl (fun r5 => ?_)
      refine rz_istore G (lv' := [(6, .int r5), (5, .int r4), (0, .ref 0), (1, .int x1), (2, .int x2), (3, .int x3), (4, .int x4)]) (Nat.le_of_ble_eq_true rfl) rfl (dq jX10_best 24 rfl) ?_
      refine rz_iload G 6 rfl (dq jX10_best 25 rfl) ?_
      refine rz_iconst G (v := (-1)) (dq jX10_best 26 rfl) rfl ?_
      refine rz_icmp_eq G (tgt := 72) rfl (dq jX10_best 27 rfl) (fun c6 => ?_) (fun c6 => ?_)
      · exact rz_lv [2, 6, 1, 0] rfl (z_X10_best_b72 G (f_X10_best_b9 fu) ih x4 r4 r5)
      · refine rz_iload G 1 rfl (dq jX10_best 28 rfl) ?_
        refine rz_iload_n G 4 rfl rfl (dq jX10_best 29 rfl) ?_
        refine rz_icmp_lt G (tgt := 72) rfl (dq jX10_best 30 rfl) (fun c7 => ?_) (fun c7 => ?_)
        · exact rz_lv [2, 6, 1, 0] rfl (z_X10_best_b72 G (f_X10_best_b9 fu) ih x4 r4 r5)
        · refine rz_iload G 1 rfl (dq jX10_best 31 rfl) ?_
          refine rz_iload_n G 4 rfl rfl (dq jX10_best 32 rfl) ?_
          refine rz_icmp_ne G (tgt := 81) rfl (dq jX10_best 33 rfl) (fun c8 => ?_) (fun c8 => ?_)
          · refine rz_iload G 0 rfl (dq jX10_best 34 rfl) ?_
            refine rz_iload_n G 5 rfl rfl (dq jX10_best 35 rfl) ?_
            refine rz_icmp_le G (tgt := 81) rfl (dq jX10_best 36 rfl) (fun c9 => ?_) (fun c9 => ?_)
            · exact rz_lv [2, 3, 4, 5, 6] rfl (z_X10_best_b81 G (f_X10_best_b9 fu) ih x1 x2 x3 x4)
            · exact rz_lv [2, 6, 1, 0] rfl (z_X10_best_b72 G (f_X10_best_b9 fu) ih x4 r4 r5)
          · exact rz_lv [2, 3, 4, 5, 6] rfl (z_X10_best_b81 G (f_X10_best_b9 fu) ih x1 x2 x3 x4)
theorem c_X10_best (l : Launch)  : Ct l yX10_best cX10_best 7 (some .int) 7 encI [.ref 0] (f_X10_best ) := by
  refine ct_of (own := RX10) (by decide) rfl (Nat.le_of_ble_eq_true rfl) (fun Γ hl G => ?_)
  show Rz Γ 7 (Qm Γ encI 0 0) 0 0 0 [(0, .ref 0)] [] _
  unfold f_X10_best
  refine rz_iconst G (v := (-1)) (dq jX10_best 0 rfl) rfl ?_
  refine rz_istore_n G (lv' := [(1, .int ((-1))), (0, .ref 0)]) rfl (Nat.le_of_ble_eq_true rfl) rfl (dq jX10_best 1 rfl) ?_
  refine rz_iconst G (v := 0) (dq jX10_best 2 rfl) rfl ?_
  refine rz_istore_n G (lv' := [(2, .int 0), (1, .int ((-1))), (0, .ref 0)]) rfl (Nat.le_of_ble_eq_true rfl) rfl (dq jX10_best 3 rfl) ?_
  refine rz_iconst G (v := 0) (dq jX10_best 4 rfl) rfl ?_
  refine rz_istore_n G (lv' := [(3, .int 0), (2, .int 0), (1, .int ((-1))), (0, .ref 0)]) rfl (Nat.le_of_ble_eq_true rfl) rfl (dq jX10_best 5 rfl) ?_
  refine rz_iconst G (v := (-1)) (dq jX10_best 6 rfl) rfl ?_
  refine rz_istore G (lv' := [(4, .int ((-1))), (3, .int 0), (2, .int 0), (1, .int ((-1))), (0, .ref 0)]) (Nat.le_of_ble_eq_true rfl) rfl (dq jX10_best 7 rfl) ?_
  exact rz_lv [4, 3, 2, 1, 0] rfl (z_X10_best_b9 G FU ((-1)) 0 0 ((-1)))
theorem c_J6_bitCount_0f7a4 (l : Launch) (x0 : Int32) : Ct l yJ6_bitCount_0f7a4 cJ6_bitCount_0f7a4 1 (some .int) 1 encI [.int x0] (f_J6_bitCount_0f7a4 x0) := by
  refine ct_of (own := RJ6) (by decide) rfl (Nat.le_of_ble_eq_true rfl) (fun Γ hl G => ?_)
  show Rz Γ 1 (Qm Γ encI 0 0) 0 0 0 [(0, .int x0)] [] _
  unfold f_J6_bitCount_0f7a4
  refine rz_iload_n G 0 rfl rfl (dq jJ6_bitCount_0f7a4 0 rfl) ?_
  refine rz_iload_n G 0 rfl rfl (dq jJ6_bitCount_0f7a4 1 rfl) ?_
  refine rz_iconst G (v := 1) (dq jJ6_bitCount_0f7a4 2 rfl) rfl ?_
  refine rz_iushr G (dq jJ6_bitCount_0f7a4 3 rfl) ?_
  refine rz_ldcw G kJ6_265 (dq jJ6_bitCount_0f7a4 4 rfl) ?_
  refine rz_iand G (dq jJ6_bitCount_0f7a4 5 rfl) ?_
  refine rz_isub G (dq jJ6_bitCount_0f7a4 6 rfl) ?_
  refine rz_lti (fun w1 e_w1 => ?_)
  refine rz_istore_n G (lv' := [(0, .int w1)]) rfl (Nat.le_of_ble_eq_true rfl) rfl (dq jJ6_bitCount_0f7a4 7 rfl) ?_
  refine rz_iload_n G 0 rfl rfl (dq jJ6_bitCount_0f7a4 8 rfl) ?_
  refine rz_ldcw G kJ6_266 (dq jJ6_bitCount_0f7a4 9 rfl) ?_
  refine rz_iand G (dq jJ6_bitCount_0f7a4 10 rfl) ?_
  refine rz_iload_n G 0 rfl rfl (dq jJ6_bitCount_0f7a4 11 rfl) ?_
  refine rz_iconst G (v := 2) (dq jJ6_bitCount_0f7a4 12 rfl) rfl ?_
  refine rz_iushr G (dq jJ6_bitCount_0f7a4 13 rfl) ?_
  refine rz_ldcw G kJ6_266 (dq jJ6_bitCount_0f7a4 14 rfl) ?_
  refine rz_iand G (dq jJ6_bitCount_0f7a4 15 rfl) ?_
  refine rz_iadd G (dq jJ6_bitCount_0f7a4 16 rfl) ?_
  refine rz_lti (fun w2 e_w2 => ?_)
  refine rz_istore_n G (lv' := [(0, .int w2)]) rfl (Nat.le_of_ble_eq_true rfl) rfl (dq jJ6_bitCount_0f7a4 17 rfl) ?_
  refine rz_iload_n G 0 rfl rfl (dq jJ6_bitCount_0f7a4 18 rfl) ?_
  refine rz_iload_n G 0 rfl rfl (dq jJ6_bitCount_0f7a4 19 rfl) ?_
  refine rz_iconst G (v := 4) (dq jJ6_bitCount_0f7a4 20 rfl) rfl ?_
  refine rz_iushr G (dq jJ6_bitCount_0f7a4 21 rfl) ?_
  refine rz_iadd G (dq jJ6_bitCount_0f7a4 22 rfl) ?_
  refine rz_ldcw G kJ6_267 (dq jJ6_bitCount_0f7a4 23 rfl) ?_
  refine rz_iand G (dq jJ6_bitCount_0f7a4 24 rfl) ?_
  refine rz_lti (fun w3 e_w3 => ?_)
  refine rz_istore_n G (lv' := [(0, .int w3)]) rfl (Nat.le_of_ble_eq_true rfl) rfl (dq jJ6_bitCount_0f7a4 25 rfl) ?_
  refine rz_iload_n G 0 rfl rfl (dq jJ6_bitCount_0f7a4 26 rfl) ?_
  refine rz_iload_n G 0 rfl rfl (dq jJ6_bitCount_0f7a4 27 rfl) ?_
  refine rz_bipush G (v := 8) (dq jJ6_bitCount_0f7a4 28 rfl) (by decide) ?_
  refine rz_iushr G (dq jJ6_bitCount_0f7a4 29 rfl) ?_
  refine rz_iadd G (dq jJ6_bitCount_0f7a4 30 rfl) ?_
  refine rz_lti (fun w4 e_w4 => ?_)
  refine rz_istore_n G (lv' := [(0, .int w4)]) rfl (Nat.le_of_ble_eq_true rfl) rfl (dq jJ6_bitCount_0f7a4 31 rfl) ?_
  refine rz_iload_n G 0 rfl rfl (dq jJ6_bitCount_0f7a4 32 rfl) ?_
  refine rz_iload_n G 0 rfl rfl (dq jJ6_bitCount_0f7a4 33 rfl) ?_
  refine rz_bipush G (v := 16) (dq jJ6_bitCount_0f7a4 34 rfl) (by decide) ?_
  refine rz_iushr G (dq jJ6_bitCount_0f7a4 35 rfl) ?_
  refine rz_iadd G (dq jJ6_bitCount_0f7a4 36 rfl) ?_
  refine rz_lti (fun w5 e_w5 => ?_)
  refine rz_istore_n G (lv' := [(0, .int w5)]) rfl (Nat.le_of_ble_eq_true rfl) rfl (dq jJ6_bitCount_0f7a4 37 rfl) ?_
  refine rz_iload_n G 0 rfl rfl (dq jJ6_bitCount_0f7a4 38 rfl) ?_
  refine rz_bipush G (v := 63) (dq jJ6_bitCount_0f7a4 39 rfl) (by decide) ?_
  refine rz_iand G (dq jJ6_bitCount_0f7a4 40 rfl) ?_
  exact rz_iret G (dq jJ6_bitCount_0f7a4 41 rfl)
theorem z_X10_atOnce_b38 {Γ : Cx} (G : GG Γ RX10 cX10_atOnce 3 (some .int) 7 0 0) (k4 : Int32 → Int32 → Sg → Option (Int32 × Sg)) (hk4 : ∀ (x1 : Int32) (x2 : Int32), Rz Γ 3 (Qm Γ encI 0 0) 0 0 4 [(0, .ref 0), (1, .int x1), (2, .int x2)] [] (k4 x1 x2)) (x1 : Int32) (x2 : Int32) : Rz Γ 3 (Qm Γ encI 0 0) 0 0 38 [(0, .ref 0), (1, .int x1), (2, .int x2)] [] (f_X10_atOnce_b38 k4 x1 x2) := by
  unfold f_X10_atOnce_b38
  refine rz_iinc G 2 (v := x2 + 1) (lv' := [(2, .int (x2 + 1)), (0, .ref 0), (1, .int x1)]) rfl (congrArg (HAdd.hAdd _) (by decide)) (Nat.le_of_ble_eq_true rfl) rfl (dq jX10_atOnce 22 rfl) ?_
  refine rz_goto G (tgt := 4) rfl (dq jX10_atOnce 23 rfl) ?_
  exact rz_lv [1, 2, 0] rfl (hk4 x1 (x2 + 1))
theorem z_X10_atOnce_b4 {Γ : Cx} (G : GG Γ RX10 cX10_atOnce 3 (some .int) 7 0 0) : ∀ (fu : Nat) (x1 : Int32) (x2 : Int32), Rz Γ 3 (Qm Γ encI 0 0) 0 0 4 [(0, .ref 0), (1, .int x1), (2, .int x2)] [] (f_X10_atOnce_b4 fu x1 x2) := by
  intro fu
  induction fu with
  | zero => intro _ _; exact rz_none
  | succ fu ih =>
    intro x1 x2
    rw [f_X10_atOnce_b4]
    refine rz_iload_n G 2 rfl rfl (dq jX10_atOnce 4 rfl) ?_
    refine rz_iconst G (v := 1) (dq jX10_atOnce 5 rfl) rfl ?_
    refine rz_aload_n G 0 rfl rfl (dq jX10_atOnce 6 rfl) ?_
    refine rz_getC G flX10_39 sh0 (t := 2) rfl rfl (dq jX10_atOnce 7 rfl) ?_
    refine rz_getI G flX10_283 sh2 rfl (dq jX10_atOnce 8 rfl) (fun v1 => ?_)
    refine rz_ishl G (dq jX10_atOnce 9 rfl) ?_
    refine rz_icmp_ge G (tgt := 44) rfl (dq jX10_atOnce 10 rfl) (fun c2 => ?_) (fun c2 => ?_)
    · refine rz_iload_n G 1 rfl rfl (dq jX10_atOnce 24 rfl) ?_
      exact rz_iret G (dq jX10_atOnce 25 rfl)
    · refine rz_iload_n G 2 rfl rfl (dq jX10_atOnce 11 rfl) ?_
      refine rz_callSi G (st := []) (c_J6_bitCount_0f7a4 (cLn Γ) x2) lkX10_320 rfl (Nat.le_of_ble_eq_true rfl) (Nat.le_of_ble_eq_true rfl) (dq jX10_atOnce 12 rfl) rfl (fun r3 => ?_)
      refine rz_iload_n G 1 rfl rfl (dq jX10_atOnce 13 rfl) ?_
      refine rz_callSi G (st := [.int r3]) (c_J6_bitCount_0f7a4 (cLn Γ) x1) lkX10_320 rfl (Nat.le_of_ble_eq_true rfl) (Nat.le_of_ble_eq_true rfl) (dq jX10_atOnce 14 rfl) rfl (fun r4 => ?_)
      refine rz_icmp_le G (tgt := 38) rfl (dq jX10_atOnce 15 rfl) (fun c5 => ?_) (fun c5 => ?_)
      · exact rz_lv [0, 1, 2] rfl (z_X10_atOnce_b38 G (f_X10_atOnce_b4 fu) ih x1 x2)
      · refine rz_aload_n G 0 rfl rfl (dq jX10_atOnce 16 rfl) ?_
        refine rz_iload_n G 2 rfl rfl (dq jX10_atOnce 17 rfl) ?_
        refine rz_callVi G (st := []) (c_X10_hurtAmong (cLn Γ) x2) lkX10_284 sh0 rfl rfl rfl (Nat.le_of_ble_eq_true rfl) (Nat.le_of_ble_eq_true rfl) (dq jX10_atOnce 18 rfl) rfl (fun r6 => ?_)
        refine rz_if_ne G (tgt := 38) rfl (dq jX10_atOnce 19 rfl) (fun c7 => ?_) (fun c7 => ?_)
        · refine rz_iload_n G 2 rfl rfl (dq jX10_atOnce 20 rfl) ?_
          refine rz_istore_n G (lv' := [(1, .int x2), (0, .ref 0), (2, .int x2)]) rfl (Nat.le_of_ble_eq_true rfl) rfl (dq jX10_atOnce 21 rfl) ?_
          exact rz_lv [1, 0, 2] rfl (z_X10_atOnce_b38 G (f_X10_atOnce_b4 fu) ih x2 x2)
        · exact rz_lv [0, 1, 2] rfl (z_X10_atOnce_b38 G (f_X10_atOnce_b4 fu) ih x1 x2)
theorem c_X10_atOnce (l : Launch)  : Ct l yX10_atOnce cX10_atOnce 3 (some .int) 7 encI [.ref 0] (f_X10_atOnce ) := by
  refine ct_of (own := RX10) (by decide) rfl (Nat.le_of_ble_eq_true rfl) (fun Γ hl G => ?_)
  show Rz Γ 3 (Qm Γ encI 0 0) 0 0 0 [(0, .ref 0)] [] _
  unfold f_X10_atOnce
  refine rz_iconst G (v := 0) (dq jX10_atOnce 0 rfl) rfl ?_
  refine rz_istore_n G (lv' := [(1, .int 0), (0, .ref 0)]) rfl (Nat.le_of_ble_eq_true rfl) rfl (dq jX10_atOnce 1 rfl) ?_
  refine rz_iconst G (v := 1) (dq jX10_atOnce 2 rfl) rfl ?_
  refine rz_istore_n G (lv' := [(2, .int 1), (1, .int 0), (0, .ref 0)]) rfl (Nat.le_of_ble_eq_true rfl) rfl (dq jX10_atOnce 3 rfl) ?_
  exact rz_lv [2, 1, 0] rfl (z_X10_atOnce_b4 G FU 0 1)
theorem z_X10_find_b23 {Γ : Cx} (G : GG Γ RX10 cX10_find 2 (some .int) 2 0 0)  : Rz Γ 2 (Qm Γ encI 0 0) 0 0 23 [(0, .ref 0)] [] (f_X10_find_b23 ) := by
  unfold f_X10_find_b23
  refine rz_aload_n G 0 rfl rfl (dq jX10_find 11 rfl) ?_
  refine rz_dup G rfl (dq jX10_find 12 rfl) ?_
  refine rz_getI G flX10_26 sh0 rfl (dq jX10_find 13 rfl) (fun v1 => ?_)
  refine rz_iconst G (v := 1) (dq jX10_find 14 rfl) rfl ?_
  refine rz_iadd G (dq jX10_find 15 rfl) ?_
  refine rz_putI G flX10_26 sh0 rfl (dq jX10_find 16 rfl) ?_
  refine rz_iconst G (v := (-1)) (dq jX10_find 17 rfl) rfl ?_
  exact rz_iret G (dq jX10_find 18 rfl)
theorem c_X10_find (l : Launch) (x1 : Int32) : Ct l yX10_find cX10_find 2 (some .int) 2 encI [.ref 0, .int x1] (f_X10_find x1) := by
  refine ct_of (own := RX10) (by decide) rfl (Nat.le_of_ble_eq_true rfl) (fun Γ hl G => ?_)
  show Rz Γ 2 (Qm Γ encI 0 0) 0 0 0 [(0, .ref 0), (1, .int x1)] [] _
  unfold f_X10_find
  refine rz_iload_n G 1 rfl rfl (dq jX10_find 0 rfl) ?_
  refine rz_bipush G (v := (-99)) (dq jX10_find 1 rfl) (by decide) ?_
  refine rz_icmp_lt G (tgt := 23) rfl (dq jX10_find 2 rfl) (fun c1 => ?_) (fun c1 => ?_)
  · exact rz_lv [0] rfl (z_X10_find_b23 G)
  · refine rz_iload_n G 1 rfl rfl (dq jX10_find 3 rfl) ?_
    refine rz_bipush G (v := 99) (dq jX10_find 4 rfl) (by decide) ?_
    refine rz_icmp_gt G (tgt := 23) rfl (dq jX10_find 5 rfl) (fun c2 => ?_) (fun c2 => ?_)
    · exact rz_lv [0] rfl (z_X10_find_b23 G)
    · refine rz_aload_n G 0 rfl rfl (dq jX10_find 6 rfl) ?_
      refine rz_getC G flX10_39 sh0 (t := 2) rfl rfl (dq jX10_find 7 rfl) ?_
      refine rz_iload_n G 1 rfl rfl (dq jX10_find 8 rfl) ?_
      refine rz_callVi G (st := []) (c_X7_addPlace (cLn Γ) 2 x1) lkX10_348 sh2 rfl rfl rfl (Nat.le_of_ble_eq_true rfl) (Nat.le_of_ble_eq_true rfl) (dq jX10_find 9 rfl) rfl (fun r3 => ?_)
      refine rz_if_ne G (tgt := 35) rfl (dq jX10_find 10 rfl) (fun c4 => ?_) (fun c4 => ?_)
      · exact rz_lv [0] rfl (z_X10_find_b23 G)
      · refine rz_aload_n G 0 rfl rfl (dq jX10_find 19 rfl) ?_
        refine rz_getC G flX10_39 sh0 (t := 2) rfl rfl (dq jX10_find 20 rfl) ?_
        refine rz_getI G flX10_156 sh2 rfl (dq jX10_find 21 rfl) (fun v5 => ?_)
        exact rz_iret G (dq jX10_find 22 rfl)
theorem c_X10_forget (l : Launch)  : Ct l yX10_forget cX10_forget 1 (some .int) 1 encI [.ref 0] (f_X10_forget ) := by
  refine ct_of (own := RX10) (by decide) rfl (Nat.le_of_ble_eq_true rfl) (fun Γ hl G => ?_)
  show Rz Γ 1 (Qm Γ encI 0 0) 0 0 0 [(0, .ref 0)] [] _
  unfold f_X10_forget
  refine rz_aload_n G 0 rfl rfl (dq jX10_forget 0 rfl) ?_
  refine rz_getC G flX10_39 sh0 (t := 2) rfl rfl (dq jX10_forget 1 rfl) ?_
  refine rz_getI G flX10_156 sh2 rfl (dq jX10_forget 2 rfl) (fun v1 => ?_)
  refine rz_if_ne G (tgt := 12) rfl (dq jX10_forget 3 rfl) (fun c2 => ?_) (fun c2 => ?_)
  · refine rz_iconst G (v := (-1)) (dq jX10_forget 4 rfl) rfl ?_
    exact rz_iret G (dq jX10_forget 5 rfl)
  · refine rz_aload_n G 0 rfl rfl (dq jX10_forget 6 rfl) ?_
    refine rz_getC G flX10_39 sh0 (t := 2) rfl rfl (dq jX10_forget 7 rfl) ?_
    refine rz_dup G rfl (dq jX10_forget 8 rfl) ?_
    refine rz_getI G flX10_156 sh2 rfl (dq jX10_forget 9 rfl) (fun v3 => ?_)
    refine rz_iconst G (v := 1) (dq jX10_forget 10 rfl) rfl ?_
    refine rz_isub G (dq jX10_forget 11 rfl) ?_
    refine rz_putI G flX10_156 sh2 rfl (dq jX10_forget 12 rfl) ?_
    refine rz_aload_n G 0 rfl rfl (dq jX10_forget 13 rfl) ?_
    refine rz_getC G flX10_39 sh0 (t := 2) rfl rfl (dq jX10_forget 14 rfl) ?_
    refine rz_getI G flX10_156 sh2 rfl (dq jX10_forget 15 rfl) (fun v4 => ?_)
    exact rz_iret G (dq jX10_forget 16 rfl)
theorem z_X10_staysOn_b46 {Γ : Cx} (G : GG Γ RX10 cX10_staysOn 7 (some .boolean) 2 0 0) (x5 : Int32) : Rz Γ 7 (Qm Γ encI 0 0) 0 0 46 [(0, .ref 0), (5, .int x5)] [] (f_X10_staysOn_b46 x5) := by
  unfold f_X10_staysOn_b46
  refine rz_aload_n G 0 rfl rfl (dq jX10_staysOn 23 rfl) ?_
  refine rz_getR G flX10_32 sh0 rfl (dq jX10_staysOn 24 rfl) (fun u1 => ?_)
  refine rz_gd (fun h_u1 => ?_)
  refine rz_iload G 1 rfl (dq jX10_staysOn 25 rfl) ?_
  refine rz_callVi G (st := []) (c_X2_isBeyond (cLn Γ) u1 x5) lkX10_361 (gd_sh h_u1) rfl rfl rfl (Nat.le_of_ble_eq_true rfl) (Nat.le_of_ble_eq_true rfl) (dq jX10_staysOn 26 rfl) rfl (fun r2 => ?_)
  refine rz_if_ne G (tgt := 62) rfl (dq jX10_staysOn 27 rfl) (fun c3 => ?_) (fun c3 => ?_)
  · refine rz_iconst G (v := 1) (dq jX10_staysOn 28 rfl) rfl ?_
    refine rz_goto G (tgt := 63) rfl (dq jX10_staysOn 29 rfl) ?_
    exact rz_zret0 G (by decide) (dq jX10_staysOn 31 rfl)
  · refine rz_iconst G (v := 0) (dq jX10_staysOn 30 rfl) rfl ?_
    exact rz_zret0 G (by decide) (dq jX10_staysOn 31 rfl)
theorem z_X10_staysOn_b6 {Γ : Cx} (G : GG Γ RX10 cX10_staysOn 7 (some .boolean) 2 0 0) : ∀ (fu : Nat) (x2 : Int32) (x3 : Int32) (x4 : Int32) (x5 : Int32) (x6 : Int32), Rz Γ 7 (Qm Γ encI 0 0) 0 0 6 [(0, .ref 0), (2, .int x2), (3, .int x3), (4, .int x4), (5, .int x5), (6, .int x6)] [] (f_X10_staysOn_b6 fu x2 x3 x4 x5 x6) := by
  intro fu
  induction fu with
  | zero => intro _ _ _ _ _; exact rz_none
  | succ fu ih =>
    intro x2 x3 x4 x5 x6
    rw [f_X10_staysOn_b6]
    refine rz_iload G 5 rfl (dq jX10_staysOn 4 rfl) ?_
    refine rz_iload G 3 rfl (dq jX10_staysOn 5 rfl) ?_
    refine rz_icmp_ge G (tgt := 46) rfl (dq jX10_staysOn 6 rfl) (fun c1 => ?_) (fun c1 => ?_)
    · exact rz_lv [0, 4] rfl (z_X10_staysOn_b46 G x5)
    · refine rz_aload_n G 0 rfl rfl (dq jX10_staysOn 7 rfl) ?_
      refine rz_getR G flX10_32 sh0 rfl (dq jX10_staysOn 8 rfl) (fun u2 => ?_)
      refine rz_gd (fun h_u2 => ?_)
      refine rz_iload G 4 rfl (dq jX10_staysOn 9 rfl) ?_
      refine rz_callVi G (st := []) (c_X2_isBeyond (cLn Γ) u2 x5) lkX10_361 (gd_sh h_u2) rfl rfl rfl (Nat.le_of_ble_eq_true rfl) (Nat.le_of_ble_eq_true rfl) (dq jX10_staysOn 10 rfl) rfl (fun r3 => ?_)
      refine rz_if_eq G (tgt := 27) rfl (dq jX10_staysOn 11 rfl) (fun c4 => ?_) (fun c4 => ?_)
      · refine rz_aload_n G 0 rfl rfl (dq jX10_staysOn 14 rfl) ?_
        refine rz_getR G flX10_32 sh0 rfl (dq jX10_staysOn 15 rfl) (fun u5 => ?_)
        refine rz_gd (fun h_u5 => ?_)
        refine rz_iload G 4 rfl (dq jX10_staysOn 16 rfl) ?_
        refine rz_iload_n G 1 rfl rfl (dq jX10_staysOn 17 rfl) ?_
        refine rz_iload_n G 2 rfl rfl (dq jX10_staysOn 18 rfl) ?_
        refine rz_callVi G (st := []) (c_X2_comesTo (cLn Γ) u5 x5 x2 x3) lkX10_364 (gd_sh h_u5) rfl rfl rfl (Nat.le_of_ble_eq_true rfl) (Nat.le_of_ble_eq_true rfl) (dq jX10_staysOn 19 rfl) rfl (fun r6 => ?_)
        refine rz_istore G (lv' := [(5, .int r6), (0, .ref 0), (2, .int x2), (3, .int x3), (4, .int x4), (6, .int x6)]) (Nat.le_of_ble_eq_true rfl) rfl (dq jX10_staysOn 20 rfl) ?_
        refine rz_iinc G 5 (v := x6 + 1) (lv' := [(6, .int (x6 + 1)), (5, .int r6), (0, .ref 0), (2, .int x2), (3, .int x3), (4, .int x4)]) rfl (congrArg (HAdd.hAdd _) (by decide)) (Nat.le_of_ble_eq_true rfl) rfl (dq jX10_staysOn 21 rfl) ?_
        refine rz_goto G (tgt := 6) rfl (dq jX10_staysOn 22 rfl) ?_
        exact rz_lv [2, 3, 4, 5, 1, 0] rfl (ih x2 x3 x4 r6 (x6 + 1))
      · refine rz_iconst G (v := 0) (dq jX10_staysOn 12 rfl) rfl ?_
        exact rz_zret0 G (by decide) (dq jX10_staysOn 13 rfl)
theorem c_X10_staysOn (l : Launch) (x1 : Int32) (x2 : Int32) (x3 : Int32) (x4 : Int32) : Ct l yX10_staysOn cX10_staysOn 7 (some .boolean) 2 encI [.ref 0, .int x1, .int x2, .int x3, .int x4] (f_X10_staysOn x1 x2 x3 x4) := by
  refine ct_of (own := RX10) (by decide) rfl (Nat.le_of_ble_eq_true rfl) (fun Γ hl G => ?_)
  show Rz Γ 7 (Qm Γ encI 0 0) 0 0 0 [(0, .ref 0), (1, .int x1), (2, .int x2), (3, .int x3), (4, .int x4)] [] _
  unfold f_X10_staysOn
  refine rz_iload_n G 1 rfl rfl (dq jX10_staysOn 0 rfl) ?_
  refine rz_istore G (lv' := [(5, .int x1), (0, .ref 0), (1, .int x1), (2, .int x2), (3, .int x3), (4, .int x4)]) (Nat.le_of_ble_eq_true rfl) rfl (dq jX10_staysOn 1 rfl) ?_
  refine rz_iconst G (v := 0) (dq jX10_staysOn 2 rfl) rfl ?_
  refine rz_istore G (lv' := [(6, .int 0), (5, .int x1), (0, .ref 0), (1, .int x1), (2, .int x2), (3, .int x3), (4, .int x4)]) (Nat.le_of_ble_eq_true rfl) rfl (dq jX10_staysOn 3 rfl) ?_
  exact rz_lv [2, 4, 5, 6, 1, 0] rfl (z_X10_staysOn_b6 G FU x2 x3 x4 x1 0)
theorem z_X10_sharedDivisor_b9 {Γ : Cx} (G : GG Γ RX10 cX10_sharedDivisor 11 (some .long) 1 0 0) : ∀ (fu : Nat) (x4 : Int64) (x6 : Int64) (x8 : Int32), Rz Γ 11 (Qm Γ encL 0 0) 0 0 9 [(4, .long x4), (6, .long x6), (8, .int x8)] [] (f_X10_sharedDivisor_b9 fu x4 x6 x8) := by
  intro fu
  induction fu with
  | zero => intro _ _ _; exact rz_none
  | succ fu ih =>
    intro x4 x6 x8
    rw [f_X10_sharedDivisor_b9]
    refine rz_iload G 2 rfl (dq jX10_sharedDivisor 6 rfl) ?_
    refine rz_sipush G (v := 1000) (dq jX10_sharedDivisor 7 rfl) (by decide) ?_
    refine rz_icmp_ge G (tgt := 45) rfl (dq jX10_sharedDivisor 8 rfl) (fun c1 => ?_) (fun c1 => ?_)
    · refine rz_lload G 0 rfl (dq jX10_sharedDivisor 23 rfl) ?_
      exact rz_lret G (dq jX10_sharedDivisor 24 rfl)
    · refine rz_lload G 1 rfl (dq jX10_sharedDivisor 9 rfl) ?_
      refine rz_lconst G (v := 0) (dq jX10_sharedDivisor 10 rfl) rfl ?_
      refine rz_lcmp G (dq jX10_sharedDivisor 11 rfl) ?_
      refine rz_if_eq G (tgt := 45) rfl (dq jX10_sharedDivisor 12 rfl) (fun c2 => ?_) (fun c2 => ?_)
      · refine rz_lload G 0 rfl (dq jX10_sharedDivisor 23 rfl) ?_
        exact rz_lret G (dq jX10_sharedDivisor 24 rfl)
      · refine rz_lload G 0 rfl (dq jX10_sharedDivisor 13 rfl) ?_
        refine rz_lload G 1 rfl (dq jX10_sharedDivisor 14 rfl) ?_
        refine rz_lrem G (dq jX10_sharedDivisor 15 rfl) ?_
        refine rz_ltl (fun w3 e_w3 => ?_)
        refine rz_lstore G (lv' := [(9, .long w3), (4, .long x4), (6, .long x6), (8, .int x8)]) (Nat.le_of_ble_eq_true rfl) rfl (dq jX10_sharedDivisor 16 rfl) ?_
        refine rz_lload G 2 rfl (dq jX10_sharedDivisor 17 rfl) ?_
        refine rz_lstore G (lv' := [(4, .long x6), (9, .long w3), (6, .long x6), (8, .int x8)]) (Nat.le_of_ble_eq_true rfl) rfl (dq jX10_sharedDivisor 18 rfl) ?_
        refine rz_lload G 1 rfl (dq jX10_sharedDivisor 19 rfl) ?_
        refine rz_lstore G (lv' := [(6, .long w3), (4, .long x6), (9, .long w3), (8, .int x8)]) (Nat.le_of_ble_eq_true rfl) rfl (dq jX10_sharedDivisor 20 rfl) ?_
        refine rz_iinc G 3 (v := x8 + 1) (lv' := [(8, .int (x8 + 1)), (6, .long w3), (4, .long x6), (9, .long w3)]) rfl (congrArg (HAdd.hAdd _) (by decide)) (Nat.le_of_ble_eq_true rfl) rfl (dq jX10_sharedDivisor 21 rfl) ?_
        refine rz_goto G (tgt := 9) rfl (dq jX10_sharedDivisor 22 rfl) ?_
        exact rz_lv [2, 1, 0] rfl (ih x6 w3 (x8 + 1))
theorem c_X10_sharedDivisor (l : Launch) (x0 : Int64) (x2 : Int64) : Ct l yX10_sharedDivisor cX10_sharedDivisor 11 (some .long) 1 encL [.long x0, .long x2] (f_X10_sharedDivisor x0 x2) := by
  refine ct_of (own := RX10) (by decide) rfl (Nat.le_of_ble_eq_true rfl) (fun Γ hl G => ?_)
  show Rz Γ 11 (Qm Γ encL 0 0) 0 0 0 [(0, .long x0), (2, .long x2)] [] _
  unfold f_X10_sharedDivisor
  refine rz_lload_n G 0 rfl rfl (dq jX10_sharedDivisor 0 rfl) ?_
  refine rz_lstore G (lv' := [(4, .long x0), (0, .long x0), (2, .long x2)]) (Nat.le_of_ble_eq_true rfl) rfl (dq jX10_sharedDivisor 1 rfl) ?_
  refine rz_lload_n G 2 rfl rfl (dq jX10_sharedDivisor 2 rfl) ?_
  refine rz_lstore G (lv' := [(6, .long x2), (4, .long x0), (0, .long x0), (2, .long x2)]) (Nat.le_of_ble_eq_true rfl) rfl (dq jX10_sharedDivisor 3 rfl) ?_
  refine rz_iconst G (v := 0) (dq jX10_sharedDivisor 4 rfl) rfl ?_
  refine rz_istore G (lv' := [(8, .int 0), (6, .long x2), (4, .long x0), (0, .long x0), (2, .long x2)]) (Nat.le_of_ble_eq_true rfl) rfl (dq jX10_sharedDivisor 5 rfl) ?_
  exact rz_lv [2, 1, 0] rfl (z_X10_sharedDivisor_b9 G FU x0 x2 0)
