-- ===== every call of the law: both agree =====
theorem sm_meggT : ∀ i k, gs_meggT i k = true → gs_mod i k = true := by
  intro i k h
  simp only [gs_meggT, gs_mod, Bool.and_eq_true, Bool.or_eq_true, Nat.ble_eq, beq_iff_eq, Bool.false_eq_true] at h ⊢ <;> omega
theorem sm_mrunS : ∀ i k, gs_mrunS i k = true → gs_mod i k = true := by
  intro i k h
  simp only [gs_mrunS, gs_mod, Bool.and_eq_true, Bool.or_eq_true, Nat.ble_eq, beq_iff_eq, Bool.false_eq_true] at h ⊢ <;> omega
theorem sm_mrunT : ∀ i k, gs_mrunT i k = true → gs_mod i k = true := by
  intro i k h
  simp only [gs_mrunT, gs_mod, Bool.and_eq_true, Bool.or_eq_true, Nat.ble_eq, beq_iff_eq, Bool.false_eq_true] at h ⊢ <;> omega
theorem sm_mth : ∀ i k, gs_mth i k = true → gs_mod i k = true := by
  intro i k h
  simp only [gs_mth, gs_mod, Bool.and_eq_true, Bool.or_eq_true, Nat.ble_eq, beq_iff_eq, Bool.false_eq_true] at h ⊢ <;> omega
theorem sm_mwanT : ∀ i k, gs_mwanT i k = true → gs_mod i k = true := by
  intro i k h
  simp only [gs_mwanT, gs_mod, Bool.and_eq_true, Bool.or_eq_true, Nat.ble_eq, beq_iff_eq, Bool.false_eq_true] at h ⊢ <;> omega
theorem sm_wan : ∀ i k, gs_wan i k = true → gs_cls i k = true := by
  intro i k h
  simp only [gs_wan, gs_cls, Bool.and_eq_true, Nat.ble_eq] at h ⊢ <;> omega
theorem ag_feed (x1 x2 x3 x4 x5 : Int32) : AgV (f_X10_feed x1 x2 x3 x4 x5) (f_X11_feed x1 x2 x3 x4 x5) := ⟨fun _ _ _ _ _ _ _ J => ok_feed J x1 x2 x3 x4 x5, z_tape (fr_X10_feed x1 x2 x3 x4 x5), fr_X11_feed x1 x2 x3 x4 x5⟩
theorem ag_garden (x1 : Int32) : AgX (f_X10_garden x1) (f_X11_garden x1) cI := AgX.of (fun _ _ _ _ _ _ _ J => ok_garden J x1) (z_c2 (fr2_X10_garden x1)) (fr_X11_garden x1)
theorem hx_garden (x1 : Int32) : f_L_garden x1 = hX cI (f_X10_garden x1) (fun v => v.toInt64) := by
  unfold f_L_garden hX
  congr 1
  funext b
  cases b <;> rfl
theorem ag_fault : AgV (f_X10_fault) (f_X11_fault) := ⟨fun _ _ _ _ _ _ _ J => ok_fault J, z_none (fr_X10_fault), fr_mono sm_mth (fr_X11_fault)⟩
theorem ag_count (x1 : Int32) : AgX (f_X10_count x1) (f_X11_count x1) cN := AgX.of (fun _ _ _ _ _ _ _ J => ok_count J x1) (z_none (fr_X10_count x1)) (fr_mono sm_mth (fr_X11_count x1))
theorem hx_count (x1 : Int32) : f_L_count x1 = hX cN (f_X10_count x1) (fun v => v.toInt64) := by
  unfold f_L_count hX
  congr 1
  funext b
  cases b <;> rfl
theorem ag_jumper (x1 x2 : Int32) : AgX (f_X10_jumper x1 x2) (f_X11_jumper x1 x2) cN := AgX.of (fun _ _ _ _ _ _ _ J => ok_jumper J x1 x2) (z_none (fr_X10_jumper x1 x2)) (fr_mono sm_mth (fr_X11_jumper x1 x2))
theorem hx_jumper (x1 x2 : Int32) : f_L_jumper x1 x2 = hX cN (f_X10_jumper x1 x2) (fun v => v.toInt64) := by
  unfold f_L_jumper hX
  congr 1
  funext b
  cases b <;> rfl
theorem ag_become (x1 x2 x3 : Int32) : AgX (f_X10_become x1 x2 x3) (f_X11_become x1 x2 x3) cN := AgX.of (fun _ _ _ _ _ _ _ J => ok_become J x1 x2 x3) (z_c2 (fr2_X10_become x1 x2 x3)) (fr_X11_become x1 x2 x3)
theorem hx_become (x1 x2 x3 : Int32) : f_L_become x1 x2 x3 = hX cN (f_X10_become x1 x2 x3) (fun v => v.toInt64) := by
  unfold f_L_become hX
  congr 1
  funext b
  cases b <;> rfl
theorem ag_obey (x1 : Int32) : AgV (f_X10_obey x1) (f_X11_obey x1) := ⟨fun _ _ _ _ _ _ _ J => ok_obey J x1, z_c2 (fr2_X10_obey x1), fr_X11_obey x1⟩
theorem ag_last (x1 : Int32) : AgV (f_X10_last x1) (f_X11_last x1) := ⟨fun _ _ _ _ _ _ _ J => ok_last J x1, z_c2 (fr2_X10_last x1), fr_X11_last x1⟩
theorem ag_undo : AgV (f_X10_undo) (f_X11_undo) := ⟨fun _ _ _ _ _ _ _ J => ok_undo J, z_sc (fr_X10_undo), fr_X11_undo⟩
theorem ag_ran (x1 x2 : Int32) : AgX (f_X10_ran x1 x2) (f_X11_ran x1 x2) cN := AgX.of (fun _ _ _ _ _ _ _ J => ok_ran J x1 x2) (z_play (fr_X10_ran x1 x2)) (fr_mono sm_mrunT (fr_X11_ran x1 x2))
theorem hx_ran (x1 x2 : Int32) : f_L_ran x1 x2 = hX cN (f_X10_ran x1 x2) (fun v => v.toInt64) := by
  unfold f_L_ran hX
  congr 1
  funext b
  cases b <;> rfl
theorem ag_lands (x1 x2 : Int32) : AgX (f_X10_lands x1 x2) (f_X11_lands x1 x2) cN := AgX.of (fun _ _ _ _ _ _ _ J => ok_lands J x1 x2) (z_play (fr_X10_lands x1 x2)) (fr_mono sm_mrunT (fr_X11_lands x1 x2))
theorem hx_lands (x1 x2 : Int32) : f_L_lands x1 x2 = hX cN (f_X10_lands x1 x2) (fun v => v.toInt64) := by
  unfold f_L_lands hX
  congr 1
  funext b
  cases b <;> rfl
theorem ag_film (x1 x2 : Int32) : AgX (f_X10_film x1 x2) (f_X11_film x1 x2) cN := AgX.of (fun _ _ _ _ _ _ _ J => ok_film J x1 x2) (z_play (fr_X10_film x1 x2)) (fr_mono sm_mrunT (fr_X11_film x1 x2))
theorem hx_film (x1 x2 : Int32) : f_L_film x1 x2 = hX cN (f_X10_film x1 x2) (fun v => v.toInt64) := by
  unfold f_L_film hX
  congr 1
  funext b
  cases b <;> rfl
theorem ag_mat (x1 : Int32) : AgX (f_X10_mat x1) (f_X11_mat x1) cN := AgX.of (fun _ _ _ _ _ _ _ J => ok_mat J x1) (z_play (fr_X10_mat x1)) (fr_mono sm_mrunT (fr_X11_mat x1))
theorem hx_mat (x1 : Int32) : f_L_mat x1 = hX cN (f_X10_mat x1) (fun v => v.toInt64) := by
  unfold f_L_mat hX
  congr 1
  funext b
  cases b <;> rfl
theorem ag_landing (x1 x2 : Int32) : AgX (f_X10_landing x1 x2) (f_X11_landing x1 x2) cN := AgX.of (fun _ _ _ _ _ _ _ J => ok_landing J x1 x2) (z_play (fr_X10_landing x1 x2)) (fr_mono sm_mrunT (fr_X11_landing x1 x2))
theorem hx_landing (x1 x2 : Int32) : f_L_landing x1 x2 = hX cN (f_X10_landing x1 x2) (fun v => v.toInt64) := by
  unfold f_L_landing hX
  congr 1
  funext b
  cases b <;> rfl
theorem ag_moment (x1 x2 : Int32) : AgX (f_X10_moment x1 x2) (f_X11_moment x1 x2) cN := AgX.of (fun _ _ _ _ _ _ _ J => ok_moment J x1 x2) (z_play (fr_X10_moment x1 x2)) (fr_X11_moment x1 x2)
theorem hx_moment (x1 x2 : Int32) : f_L_moment x1 x2 = hX cN (f_X10_moment x1 x2) (fun v => v.toInt64) := by
  unfold f_L_moment hX
  congr 1
  funext b
  cases b <;> rfl
theorem ag_step (x1 x2 x3 : Int32) : AgX (f_X10_step x1 x2 x3) (f_X11_step x1 x2 x3) cB := AgX.of (fun _ _ _ _ _ _ _ J => ok_step J x1 x2 x3) (z_play (fr_X10_step x1 x2 x3)) (fr_mono sm_mrunS (fr_X11_step x1 x2 x3))
theorem hx_step (x1 x2 x3 : Int32) : f_L_step x1 x2 x3 = hX cB (f_X10_step x1 x2 x3) (fun v => v.toInt64) := by
  unfold f_L_step hX
  congr 1
  funext b
  cases b <;> rfl
theorem ag_danger (x1 : Int32) : AgX (f_X10_danger x1) (f_X11_danger x1) cN := AgX.of (fun _ _ _ _ _ _ _ J => ok_danger J x1) (z_play (fr_X10_danger x1)) (fr_X11_danger x1)
theorem hx_danger (x1 : Int32) : f_L_danger x1 = hX cN (f_X10_danger x1) (fun v => v.toInt64) := by
  unfold f_L_danger hX
  congr 1
  funext b
  cases b <;> rfl
theorem ag_pairs : AgV (f_X10_pairs) (f_X11_pairs) := ⟨fun _ _ _ _ _ _ _ J => ok_pairs J, z_play (fr_X10_pairs), fr_mono sm_mrunT (fr_X11_pairs)⟩
theorem ag_apart : AgV (f_X10_apart) (f_X11_apart) := ⟨fun _ _ _ _ _ _ _ J => ok_apart J, z_play (fr_X10_apart), fr_mono sm_mrunT (fr_X11_apart)⟩
theorem ag_without (x1 x2 : Int32) : AgX (f_X10_without x1 x2) (f_X11_without x1 x2) cB := AgX.of (fun _ _ _ _ _ _ _ J => ok_without J x1 x2) (z_play (fr_X10_without x1 x2)) (fr_mono sm_mrunT (fr_X11_without x1 x2))
theorem hx_without (x1 x2 : Int32) : f_L_without x1 x2 = hX cB (f_X10_without x1 x2) (fun v => v.toInt64) := by
  unfold f_L_without hX
  congr 1
  funext b
  cases b <;> rfl
theorem ag_falls (x1 x2 x3 x4 x5 : Int32) : AgX (f_X10_falls x1 x2 x3 x4 x5) (f_X11_falls x1 x2 x3 x4 x5) cB := ⟨fun _ _ _ _ _ _ _ J z => ok_falls J z x1 x2 x3 x4 x5, fr_mono sm_wan (fr_X10_falls x1 x2 x3 x4 x5), fr_mono sm_mwanT (fr_X11_falls x1 x2 x3 x4 x5)⟩
theorem hx_falls (x1 x2 x3 x4 x5 : Int32) : f_L_falls x1 x2 x3 x4 x5 = hX cB (f_X10_falls x1 x2 x3 x4 x5) (fun v => v) := by
  unfold f_L_falls hX
  congr 1
  funext b
  cases b <;> rfl
theorem ag_wanders (x1 x2 x3 x4 x5 x6 : Int32) : AgX (f_X10_wanders x1 x2 x3 x4 x5 x6) (f_X11_wanders x1 x2 x3 x4 x5 x6) cB := ⟨fun _ _ _ _ _ _ _ J z => ok_wanders J z x1 x2 x3 x4 x5 x6, fr_mono sm_wan (fr_X10_wanders x1 x2 x3 x4 x5 x6), fr_mono sm_mwanT (fr_X11_wanders x1 x2 x3 x4 x5 x6)⟩
theorem hx_wanders (x1 x2 x3 x4 x5 x6 : Int32) : f_L_wanders x1 x2 x3 x4 x5 x6 = hX cB (f_X10_wanders x1 x2 x3 x4 x5 x6) (fun v => v) := by
  unfold f_L_wanders hX
  congr 1
  funext b
  cases b <;> rfl
theorem ag_correct (x1 x2 x3 : Int32) : AgX (f_X10_correct x1 x2 x3) (f_X11_correct x1 x2 x3) cI := ⟨fun _ _ _ _ _ _ _ J z => ok_correct J z x1 x2 x3, fr_mono sm_wan (fr_X10_correct x1 x2 x3), fr_mono sm_mwanT (fr_X11_correct x1 x2 x3)⟩
theorem hx_correct (x1 x2 x3 : Int32) : f_L_correct x1 x2 x3 = hX cI (f_X10_correct x1 x2 x3) (fun v => v.toInt64) := by
  unfold f_L_correct hX
  congr 1
  funext b
  cases b <;> rfl
theorem ag_find (x1 : Int32) : AgV (f_X10_find x1) (f_X11_find x1) := ⟨fun _ _ _ _ _ _ _ J => ok_find J x1, z_c2 (fr2_X10_find x1), fr_X11_find x1⟩
theorem ag_forget : AgV (f_X10_forget) (f_X11_forget) := ⟨fun _ _ _ _ _ _ _ J => ok_forget J, z_sc (fr_X10_forget), fr_X11_forget⟩
theorem ag_broken (x1 : Int32) : AgX (f_X10_broken x1) (f_X11_broken x1) cI := AgX.of (fun _ _ _ _ _ _ _ J => ok_broken J x1) (z_none (fr_X10_broken x1)) (fr_mono sm_mth (fr_X11_broken x1))
theorem hx_broken (x1 : Int32) : f_L_broken x1 = hX cI (f_X10_broken x1) (fun v => v.toInt64) := by
  unfold f_L_broken hX
  congr 1
  funext b
  cases b <;> rfl
theorem ag_second (x1 x2 x3 x4 x5 x6 : Int32) : AgX (f_X10_second x1 x2 x3 x4 x5 x6) (f_X11_second x1 x2 x3 x4 x5 x6) cB := AgX.of (fun _ _ _ _ _ _ _ J => ok_second J x1 x2 x3 x4 x5 x6) (z_play (fr_X10_second x1 x2 x3 x4 x5 x6)) (fr_X11_second x1 x2 x3 x4 x5 x6)
theorem hx_second (x1 x2 x3 x4 x5 x6 : Int32) : f_L_second x1 x2 x3 x4 x5 x6 = hX cB (f_X10_second x1 x2 x3 x4 x5 x6) (fun v => v.toInt64) := by
  unfold f_L_second hX
  congr 1
  funext b
  cases b <;> rfl
theorem ag_compare (x1 x2 : Int32) : AgX (f_X10_compare x1 x2) (f_X11_compare x1 x2) cN := AgX.of (fun _ _ _ _ _ _ _ J => ok_compare J x1 x2) (z_play (fr_X10_compare x1 x2)) (fr_X11_compare x1 x2)
theorem hx_compare (x1 x2 : Int32) : f_L_compare x1 x2 = hX cN (f_X10_compare x1 x2) (fun v => v.toInt64) := by
  unfold f_L_compare hX
  congr 1
  funext b
  cases b <;> rfl
theorem ag_best : AgV (f_X10_best) (f_X11_best) := ⟨fun _ _ _ _ _ _ _ J => ok_best J, z_play (fr_X10_best), fr_X11_best⟩
theorem ag_egg (x1 : Int32) : AgX (f_X10_egg x1) (f_X11_egg x1) cN := AgX.of (fun _ _ _ _ _ _ _ J => ok_egg J x1) (z_egg (fr_X10_egg x1)) (fr_mono sm_meggT (fr_X11_egg x1))
theorem hx_egg (x1 : Int32) : f_L_egg x1 = hX cN (f_X10_egg x1) (fun v => v) := by
  unfold f_L_egg hX
  congr 1
  funext b
  cases b <;> rfl
theorem ag_afternoons (x1 x2 x3 : Int32) : AgX (f_X10_afternoons x1 x2 x3) (f_X11_afternoons x1 x2 x3) cB := AgX.of (fun _ _ _ _ _ _ _ J => ok_afternoons J x1 x2 x3) (z_play (fr_X10_afternoons x1 x2 x3)) (fr_X11_afternoons x1 x2 x3)
theorem hx_afternoons (x1 x2 x3 : Int32) : f_L_afternoons x1 x2 x3 = hX cB (f_X10_afternoons x1 x2 x3) (fun v => v.toInt64) := by
  unfold f_L_afternoons hX
  congr 1
  funext b
  cases b <;> rfl
theorem ag_safe (x1 x2 x3 : Int32) : AgX (f_X10_safe x1 x2 x3) (f_X11_safe x1 x2 x3) cI := AgX.of (fun _ _ _ _ _ _ _ J => ok_safe J x1 x2 x3) (z_none (fr_X10_safe x1 x2 x3)) (fr_mono sm_mth (fr_X11_safe x1 x2 x3))
theorem hx_safe (x1 x2 x3 : Int32) : f_L_safe x1 x2 x3 = hX cI (f_X10_safe x1 x2 x3) (fun v => v) := by
  unfold f_L_safe hX
  congr 1
  funext b
  cases b <;> rfl
theorem ag_atOnce : AgV (f_X10_atOnce) (f_X11_atOnce) := ⟨fun _ _ _ _ _ _ _ J => ok_atOnce J, z_play (fr_X10_atOnce), fr_mono sm_mrunT (fr_X11_atOnce)⟩
theorem ag_stop (x1 : Int32) : AgX (f_X10_stop x1) (f_X11_stop x1) cN := AgX.of (fun _ _ _ _ _ _ _ J => ok_stop J x1) (z_play (fr_X10_stop x1)) (fr_mono sm_mrunT (fr_X11_stop x1))
theorem hx_stop (x1 : Int32) : f_L_stop x1 = hX cN (f_X10_stop x1) (fun v => v.toInt64) := by
  unfold f_L_stop hX
  congr 1
  funext b
  cases b <;> rfl
theorem ag_over (x1 x2 x3 : Int32) : AgX (f_X10_over x1 x2 x3) (f_X11_over x1 x2 x3) cB := AgX.of (fun _ _ _ _ _ _ _ J => ok_over J x1 x2 x3) (z_play (fr_X10_over x1 x2 x3)) (fr_mono sm_mrunT (fr_X11_over x1 x2 x3))
theorem hx_over (x1 x2 x3 : Int32) : f_L_over x1 x2 x3 = hX cB (f_X10_over x1 x2 x3) (fun v => v.toInt64) := by
  unfold f_L_over hX
  congr 1
  funext b
  cases b <;> rfl
theorem ag_image : AgV (f_X10_image) (f_X11_image) := ⟨fun _ _ _ _ _ _ _ J => ok_image J, z_c2 (fr2_X10_image), fr_X11_image⟩
theorem ag_restore : AgV (f_X10_restore) (f_X11_restore) := ⟨fun _ _ _ _ _ _ _ J => ok_restore J, z_sc (fr_X10_restore), fr_X11_restore⟩
