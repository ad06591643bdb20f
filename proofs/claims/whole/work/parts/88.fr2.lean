-- ===== frames that leave the wander and the egg alone =====
def gs_c2 (i _ : Nat) : Bool := Nat.ble i 29 || (Nat.ble 35 i && Nat.ble i 55)
theorem su_none_c2 : ∀ i k, gs_none i k = true → gs_c2 i k = true := by
  intro i k h
  cases h
theorem su_sc_c2 : ∀ i k, gs_sc i k = true → gs_c2 i k = true := by
  intro i k h
  simp only [gs_sc, gs_c2, Bool.and_eq_true, Bool.or_eq_true, Nat.ble_eq, beq_iff_eq] at h ⊢ <;> omega
theorem su_tell_c2 : ∀ i k, gs_tell i k = true → gs_c2 i k = true := by
  intro i k h
  simp only [gs_tell, gs_c2, Bool.and_eq_true, Bool.or_eq_true, Nat.ble_eq, beq_iff_eq] at h ⊢ <;> omega
theorem fr2_X10_obey (x1 : Int32) : Fr gs_c2 (f_X10_obey x1) := by
  unfold f_X10_obey
  exact fr_cl (fr_mono su_none_c2 (fr_X10_isRule _)) (fun r1 => fr_br (fr_dI (fun v3 => fr_pI (rfl) (fr_rt))) (fr_cl (fr_mono su_sc_c2 (fr_X7_act _ _ _ _)) (fun r4 => fr_rt)))
theorem fr2_X10_last_b12 : Fr gs_c2 (f_X10_last_b12) := by
  unfold f_X10_last_b12
  exact fr_dI (fun v1 => fr_pI (rfl) (fr_rt))
theorem fr2_X10_last (x1 : Int32) : Fr gs_c2 (f_X10_last x1) := by
  unfold f_X10_last
  exact fr_br (fr2_X10_last_b12) (fr_br (fr_cl (fr_mono su_sc_c2 (fr_X7_act _ _ _ _)) (fun r3 => fr_rt)) (fr2_X10_last_b12))
theorem fr2_X10_find_b23 : Fr gs_c2 (f_X10_find_b23) := by
  unfold f_X10_find_b23
  exact fr_dI (fun v1 => fr_pI (rfl) (fr_rt))
theorem fr2_X10_find (x1 : Int32) : Fr gs_c2 (f_X10_find x1) := by
  unfold f_X10_find
  exact fr_br (fr2_X10_find_b23) (fr_br (fr2_X10_find_b23) (fr_cl (fr_mono su_sc_c2 (fr_X7_addPlace _ _)) (fun r3 => fr_br (fr2_X10_find_b23) (fr_dI (fun v5 => fr_rt)))))
theorem fr2_X10_image : Fr gs_c2 (f_X10_image) := by
  unfold f_X10_image
  exact fr_cl (fr_mono su_sc_c2 (fr_X7_copy _ _)) (fun _ => fr_pI (rfl) (fr_rt))
theorem fr2_X10_become_b39 : Fr gs_c2 (f_X10_become_b39) := by
  unfold f_X10_become_b39
  exact fr_dI (fun v1 => fr_pI (rfl) (fr_rtX))
theorem fr2_X10_become_b22 (x1 : Int32) (x2 : Int32) (x3 : Int32) (xs0 : Int32) : Fr gs_c2 (f_X10_become_b22 x1 x2 x3 xs0) := by
  unfold f_X10_become_b22
  exact fr_clX (fr_mono su_none_c2 (fr_X10_need _)) (fun _ => fr_br (fr2_X10_become_b39) (fr_cl (fr_mono su_none_c2 (fr_X10_mostOf _)) (fun r2 => fr_br (fr_cl (fr_mono su_sc_c2 (fr_X7_act _ _ _ _)) (fun r4 => fr_rtX)) (fr2_X10_become_b39))))
theorem fr2_X10_become_b21 (x1 : Int32) (x2 : Int32) (x3 : Int32) : Fr gs_c2 (f_X10_become_b21 x1 x2 x3) := by
  unfold f_X10_become_b21
  exact fr2_X10_become_b22 _ _ _ _
theorem fr2_X10_become (x1 : Int32) (x2 : Int32) (x3 : Int32) : Fr gs_c2 (f_X10_become x1 x2 x3) := by
  unfold f_X10_become
  exact fr_cl (fr_mono su_none_c2 (fr_X10_isJumper _)) (fun r1 => fr_br (fr2_X10_become_b21 _ _ _) (fr_br (fr2_X10_become_b21 _ _ _) (fr_br (fr2_X10_become_b21 _ _ _) (fr2_X10_become_b22 _ _ _ _))))
theorem fr2_X10_garden_b17 (x1 : Int32) (xs0 : Int32) : Fr gs_c2 (f_X10_garden_b17 x1 xs0) := by
  unfold f_X10_garden_b17
  exact fr_clX (fr_mono su_none_c2 (fr_X10_demand _)) (fun _ => fr_pI (rfl) (fr_cl (fr_mono su_tell_c2 (fr_X8_tell _ _)) (fun r1 => fr_br (fr_pI (rfl) (fr_dR (fun u3 => fr_gd (fun g1 => fr_dR (fun u4 => fr_gd (fun g2 => fr_pR (rfl) (fr_pR (rfl) (fr_cl (fr_mono su_sc_c2 (fr_X7_begin _ _)) (fun _ => fr_pI (rfl) (fr_rtX)))))))))) (fr_dI (fun v5 => fr_pI (rfl) (fr_dI (fun v6 => fr_pI (rfl) (fr_rtX))))))))
theorem fr2_X10_garden_b16 (x1 : Int32) : Fr gs_c2 (f_X10_garden_b16 x1) := by
  unfold f_X10_garden_b16
  exact fr2_X10_garden_b17 _ _
theorem fr2_X10_garden (x1 : Int32) : Fr gs_c2 (f_X10_garden x1) := by
  unfold f_X10_garden
  exact fr_br (fr2_X10_garden_b16 _) (fr_dI (fun v2 => fr_br (fr2_X10_garden_b16 _) (fr2_X10_garden_b17 _ _)))
