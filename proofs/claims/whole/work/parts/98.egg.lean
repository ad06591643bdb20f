-- ===== isGreater =====
def grR (a b c d : Nat) (fl : Int32) : Int32 := if fl = 0 then (if c * b < a * d then 1 else 0) else (if a * d < c * b then 1 else 0)
theorem zL_lt {a b : Nat} (ha : a < 2 ^ 63) (hb : b < 2 ^ 63) : zL a < zL b ↔ a < b := by
  rw [Int64.lt_iff_toInt_lt, zL_toInt ha, zL_toInt hb]; omega
theorem zL_le {a b : Nat} (ha : a < 2 ^ 63) (hb : b < 2 ^ 63) : zL a ≤ zL b ↔ a ≤ b := by
  rw [Int64.le_iff_toInt_le, zL_toInt ha, zL_toInt hb]; omega
theorem gr_one {a b c d fu : Nat} {fl : Int32} {τ : Sg} (hb : 0 < b) (hd : 0 < d) (ha : a < 2 ^ 63) (hb2 : b < 2 ^ 63) (hc : c < 2 ^ 63) (hd2 : d < 2 ^ 63) (hf : fl = 0 ∨ fl = 1) : f_X11_isGreater_b17 (fu + 1) (zL a) (zL b) (zL c) (zL d) fl τ = some (grR a b c d fl, τ) ∨ (0 < a % b ∧ 0 < c % d ∧ f_X11_isGreater_b17 (fu + 1) (zL a) (zL b) (zL c) (zL d) fl τ = f_X11_isGreater_b17 fu (zL b) (zL (a % b)) (zL d) (zL (c % d)) (if fl = 0 then 1 else 0) τ ∧ grR b (a % b) d (c % d) (if fl = 0 then 1 else 0) = grR a b c d fl) := by
  have nb := zL_ne0 hb hb2
  have nd := zL_ne0 hd hd2
  have q1 : a / b ≤ a := Nat.div_le_self a b
  have q2 : c / d ≤ c := Nat.div_le_self c d
  have m1 := Nat.mod_lt a hb
  have m2 := Nat.mod_lt c hd
  rw [f_X11_isGreater_b17, ex_gd nb, ex_gd nd, zL_div ha hb hb2, zL_div hc hd hd2]
  by_cases z : a / b = c / d
  · obtain ⟨x1, x2⟩ := crs_eq z
    have l0 : lg_cmp (zL (a / b)) (zL (c / d)) = 0 := (lg_cmp_eq _ _).mpr (by rw [z])
    rw [ex_bt l0, ex_gd nb, ex_lt, ← zL_div ha hb hb2, zL_mod ha hb hb2, ex_gd nd, ex_lt, ← zL_div hc hd hd2, zL_mod hc hd hd2]
    by_cases r1 : a % b = 0
    · left
      have e1 : lg_cmp (zL (a % b)) 0 = 0 := (lg_cmp_eq _ _).mpr (by rw [r1]; rfl)
      have e1' : lg_cmp (zL (a % b)) 0 ≤ 0 := by rw [e1]; decide
      rw [ex_bt e1, f_X11_isGreater_b59]
      rcases hf with rfl | rfl
      · rw [ex_bt rfl, ex_bt e1', ex_rt, grR, if_pos rfl, if_neg (fun w => by have := x2.mp w; rw [r1, Nat.zero_mul] at this; omega)]
      · rw [ex_bf l1_0, ex_bt e1, grR, if_neg l1_0]
        by_cases r2 : c % d = 0
        · have e2 : lg_cmp (zL (c % d)) 0 ≤ 0 := (lg_cmp_le _ _).mpr (by rw [r2]; exact Int64.le_refl _)
          rw [ex_bt e2, f_X11_isGreater_b82, ex_rt, if_neg (fun w => by have := x1.mp w; rw [r2, Nat.zero_mul] at this; omega)]
        · have e2 : ¬ lg_cmp (zL (c % d)) 0 ≤ 0 := fun w => by
            have := (zL_le (b := 0) (by omega) (by omega)).mp ((lg_cmp_le _ _).mp w)
            omega
          rw [ex_bf e2, ex_rt, if_pos (x1.mpr (by rw [r1, Nat.zero_mul]; exact Nat.mul_pos (by omega) hb))]
    · have e1 : ¬ lg_cmp (zL (a % b)) 0 = 0 := fun w => zL_ne0 (by omega) (by omega) ((lg_cmp_eq _ _).mp w)
      have e1' : ¬ lg_cmp (zL (a % b)) 0 ≤ 0 := fun w => by
        have := (zL_le (b := 0) (by omega) (by omega)).mp ((lg_cmp_le _ _).mp w)
        omega
      rw [ex_bf e1]
      by_cases r2 : c % d = 0
      · left
        have e2 : lg_cmp (zL (c % d)) 0 = 0 := (lg_cmp_eq _ _).mpr (by rw [r2]; rfl)
        rw [ex_bt e2, f_X11_isGreater_b59]
        rcases hf with rfl | rfl
        · rw [ex_bt rfl, ex_bf e1', ex_bt e2, ex_rt, grR, if_pos rfl, if_pos (x2.mpr (by rw [r2, Nat.zero_mul]; exact Nat.mul_pos (by omega) hd))]
        · rw [ex_bf l1_0, ex_bf e1, f_X11_isGreater_b82, ex_rt, grR, if_neg l1_0, if_neg (fun w => by have := x1.mp w; rw [r2, Nat.zero_mul] at this; omega)]
      · right
        have e2 : ¬ lg_cmp (zL (c % d)) 0 = 0 := fun w => zL_ne0 (by omega) (by omega) ((lg_cmp_eq _ _).mp w)
        refine ⟨by omega, by omega, ?_, ?_⟩
        · rw [ex_bf e2]
          rcases hf with rfl | rfl
          · rw [ex_bt rfl, if_pos rfl, f_X11_isGreater_b132]
          · rw [ex_bf l1_0, if_neg l1_0, f_X11_isGreater_b132]
        · rcases hf with rfl | rfl
          · rw [if_pos rfl, grR, if_neg l1_0, grR, if_pos rfl, Nat.mul_comm b, Nat.mul_comm d]
            by_cases w : c * b < a * d
            · rw [if_pos w, if_pos (x2.mp w)]
            · rw [if_neg w, if_neg (fun u => w (x2.mpr u))]
          · rw [if_neg l1_0, grR, if_pos rfl, grR, if_neg l1_0, Nat.mul_comm b, Nat.mul_comm d]
            by_cases w : a * d < c * b
            · rw [if_pos w, if_pos (x1.mp w)]
            · rw [if_neg w, if_neg (fun u => w (x1.mpr u))]
  · left
    have l0 : ¬ lg_cmp (zL (a / b)) (zL (c / d)) = 0 := fun w => z (zL_inj (by omega) (by omega) ((lg_cmp_eq _ _).mp w))
    rw [ex_bf l0, f_X11_isGreater_b137, zL_div ha hb hb2, zL_div hc hd hd2]
    rcases Nat.lt_or_gt_of_ne z with w | w
    · have k := crs_lt hb hd w
      have le : lg_cmp (zL (a / b)) (zL (c / d)) ≤ 0 := (lg_cmp_le _ _).mpr ((zL_le (by omega) (by omega)).mpr (by omega))
      have ge : ¬ 0 ≤ lg_cmp (zL (a / b)) (zL (c / d)) := fun u => by
        have := (zL_le (by omega) (by omega)).mp ((lg_cmp_ge _ _).mp u); omega
      rcases hf with rfl | rfl
      · rw [ex_bt rfl, ex_gd nb, ex_gd nd, ex_bt le, ex_rt, grR, if_pos rfl, if_neg (by omega)]
      · rw [ex_bf l1_0, ex_gd nb, ex_gd nd, ex_bf ge, ex_rt, grR, if_neg l1_0, if_pos k]
    · have k := crs_lt hd hb w
      have le : ¬ lg_cmp (zL (a / b)) (zL (c / d)) ≤ 0 := fun u => by
        have := (zL_le (by omega) (by omega)).mp ((lg_cmp_le _ _).mp u); omega
      have ge : 0 ≤ lg_cmp (zL (a / b)) (zL (c / d)) := (lg_cmp_ge _ _).mpr ((zL_le (by omega) (by omega)).mpr (by omega))
      rcases hf with rfl | rfl
      · rw [ex_bt rfl, ex_gd nb, ex_gd nd, ex_bf le, ex_rt, grR, if_pos rfl, if_pos k]
      · rw [ex_bf l1_0, ex_gd nb, ex_gd nd, ex_bt ge, ex_rt, grR, if_neg l1_0, if_neg (by omega)]
