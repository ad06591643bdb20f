-- ===== isGreater =====
def grR (a b c d : Nat) (fl : Int32) : Int32 := if fl = 0 then (if c * b < a * d then 1 else 0) else (if a * d < c * b then 1 else 0)
theorem zL_lt {a b : Nat} (ha : a < 2 ^ 63) (hb : b < 2 ^ 63) : zL a < zL b ↔ a < b := by
  rw [Int64.lt_iff_toInt_lt, zL_toInt ha, zL_toInt hb]; omega
theorem zL_le {a b : Nat} (ha : a < 2 ^ 63) (hb : b < 2 ^ 63) : zL a ≤ zL b ↔ a ≤ b := by
  rw [Int64.le_iff_toInt_le, zL_toInt ha, zL_toInt hb]; omega
theorem gr_one {a b c d fu : Nat} {fl : Int32} {τ : Sg} (hb : 0 < b) (hd : 0 < d) (ha : a < 2 ^ 63) (hb2 : b < 2 ^ 63) (hc : c < 2 ^ 63) (hd2 : d < 2 ^ 63) (hf : fl = 0 ∨ fl = 1) : f_X11_isGreater_b17 (fu + 1) (zL a) (zL b) (zL c) (zL d) fl τ = some (grR a b c d fl, τ) ∨ (0 < a % b ∧ 0 < c % d ∧ f_X11_isGreater_b17 (fu + 1) (zL a) (zL b) (zL c) (zL d) fl τ = f_X11_isGreater_b17 fu (zL b) (zL (a % b)) (zL d) (zL (c % d)) (if fl = 0 then 1 else 0) τ ∧ grR b (a % b) d (c % d) (if fl = 0 then 1 else 0) = grR a b c d fl) := by
  have nb := zL_ne0 hb hb2
  have nd := zL_ne0 hd hd2
  have q1 : a / b ≤ a := Nat.div_le_self a b
  have q2 : c / d ≤ c := Nat.div_le_self c d
  have m1 := Nat.mod_lt a hb
  have m2 := Nat.mod_lt c hd
  rw [f_X11_isGreater_b17, ex_gd nb, ex_gd nd, zL_div ha hb hb2, zL_div hc hd hd2]
  by_cases z : a / b = c / d
  · obtain ⟨x1, x2⟩ := crs_eq z
    have l0 : lg_cmp (zL (a / b)) (zL (c / d)) = 0 := (lg_cmp_eq _ _).mpr (by rw [z])
    rw [ex_bt l0, ex_gd nb, ex_lt, ← zL_div ha hb hb2, zL_mod ha hb hb2, ex_gd nd, ex_lt, ← zL_div hc hd hd2, zL_mod hc hd hd2]
    by_cases r1 : a % b = 0
    · left
      have e1 : lg_cmp (zL (a % b)) 0 = 0 := (lg_cmp_eq _ _).mpr (by rw [r1]; rfl)
      have e1' : lg_cmp (zL (a % b)) 0 ≤ 0 := by rw [e1]; decide
      rw [ex_bt e1, f_X11_isGreater_b59]
      rcases hf with rfl | rfl
      · rw [ex_bt rfl, ex_bt e1', ex_rt, grR, if_pos rfl, if_neg (fun w => by have := x2.mp w; rw [r1, Nat.zero_mul] at this; omega)]
      · rw [ex_bf l1_0, ex_bt e1, grR, if_neg l1_0]
        by_cases r2 : c % d = 0
        · have e2 : lg_cmp (zL (c % d)) 0 ≤ 0 := (lg_cmp_le _ _).mpr (by rw [r2]; exact Int64.le_refl _)
          rw [ex_bt e2, f_X11_isGreater_b82, ex_rt, if_neg (fun w => by have := x1.mp w; rw [r2, Nat.zero_mul] at this; omega)]
        · have e2 : ¬ lg_cmp (zL (c % d)) 0 ≤ 0 := fun w => by
            have := (zL_le (b := 0) (by omega) (by omega)).mp ((lg_cmp_le _ _).mp w)
            omega
          rw [ex_bf e2, ex_rt, if_pos (x1.mpr (by rw [r1, Nat.zero_mul]; exact Nat.mul_pos (by omega) hb))]
    · have e1 : ¬ lg_cmp (zL (a % b)) 0 = 0 := fun w => zL_ne0 (by omega) (by omega) ((lg_cmp_eq _ _).mp w)
      have e1' : ¬ lg_cmp (zL (a % b)) 0 ≤ 0 := fun w => by
        have := (zL_le (b := 0) (by omega) (by omega)).mp ((lg_cmp_le _ _).mp w)
        omega
      rw [ex_bf e1]
      by_cases r2 : c % d = 0
      · left
        have e2 : lg_cmp (zL (c % d)) 0 = 0 := (lg_cmp_eq _ _).mpr (by rw [r2]; rfl)
        rw [ex_bt e2, f_X11_isGreater_b59]
        rcases hf with rfl | rfl
        · rw [ex_bt rfl, ex_bf e1', ex_bt e2, ex_rt, grR, if_pos rfl, if_pos (x2.mpr (by rw [r2, Nat.zero_mul]; exact Nat.mul_pos (by omega) hd))]
        · rw [ex_bf l1_0, ex_bf e1, f_X11_isGreater_b82, ex_rt, grR, if_neg l1_0, if_neg (fun w => by have := x1.mp w; rw [r2, Nat.zero_mul] at this; omega)]
      · right
        have e2 : ¬ lg_cmp (zL (c % d)) 0 = 0 := fun w => zL_ne0 (by omega) (by omega) ((lg_cmp_eq _ _).mp w)
        refine ⟨by omega, by omega, ?_, ?_⟩
        · rw [ex_bf e2]
          rcases hf with rfl | rfl
          · rw [ex_bt rfl, if_pos rfl, f_X11_isGreater_b132]
          · rw [ex_bf l1_0, if_neg l1_0, f_X11_isGreater_b132]
        · rcases hf with rfl | rfl
          · rw [if_pos rfl, grR, if_neg l1_0, grR, if_pos rfl, Nat.mul_comm b, Nat.mul_comm d]
            by_cases w : c * b < a * d
            · rw [if_pos w, if_pos (x2.mp w)]
            · rw [if_neg w, if_neg (fun u => w (x2.mpr u))]
          · rw [if_neg l1_0, grR, if_pos rfl, grR, if_neg l1_0, Nat.mul_comm b, Nat.mul_comm d]
            by_cases w : a * d < c * b
            · rw [if_pos w, if_pos (x1.mp w)]
            · rw [if_neg w, if_neg (fun u => w (x1.mpr u))]
  · left
    have l0 : ¬ lg_cmp (zL (a / b)) (zL (c / d)) = 0 := fun w => z (zL_inj (by omega) (by omega) ((lg_cmp_eq _ _).mp w))
    rw [ex_bf l0, f_X11_isGreater_b137, zL_div ha hb hb2, zL_div hc hd hd2]
    rcases Nat.lt_or_gt_of_ne z with w | w
    · have k := crs_lt hb hd w
      have le : lg_cmp (zL (a / b)) (zL (c / d)) ≤ 0 := (lg_cmp_le _ _).mpr ((zL_le (by omega) (by omega)).mpr (by omega))
      have ge : ¬ 0 ≤ lg_cmp (zL (a / b)) (zL (c / d)) := fun u => by
        have := (zL_le (by omega) (by omega)).mp ((lg_cmp_ge _ _).mp u); omega
      rcases hf with rfl | rfl
      · rw [ex_bt rfl, ex_gd nb, ex_gd nd, ex_bt le, ex_rt, grR, if_pos rfl, if_neg (by omega)]
      · rw [ex_bf l1_0, ex_gd nb, ex_gd nd, ex_bf ge, ex_rt, grR, if_neg l1_0, if_pos k]
    · have k := crs_lt hd hb w
      have le : ¬ lg_cmp (zL (a / b)) (zL (c / d)) ≤ 0 := fun u => by
        have := (zL_le (by omega) (by omega)).mp ((lg_cmp_le _ _).mp u); omega
      have ge : 0 ≤ lg_cmp (zL (a / b)) (zL (c / d)) := (lg_cmp_ge _ _).mpr ((zL_le (by omega) (by omega)).mpr (by omega))
      rcases hf with rfl | rfl
      · rw [ex_bt rfl, ex_gd nb, ex_gd nd, ex_bf le, ex_rt, grR, if_pos rfl, if_pos k]
      · rw [ex_bf l1_0, ex_gd nb, ex_gd nd, ex_bt ge, ex_rt, grR, if_neg l1_0, if_neg (by omega)]
theorem gr_eq {τ : Sg} : ∀ (k a b c d fu : Nat) (fl : Int32), b < 2 ^ k → 0 < b → 0 < d → a < 2 ^ 63 → b < 2 ^ 63 → c < 2 ^ 63 → d < 2 ^ 63 → (fl = 0 ∨ fl = 1) → f_X11_isGreater_b17 (fu + 2 * k + 1) (zL a) (zL b) (zL c) (zL d) fl τ = some (grR a b c d fl, τ) := by
  intro k
  have ff : ∀ fl : Int32, (if fl = 0 then (1 : Int32) else 0) = 0 ∨ (if fl = 0 then (1 : Int32) else 0) = 1 := fun fl => by
    by_cases h : fl = 0
    · right; rw [if_pos h]
    · left; rw [if_neg h]
  induction k with
  | zero => intro a b c d fu fl h h0; omega
  | succ k ih =>
    intro a b c d fu fl h h0 hd ha hb hc hd2 hf
    rw [show fu + 2 * (k + 1) + 1 = (fu + 2 * k + 1 + 1) + 1 by omega]
    rcases gr_one (fu := fu + 2 * k + 1 + 1) (τ := τ) h0 hd ha hb hc hd2 hf with q | ⟨r1, r2, q, e⟩
    · exact q
    · have m1 := Nat.mod_lt a h0
      have m2 := Nat.mod_lt c hd
      rw [q, ← e]
      rcases gr_one (a := b) (b := a % b) (c := d) (d := c % d) (fu := fu + 2 * k + 1) (τ := τ) r1 r2 hb (by omega) hd2 (by omega) (ff fl) with q' | ⟨s1, s2, q', e'⟩
      · exact q'
      · have hh := mod_half m1 r1
        have p2 : 2 ^ (k + 1) = 2 * 2 ^ k := by rw [Nat.pow_succ, Nat.mul_comm]
        rw [q', ← e']
        have n1 := Nat.mod_lt d r2
        exact ih (a % b) (b % (a % b)) (c % d) (d % (c % d)) fu _ (by omega) s1 s2 (by omega) (by omega) (by omega) (by omega) (ff _)
theorem isGreater_eq {a b c d : Nat} {τ : Sg} (hb : 0 < b) (hd : 0 < d) (ha : a < 2 ^ 60) (hb2 : b < 2 ^ 60) (hc : c < 2 ^ 60) (hd2 : d < 2 ^ 60) : f_X11_isGreater (zL a) (zL b) (zL c) (zL d) τ = some (if c * b < a * d then 1 else 0, τ) := by
  have := gr_eq (τ := τ) 60 a b c d (8191 - 120) 0 hb2 hb hd (by omega) (by omega) (by omega) (by omega) (Or.inl rfl)
  rw [grR, if_pos rfl] at this
  exact this
