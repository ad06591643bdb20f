-- ===== fractions in lowest terms =====
theorem low_eq {p w p' w' : Nat} (hw : 0 < w) (hw' : 0 < w') (h : p * w' = p' * w) : p / Nat.gcd w p = p' / Nat.gcd w' p' ∧ w / Nat.gcd w p = w' / Nat.gcd w' p' := by
  obtain ⟨b, a, c1, e1, e2⟩ := Nat.exists_coprime w p
  obtain ⟨b', a', c2, e3, e4⟩ := Nat.exists_coprime w' p'
  have g1 : 0 < Nat.gcd w p := Nat.gcd_pos_of_pos_left p hw
  have g2 : 0 < Nat.gcd w' p' := Nat.gcd_pos_of_pos_left p' hw'
  generalize Nat.gcd w p = G at *
  generalize Nat.gcd w' p' = G' at *
  subst e1
  subst e2
  subst e3
  subst e4
  have k : a * b' = a' * b := by
    have : (a * b') * (G * G') = (a' * b) * (G * G') := by
      have l : a * G * (b' * G') = a * b' * (G * G') := by rw [Nat.mul_assoc, Nat.mul_assoc, Nat.mul_left_comm G b' G']
      have r : a' * G' * (b * G) = a' * b * (G * G') := by rw [Nat.mul_assoc, Nat.mul_assoc, Nat.mul_left_comm G' b G, Nat.mul_comm G' G]
      rw [← l, ← r]; exact h
    exact Nat.eq_of_mul_eq_mul_right (Nat.mul_pos g1 g2) this
  have d1 : b ∣ b' := c1.dvd_of_dvd_mul_left (by rw [k]; exact Nat.dvd_mul_left b a')
  have d2 : b' ∣ b := c2.dvd_of_dvd_mul_left (by rw [← k]; exact Nat.dvd_mul_left b' a)
  have eb : b = b' := Nat.dvd_antisymm d1 d2
  subst eb
  have bp : 0 < b := Nat.pos_of_mul_pos_right hw
  have ea : a = a' := Nat.eq_of_mul_eq_mul_right bp k
  subst ea
  rw [Nat.mul_div_cancel _ g1, Nat.mul_div_cancel _ g2, Nat.mul_div_cancel _ g1, Nat.mul_div_cancel _ g2]
  exact ⟨rfl, rfl⟩
theorem part_eq {p w : Nat} {x : Int32} {σ : Sg} (hp : p < 2 ^ 60) (hw : w < 2 ^ 60) (h0 : 0 < w) : f_X10_partOf (zL p) (zL w) x σ = some (zL (if x = 0 then p / Nat.gcd w p else w / Nat.gcd w p), σ) := by
  have d1 := div_eq (σ := σ) 60 p w 0 (8191 - 120) hw (by omega) (by omega) (by omega)
  have gp : 0 < Nat.gcd w p := Nat.gcd_pos_of_pos_left p h0
  have gl : Nat.gcd w p ≤ w := Nat.gcd_le_left p h0
  generalize Nat.gcd w p = G at *
  have n0 := zL_ne0 gp (show G < 2 ^ 63 by omega)
  have nle : ¬ lg_cmp (zL G) 0 ≤ 0 := fun q => by
    have q := (lg_cmp_le _ _).mp q
    rw [Int64.le_iff_toInt_le, zL_toInt (by omega)] at q
    have : (0 : Int64).toInt = 0 := by decide
    omega
  have s1 : f_X10_sharedDivisor (zL p) (zL w) σ = some (zL G, σ) := d1
  by_cases z : x = 0
  · rw [f_X10_partOf, ex_cl s1, ex_bt z, if_pos z, f_X10_partOf_b17, ex_bf nle, ex_gd n0, ex_rt, zL_div (by omega) gp (by omega)]
  · rw [f_X10_partOf, ex_cl s1, ex_bf z, if_neg z, f_X10_partOf_b17, ex_bf nle, ex_gd n0, ex_rt, zL_div (by omega) gp (by omega)]
theorem portion_eq {p w : Nat} {x : Int32} {τ : Sg} (hp : p < 2 ^ 60) (hw : w < 2 ^ 60) (h0 : 0 < w) : f_X11_portion (zL p) (zL w) x τ = some (zL (if x = 0 then p / Nat.gcd w p else w / Nat.gcd w p), τ) := by
  have d2 := com_eq (τ := τ) 60 w p (8191 - 120) hp (by omega) (by omega)
  rw [Nat.gcd_comm] at d2
  have gp : 0 < Nat.gcd w p := Nat.gcd_pos_of_pos_left p h0
  have gl : Nat.gcd w p ≤ w := Nat.gcd_le_left p h0
  generalize Nat.gcd w p = G at *
  have n0 := zL_ne0 gp (show G < 2 ^ 63 by omega)
  have s2 : f_X11_common (zL w) (zL p) τ = some (zL G, τ) := d2
  by_cases z : x = 0
  · rw [f_X11_portion, ex_bt z, if_pos z, f_X11_portion_b10, ex_cl s2, ex_gd n0, ex_rt, zL_div (by omega) gp (by omega)]
  · rw [f_X11_portion, ex_bf z, if_neg z, f_X11_portion_b10, ex_cl s2, ex_gd n0, ex_rt, zL_div (by omega) gp (by omega)]
