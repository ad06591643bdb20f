-- ===== which fraction is greater =====
theorem crs_lt {a b c d : Nat} (hb : 0 < b) (hd : 0 < d) (h : a / b < c / d) : a * d < c * b := by
  have h1 : a < (a / b + 1) * b := by
    have := Nat.div_add_mod a b
    have := Nat.mod_lt a hb
    rw [Nat.add_mul, Nat.one_mul, Nat.mul_comm]
    omega
  have h2 : (a / b + 1) * b ≤ (c / d) * b := Nat.mul_le_mul_right b h
  have h3 : (c / d) * d ≤ c := Nat.div_mul_le_self c d
  have h4 : a * d < (c / d) * b * d := Nat.mul_lt_mul_of_pos_right (by omega) hd
  have h5 : (c / d) * b * d = (c / d) * d * b := by rw [Nat.mul_assoc, Nat.mul_comm b d, ← Nat.mul_assoc]
  have h6 : (c / d) * d * b ≤ c * b := Nat.mul_le_mul_right b h3
  omega
theorem crs_eq {a b c d : Nat} (h : a / b = c / d) : (a * d < c * b ↔ (a % b) * d < (c % d) * b) ∧ (c * b < a * d ↔ (c % d) * b < (a % b) * d) := by
  have h1 := Nat.div_add_mod a b
  have h2 := Nat.div_add_mod c d
  rw [← h] at h2
  generalize a % b = r at *
  generalize c % d = t at *
  generalize a / b = q at *
  subst h1
  subst h2
  have e1 : (b * q + r) * d = b * q * d + r * d := Nat.add_mul _ _ _
  have e2 : (d * q + t) * b = b * q * d + t * b := by
    rw [Nat.add_mul, Nat.mul_comm (d * q) b, Nat.mul_comm d q, Nat.mul_assoc]
  rw [e1, e2]
  omega
