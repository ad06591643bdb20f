-- ===== the egg: when one more is worth it =====
theorem egg_rise {n pr p s : Nat} (h : 0 < pr) : (n * pr) * (s * p + pr) < ((n + 1) * (pr * p)) * s ↔ n * pr < p * s := by
  have e1 : (n * pr) * (s * p + pr) = pr * (n * (p * s)) + pr * (n * pr) := by
    simp only [Nat.mul_add, Nat.mul_comm, Nat.mul_left_comm, Nat.mul_assoc]
  have e2 : ((n + 1) * (pr * p)) * s = pr * (n * (p * s)) + pr * (p * s) := by
    rw [Nat.mul_assoc, Nat.add_mul, Nat.one_mul]
    simp only [Nat.mul_comm, Nat.mul_left_comm, Nat.mul_assoc]
  rw [e1, e2, Nat.add_lt_add_iff_left]
  exact Nat.mul_lt_mul_left h
theorem egg_keep {n pr p s : Nat} (h : p * s ≤ n * pr) : p * (s * p + pr) ≤ (n + 1) * (pr * p) := by
  have e1 : p * (s * p + pr) = (p * s) * p + pr * p := by
    rw [Nat.mul_add, Nat.mul_assoc, Nat.mul_comm p pr]
  have e2 : (n + 1) * (pr * p) = (n * pr) * p + pr * p := by
    rw [Nat.add_mul, Nat.one_mul, Nat.mul_assoc]
  rw [e1, e2]
  exact Nat.add_le_add_right (Nat.mul_le_mul_right p h) _
