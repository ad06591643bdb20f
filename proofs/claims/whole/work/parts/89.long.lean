-- ===== longs that are numbers; the shared divisor =====
def zL (n : Nat) : Int64 := Int64.ofNat n
theorem zL_toInt {n : Nat} (h : n < 2 ^ 63) : (zL n).toInt = n := Int64.toInt_ofNat_of_lt h
theorem zL_inj {a b : Nat} (ha : a < 2 ^ 63) (hb : b < 2 ^ 63) (h : zL a = zL b) : a = b := by
  have h1 := zL_toInt ha
  have h2 := zL_toInt hb
  rw [h] at h1
  omega
theorem zL_add (a b : Nat) : zL a + zL b = zL (a + b) := (Int64.ofNat_add a b).symm
theorem zL_mul (a b : Nat) : zL a * zL b = zL (a * b) := (Int64.ofNat_mul a b).symm
theorem toL_div {a b : Int64} (h : -9223372036854775808 ≤ a.toInt.tdiv b.toInt ∧ a.toInt.tdiv b.toInt < 9223372036854775808) : (a / b).toInt = a.toInt.tdiv b.toInt := by
  rw [Int64.toInt_div, Int.bmod_eq_of_le] <;> omega
theorem toL_sub {a b : Int64} (h : -9223372036854775808 ≤ a.toInt - b.toInt ∧ a.toInt - b.toInt < 9223372036854775808) : (a - b).toInt = a.toInt - b.toInt := by
  rw [Int64.toInt_sub, Int.bmod_eq_of_le] <;> omega
theorem zL_div {a b : Nat} (ha : a < 2 ^ 63) (hb : 0 < b) (hb2 : b < 2 ^ 63) : zL a / zL b = zL (a / b) := by
  have h1 : a / b ≤ a := Nat.div_le_self a b
  apply Int64.toInt_inj.mp
  rw [toL_div, zL_toInt ha, zL_toInt hb2, zL_toInt (by omega)]
  · exact (Int.ofNat_tdiv a b).symm
  · rw [zL_toInt ha, zL_toInt hb2, ← Int.ofNat_tdiv]
    generalize a / b = z at h1
    omega
theorem zL_sub {a b : Nat} (ha : a < 2 ^ 63) (h : b ≤ a) : zL a - zL b = zL (a - b) := by
  apply Int64.toInt_inj.mp
  rw [toL_sub, zL_toInt ha, zL_toInt (by omega), zL_toInt (by omega)]
  · omega
  · rw [zL_toInt ha, zL_toInt (by omega)]; omega
theorem zL_mod {a b : Nat} (ha : a < 2 ^ 63) (hb : 0 < b) (hb2 : b < 2 ^ 63) : zL a - zL a / zL b * zL b = zL (a % b) := by
  have h1 : a / b * b ≤ a := Nat.div_mul_le_self a b
  rw [zL_div ha hb hb2, zL_mul, zL_sub ha h1]
  congr 1
  have := Nat.div_add_mod a b
  rw [Nat.mul_comm] at this
  omega
theorem zL_ne0 {a : Nat} (h0 : 0 < a) (h : a < 2 ^ 63) : ¬ zL a = 0 := fun q => by
  have := zL_inj (b := 0) h (by omega) q
  omega
theorem mod_half {b r : Nat} (h : r < b) (h0 : 0 < r) : 2 * (b % r) < b := by
  have h1 := Nat.mod_lt b h0
  have h2 := Nat.div_add_mod b r
  have h3 : 1 ≤ b / r := (Nat.one_le_div_iff h0).mpr (by omega)
  have h4 : r * 1 ≤ r * (b / r) := Nat.mul_le_mul_left r h3
  omega
theorem div_eq {σ : Sg} : ∀ (k a b i fu : Nat), b < 2 ^ k → a < 2 ^ 63 → b < 2 ^ 63 → i + 2 * k < 1000 → f_X10_sharedDivisor_b9 (fu + 2 * k + 1) (zL a) (zL b) (nI i) σ = some (zL (Nat.gcd b a), σ) := by
  intro k
  have st : ∀ (a b i fu : Nat), 0 < b → a < 2 ^ 63 → b < 2 ^ 63 → i < 1000 → f_X10_sharedDivisor_b9 (fu + 1) (zL a) (zL b) (nI i) σ = f_X10_sharedDivisor_b9 fu (zL b) (zL (a % b)) (nI (i + 1)) σ := by
    intro a b i fu hb ha hb2 hi
    have ge : ¬ (1000 : Int32) ≤ nI i := fun q => by have := (nI_leL (x := 1000) (k := 1000) rfl (by omega) (by omega)).mp q; omega
    have n0 := zL_ne0 hb hb2
    rw [f_X10_sharedDivisor_b9, ex_bf ge, ex_bf (fun q => n0 ((lg_cmp_eq _ _).mp q)), ex_gd n0, ex_lt, zL_mod ha hb hb2, nI_1]
  have ed : ∀ (a i fu : Nat), i < 1000 → f_X10_sharedDivisor_b9 (fu + 1) (zL a) (zL 0) (nI i) σ = some (zL a, σ) := by
    intro a i fu hi
    have ge : ¬ (1000 : Int32) ≤ nI i := fun q => by have := (nI_leL (x := 1000) (k := 1000) rfl (by omega) (by omega)).mp q; omega
    rw [f_X10_sharedDivisor_b9, ex_bf ge, ex_bt (show lg_cmp (zL 0) 0 = 0 from (lg_cmp_eq _ _).mpr rfl), ex_rt]
  induction k with
  | zero =>
    intro a b i fu hb ha hb2 hi
    have : b = 0 := by omega
    subst this
    rw [Nat.gcd_zero_left]
    exact ed a i _ (by omega)
  | succ k ih =>
    intro a b i fu hb ha hb2 hi
    by_cases z : b = 0
    · subst z
      rw [Nat.gcd_zero_left]
      exact ed a i _ (by omega)
    · have rl := Nat.mod_lt a (show 0 < b by omega)
      rw [show fu + 2 * (k + 1) + 1 = (fu + 2 * k + 1 + 1) + 1 by omega, st a b i _ (by omega) ha hb2 (by omega), Nat.gcd_rec b a]
      by_cases y : a % b = 0
      · rw [y, Nat.gcd_zero_left]
        exact ed b (i + 1) _ (by omega)
      · have hh := mod_half rl (by omega)
        have p2 : 2 ^ (k + 1) = 2 * 2 ^ k := by rw [Nat.pow_succ, Nat.mul_comm]
        rw [st b (a % b) (i + 1) _ (by omega) hb2 (by omega) (by omega), Nat.gcd_rec (a % b) b]
        exact ih (a % b) (b % (a % b)) (i + 1 + 1) fu (by omega) (by omega) (by omega) (by omega)
theorem com_eq {τ : Sg} : ∀ (k a b fu : Nat), b < 2 ^ k → a < 2 ^ 63 → b < 2 ^ 63 → f_X11_common_b6 (fu + 2 * k + 1) (zL a) (zL b) τ = some (zL (Nat.gcd b a), τ) := by
  intro k
  have st : ∀ (a b fu : Nat), 0 < b → a < 2 ^ 63 → b < 2 ^ 63 → f_X11_common_b6 (fu + 1) (zL a) (zL b) τ = f_X11_common_b6 fu (zL b) (zL (a % b)) τ := by
    intro a b fu hb ha hb2
    have n0 := zL_ne0 hb hb2
    rw [f_X11_common_b6, ex_bf (fun q => n0 ((lg_cmp_eq _ _).mp q)), ex_gd n0, ex_lt, zL_mod ha hb hb2]
  have ed : ∀ (a fu : Nat), f_X11_common_b6 (fu + 1) (zL a) (zL 0) τ = some (zL a, τ) := by
    intro a fu
    rw [f_X11_common_b6, ex_bt (show lg_cmp (zL 0) 0 = 0 from (lg_cmp_eq _ _).mpr rfl), ex_rt]
  induction k with
  | zero =>
    intro a b fu hb ha hb2
    have : b = 0 := by omega
    subst this
    rw [Nat.gcd_zero_left]
    exact ed a _
  | succ k ih =>
    intro a b fu hb ha hb2
    by_cases z : b = 0
    · subst z
      rw [Nat.gcd_zero_left]
      exact ed a _
    · have rl := Nat.mod_lt a (show 0 < b by omega)
      rw [show fu + 2 * (k + 1) + 1 = (fu + 2 * k + 1 + 1) + 1 by omega, st a b _ (by omega) ha hb2, Nat.gcd_rec b a]
      by_cases y : a % b = 0
      · rw [y, Nat.gcd_zero_left]
        exact ed b _
      · have hh := mod_half rl (by omega)
        have p2 : 2 ^ (k + 1) = 2 * 2 ^ k := by rw [Nat.pow_succ, Nat.mul_comm]
        rw [st b (a % b) _ (by omega) hb2 (by omega), Nat.gcd_rec (a % b) b]
        exact ih (a % b) (b % (a % b)) fu (by omega) (by omega) (by omega)
theorem part_rel {p w : Nat} {x : Int32} {σ τ : Sg} (hp : p < 2 ^ 60) (hw : w < 2 ^ 60) (h0 : 0 < w) : ∃ v, f_X10_partOf (zL p) (zL w) x σ = some (v, σ) ∧ f_X11_portion (zL p) (zL w) x τ = some (v, τ) := by
  have d1 := div_eq (σ := σ) 60 p w 0 (8191 - 120) hw (by omega) (by omega) (by omega)
  have d2 := com_eq (τ := τ) 60 w p (8191 - 120) hp (by omega) (by omega)
  rw [Nat.gcd_comm] at d2
  have gp : 0 < Nat.gcd w p := Nat.gcd_pos_of_pos_left p h0
  have gl : Nat.gcd w p ≤ w := Nat.gcd_le_left p h0
  generalize Nat.gcd w p = G at *
  have n0 := zL_ne0 gp (show G < 2 ^ 63 by omega)
  have nle : ¬ lg_cmp (zL G) 0 ≤ 0 := fun q => by
    have q := (lg_cmp_le _ _).mp q
    rw [Int64.le_iff_toInt_le, zL_toInt (by omega)] at q
    have : (0 : Int64).toInt = 0 := by decide
    omega
  have s1 : f_X10_sharedDivisor (zL p) (zL w) σ = some (zL G, σ) := d1
  have s2 : f_X11_common (zL w) (zL p) τ = some (zL G, τ) := d2
  by_cases z : x = 0
  · exact ⟨zL p / zL G, by rw [f_X10_partOf, ex_cl s1, ex_bt z, f_X10_partOf_b17, ex_bf nle, ex_gd n0, ex_rt], by rw [f_X11_portion, ex_bt z, f_X11_portion_b10, ex_cl s2, ex_gd n0, ex_rt]⟩
  · exact ⟨zL w / zL G, by rw [f_X10_partOf, ex_cl s1, ex_bf z, f_X10_partOf_b17, ex_bf nle, ex_gd n0, ex_rt], by rw [f_X11_portion, ex_bf z, f_X11_portion_b10, ex_cl s2, ex_gd n0, ex_rt]⟩
