-- ===== the egg: sums, products, the class's loop, the reference's =====
def eS (P : Nat → Nat) : Nat → Nat × Nat
  | 0 => (0, 1)
  | m + 1 => ((eS P m).1 * P m + (eS P m).2, (eS P m).2 * P m)
def eM (P : Nat → Nat) : Nat → Nat → Nat
  | 0, m => m
  | d + 1, m => if P m * (eS P m).1 ≤ (m - 1) * (eS P m).2 then m else eM P d (m + 1)
def lu (p w : Nat) : Nat := p / Nat.gcd w p
def ll (p w : Nat) : Nat := w / Nat.gcd w p
theorem eS_pos {P : Nat → Nat} : ∀ m, (∀ j, j < m → 1 ≤ P j) → 1 ≤ (eS P m).2 ∧ (1 ≤ m → 1 ≤ (eS P m).1) := by
  intro m
  induction m with
  | zero => intro _; exact ⟨Nat.le_refl 1, fun h => absurd h (by omega)⟩
  | succ m ih =>
    intro h
    have i := ih (fun j hj => h j (by omega))
    have : 1 ≤ (eS P m).2 * P m := Nat.mul_pos i.1 (h m (by omega))
    refine ⟨this, fun _ => ?_⟩
    show 1 ≤ (eS P m).1 * P m + (eS P m).2
    omega
theorem eS_le {P : Nat → Nat} : ∀ m, (∀ j, j < m → P j ≤ 99) → (eS P m).2 ≤ 99 ^ m ∧ (eS P m).1 ≤ m * 99 ^ m := by
  intro m
  induction m with
  | zero => intro _; exact ⟨Nat.le_refl 1, Nat.zero_le _⟩
  | succ m ih =>
    intro h
    obtain ⟨i1, i2⟩ := ih (fun j hj => h j (by omega))
    have hm := h m (by omega)
    have a1 : (eS P m).2 * P m ≤ 99 ^ m * 99 := Nat.mul_le_mul i1 hm
    have a2 : (eS P m).1 * P m ≤ m * 99 ^ m * 99 := Nat.mul_le_mul i2 hm
    refine ⟨a1, ?_⟩
    show (eS P m).1 * P m + (eS P m).2 ≤ (m + 1) * (99 ^ m * 99)
    rw [Nat.add_mul, Nat.one_mul, ← Nat.mul_assoc]
    omega
theorem eS_b {P : Nat → Nat} {m : Nat} (hm : m ≤ 8) (h : ∀ j, j < m → P j ≤ 99) : (eS P m).2 ≤ 99 ^ 8 ∧ (eS P m).1 ≤ 8 * 99 ^ 8 := by
  obtain ⟨a, b⟩ := eS_le m h
  have p : 99 ^ m ≤ 99 ^ 8 := Nat.pow_le_pow_right (by omega) hm
  exact ⟨Nat.le_trans a p, Nat.le_trans b (Nat.mul_le_mul hm p)⟩
theorem lu_mul {p w : Nat} : lu p w * Nat.gcd w p = p := Nat.div_mul_cancel (Nat.gcd_dvd_right w p)
theorem ll_mul {p w : Nat} : ll p w * Nat.gcd w p = w := Nat.div_mul_cancel (Nat.gcd_dvd_left w p)
theorem lu_cmp {p w p' w' : Nat} (hw : 0 < w) (hw' : 0 < w') : lu p' w' * ll p w < lu p w * ll p' w' ↔ p' * w < p * w' := by
  have g1 : 0 < Nat.gcd w p := Nat.gcd_pos_of_pos_left p hw
  have g2 : 0 < Nat.gcd w' p' := Nat.gcd_pos_of_pos_left p' hw'
  have e1 : p' * w = (lu p' w' * ll p w) * (Nat.gcd w p * Nat.gcd w' p') := by
    conv => lhs; rw [← lu_mul (p := p') (w := w'), ← ll_mul (p := p) (w := w)]
    simp only [Nat.mul_comm, Nat.mul_left_comm, Nat.mul_assoc]
  have e2 : p * w' = (lu p w * ll p' w') * (Nat.gcd w p * Nat.gcd w' p') := by
    conv => lhs; rw [← lu_mul (p := p) (w := w), ← ll_mul (p := p') (w := w')]
    simp only [Nat.mul_comm, Nat.mul_left_comm, Nat.mul_assoc]
  rw [e1, e2]
  exact (Nat.mul_lt_mul_right (Nat.mul_pos g1 g2)).symm
theorem lu_eq {p w p' w' : Nat} (hw : 0 < w) (hw' : 0 < w') (h : p * w' = p' * w) : lu p w = lu p' w' ∧ ll p w = ll p' w' := low_eq hw hw' h
theorem lu_le {p w : Nat} : lu p w ≤ p := Nat.div_le_self _ _
theorem ll_le {p w : Nat} : ll p w ≤ w := Nat.div_le_self _ _
theorem ll_pos {p w : Nat} (hw : 0 < w) : 0 < ll p w := Nat.div_pos (Nat.gcd_le_left p hw) (Nat.gcd_pos_of_pos_left p hw)
theorem lu_pos {p w : Nat} (hp : 0 < p) : 0 < lu p w := Nat.div_pos (Nat.gcd_le_right w hp) (Nat.gcd_pos_of_pos_right w hp)
theorem open_loop {P : Nat → Nat} {p : Nat} (hp : p ≤ 8) (hP : ∀ j, j < p → 1 ≤ P j ∧ P j ≤ 99) : ∀ (d m fu : Nat) (σ : Sg), m + d = p → 2 ≤ m → (∀ j, j < p → σ.1 34 j = nI (P j)) → σ.1 33 3 = nI m → ∃ σ', f_X0_open_b77 (fu + d + 1) (nI p) (zL (eS P m).2) (zL (eS P m).1) (nI m) σ = some ((), σ') ∧ σ'.1 33 3 = nI (eM P d m) ∧ σ'.2.1 33 1 = zL ((eM P d m - 1) * (eS P (eM P d m)).2) ∧ σ'.2.1 33 2 = zL (eS P (eM P d m)).1 ∧ m ≤ eM P d m ∧ eM P d m ≤ p := by
  have fin : ∀ (m : Nat) (σ : Sg), m ≤ p → 2 ≤ m → σ.1 33 3 = nI m → ∃ σ', f_X0_open_b149 (zL (eS P m).2) (zL (eS P m).1) σ = some ((), σ') ∧ σ'.1 33 3 = nI m ∧ σ'.2.1 33 1 = zL ((m - 1) * (eS P m).2) ∧ σ'.2.1 33 2 = zL (eS P m).1 := by
    intro m σ hm h2 h3
    refine ⟨_, by rw [f_X0_open_b149, ex_dI, h3, nI_s1 (by omega), toL_nI (by omega), zL_mul, ex_pL, ex_pL, ex_rt], ?_, ?_, ?_⟩
    · exact h3
    · rw [sL_at, if_neg (by omega), sL_at, if_pos ⟨rfl, rfl⟩]
    · rw [sL_at, if_pos ⟨rfl, rfl⟩]
  intro d
  induction d with
  | zero =>
    intro m fu σ hm h2 hr h3
    have : m = p := by omega
    subst this
    obtain ⟨σ', a, b, c, e⟩ := fin m σ (Nat.le_refl _) h2 h3
    exact ⟨σ', by rw [f_X0_open_b77, ex_bt (Int32.le_refl _)]; exact a, b, c, e, Nat.le_refl _, Nat.le_refl _⟩
  | succ d ih =>
    intro m fu σ hm h2 hr h3
    have ge : ¬ nI p ≤ nI m := nI_ge (by omega) (by omega)
    have im := inb_nI (show m < 8 by omega) (by omega)
    have cm := nI_clamp (show m < 2 ^ 31 by omega)
    obtain ⟨b1, b2⟩ := eS_b (P := P) (m := m) (by omega) (fun j hj => (hP j (by omega)).2)
    obtain ⟨p1, p2⟩ := hP m (by omega)
    have x1 : P m * (eS P m).1 ≤ 99 * (8 * 99 ^ 8) := Nat.mul_le_mul p2 b2
    have x2 : (m - 1) * (eS P m).2 ≤ 8 * 99 ^ 8 := Nat.mul_le_mul (by omega) b1
    have cmp : (lg_cmp ((nI (P m)).toInt64 * zL (eS P m).1) ((nI m - 1).toInt64 * zL (eS P m).2) ≤ 0) ↔ P m * (eS P m).1 ≤ (m - 1) * (eS P m).2 := by
      rw [toL_nI (by omega), nI_s1 (by omega), toL_nI (by omega), zL_mul, zL_mul, lg_cmp_le, zL_le (by omega) (by omega)]
    by_cases z : P m * (eS P m).1 ≤ (m - 1) * (eS P m).2
    · obtain ⟨σ', a, b, c, e⟩ := fin m σ (by omega) h2 h3
      have em : eM P (d + 1) m = m := if_pos z
      rw [em]
      refine ⟨σ', ?_, b, c, e, Nat.le_refl _, by omega⟩
      rw [show fu + (d + 1) + 1 = (fu + d + 1) + 1 by omega, f_X0_open_b77, ex_bf ge, ex_gd im, ex_dI, cm, hr m (by omega), ex_dI, h3, ex_bt (cmp.mpr z)]
      exact a
    · have em : eM P (d + 1) m = eM P d (m + 1) := if_neg z
      rw [em]
      have r1 : zL (eS P m).1 * (nI (P m)).toInt64 + zL (eS P m).2 = zL (eS P (m + 1)).1 := by
        rw [toL_nI (by omega), zL_mul, zL_add]; rfl
      have r2 : zL (eS P m).2 * (nI (P m)).toInt64 = zL (eS P (m + 1)).2 := by
        rw [toL_nI (by omega), zL_mul]; rfl
      obtain ⟨σ', a, b, c, e, f, g⟩ := ih (m + 1) fu (sI σ 33 3 (nI (m + 1))) (by omega) (by omega) (fun j hj => by rw [sI_ne (by omega)]; exact hr j hj) sI_eq
      refine ⟨σ', ?_, b, c, e, by omega, g⟩
      rw [show fu + (d + 1) + 1 = (fu + d + 1) + 1 by omega, f_X0_open_b77, ex_bf ge, ex_gd im, ex_dI, cm, hr m (by omega), ex_dI, h3, ex_bf (fun q => z (cmp.mp q)), ex_gd im, ex_dI, hr m (by omega), ex_lt, r1, ex_gd im, ex_dI, hr m (by omega), ex_lt, r2, ex_dI, h3, ex_pI, nI_1]
      exact a
/-- what the reference has of the sum: a by b -/
def Eab (P : Nat → Nat) (m a b : Nat) : Prop := 0 < a ∧ 0 < b ∧ a ≤ (eS P m).1 ∧ b ≤ (eS P m).2 ∧ a * (eS P m).2 = b * (eS P m).1
def vU (P : Nat → Nat) (m : Nat) : Nat := lu ((m - 1) * (eS P m).2) (eS P m).1
def vL (P : Nat → Nat) (m : Nat) : Nat := ll ((m - 1) * (eS P m).2) (eS P m).1
theorem egg_step {P : Nat → Nat} {p m a b fu : Nat} {x1 x6 : Int32} {x2 x4 : Int64} {τ : Sg} (hp : p ≤ 8) (hP : ∀ j, j < p → 1 ≤ P j ∧ P j ≤ 99) (hm : m < p) (h1 : 1 ≤ m) (h8 : τ.1 56 8 = nI p) (hr : ∀ j, j < p → τ.1 91 j = nI (P j)) (E : Eab P m a b) : ∃ a' b', Eab P (m + 1) a' b' ∧ f_X11_egg_b129 (fu + 1) x1 x2 x4 x6 (zL a) (zL b) (nI (m + 1)) τ = (br (x6 ≤ 0) (f_X11_egg_b244 (f_X11_egg_b129 fu) x1 (zL a') (zL b') (nI (m + 1)) (zL (vU P (m + 1))) (zL (vL P (m + 1)))) (cl (f_X11_isGreater (zL (vU P (m + 1))) (zL (vL P (m + 1))) x2 x4) (fun r12 => br (r12 = 0) (f_X11_egg_b255 (f_X11_egg_b129 fu) x1 x2 x4 x6 (zL a') (zL b') (nI (m + 1))) (f_X11_egg_b244 (f_X11_egg_b129 fu) x1 (zL a') (zL b') (nI (m + 1)) (zL (vU P (m + 1))) (zL (vL P (m + 1))))))) τ := by
  obtain ⟨e1, e2, e3, e4, e5⟩ := E
  obtain ⟨p1, p2⟩ := hP m hm
  have hP' : ∀ j, j < m + 1 → P j ≤ 99 := fun j hj => (hP j (by omega)).2
  have hP1 : ∀ j, j < m + 1 → 1 ≤ P j := fun j hj => (hP j (by omega)).1
  obtain ⟨b1, b2⟩ := eS_b (P := P) (m := m + 1) (by omega) hP'
  obtain ⟨q1, q2⟩ := eS_pos (P := P) (m + 1) hP1
  have q2 := q2 (by omega)
  have c1 : a * P m + b ≤ (eS P (m + 1)).1 := Nat.add_le_add (Nat.mul_le_mul_right _ e3) e4
  have c2 : b * P m ≤ (eS P (m + 1)).2 := Nat.mul_le_mul_right _ e4
  have d0 : 0 < b * P m := Nat.mul_pos e2 p1
  have c0 : 0 < a * P m + b := by omega
  have cr : (a * P m + b) * (eS P (m + 1)).2 = (b * P m) * (eS P (m + 1)).1 := by
    show (a * P m + b) * ((eS P m).2 * P m) = (b * P m) * ((eS P m).1 * P m + (eS P m).2)
    have k1 : (a * P m + b) * ((eS P m).2 * P m) = (a * (eS P m).2) * (P m * P m) + b * P m * (eS P m).2 := by
      rw [Nat.add_mul]
      simp only [Nat.mul_comm, Nat.mul_left_comm, Nat.mul_assoc]
    have k2 : (b * P m) * ((eS P m).1 * P m + (eS P m).2) = (b * (eS P m).1) * (P m * P m) + b * P m * (eS P m).2 := by
      rw [Nat.mul_add]
      simp only [Nat.mul_comm, Nat.mul_left_comm, Nat.mul_assoc]
    rw [k1, k2, e5]
  have cr' : lu (a * P m + b) (b * P m) * (eS P (m + 1)).2 = ll (a * P m + b) (b * P m) * (eS P (m + 1)).1 := by
    have g : 0 < Nat.gcd (b * P m) (a * P m + b) := Nat.gcd_pos_of_pos_left _ d0
    apply Nat.eq_of_mul_eq_mul_right g
    rw [Nat.mul_right_comm, lu_mul, Nat.mul_right_comm, ll_mul, cr]
  have E' : Eab P (m + 1) (lu (a * P m + b) (b * P m)) (ll (a * P m + b) (b * P m)) := ⟨lu_pos c0, ll_pos d0, Nat.le_trans lu_le c1, Nat.le_trans ll_le c2, cr'⟩
  refine ⟨_, _, E', ?_⟩
  obtain ⟨f1, f2, f3, f4, f5⟩ := E'
  have po0 : f_X11_portion (zL (a * P m + b)) (zL (b * P m)) 0 τ = some (zL (lu (a * P m + b) (b * P m)), τ) := portion_eq (by omega) (by omega) d0
  have po1 : f_X11_portion (zL (a * P m + b)) (zL (b * P m)) 1 τ = some (zL (ll (a * P m + b) (b * P m)), τ) := portion_eq (by omega) (by omega) d0
  generalize lu (a * P m + b) (b * P m) = a' at *
  generalize ll (a * P m + b) (b * P m) = b' at *
  have mb : m * b' ≤ 8 * 99 ^ 8 := Nat.mul_le_mul (by omega) (by omega)
  have lo := lu_eq (p := m * b') (w := a') (p' := m * (eS P (m + 1)).2) (w' := (eS P (m + 1)).1) f1 q2 (by rw [Nat.mul_assoc, ← f5, Nat.mul_assoc, Nat.mul_comm a'])
  have vu : lu (m * b') a' = vU P (m + 1) := by rw [lo.1, vU, Nat.add_sub_cancel]
  have vl : ll (m * b') a' = vL P (m + 1) := by rw [lo.2, vL, Nat.add_sub_cancel]
  have po2 : f_X11_portion (zL (m * b')) (zL a') 0 τ = some (zL (vU P (m + 1)), τ) := by
    rw [← vu]; exact portion_eq (by omega) (by omega) f1
  have po3 : f_X11_portion (zL (m * b')) (zL a') 1 τ = some (zL (vL P (m + 1)), τ) := by
    rw [← vl]; exact portion_eq (by omega) (by omega) f1
  have lt : ¬ nI p < nI (m + 1) := nI_nlt (by omega) (by omega)
  rw [f_X11_egg_b129, ex_dI, h8, ex_bf lt, nI_s1 (by omega), Nat.add_sub_cancel, ex_gd (inb_nI (show m < 8 by omega) (by omega)), ex_dI, nI_clamp (show m < 2 ^ 31 by omega), hr m hm, ex_lt, toL_nI (show P m < 2 ^ 31 by omega), zL_mul, zL_add, ex_gd (inb_nI (show m < 8 by omega) (by omega)), ex_dI, hr m hm, ex_lt, toL_nI (show P m < 2 ^ 31 by omega), zL_mul, ex_cl po0, ex_cl po1, toL_nI (show m < 2 ^ 31 by omega), zL_mul, ex_cl po2, ex_cl po3]
