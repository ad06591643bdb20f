-- ===== may one go =====
def sm (f : Nat → Int32) : Nat → Nat → Int32
  | _, 0 => 0
  | i, d + 1 => f i + sm f (i + 1) d
def cfU (σ : Sg) (j k : Nat) : Int32 := if k = j then 0 else if σ.1 (fl k) 5 = 1 then 1 else 0
def cfO (σ : Sg) (j k : Nat) : Int32 := if k = j then 0 else if σ.1 (fl k) 5 = 2 then 1 else 0
def cfH (σ : Sg) (j k : Nat) : Int32 := if k = j then 0 else if σ.1 (fl k) 5 = 2 then (if σ.1 (fl k) 1 ≤ σ.1 (fl j) 1 then 0 else 1) else 0
theorem sm_0 {f : Nat → Int32} : ∀ d i, (∀ k, i ≤ k → k < i + d → f k = 0) → sm f i d = 0
  | 0, _, _ => rfl
  | d + 1, i, h => by rw [sm, h i (by omega) (by omega), sm_0 d (i + 1) (fun k h1 h2 => h k (by omega) (by omega)), Int32.zero_add]
theorem cl1 : (1 : Int32).toNatClampNeg = 1 := by decide
theorem cl2 : (2 : Int32).toNatClampNeg = 2 := by decide
theorem cl3 : (3 : Int32).toNatClampNeg = 3 := by decide
theorem cl4 : (4 : Int32).toNatClampNeg = 4 := by decide
theorem cl5 : (5 : Int32).toNatClampNeg = 5 := by decide
theorem cl6 : (6 : Int32).toNatClampNeg = 6 := by decide
theorem cl7 : (7 : Int32).toNatClampNeg = 7 := by decide
theorem count90 {k10 : Nat → Int32 → Int32 → Int32 → Int32 → Sg → Option (Unit × Sg)} {j i : Nat} {x y z : Int32} {σ : Sg} (hj : j < 4) : f_X4_countOthers_b90 k10 (fl j) x y z (nI i) σ = k10 (fl j) x y z (nI (i + 1)) σ := by
  rw [f_X4_countOthers_b90, ex_gd (isFl_l hj), nI_1]
theorem countC {j fu : Nat} {σ : Sg} (hj : j < 4) (hme : σ.1 (fl j) 0 = nI j) : ∀ (d i : Nat) (x y z : Int32), i + d = 4 → f_X4_countOthers_b10 (fu + d + 1) (fl j) x y z (nI i) σ = some ((), sI (sI (sI σ 27 5 (x + sm (cfU σ j) i d)) 27 6 (y + sm (cfO σ j) i d)) 27 7 (z + sm (cfH σ j) i d)) := by
  intro d
  induction d with
  | zero =>
    intro i x y z h
    have : i = 4 := by omega
    subst this
    rw [f_X4_countOthers_b10, ex_gd (isFl_l hj), ex_bt (show (4 : Int32) ≤ nI 4 by decide), f_X4_countOthers_b96, ex_pI, ex_pI, ex_pI, ex_rt, cl5, cl6, cl7]
    simp only [sm, Int32.add_zero]
  | succ d ih =>
    intro i x y z h
    have hi : i < 4 := by omega
    have a : ¬ (4 : Int32) ≤ nI i := fun h => by have := (nI_leL (x := 4) (k := 4) rfl (by omega) (by omega)).mp h; omega
    have hij : (nI i = nI j) ↔ i = j := nI_eq (by omega) (by omega)
    rw [show fu + (d + 1) + 1 = (fu + d + 1) + 1 by omega, f_X4_countOthers_b10, ex_gd (isFl_l hj), ex_bf a, ex_gd (inb_nI hi (by omega)), ex_lt, nI_clamp (show i < 2 ^ 31 by omega), fl_at, ex_gd (isFl_l hi), ex_dI, hme]
    simp only [sm]
    by_cases q : i = j
    · rw [ex_bt (hij.mpr q), count90 hj, ih (i + 1) x y z (by omega)]
      simp only [cfU, cfO, cfH, if_pos q, Int32.zero_add]
    · rw [ex_bf (fun z => q (hij.mp z)), ex_dI]
      by_cases q1 : σ.1 (fl i) 5 = 1
      · have q2 : ¬ σ.1 (fl i) 5 = 2 := by rw [q1]; decide
        rw [ex_bt q1, count90 hj, ih (i + 1) (x + 1) y z (by omega)]
        simp only [cfU, cfO, cfH, if_neg q, if_pos q1, if_neg q2, Int32.zero_add, Int32.add_assoc]
      · rw [ex_bf q1, ex_dI]
        by_cases q2 : σ.1 (fl i) 5 = 2
        · rw [ex_bt q2, ex_dI, ex_dI]
          by_cases q3 : σ.1 (fl i) 1 ≤ σ.1 (fl j) 1
          · rw [ex_bt q3, f_X4_countOthers_b87, ex_gd (isFl_l hj), count90 hj, ih (i + 1) x (y + 1) (z + 0) (by omega)]
            simp only [cfU, cfO, cfH, if_neg q, if_neg q1, if_pos q2, if_pos q3, Int32.zero_add, Int32.add_zero, Int32.add_assoc]
          · rw [ex_bf q3, f_X4_countOthers_b87, ex_gd (isFl_l hj), count90 hj, ih (i + 1) x (y + 1) (z + 1) (by omega)]
            simp only [cfU, cfO, cfH, if_neg q, if_neg q1, if_pos q2, if_neg q3, Int32.zero_add, Int32.add_assoc]
        · rw [ex_bf q2, count90 hj, ih (i + 1) x y z (by omega)]
          simp only [cfU, cfO, cfH, if_neg q, if_neg q1, if_neg q2, Int32.zero_add]
/-- what the reference counts: 5 who are up, 6 who are on it, 7 who of these weigh more -/
def cfW (w : Nat) (σ : Sg) (j k : Nat) : Int32 := if w = 5 then cfU σ j k else if w = 6 then cfO σ j k else cfH σ j k
theorem cfW_0 {g n s L w j : Nat} {σ τ : Sg} (R : Re g n s L σ τ) {k : Nat} (h1 : n ≤ k) (h2 : k < 4) : cfW w σ j k = 0 := by
  have h4 : σ.1 (fl k) 5 = 4 := by
    rcases R.2.1 k h2 with h | h
    · exact h.1
    · omega
  have a : ¬ σ.1 (fl k) 5 = 1 := by rw [h4]; decide
  have b : ¬ σ.1 (fl k) 5 = 2 := by rw [h4]; decide
  simp only [cfW, cfU, cfO, cfH, if_neg a, if_neg b]
  split
  · split <;> rfl
  · split
    · split <;> rfl
    · split <;> rfl
theorem valM {g n s L w j fu : Nat} {σ τ : Sg} (R : Re g n s L σ τ) (hj : j < n) (hw : w = 5 ∨ w = 6 ∨ w = 7) : ∀ (d i : Nat) (x : Int32), i + d = 4 → f_X11_valueOf_b50 (fu + d + 1) (nI w) (nI j) x (nI i) τ = some (x + sm (cfW w σ j) i d, τ) := by
  have hn4 : n ≤ 4 := R.1.1.2.2.1
  have h0 : τ.1 56 6 = nI n := R.1.1.2.2.2.1
  intro d
  induction d with
  | zero =>
    intro i x h
    have : i = 4 := by omega
    subst this
    rw [f_X11_valueOf_b50, ex_dI, h0, ex_bt (nI_le hn4 (by omega)), ex_rt]
    simp only [sm, Int32.add_zero]
  | succ d ih =>
    intro i x h
    have hi : i < 4 := by omega
    by_cases hin : i < n
    · have a : ¬ nI n ≤ nI i := nI_ge hin (by omega)
      have hij : (nI i = nI j) ↔ i = j := nI_eq (by omega) (by omega)
      have nx : ∀ (y : Int32) (υ : Sg), f_X11_valueOf_b118 (f_X11_valueOf_b50 (fu + d + 1)) (nI w) (nI j) y (nI i) υ = f_X11_valueOf_b50 (fu + d + 1) (nI w) (nI j) y (nI (i + 1)) υ := fun y υ => by rw [f_X11_valueOf_b118, nI_1]
      rw [show fu + (d + 1) + 1 = (fu + d + 1) + 1 by omega, f_X11_valueOf_b50, ex_dI, h0, ex_bf a]
      simp only [sm]
      by_cases q : i = j
      · rw [ex_bt (hij.mpr q), nx, ih (i + 1) x (by omega)]
        have : cfW w σ j i = 0 := by simp only [cfW, cfU, cfO, cfH, if_pos q, ite_self]
        rw [this, Int32.zero_add]
      · rw [ex_bf (fun z => q (hij.mp z)), ex_gd (inb_nI hi (by omega)), ex_dI, nI_clamp (show i < 2 ^ 31 by omega)]
        have hd : ∀ v : Int32, v = 1 ∨ v = 2 → (τ.1 73 i = v ↔ σ.1 (fl i) 5 = v) := by
          intro v hv
          rcases R.2.1 i hi with ⟨h4, h5⟩ | ⟨-, -, h5, -⟩
          · rw [h4, h5]; rcases hv with rfl | rfl <;> decide
          · rw [h5]
        rcases hw with rfl | rfl | rfl
        · rw [ex_bt (show nI 5 = 5 from rfl), f_X11_valueOf_b82]
          by_cases q1 : σ.1 (fl i) 5 = 1
          · rw [ex_bt ((hd 1 (Or.inl rfl)).mpr q1), ex_bf (show ¬ nI 5 = 7 by decide), f_X11_valueOf_b110, f_X11_valueOf_b115, nx, ih (i + 1) (x + 1) (by omega)]
            simp only [cfW, if_true, cfU, if_neg q, if_pos q1, Int32.add_assoc]
          · rw [ex_bf (fun z => q1 ((hd 1 (Or.inl rfl)).mp z)), nx, ih (i + 1) x (by omega)]
            simp only [cfW, if_true, cfU, if_neg q, if_neg q1, Int32.zero_add]
        · rw [ex_bf (show ¬ nI 6 = 5 by decide), f_X11_valueOf_b82]
          by_cases q1 : σ.1 (fl i) 5 = 2
          · rw [ex_bt ((hd 2 (Or.inr rfl)).mpr q1), ex_bf (show ¬ nI 6 = 7 by decide), f_X11_valueOf_b110, f_X11_valueOf_b115, nx, ih (i + 1) (x + 1) (by omega)]
            simp only [cfW, if_neg (show ¬ 6 = 5 by omega), if_true, cfO, if_neg q, if_pos q1, Int32.add_assoc]
          · rw [ex_bf (fun z => q1 ((hd 2 (Or.inr rfl)).mp z)), nx, ih (i + 1) x (by omega)]
            simp only [cfW, if_neg (show ¬ 6 = 5 by omega), if_true, cfO, if_neg q, if_neg q1, Int32.zero_add]
        · rw [ex_bf (show ¬ nI 7 = 5 by decide), f_X11_valueOf_b82]
          by_cases q1 : σ.1 (fl i) 5 = 2
          · rw [ex_bt ((hd 2 (Or.inr rfl)).mpr q1), ex_bt (show nI 7 = 7 from rfl), ex_cl (weight_eq R hin), ex_cl (weight_eq R hj)]
            by_cases q3 : σ.1 (fl i) 1 ≤ σ.1 (fl j) 1
            · rw [ex_bt q3, f_X11_valueOf_b115, nx, ih (i + 1) (x + 0) (by omega)]
              simp only [cfW, if_neg (show ¬ 7 = 5 by omega), if_neg (show ¬ 7 = 6 by omega), cfH, if_neg q, if_pos q1, if_pos q3, Int32.zero_add, Int32.add_zero]
            · rw [ex_bf q3, f_X11_valueOf_b110, f_X11_valueOf_b115, nx, ih (i + 1) (x + 1) (by omega)]
              simp only [cfW, if_neg (show ¬ 7 = 5 by omega), if_neg (show ¬ 7 = 6 by omega), cfH, if_neg q, if_pos q1, if_neg q3, Int32.add_assoc]
          · rw [ex_bf (fun z => q1 ((hd 2 (Or.inr rfl)).mp z)), nx, ih (i + 1) x (by omega)]
            simp only [cfW, if_neg (show ¬ 7 = 5 by omega), if_neg (show ¬ 7 = 6 by omega), cfH, if_neg q, if_neg q1, Int32.zero_add]
    · rw [show fu + (d + 1) + 1 = (fu + d + 1) + 1 by omega, f_X11_valueOf_b50, ex_dI, h0, ex_bt (nI_le (by omega) (by omega)), ex_rt, sm_0 (d + 1) i (fun k h1 h2 => cfW_0 R (by omega) (by omega)), Int32.add_zero]
/-- the class's values -/
def Vl (σ : Sg) (j : Nat) (h t : Int32) (w : Nat) : Int32 := if w = 0 then nI j else if w = 1 then σ.1 (fl j) 1 else if w = 2 then h else if w = 3 then σ.1 (fl j) 6 else if w = 4 then t else 0 + sm (cfW w σ j) 0 4
theorem valueM {g n s L j w : Nat} {σ τ : Sg} {h t : Int32} (R : Re g n s L σ τ) (hj : j < n) (hw : w < 8) : f_X11_valueOf (nI w) (nI j) h t τ = some (Vl σ j h t w, τ) := by
  have hn4 : n ≤ 4 := R.1.1.2.2.1
  have hv : ∀ w, w = 5 ∨ w = 6 ∨ w = 7 → f_X11_valueOf_b50 FU (nI w) (nI j) 0 0 τ = some (0 + sm (cfW w σ j) 0 4, τ) := fun w hw => valM (fu := 8187) R hj hw 4 0 0 rfl
  rw [f_X11_valueOf]
  rcases (by omega : w = 0 ∨ w = 1 ∨ w = 2 ∨ w = 3 ∨ w = 4 ∨ w = 5 ∨ w = 6 ∨ w = 7) with rfl | rfl | rfl | rfl | rfl | rfl | rfl | rfl
  · rw [ex_bt (show nI 0 = 0 from rfl), ex_rt]; rfl
  · rw [ex_bf (show ¬ nI 1 = 0 by decide), ex_bt (show nI 1 = 1 from rfl), ex_cl (weight_eq R hj), ex_rt]; rfl
  · rw [ex_bf (show ¬ nI 2 = 0 by decide), ex_bf (show ¬ nI 2 = 1 by decide), ex_bt (show nI 2 = 2 from rfl), ex_rt]; rfl
  · rw [ex_bf (show ¬ nI 3 = 0 by decide), ex_bf (show ¬ nI 3 = 1 by decide), ex_bf (show ¬ nI 3 = 2 by decide), ex_bt (show nI 3 = 3 from rfl), ex_gd (inb_nI (show j < 4 by omega) (by omega)), ex_dI, ex_rt, nI_clamp (show j < 2 ^ 31 by omega), (R.2.2.1 j hj).1]; rfl
  · rw [ex_bf (show ¬ nI 4 = 0 by decide), ex_bf (show ¬ nI 4 = 1 by decide), ex_bf (show ¬ nI 4 = 2 by decide), ex_bf (show ¬ nI 4 = 3 by decide), ex_bt (show nI 4 = 4 from rfl), ex_rt]; rfl
  · rw [ex_bf (show ¬ nI 5 = 0 by decide), ex_bf (show ¬ nI 5 = 1 by decide), ex_bf (show ¬ nI 5 = 2 by decide), ex_bf (show ¬ nI 5 = 3 by decide), ex_bf (show ¬ nI 5 = 4 by decide), hv 5 (Or.inl rfl)]; rfl
  · rw [ex_bf (show ¬ nI 6 = 0 by decide), ex_bf (show ¬ nI 6 = 1 by decide), ex_bf (show ¬ nI 6 = 2 by decide), ex_bf (show ¬ nI 6 = 3 by decide), ex_bf (show ¬ nI 6 = 4 by decide), hv 6 (Or.inr (Or.inl rfl))]; rfl
  · rw [ex_bf (show ¬ nI 7 = 0 by decide), ex_bf (show ¬ nI 7 = 1 by decide), ex_bf (show ¬ nI 7 = 2 by decide), ex_bf (show ¬ nI 7 = 3 by decide), ex_bf (show ¬ nI 7 = 4 by decide), hv 7 (Or.inr (Or.inr rfl))]; rfl
