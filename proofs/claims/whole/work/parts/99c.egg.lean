-- ===== the egg: the reference's best is where the class stops =====
theorem vU_cmp {P : Nat → Nat} {p m M : Nat} {τ : Sg} (hp : p ≤ 8) (hP : ∀ j, j < p → 1 ≤ P j ∧ P j ≤ 99) (hm : m ≤ p) (hM : M ≤ p) (h1 : 1 ≤ m) (hM1 : 1 ≤ M) : f_X11_isGreater (zL (vU P m)) (zL (vL P m)) (zL (vU P M)) (zL (vL P M)) τ = some (if ((M - 1) * (eS P M).2) * (eS P m).1 < ((m - 1) * (eS P m).2) * (eS P M).1 then 1 else 0, τ) := by
  have pm := (eS_pos (P := P) m (fun j hj => (hP j (by omega)).1)).2 h1
  have pM := (eS_pos (P := P) M (fun j hj => (hP j (by omega)).1)).2 hM1
  obtain ⟨b1, b2⟩ := eS_b (P := P) (m := m) (by omega) (fun j hj => (hP j (by omega)).2)
  obtain ⟨B1, B2⟩ := eS_b (P := P) (m := M) (by omega) (fun j hj => (hP j (by omega)).2)
  have u1 : vU P m ≤ 8 * 99 ^ 8 := Nat.le_trans lu_le (Nat.mul_le_mul (by omega) b1)
  have u2 : vL P m ≤ 8 * 99 ^ 8 := Nat.le_trans ll_le b2
  have u3 : vU P M ≤ 8 * 99 ^ 8 := Nat.le_trans lu_le (Nat.mul_le_mul (by omega) B1)
  have u4 : vL P M ≤ 8 * 99 ^ 8 := Nat.le_trans ll_le B2
  have l1 : 0 < vL P m := ll_pos pm
  have l2 : 0 < vL P M := ll_pos pM
  have c : vU P M * vL P m < vU P m * vL P M ↔ ((M - 1) * (eS P M).2) * (eS P m).1 < ((m - 1) * (eS P m).2) * (eS P M).1 := lu_cmp (p := (m - 1) * (eS P m).2) (w := (eS P m).1) (p' := (M - 1) * (eS P M).2) (w' := (eS P M).1) pm pM
  rw [isGreater_eq l1 l2 (by omega) (by omega) (by omega) (by omega)]
  by_cases z : vU P M * vL P m < vU P m * vL P M
  · rw [if_pos z, if_pos (c.mp z)]
  · rw [if_neg z, if_neg (fun q => z (c.mpr q))]
/-- behind the best -/
theorem egg_rest {P : Nat → Nat} {p M : Nat} {x1 : Int32} {τ : Sg} (hp : p ≤ 8) (hP : ∀ j, j < p → 1 ≤ P j ∧ P j ≤ 99) (hS : ∀ j, j + 1 < p → P (j + 1) ≤ P j) (h8 : τ.1 56 8 = nI p) (hr : ∀ j, j < p → τ.1 91 j = nI (P j)) (hM : 2 ≤ M) : ∀ (d m fu a b : Nat), m + d = p → M ≤ m → (m < p → P m * (eS P m).1 ≤ (m - 1) * (eS P m).2) → ((m - 1) * (eS P m).2) * (eS P M).1 ≤ ((M - 1) * (eS P M).2) * (eS P m).1 → Eab P m a b → f_X11_egg_b129 (fu + d + 1) x1 (zL (vU P M)) (zL (vL P M)) (nI M) (zL a) (zL b) (nI (m + 1)) τ = f_X11_egg_b261 x1 (zL (vU P M)) (zL (vL P M)) (nI M) τ := by
  intro d
  induction d with
  | zero =>
    intro m fu a b hm hMm hk hv E
    have : m = p := by omega
    subst this
    rw [f_X11_egg_b129, ex_dI, h8, ex_bt (show nI m < nI (m + 1) from (nI_ltI (by omega) (by omega)).mpr (by omega))]
  | succ d ih =>
    intro m fu a b hm hMm hk hv E
    obtain ⟨a', b', E', e⟩ := egg_step (fu := fu + d + 1) (x1 := x1) (x6 := nI M) (x2 := zL (vU P M)) (x4 := zL (vL P M)) hp hP (show m < p by omega) (by omega) h8 hr E
    have M0 : ¬ nI M ≤ 0 := fun z => by have := (nI_leR (x := 0) (k := 0) rfl (by omega) (by omega)).mp z; omega
    have hk := hk (by omega)
    have kp := egg_keep hk
    have q : 0 < (eS P m).2 := (eS_pos (P := P) m (fun j hj => (hP j (by omega)).1)).1
    have qs : 0 < (eS P m).1 := (eS_pos (P := P) m (fun j hj => (hP j (by omega)).1)).2 (by omega)
    have nr : ¬ ((m - 1) * (eS P m).2) * (eS P (m + 1)).1 < (m * (eS P (m + 1)).2) * (eS P m).1 := fun z => by
      have z' : ((m - 1) * (eS P m).2) * ((eS P m).1 * P m + (eS P m).2) < ((m - 1 + 1) * ((eS P m).2 * P m)) * (eS P m).1 := by
        rw [show m - 1 + 1 = m by omega]; exact z
      have := (egg_rise q).mp z'
      omega
    have v' : (m * (eS P (m + 1)).2) * (eS P M).1 ≤ ((M - 1) * (eS P M).2) * (eS P (m + 1)).1 := by
      have n := Nat.le_of_not_lt nr
      apply Nat.le_of_mul_le_mul_right _ qs
      have k1 : (m * (eS P (m + 1)).2) * (eS P M).1 * (eS P m).1 ≤ ((m - 1) * (eS P m).2) * (eS P (m + 1)).1 * (eS P M).1 := by
        rw [Nat.mul_right_comm]
        exact Nat.mul_le_mul_right _ n
      have k2 : ((m - 1) * (eS P m).2) * (eS P (m + 1)).1 * (eS P M).1 ≤ ((M - 1) * (eS P M).2) * (eS P m).1 * (eS P (m + 1)).1 := by
        rw [Nat.mul_right_comm]
        exact Nat.mul_le_mul_right _ hv
      rw [Nat.mul_right_comm ((M - 1) * (eS P M).2)]
      exact Nat.le_trans k1 k2
    have gr := vU_cmp (τ := τ) hp hP (show m + 1 ≤ p by omega) (show M ≤ p by omega) (by omega) (by omega)
    rw [if_neg (by rw [Nat.add_sub_cancel]; omega)] at gr
    rw [show fu + (d + 1) + 1 = (fu + d + 1) + 1 by omega, e, ex_bf M0, ex_cl gr, ex_bt rfl, f_X11_egg_b255, nI_1]
    refine ih (m + 1) fu a' b' (by omega) (by omega) (fun h => ?_) (by rw [Nat.add_sub_cancel]; exact v') E'
    have kp' : P m * (eS P (m + 1)).1 ≤ m * (eS P (m + 1)).2 := by
      have : m - 1 + 1 = m := by omega
      rw [this] at kp
      exact kp
    rw [Nat.add_sub_cancel]
    exact Nat.le_trans (Nat.mul_le_mul_right _ (hS m h)) kp'
theorem egg_up {P : Nat → Nat} {p : Nat} {x1 : Int32} {τ : Sg} (hp : p ≤ 8) (hP : ∀ j, j < p → 1 ≤ P j ∧ P j ≤ 99) (hS : ∀ j, j + 1 < p → P (j + 1) ≤ P j) (h8 : τ.1 56 8 = nI p) (hr : ∀ j, j < p → τ.1 91 j = nI (P j)) : ∀ (d m fu a b : Nat), m + d = p → 2 ≤ m → Eab P m a b → f_X11_egg_b129 (fu + d + 1) x1 (zL (vU P m)) (zL (vL P m)) (nI m) (zL a) (zL b) (nI (m + 1)) τ = f_X11_egg_b261 x1 (zL (vU P (eM P d m))) (zL (vL P (eM P d m))) (nI (eM P d m)) τ := by
  intro d
  induction d with
  | zero =>
    intro m fu a b hm h2 E
    exact egg_rest hp hP hS h8 hr h2 0 m fu a b hm (Nat.le_refl _) (fun h => absurd h (by omega)) (Nat.le_refl _) E
  | succ d ih =>
    intro m fu a b hm h2 E
    by_cases z : P m * (eS P m).1 ≤ (m - 1) * (eS P m).2
    · have em : eM P (d + 1) m = m := if_pos z
      rw [em]
      exact egg_rest hp hP hS h8 hr h2 (d + 1) m fu a b hm (Nat.le_refl _) (fun _ => z) (Nat.le_refl _) E
    · have em : eM P (d + 1) m = eM P d (m + 1) := if_neg z
      rw [em]
      obtain ⟨a', b', E', e⟩ := egg_step (fu := fu + d + 1) (x1 := x1) (x6 := nI m) (x2 := zL (vU P m)) (x4 := zL (vL P m)) hp hP (show m < p by omega) (by omega) h8 hr E
      have M0 : ¬ nI m ≤ 0 := fun z => by have := (nI_leR (x := 0) (k := 0) rfl (by omega) (by omega)).mp z; omega
      have q : 0 < (eS P m).2 := (eS_pos (P := P) m (fun j hj => (hP j (by omega)).1)).1
      have r : ((m - 1) * (eS P m).2) * (eS P (m + 1)).1 < (m * (eS P (m + 1)).2) * (eS P m).1 := by
        have r' := (egg_rise (n := m - 1) (pr := (eS P m).2) (p := P m) (s := (eS P m).1) q).mpr (by omega)
        rw [show m - 1 + 1 = m by omega] at r'
        exact r'
      have gr := vU_cmp (τ := τ) hp hP (show m + 1 ≤ p by omega) (show m ≤ p by omega) (by omega) (by omega)
      rw [if_pos (by rw [Nat.add_sub_cancel]; exact r)] at gr
      rw [show fu + (d + 1) + 1 = (fu + d + 1) + 1 by omega, e, ex_bf M0, ex_cl gr, ex_bf l1_0, f_X11_egg_b244, f_X11_egg_b255, nI_1]
      exact ih (m + 1) fu a' b' (by omega) (by omega) E'
theorem ok_egg {g n s e m : Nat} {σ τ : Sg} (J : Jr g n s e m σ τ) (x : Int32) : OkX (f_X10_egg x) (f_X11_egg x) cN σ τ := by
  obtain ⟨J0, t0⟩ := thr0 J
  obtain ⟨p, hp8, u1, u2, u3⟩ := J.2.2.2.2.2.2.2.2.1.2
  have hO := J.gd.2.1
  have hG := J.1.1
  have fin : ∀ v σ' τ', f_X10_egg x σ = some (.inl v, σ') → f_X11_egg x τ = some (v, τ') → τ'.1 56 0 = 0 → OkX (f_X10_egg x) (f_X11_egg x) cN σ τ := fun v σ' τ' h1 h2 h3 =>
    ⟨_, _, _, _, h1, h2, ⟨h3, rfl⟩, g, n, s, e, m, J.frame (off_mono fc_egg (fr_X10_egg x σ _ h1)) (off_mono fm_eggT (fr_X11_egg x τ _ h2)) (fun j hj => by
      have o := fr_X10_egg x σ _ h1
      rw [(o (fl j) 0 (by rcases (by omega : j = 0 ∨ j = 1 ∨ j = 2 ∨ j = 3) with rfl | rfl | rfl | rfl <;> rfl)).1]
      exact J.2.2.2.2.2.2.1 j hj)⟩
  rcases what_cases x (M := 2) (y := 2) rfl (by omega) with ⟨k, hk, rfl⟩ | hx
  · have b1 : ¬ nI k < 0 := nI_pos (by omega)
    have b2 := lit_nlt (M := 2) (x := 2) rfl hk (by omega)
    have h8 : (sI τ 56 0 0).1 56 8 = nI p := by rw [sI_nf (by omega)]; exact u2
    have wi := isWhat_t (M := 2) (y := 2) (k := k) rfl t0 hk (by omega)
    have c8 : (if (8 : Int32) < nI p then (8 : Int32) else nI p) = nI p := if_neg (lit_nlt (M := 8) (x := 8) rfl hp8 (by omega))
    have h11 : (sI (sL (sL σ 33 1 0) 33 2 1) 33 3 0).1 g 11 = nI p := by
      rw [sI_ne (by rcases or3 hG with rfl | rfl | rfl <;> omega)]; exact u1
    by_cases z : 2 ≤ p
    · have le2 : (2 : Int32) ≤ nI p := (nI_leL (x := 2) (k := 2) rfl (by omega) (by omega)).mpr z
      have hF : ∃ F : Nat → Nat, ∀ j, j < p → 1 ≤ F j ∧ F j ≤ 99 ∧ σ.1 (g + 2) j = nI (F j) ∧ τ.1 60 j = nI (F j) := by
        refine ⟨fun j => if h : j < p then (u3 j h).choose else 0, fun j hj => ?_⟩
        show 1 ≤ (if h : j < p then (u3 j h).choose else 0) ∧ (if h : j < p then (u3 j h).choose else 0) ≤ 99 ∧ σ.1 (g + 2) j = nI (if h : j < p then (u3 j h).choose else 0) ∧ τ.1 60 j = nI (if h : j < p then (u3 j h).choose else 0)
        rw [dif_pos hj]
        exact (u3 j hj).choose_spec
      obtain ⟨F, hF⟩ := hF
      have gne : ¬ g + 2 = 33 := by rcases or3 hG with rfl | rfl | rfl <;> omega
      obtain ⟨P, σ1, τ1, s1, s2, ⟨s3, s3'⟩, s4⟩ := sort_out (x1 := nI k) (F := F) hG hp8 p 0 (8191 - p) (8191 - p) (fun _ => 0) (sI (sL (sL σ 33 1 0) 33 2 1) 33 3 0) (sI τ 56 0 0) (by omega) h8 (fun j hj => by rw [sI_ne gne, sI_ne (by omega)]; exact hF j hj) ⟨fun j hj => absurd hj (by omega), fun j hj => absurd hj (by omega)⟩
      rw [show 8191 - p + p + 1 = FU by rw [Nat.sub_add_cancel (by omega)]; rfl] at s1 s2
      have hP : ∀ j, j < p → 1 ≤ P j ∧ P j ≤ 99 := fun j hj => (s3 j hj).2.2
      have srt : f_X0_sort g (nI p) (sI (sL (sL σ 33 1 0) 33 2 1) 33 3 0) = some ((), σ1) := by rw [f_X0_sort, ex_gd hG]; exact s1
      have p0 := hP 0 (by omega)
      have p1 := hP 1 (by omega)
      have r0 : σ1.1 34 0 = nI (P 0) := (s3 0 (by omega)).1
      have r1 : σ1.1 34 1 = nI (P 1) := (s3 1 (by omega)).1
      have e2 : (nI (P 0)).toInt64 * (nI (P 1)).toInt64 = zL (eS P 2).2 := by
        rw [toL_nI (by omega), toL_nI (by omega), zL_mul]
        show zL (P 0 * P 1) = zL (1 * P 0 * P 1)
        rw [Nat.one_mul]
      have e1 : (nI (P 0) + nI (P 1)).toInt64 = zL (eS P 2).1 := by
        rw [nI_add, toL_nI (by omega)]
        show zL (P 0 + P 1) = zL ((0 * P 0 + 1) * P 1 + 1 * P 0)
        congr 1; omega
      obtain ⟨σ', o1, o2, o3, o4, o5, o6⟩ := open_loop hp8 hP (p - 2) 2 (8191 - (p - 2)) (sI σ1 33 3 2) (by omega) (by omega) (fun j hj => by rw [sI_ne (by omega)]; exact (s3 j hj).1) sI_eq
      rw [show 8191 - (p - 2) + (p - 2) + 1 = FU by rw [Nat.sub_add_cancel (by omega)]; rfl] at o1
      have op : f_X0_open g σ = some ((), σ') := by
        rw [f_X0_open, ex_gd hG, ex_pL, ex_pL, ex_pI, ex_dI, h11, ex_lt, c8, ex_bt le2, ex_cl srt, ex_dI, show (0 : Int32).toNatClampNeg = 0 from rfl, ex_dI, show (1 : Int32).toNatClampNeg = 1 from rfl, r0, r1, ex_lt, e2, ex_dI, ex_dI, r0, r1, ex_lt, e1, ex_pI]
        exact o1
      have h8' : τ1.1 56 8 = nI p := by rw [s4.2.2.1 _ _ (by omega)]; exact h8
      have t01 : τ1.1 56 0 = 0 := by rw [s4.2.2.1 _ _ (by omega)]; exact t0
      have E1 : Eab P 1 1 (P 0) := ⟨by omega, by omega, by show 1 ≤ 0 * P 0 + 1; omega, by show P 0 ≤ 1 * P 0; omega, by show 1 * (1 * P 0) = P 0 * (0 * P 0 + 1); omega⟩
      obtain ⟨a', b', E', es⟩ := egg_step (fu := 8191) (x1 := nI k) (x6 := 0) (x2 := 0) (x4 := 1) hp8 hP (show 1 < p by omega) (by omega) h8' (fun j hj => (s3 j hj).2.1) E1
      have up := egg_up (x1 := nI k) hp8 hP s3' h8' (fun j hj => (s3 j hj).2.1) (p - 2) 2 (8190 - (p - 2)) a' b' (by omega) (by omega) E'
      rw [show 8190 - (p - 2) + (p - 2) + 1 = 8191 by rw [Nat.sub_add_cancel (by omega)]] at up
      have s2' : f_X11_egg_b37 FU (nI k) 0 (sI τ 56 0 0) = f_X11_egg_b106 (nI k) τ1 := s2
      have gM : f_X11_egg (nI k) τ = f_X11_egg_b261 (nI k) (zL (vU P (eM P (p - 2) 2))) (zL (vL P (eM P (p - 2) 2))) (nI (eM P (p - 2) 2)) τ1 := by
        rw [f_X11_egg, ex_pI, ex_cl wi, ex_bf l1_0, ex_dI, h8, ex_bt le2, s2', f_X11_egg_b106, ex_dI, show (0 : Int32).toNatClampNeg = 0 from rfl, (s3 0 (by omega)).2.1, toL_nI (by omega)]
        exact es.trans (by rw [ex_bt (by decide), f_X11_egg_b244, f_X11_egg_b255, nI_1]; exact up)
      generalize eM P (p - 2) 2 = M at *
      obtain ⟨B1, B2⟩ := eS_b (P := P) (m := M) (by omega) (fun j hj => (hP j (by omega)).2)
      have pM := (eS_pos (P := P) M (fun j hj => (hP j (by omega)).1)).2 (by omega)
      have mb : (M - 1) * (eS P M).2 ≤ 8 * 99 ^ 8 := Nat.mul_le_mul (by omega) B1
      have gC : f_X10_egg (nI k) σ = (br (nI k = 2) (dI 33 3 (fun v3 => rtX v3.toInt64)) (dL 33 1 (fun v4 => dL 33 2 (fun v5 => cl (f_X10_partOf v4 v5 (nI k)) (fun r6 => rtX r6))))) σ' := by
        rw [f_X10_egg, ex_bf b1, ex_bf b2, f_X10_egg_b14, ex_xv need1, ex_dR, hO, ex_gd hG, ex_cl op]
      rcases (by omega : k = 0 ∨ k = 1 ∨ k = 2) with rfl | rfl | rfl
      · refine fin (zL (vU P M)) σ' τ1 ?_ ?_ t01
        · rw [gC, ex_bf (by decide), ex_dL, o3, ex_dL, o4, ex_cl (part_eq (by omega) (by omega) pM), ex_rtX, if_pos (by decide)]; rfl
        · rw [gM, f_X11_egg_b261, ex_bt (by decide), ex_rt]
      · refine fin (zL (vL P M)) σ' τ1 ?_ ?_ t01
        · rw [gC, ex_bf (by decide), ex_dL, o3, ex_dL, o4, ex_cl (part_eq (by omega) (by omega) pM), ex_rtX, if_neg (by decide)]; rfl
        · rw [gM, f_X11_egg_b261, ex_bf (by decide), ex_bt (by decide), ex_rt]
      · refine fin (nI M).toInt64 σ' τ1 ?_ ?_ t01
        · rw [gC, ex_bt (by decide), ex_dI, o2, ex_rtX]
        · rw [gM, f_X11_egg_b261, ex_bf (by decide), ex_bf (by decide), ex_rt]
    · have nle2 : ¬ (2 : Int32) ≤ nI p := fun q => z ((nI_leL (x := 2) (k := 2) rfl (by omega) (by omega)).mp q)
      have op : f_X0_open g σ = some ((), sI (sL (sL σ 33 1 0) 33 2 1) 33 3 0) := by
        rw [f_X0_open, ex_gd hG, ex_pL, ex_pL, ex_pI, ex_dI, h11, ex_lt, c8, ex_bf nle2, ex_rt]
      have gC : f_X10_egg (nI k) σ = (br (nI k = 2) (dI 33 3 (fun v3 => rtX v3.toInt64)) (dL 33 1 (fun v4 => dL 33 2 (fun v5 => cl (f_X10_partOf v4 v5 (nI k)) (fun r6 => rtX r6))))) (sI (sL (sL σ 33 1 0) 33 2 1) 33 3 0) := by
        rw [f_X10_egg, ex_bf b1, ex_bf b2, f_X10_egg_b14, ex_xv need1, ex_dR, hO, ex_gd hG, ex_cl op]
      have gM : f_X11_egg (nI k) τ = (br (nI k = 1) (rt 1) (rt 0) : Sg → Option (Int64 × Sg)) (sI τ 56 0 0) := by
        rw [f_X11_egg, ex_pI, ex_cl wi, ex_bf l1_0, ex_dI, h8, ex_bf nle2]
      have l1 : (sI (sL (sL σ 33 1 0) 33 2 1) 33 3 0).2.1 33 1 = zL 0 := by
        show (sL (sL σ 33 1 0) 33 2 1).2.1 33 1 = zL 0
        rw [sL_at, if_neg (by omega), sL_at, if_pos ⟨rfl, rfl⟩]; rfl
      have l2 : (sI (sL (sL σ 33 1 0) 33 2 1) 33 3 0).2.1 33 2 = zL 1 := by
        show (sL (sL σ 33 1 0) 33 2 1).2.1 33 2 = zL 1
        rw [sL_at, if_pos ⟨rfl, rfl⟩]; rfl
      rcases (by omega : k = 0 ∨ k = 1 ∨ k = 2) with rfl | rfl | rfl
      · refine fin 0 (sI (sL (sL σ 33 1 0) 33 2 1) 33 3 0) (sI τ 56 0 0) ?_ ?_ t0
        · rw [gC, ex_bf (by decide), ex_dL, l1, ex_dL, l2, ex_cl (part_eq (by omega) (by omega) (by omega)), ex_rtX, if_pos (by decide)]; rfl
        · rw [gM, ex_bf (by decide), ex_rt]
      · refine fin 1 (sI (sL (sL σ 33 1 0) 33 2 1) 33 3 0) (sI τ 56 0 0) ?_ ?_ t0
        · rw [gC, ex_bf (by decide), ex_dL, l1, ex_dL, l2, ex_cl (part_eq (by omega) (by omega) (by omega)), ex_rtX, if_neg (by decide)]; rfl
        · rw [gM, ex_bt (by decide), ex_rt]
      · refine fin 0 (sI (sL (sL σ 33 1 0) 33 2 1) 33 3 0) (sI τ 56 0 0) ?_ ?_ t0
        · rw [gC, ex_bt (by decide), ex_dI, sI_eq, ex_rtX]; rfl
        · rw [gM, ex_bf (by decide), ex_rt]
  · refine ok_thr J false 0 (y := 1) ?_ ?_ rfl
    · rcases hx with q | ⟨q1, q2⟩
      · rw [f_X10_egg, ex_bt q, f_X10_egg_b13, f_X10_egg_b14, ex_xt need0]
      · rw [f_X10_egg, ex_bf q1, ex_bt q2, f_X10_egg_b13, f_X10_egg_b14, ex_xt need0]
    · rw [f_X11_egg, ex_pI, ex_cl (isWhat_f t0 hx), ex_bt rfl, ex_rt]
