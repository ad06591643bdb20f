-- ===== knocks =====
theorem toInt_sub_s {a b : Int32} (h : -2147483648 ≤ a.toInt - b.toInt ∧ a.toInt - b.toInt < 2147483648) : (a - b).toInt = a.toInt - b.toInt := by
  rw [Int32.toInt_sub, Int.bmod_eq_of_le] <;> omega
theorem toInt_add_s {a b : Int32} (h : -2147483648 ≤ a.toInt + b.toInt ∧ a.toInt + b.toInt < 2147483648) : (a + b).toInt = a.toInt + b.toInt := by
  rw [Int32.toInt_add, Int.bmod_eq_of_le] <;> omega
theorem toInt_0 : (0 : Int32).toInt = 0 := by decide
theorem absd {a b : Int32} (ha : -1000 ≤ a.toInt ∧ a.toInt ≤ 1000) (hb : -1000 ≤ b.toInt ∧ b.toInt ≤ 1000) : (if 0 ≤ a - b then a - b else 0 - (a - b)) = if b ≤ a then a - b else b - a := by
  have h := toInt_sub_s (a := a) (b := b) (by omega)
  have h2 := toInt_sub_s (a := b) (b := a) (by omega)
  have h3 := toInt_sub_s (a := 0) (b := a - b) (by rw [h, toInt_0]; omega)
  have e : (0 : Int32) ≤ a - b ↔ b ≤ a := by rw [Int32.le_iff_toInt_le, Int32.le_iff_toInt_le, h, toInt_0]; omega
  by_cases q : b ≤ a
  · rw [if_pos (e.mpr q), if_pos q]
  · rw [if_neg (fun z => q (e.mp z)), if_neg q]
    apply Int32.toInt_inj.mp
    rw [h3, h2, h, toInt_0]; omega
/-- only hurts and kinds have changed -/
def Kp (σ σ' : Sg) : Prop := σ'.2 = σ.2 ∧ ∀ a b, ¬ (a = 17 ∧ (b = 14 ∨ b = 15)) → (∀ j, ¬ (a = fl j ∧ b = 13)) → (∀ j, ¬ a = fk j) → σ'.1 a b = σ.1 a b
theorem Kp.rf {σ : Sg} : Kp σ σ := ⟨rfl, fun _ _ _ _ _ => rfl⟩
theorem Kp.tr {σ τ υ : Sg} (h : Kp σ τ) (k : Kp τ υ) : Kp σ υ := ⟨k.1.trans h.1, fun a b h1 h2 h3 => (k.2 a b h1 h2 h3).trans (h.2 a b h1 h2 h3)⟩
theorem Kp.hC {j : Nat} {t : Int32} {σ : Sg} : Kp σ (hC j t σ) := ⟨hC_2, fun a b h1 h2 h3 => hC_g (fun q => h1 ⟨q.1, Or.inl q.2⟩) (fun q => h1 ⟨q.1, Or.inr q.2⟩) (h2 j)⟩
theorem Kp.k {j k : Nat} {v : Int32} {σ : Sg} : Kp σ (sI σ (fk j) k v) := ⟨rfl, fun a b h1 h2 h3 => sI_ne (h3 j)⟩
theorem Kp.f {σ σ' : Sg} (h : Kp σ σ') {j b : Nat} (hb : ¬ b = 13) : σ'.1 (fl j) b = σ.1 (fl j) b := h.2 _ _ (fun q => of_eq_false fl_17 q.1) (fun i q => hb q.2) (fun i q => of_eq_false fl_fk q)
theorem Kp.s {σ σ' : Sg} (h : Kp σ σ') {b : Nat} (hb : ¬ b = 14) (hc : ¬ b = 15) : σ'.1 17 b = σ.1 17 b := h.2 _ _ (fun q => q.2.elim hb hc) (fun i q => of_eq_false e17_fl q.1) (fun i q => of_eq_false e17_fk q)
theorem knockC_step {g n s L i j fu : Nat} {σ τ : Sg} {t x : Int32} (R : Re g n s L σ τ) (hi : i < 4) (hj : j < 4) : f_X4_knock_b5 (fu + 1) (fl j) t x (nI i) σ =
    if σ.1 (fl i) 5 = 2 then (if σ.1 g 4 < (if 0 ≤ (σ.1 (fl i) 6 - σ.1 (fl j) 6) then (σ.1 (fl i) 6 - σ.1 (fl j) 6) else 0 - (σ.1 (fl i) 6 - σ.1 (fl j) 6)) then f_X4_knock_b5 fu (fl j) t x (nI (i + 1)) σ else f_X4_knock_b5 fu (fl j) t 1 (nI (i + 1)) (sI (hC i t σ) (fk i) 5 (σ.1 (fk i) 5 + 1))) else f_X4_knock_b5 fu (fl j) t x (nI (i + 1)) σ := by
  have a : ¬ (4 : Int32) ≤ nI i := fun h => by have := (nI_leL (x := 4) (k := 4) rfl (by omega) (by omega)).mp h; omega
  have hg : σ.2.2 17 3 = g := R.1.1.2.1
  have hu : ∀ (y : Int32) (υ : Sg), f_X4_knock_b71 (f_X4_knock_b5 fu) (fl j) t y (nI i) υ = f_X4_knock_b5 fu (fl j) t y (nI (i + 1)) υ := by
    intro y υ
    simp only [f_X4_knock_b71, gd, isFl_l hj, if_true, nI_1]
  rw [f_X4_knock_b5]
  simp only [gd, br, lt, dI, dR, isFl_l hj, if_true, if_neg a, inb_nI hi (show 4 < 2 ^ 31 by omega), nI_clamp (show i < 2 ^ 31 by omega), fl_at, isFl_l hi, hg, R.1.1.1, hu, cl, addKind_eq (x := 5) (k := 5) rfl hi (show 5 < 6 by omega), Option.bind_some, hurtC_eq hi, hC_k hi hi]
theorem knockC_end {g n s L j fu : Nat} {σ τ : Sg} {t x : Int32} (R : Re g n s L σ τ) (hj : j < 4) : ∀ d i, i + d = 4 → n ≤ i → f_X4_knock_b5 (fu + d + 1) (fl j) t x (nI i) σ = f_X4_knock_b77 (fl j) t x σ := by
  intro d
  induction d with
  | zero =>
    intro i h1 h2
    have : i = 4 := by omega
    subst this
    rw [f_X4_knock_b5]
    simp only [gd, br, isFl_l hj, if_true]
    rfl
  | succ d ih =>
    intro i h1 h2
    rw [show fu + (d + 1) + 1 = (fu + d + 1) + 1 by omega, knockC_step R (by omega) hj, if_neg, ih (i + 1) (by omega) (by omega)]
    intro h
    rcases R.2.1 i (by omega) with ⟨h4, -⟩ | ⟨h4, -⟩
    · rw [h4] at h; exact absurd h (by decide)
    · omega
theorem near_same {σ τ : Sg} {a b m : Int32} (ha : -1000 ≤ a.toInt ∧ a.toInt ≤ 1000) (hb : -1000 ≤ b.toInt ∧ b.toInt ≤ 1000) {υ : Sg} : f_X11_off a b υ = some (if 0 ≤ a - b then a - b else 0 - (a - b), υ) := by
  rw [absd ha hb]
  unfold f_X11_off br rt
  by_cases h : b ≤ a
  · rw [if_pos h, if_pos h]
  · rw [if_neg h, if_neg h]
theorem knockM_step {g n s L i j fu : Nat} {σ τ : Sg} {t x p : Int32} (R : Re g n s L σ τ) (hi : i < n) (hj : j < n) (hP : ∀ k, k < n → -1000 ≤ (σ.1 (fl k) 6).toInt ∧ (σ.1 (fl k) 6).toInt ≤ 1000) : f_X11_comesDown_b69 (fu + 1) (nI j) t p x (nI i) τ =
    if i = j then f_X11_comesDown_b69 fu (nI j) t p x (nI (i + 1)) τ else if τ.1 73 i = 2 then (if σ.1 g 4 < (if 0 ≤ (σ.1 (fl i) 6 - σ.1 (fl j) 6) then (σ.1 (fl i) 6 - σ.1 (fl j) 6) else 0 - (σ.1 (fl i) 6 - σ.1 (fl j) 6)) then f_X11_comesDown_b69 fu (nI j) t p x (nI (i + 1)) τ else (f_X11_hurts (nI i) t τ).bind (fun r => f_X11_comesDown_b69 fu (nI j) t p 1 (nI (i + 1)) (sI r.2 83 (6 * i + 5) (r.2.1 83 (6 * i + 5) + 1)))) else f_X11_comesDown_b69 fu (nI j) t p x (nI (i + 1)) τ := by
  have hn4 : n ≤ 4 := R.1.1.2.2.1
  have a : ¬ nI n ≤ nI i := nI_ge hi (by omega)
  have b : (nI i = nI j) ↔ i = j := nI_eq (by omega) (by omega)
  obtain ⟨f1, -⟩ := R.2.2.1 i hi
  obtain ⟨g1, -⟩ := R.2.2.1 j hj
  have hN : τ.1 56 5 = σ.1 g 4 := R.1.2.1.2.2.2.1
  have h0 : τ.1 56 6 = nI n := R.1.1.2.2.2.1
  rw [f_X11_comesDown_b69]
  simp only [gd, br, lt, dI, pI, cl, h0, if_neg a, b, f_X11_comesDown_b147, nI_1, inb_nI (show i < 4 by omega) (show 4 < 2 ^ 31 by omega), inb_nI (show j < 4 by omega) (show 4 < 2 ^ 31 by omega), if_true, nI_clamp (show i < 2 ^ 31 by omega), nI_clamp (show j < 2 ^ 31 by omega), f1, g1, near_same (σ := σ) (τ := τ) (m := 0) (hP i hi) (hP j hj), Option.bind_some, hN, nI_l6 (x := 5) (k := 5) rfl, inb_nI (show 6 * i + 5 < 24 by omega) (show 24 < 2 ^ 31 by omega), nI_clamp (show 6 * i + 5 < 2 ^ 31 by omega)]
  split
  · rfl
  · split
    · by_cases q : σ.1 g 4 < (if 0 ≤ (σ.1 (fl i) 6 - σ.1 (fl j) 6) then (σ.1 (fl i) 6 - σ.1 (fl j) 6) else 0 - (σ.1 (fl i) 6 - σ.1 (fl j) 6))
      · rw [if_pos q, if_neg (Int32.not_le.mpr q)]
      · rw [if_neg q, if_pos (Int32.not_lt.mp q)]
    · rfl
theorem knock_rel {g n s L j : Nat} {t p : Int32} (hj : j < n) : ∀ (d i fu fm : Nat) (x : Int32) (σ τ : Sg), i + d = 4 → Re g n s L σ τ → ¬ σ.1 (fl j) 5 = 2 → (∀ k, k < n → -1000 ≤ (σ.1 (fl k) 6).toInt ∧ (σ.1 (fl k) 6).toInt ≤ 1000) →
    ∃ y σ' τ', f_X4_knock_b5 (fu + d + 1) (fl j) t x (nI i) σ = f_X4_knock_b77 (fl j) t y σ' ∧ f_X11_comesDown_b69 (fm + d + 1) (nI j) t p x (nI i) τ = f_X11_comesDown_b153 (nI j) t p y τ' ∧ Re g n s L σ' τ' ∧ Kp σ σ' := by
  intro d
  induction d with
  | zero =>
    intro i fu fm x σ τ h1 R h2 hP
    have hn4 : n ≤ 4 := R.1.1.2.2.1
    refine ⟨x, σ, τ, knockC_end R (by omega) 0 i h1 (by omega), ?_, R, Kp.rf⟩
    have : i = 4 := by omega
    subst this
    rw [f_X11_comesDown_b69]
    simp only [dI, br, R.1.1.2.2.2.1]
    rw [if_pos (nI_le hn4 (by omega))]
  | succ d ih =>
    intro i fu fm x σ τ h1 R h2 hP
    have hn4 : n ≤ 4 := R.1.1.2.2.1
    by_cases hi : i < n
    · rw [show fu + (d + 1) + 1 = (fu + d + 1) + 1 by omega, show fm + (d + 1) + 1 = (fm + d + 1) + 1 by omega, knockC_step R (by omega) (by omega), knockM_step R hi hj hP]
      by_cases e : i = j
      · subst e
        rw [if_neg h2, if_pos rfl]
        exact ih (i + 1) fu fm x σ τ (by omega) R h2 hP
      · rw [if_neg e]
        have hd : (τ.1 73 i = 2) ↔ σ.1 (fl i) 5 = 2 := by
          rcases R.2.1 i (by omega) with ⟨h4, h5⟩ | ⟨-, -, h5, -⟩
          · rw [h4, h5]; decide
          · rw [h5]
        by_cases q : σ.1 (fl i) 5 = 2
        · rw [if_pos q, if_pos (hd.mpr q)]
          by_cases q2 : σ.1 g 4 < (if 0 ≤ (σ.1 (fl i) 6 - σ.1 (fl j) 6) then (σ.1 (fl i) 6 - σ.1 (fl j) 6) else 0 - (σ.1 (fl i) 6 - σ.1 (fl j) 6))
          · rw [if_pos q2, if_pos q2]
            exact ih (i + 1) fu fm x σ τ (by omega) R h2 hP
          · rw [if_neg q2, if_neg q2]
            obtain ⟨τ', e1, R1⟩ := re_hurt (t := t) R hi
            rw [e1, Option.bind_some]
            have hk := R1.2.2.2.1 i hi 5 (by omega)
            have hk2 : (hC i t σ).1 (fk i) 5 = σ.1 (fk i) 5 := hC_g (by rw [fk_17]; exact fun h => h.1) (by rw [fk_17]; exact fun h => h.1) (by rw [fk_fl]; exact fun h => h.1)
            have R2 := re_k R1 hi (show 5 < 6 by omega) (σ.1 (fk i) 5 + 1)
            rw [hk, hk2]
            have K : Kp σ (sI (hC i t σ) (fk i) 5 (σ.1 (fk i) 5 + 1)) := Kp.hC.tr Kp.k
            obtain ⟨y, σ2, τ2, a1, a2, a3, a4⟩ := ih (i + 1) fu fm 1 _ _ (by omega) R2 (by rw [K.f (by omega)]; exact h2) (fun k hk => by rw [K.f (by omega)]; exact hP k hk)
            exact ⟨y, σ2, τ2, a1, a2, a3, K.tr a4⟩
        · rw [if_neg q, if_neg (fun z => q (hd.mp z))]
          exact ih (i + 1) fu fm x σ τ (by omega) R h2 hP
    · refine ⟨x, σ, τ, knockC_end R (by omega) (d + 1) i h1 (by omega), ?_, R, Kp.rf⟩
      rw [f_X11_comesDown_b69]
      simp only [dI, br, R.1.1.2.2.2.1]
      rw [if_pos (nI_le (by omega) (by omega))]
