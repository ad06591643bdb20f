-- ===== the press of a landing, its row =====
theorem cl_unit {f : Sg → Option (Unit × Sg)} {σ : Sg} : cl f (fun _ => rt ()) σ = f σ := by
  unfold cl rt
  cases h : f σ with
  | none => rfl
  | some r => rfl
theorem row5_c {c o a b : Nat} {v0 v1 v2 v3 v4 v : Int32} {σ : Sg} (h : ¬ a = c) : row5 c o v0 v1 v2 v3 v4 (sI σ a b v) = sI (row5 c o v0 v1 v2 v3 v4 σ) a b v := by
  unfold row5
  have e : ∀ (υ : Sg) (q : Nat) (w : Int32), sI (sI υ a b v) c q w = sI (sI υ c q w) a b v := fun υ q w => sI_comm (fun z => h z.1)
  rw [e, e, e, e, e]
theorem add_eq {L : Nat} {σ : Sg} {v0 v1 v2 v3 v4 : Int32} (h : σ.1 28 1 = nI L) (hL : L < 600) : f_X3_add v0 v1 v2 v3 v4 σ = some ((), sI (row5 29 (5 * L) v0 v1 v2 v3 v4 σ) 28 1 (nI (L + 1))) := by
  have e : nI L * 5 = nI (5 * L) := by rw [nI_mulR (x := 5) (k := 5) rfl, Nat.mul_comm]
  have a : ¬ nI (5 * L) < 0 := nI_pos (by omega)
  have b : nI (5 * L) ≤ 3000 - 5 := (nI_leR (x := 3000 - 5) (k := 2995) (by decide) (by omega) (by omega)).mpr (by omega)
  have c1 : nI (5 * L) + 1 = nI (5 * L + 1) := nI_addR (x := 1) (k := 1) rfl _
  have c2 : nI (5 * L) + 2 = nI (5 * L + 2) := nI_addR (x := 2) (k := 2) rfl _
  have c3 : nI (5 * L) + 3 = nI (5 * L + 3) := nI_addR (x := 3) (k := 3) rfl _
  have c4 : nI (5 * L) + 4 = nI (5 * L + 4) := nI_addR (x := 4) (k := 4) rfl _
  simp only [f_X3_add, dI, br, gd, pI, rt, h, e, if_neg a, if_pos b, c1, c2, c3, c4, inb_nI (show 5 * L < 3000 by omega) (show 3000 < 2 ^ 31 by omega), inb_nI (show 5 * L + 1 < 3000 by omega) (show 3000 < 2 ^ 31 by omega), inb_nI (show 5 * L + 2 < 3000 by omega) (show 3000 < 2 ^ 31 by omega), inb_nI (show 5 * L + 3 < 3000 by omega) (show 3000 < 2 ^ 31 by omega), inb_nI (show 5 * L + 4 < 3000 by omega) (show 3000 < 2 ^ 31 by omega), if_true, nI_clamp (show 5 * L < 2 ^ 31 by omega), nI_clamp (show 5 * L + 1 < 2 ^ 31 by omega), nI_clamp (show 5 * L + 2 < 2 ^ 31 by omega), nI_clamp (show 5 * L + 3 < 2 ^ 31 by omega), nI_clamp (show 5 * L + 4 < 2 ^ 31 by omega)]
  have r := row5_g (c := 29) (o := 5 * L) (v0 := v0) (v1 := v1) (v2 := v2) (v3 := v3) (v4 := v4) (σ := σ) (a := 28) (b := 1) (Or.inl (by omega))
  rw [← nI_1, ← h, ← r]
  rfl
theorem landed_eq {L j k : Nat} {τ : Sg} {t p x : Int32} (h : τ.1 56 64 = nI L) (hL : L < 600) (hj : j < 4) (hk : k < 6) (hx : x = nI k) : f_X11_landed t (nI j) x p τ = some ((), sI (sI (row5 85 (5 * L) t (nI j) x (τ.1 74 j) p τ) 56 64 (nI (L + 1))) 83 (6 * j + k) (τ.1 83 (6 * j + k) + 1)) := by
  have e : 5 * nI L = nI (5 * L) := nI_mulL (x := 5) (k := 5) rfl L
  have c1 : nI (5 * L) + 1 = nI (5 * L + 1) := nI_addR (x := 1) (k := 1) rfl _
  have c2 : nI (5 * L) + 2 = nI (5 * L + 2) := nI_addR (x := 2) (k := 2) rfl _
  have c3 : nI (5 * L) + 3 = nI (5 * L + 3) := nI_addR (x := 3) (k := 3) rfl _
  have c4 : nI (5 * L) + 4 = nI (5 * L + 4) := nI_addR (x := 4) (k := 4) rfl _
  have d6 := nI_l6 hx j
  simp only [f_X11_landed, dI, lt, gd, pI, rt, h, e, c1, c2, c3, c4, d6, inb_nI (show 5 * L < 6500 by omega) (show 6500 < 2 ^ 31 by omega), inb_nI (show 5 * L + 1 < 6500 by omega) (show 6500 < 2 ^ 31 by omega), inb_nI (show 5 * L + 2 < 6500 by omega) (show 6500 < 2 ^ 31 by omega), inb_nI (show 5 * L + 3 < 6500 by omega) (show 6500 < 2 ^ 31 by omega), inb_nI (show 5 * L + 4 < 6500 by omega) (show 6500 < 2 ^ 31 by omega), inb_nI hj (show 4 < 2 ^ 31 by omega), inb_nI (show 6 * j + k < 24 by omega) (show 24 < 2 ^ 31 by omega), if_true, nI_clamp (show 5 * L < 2 ^ 31 by omega), nI_clamp (show 5 * L + 1 < 2 ^ 31 by omega), nI_clamp (show 5 * L + 2 < 2 ^ 31 by omega), nI_clamp (show 5 * L + 3 < 2 ^ 31 by omega), nI_clamp (show 5 * L + 4 < 2 ^ 31 by omega), nI_clamp (show j < 2 ^ 31 by omega), nI_clamp (show 6 * j + k < 2 ^ 31 by omega)]
  have r74 : ∀ (υ : Sg) (q : Nat) (w : Int32), (sI υ 85 q w).1 74 j = υ.1 74 j := fun υ q w => sI_ne (by omega)
  have r83 : ∀ (υ : Sg) (q : Nat) (w : Int32), (sI υ 85 q w).1 83 (6 * j + k) = υ.1 83 (6 * j + k) := fun υ q w => sI_ne (by omega)
  have r56 : ∀ (υ : Sg) (q : Nat) (w : Int32), (sI υ 85 q w).1 56 64 = υ.1 56 64 := fun υ q w => sI_ne (by omega)
  have q83 : ∀ (υ : Sg) (w : Int32), (sI υ 56 64 w).1 83 (6 * j + k) = υ.1 83 (6 * j + k) := fun υ w => sI_ne (by omega)
  simp only [r74, r83, r56, q83, h, nI_1, row5]
/-- kinds, rows and their number have changed alone -/
def Lp (σ σ' : Sg) : Prop := σ'.2 = σ.2 ∧ (∀ j b, j < 4 → σ'.1 (fl j) b = σ.1 (fl j) b) ∧ (∀ b, σ'.1 17 b = σ.1 17 b) ∧ ∀ g b, isGd g = true → σ'.1 g b = σ.1 g b
theorem b66_rel {g n s L j k : Nat} {σ τ : Sg} {t p x : Int32} (R : Re g n s L σ τ) (hL : L < 600) (hj : j < n) (hk : k < 6) (hx : x = nI k) : ∃ σ' τ', f_X4_land_b66 (fl j) t p x σ = some ((), σ') ∧ f_X11_landed t (nI j) x p τ = some ((), τ') ∧ Re g n s (L + 1) σ' τ' ∧ Lp σ σ' := by
  have hn4 : n ≤ 4 := R.1.1.2.2.1
  have hj4 : j < 4 := by omega
  have R1 := re_k R hj hk (σ.1 (fk j) k + 1)
  have hl1 : (sI σ (fk j) k (σ.1 (fk j) k + 1)).1 28 1 = nI L := R1.2.2.2.2.2.1.1
  have hm : (sI σ (fk j) k (σ.1 (fk j) k + 1)).1 (fl j) 0 = nI j := R1.1.2.2.1 j hj4
  have hp6 : τ.1 74 j = (sI σ (fk j) k (σ.1 (fk j) k + 1)).1 (fl j) 6 := by rw [sI_ne (of_eq_false fl_fk)]; exact (R.2.2.1 j hj).1
  have hkk : τ.1 83 (6 * j + k) = σ.1 (fk j) k := R.2.2.2.1 j hj k hk
  have R2 := re_row (v0 := t) (v1 := nI j) (v2 := x) (v3 := τ.1 74 j) (v4 := p) R1
  refine ⟨sI (row5 29 (5 * L) t (nI j) x (τ.1 74 j) p (sI σ (fk j) k (σ.1 (fk j) k + 1))) 28 1 (nI (L + 1)), _, ?_, landed_eq R.2.2.2.2.2.1.2.1 hL hj4 hk hx, ?_, ?_⟩
  · simp only [f_X4_land_b66, gd, isFl_l hj4, if_true, cl, addKind_eq hx hj4 hk, Option.bind_some, dI, hm, ← hp6, add_eq hl1 hL, rt]
  · rw [hkk, sI_comm (by omega), ← row5_c (c := 85) (σ := τ) (by omega)]
    exact R2
  · refine ⟨rfl, fun i b hi => ?_, fun b => ?_, fun g' b hg => ?_⟩
    · rw [sI_ne (of_eq_false fl_28), row5_g (Or.inl (of_eq_false (fl_29 hi))), sI_ne (of_eq_false fl_fk)]
    · rw [sI_ne (by omega), row5_g (Or.inl (by omega)), sI_ne (of_eq_false e17_fk)]
    · rw [sI_ne (of_eq_false (gd_28 hg)), row5_g (Or.inl (of_eq_false (gd_29 hg))), sI_ne (of_eq_false (gd_fk hg hj4))]
/-- how the press changes what counts -/
def Pp (j : Nat) (p t : Int32) (g : Nat) (σ σ' : Sg) : Prop := (∀ i b, ¬ b = 14 → σ'.1 (fl i) b = σ.1 (fl i) b) ∧ (∀ g' b, isGd g' = true → σ'.1 g' b = σ.1 g' b) ∧ σ'.2.2 17 3 = σ.2.2 17 3 ∧ σ'.1 17 4 = σ.1 17 4 ∧ σ'.1 17 5 = σ.1 17 5 ∧
  ((σ.1 17 6 = 1 ∧ σ'.1 17 6 = 0 ∧ σ'.1 17 7 = t ∧ σ'.2.2 17 8 = fl j ∧ σ'.1 17 9 = σ.1 17 9 + p) ∨
   (σ.1 17 6 = 0 ∧ σ'.1 17 6 = 0 ∧ σ'.1 17 7 = σ.1 17 7 ∧ t - σ.1 17 7 < σ.1 g 0 ∧ σ'.2.2 17 8 = fl j ∧ σ'.1 17 9 = σ.1 17 9 + p) ∨
   (σ.1 17 6 = 0 ∧ σ'.1 17 6 = 0 ∧ σ'.1 17 7 = σ.1 17 7 ∧ σ'.1 17 9 = σ.1 17 9 ∧ σ'.2.2 17 8 = σ.2.2 17 8))
theorem press_rel {g n s L j b : Nat} {σ τ τ0 : Sg} {t p : Int32} (R : Re g n s L σ τ) (hj : j < n) (ht : t = nI b) (hb : b ≤ 600) (h0 : τ = sI (sI τ0 73 j 2) 77 j t) : ∃ k σ' τ', k < 6 ∧ f_X4_press (fl j) p t σ = some (nI k, σ') ∧ f_X11_comesDown_b179 (nI j) t p τ0 = f_X11_landed t (nI j) (nI k) p τ' ∧ Re g n s L σ' τ' ∧ Pp j p t g σ σ' := by
  have hn4 : n ≤ 4 := R.1.1.2.2.1
  have hj4 : j < 4 := by omega
  have hgd := R.1.1.1
  have hg : σ.2.2 17 3 = g := R.1.1.2.1
  have i4 := inb_nI hj4 (show 4 < 2 ^ 31 by omega)
  have cj := nI_clamp (show j < 2 ^ 31 by omega)
  have hs0 : σ.1 g 0 = nI s := R.1.1.2.2.2.2.2.2.1
  have hs1 : τ.1 56 1 = nI s := R.1.1.2.2.2.2.2.2.2
  obtain ⟨s1, s2, s3, s4, s5, s6, s7⟩ := id R.2.2.2.2.2.2.1
  obtain ⟨f1, f2, f3, f4, f5, f6, f7, f8⟩ := R.2.2.1 j hj
  have e179 : f_X11_comesDown_b179 (nI j) t p τ0 = (dI 56 65 (fun v1 => br (v1 = ((-1))) (f_X11_comesDown_b214 (nI j) t p) (dI 56 65 (fun v3 => dI 56 1 (fun v4 => br (v4 ≤ (t - v3)) (gd (inb (nI j) 4 = true) (dI 82 (nI j).toNatClampNeg (fun v6 => gd (inb (nI j) 4 = true) (pI 82 (nI j).toNatClampNeg (v6 + p) (dI 56 69 (fun v7 => pI 56 69 (v7 + p) (cl (f_X11_landed t (nI j) 3 p) (fun _ => rt ())))))))) (f_X11_comesDown_b214 (nI j) t p)))))) τ := by
    simp only [f_X11_comesDown_b179, gd, pI, i4, if_true, cj]
    rw [h0]
  rw [e179]
  rcases R.2.2.2.2.2.2.2 with ⟨q1, q2⟩ | ⟨q1, b1, i1, hb1, hi1, q2, q3, q4, q5⟩
  · -- still
    have R1 := re_s10 (re_s9 (re_begin R hj ht hb) (σ.1 17 9 + p)) (σ.1 17 10 + p)
    refine ⟨0, _, _, by omega, ?_, ?_, R1, ?_⟩
    · have h : ¬ σ.1 17 6 = 0 := by rw [q1]; decide
      simp only [f_X4_press, f_X4_press_b45, f_X4_press_b79, gd, isFl_l hj4, if_true, dI, pI, pR, rt, br, if_neg h]
      rfl
    · simp only [f_X11_comesDown_b214, f_X11_comesDown_b227, f_X11_comesDown_b260, f_X11_comesDown_b298, dI, pI, br, q2, if_true, cl_unit]
      rw [if_neg (show ¬ (1 : Int32) = 0 by decide), if_neg (show ¬ (1 : Int32) = 0 by decide)]
      simp only [sI_nf (σ := τ) (show ¬ 66 = 65 by omega), sI_nf (show ¬ 68 = 66 by omega), sI_nf (show ¬ 68 = 65 by omega), s1, s2]
      rw [sI_comm (σ := sI (sI τ 56 65 t) 56 66 (σ.1 17 9 + p)) (by omega), sI_comm (σ := sI τ 56 65 t) (by omega)]
      rfl
    · refine ⟨fun i b hb => ?_, fun g' b hg' => ?_, ?_, ?_, ?_, Or.inl ⟨q1, ?_, ?_, ?_, ?_⟩⟩
      · simp only [sI_gt, sR_1, fl_17, false_and, if_false]
      · simp only [sI_gt, sR_1, gd_17 hg', false_and, if_false]
      all_goals simp [sI_gt, sI_2, sR_1, sR_gt]
  · have h : σ.1 17 6 = 0 := q1
    have hne : ¬ τ.1 56 65 = -1 := by rw [q3]; exact neg1_ne hb1
    by_cases c : t - σ.1 17 7 < σ.1 g 0
    · -- gaining
      have hi4 : i1 < 4 := by omega
      have Rk := re_k R hi1 (show 2 < 6 by omega) (σ.1 (fk i1) 2 + 1)
      have R1 := re_s10 (re_s9 (re_taker Rk hj (by rw [sI_ne (of_eq_false e17_fk)]; exact h)) (σ.1 17 9 + p)) (σ.1 17 10 + p)
      have hkk : τ.1 83 (6 * i1 + 2) = σ.1 (fk i1) 2 := R.2.2.2.1 i1 hi1 2 (by omega)
      refine ⟨1, _, _, by omega, ?_, ?_, R1, ?_⟩
      · simp only [f_X4_press, f_X4_press_b45, f_X4_press_b79, gd, isFl_l hj4, if_true, dI, dR, pI, pR, rt, br, h, hg, hgd, if_pos c, q4, isFl_l hi4, cl, addKind_eq (x := 2) (k := 2) rfl hi4 (show 2 < 6 by omega), Option.bind_some, sR_1]
        rw [sI_ne (of_eq_false e17_fk)]
        simp only [sI_gt, sR_1, e17_fk, false_and, if_false]
        rfl
      · have c' : ¬ τ.1 56 1 ≤ t - τ.1 56 65 := by rw [hs1, q3, ← hs0, ← q2]; exact Int32.not_le.mpr c
        simp only [f_X11_comesDown_b214, f_X11_comesDown_b227, f_X11_comesDown_b260, f_X11_comesDown_b298, dI, pI, br, lt, gd, if_neg hne, if_neg c', if_true, q5, nI_l6 (x := 2) (k := 2) rfl, inb_nI (show 6 * i1 + 2 < 24 by omega) (show 24 < 2 ^ 31 by omega), nI_clamp (show 6 * i1 + 2 < 2 ^ 31 by omega), cl_unit, hkk]
        simp only [sI_ne (σ := τ) (show ¬ 56 = 83 by omega), sI_nf (show ¬ 68 = 66 by omega), s1, s2]
        rw [sI_comm (σ := sI (sI τ 83 (6 * i1 + 2) (σ.1 (fk i1) 2 + 1)) 56 66 (σ.1 17 9 + p)) (by omega), sI_comm (σ := sI τ 83 (6 * i1 + 2) (σ.1 (fk i1) 2 + 1)) (by omega)]
        rfl
      · refine ⟨fun i b hb => ?_, fun g' b hg' => ?_, ?_, ?_, ?_, Or.inr (Or.inl ⟨h, ?_, ?_, c, ?_, ?_⟩)⟩
        · simp only [sI_gt, sR_1, fl_17, fl_fk, false_and, if_false]
        · simp only [sI_gt, sR_1, gd_17 hg', gd_fk hg' hi4, false_and, if_false]
        all_goals simp [sI_gt, sI_2, sR_1, sR_gt, e17_fk, h]
    · -- jarring
      have R1 := re_s11 (re_f14 R hj (σ.1 (fl j) 14 + p)) (σ.1 17 11 + p)
      refine ⟨3, _, _, by omega, ?_, ?_, R1, ?_⟩
      · simp only [f_X4_press, gd, isFl_l hj4, if_true, dI, dR, pI, rt, br, h, hg, hgd, if_neg c]
        rw [sI_ne (of_eq_false e17_fl)]
        rfl
      · have c' : τ.1 56 1 ≤ t - τ.1 56 65 := by rw [hs1, q3, ← hs0, ← q2]; exact Int32.not_lt.mp c
        simp only [dI, pI, br, gd, if_neg hne, if_pos c', i4, cj, if_true, cl_unit, f8]
        rw [sI_ne (show ¬ 56 = 82 by omega), s3]
        rfl
      · refine ⟨fun i b hb => ?_, fun g' b hg' => ?_, ?_, ?_, ?_, Or.inr (Or.inr ⟨h, ?_, ?_, ?_, ?_⟩)⟩
        · simp only [sI_gt, fl_17, false_and, if_false]
          rw [if_neg (fun z => hb z.2)]
        · simp only [sI_gt, gd_17 hg', gd_fl hg' hj4, false_and, if_false]
        all_goals simp [sI_gt, sI_2, e17_fl, h]
