-- ===== all landings of a tick =====
theorem gs_gd {g b : Nat} (h : isGd g = true) : gs_play g b = false := by
  rcases or3 h with rfl | rfl | rfl <;> rfl
theorem toInt_neg_s {x : Int32} {e : Nat} (he : e ≤ 1000) (h : x = nI e) : (-x).toInt = -(e : Int) := by
  subst h
  have h2 := toInt_sub_s (a := 0) (b := nI e) (by rw [toInt_0, nI_toInt (by omega)]; omega)
  rw [Int32.zero_sub, toInt_0, nI_toInt (by omega)] at h2
  omega
theorem beyond_eq {g : Nat} {x : Int32} {σ : Sg} (hg : isGd g = true) : f_X2_isBeyond g x σ = some (if x < -(σ.1 g 1) ∨ σ.1 g 1 < x then 1 else 0, σ) := by
  simp only [f_X2_isBeyond, f_X2_isBeyond_b17, gd, br, dI, rt, hg, if_true]
  by_cases h1 : x < -(σ.1 g 1)
  · rw [if_pos h1, if_pos (Or.inl h1)]
  · rw [if_neg h1]
    by_cases h2 : σ.1 g 1 < x
    · rw [if_neg (Int32.not_le.mpr h2), if_pos (Or.inr h2)]
    · rw [if_pos (Int32.not_lt.mp h2), if_neg (fun z => z.elim h1 h2)]
theorem coming_eq {j : Nat} {σ : Sg} (hj : j < 4) : f_X1_isComing (fl j) σ = some (if σ.1 (fl j) 5 = 0 ∨ σ.1 (fl j) 5 = 1 then 1 else 0, σ) := by
  simp only [f_X1_isComing, f_X1_isComing_b15, gd, br, dI, rt, isFl_l hj, if_true]
  by_cases h1 : σ.1 (fl j) 5 = 0
  · rw [if_pos h1, if_pos (Or.inl h1)]
  · rw [if_neg h1]
    by_cases h2 : σ.1 (fl j) 5 = 1
    · rw [if_pos h2, if_pos (Or.inr h2)]
    · rw [if_neg h2, if_neg (fun z => z.elim h1 h2)]
theorem weight_eq {g n s L j : Nat} {σ τ : Sg} (R : Re g n s L σ τ) (hj : j < n) : f_X11_weight (nI j) τ = some (σ.1 (fl j) 1, τ) := by
  have hn4 : n ≤ 4 := R.1.1.2.2.1
  simp only [f_X11_weight, gd, dI, rt, nI_mulL (x := 6) (k := 6) rfl, inb_nI (show 6 * j < 24 by omega) (show 24 < 2 ^ 31 by omega), if_true, nI_clamp (show 6 * j < 2 ^ 31 by omega), (R.1.2.2.2 j hj).1]
/-- the knocks, whole -/
theorem knock_all {g n s L j : Nat} {t p : Int32} {σ τ : Sg} (R : Re g n s L σ τ) (hj : j < n) (h2 : ¬ σ.1 (fl j) 5 = 2) (hP : ∀ k, k < n → -1000 ≤ (σ.1 (fl k) 6).toInt ∧ (σ.1 (fl k) 6).toInt ≤ 1000) : ∃ σ' τ', f_X4_knock (fl j) t σ = some ((), σ') ∧ f_X11_comesDown_b69 FU (nI j) t p 0 0 τ = f_X11_comesDown_b179 (nI j) t p τ' ∧ Re g n s L σ' τ' ∧ Kp σ σ' := by
  have hn4 : n ≤ 4 := R.1.1.2.2.1
  have hj4 : j < 4 := by omega
  obtain ⟨y, σ1, τ1, e1, e2, R1, K1⟩ := knock_rel (t := t) (p := p) hj 4 0 8187 8187 0 σ τ rfl R h2 hP
  have f1 : f_X4_knock (fl j) t σ = f_X4_knock_b77 (fl j) t y σ1 := by
    rw [← e1]
    simp only [f_X4_knock, gd, isFl_l hj4, if_true]
    rfl
  have f2 : f_X11_comesDown_b69 FU (nI j) t p 0 0 τ = f_X11_comesDown_b153 (nI j) t p y τ1 := by
    rw [← e2]
    rfl
  rw [f1, f2]
  by_cases q : y = 0
  · refine ⟨σ1, τ1, ?_, ?_, R1, K1⟩
    · simp only [f_X4_knock_b77, gd, br, rt, isFl_l hj4, if_true, if_pos q]
    · simp only [f_X11_comesDown_b153, br, if_pos q]
  · obtain ⟨τ', e3, R2⟩ := re_hurt (t := t) R1 hj
    have hk := R2.2.2.2.1 j hj 5 (by omega)
    have hk2 : (hC j t σ1).1 (fk j) 5 = σ1.1 (fk j) 5 := hC_g (by rw [fk_17]; exact fun h => h.1) (by rw [fk_17]; exact fun h => h.1) (by rw [fk_fl]; exact fun h => h.1)
    refine ⟨sI (hC j t σ1) (fk j) 5 (σ1.1 (fk j) 5 + 1), sI τ' 83 (6 * j + 5) (σ1.1 (fk j) 5 + 1), ?_, ?_, re_k R2 hj (by omega) _, K1.tr (Kp.hC.tr Kp.k)⟩
    · simp only [f_X4_knock_b77, gd, br, isFl_l hj4, if_true, if_neg q, cl, addKind_eq (x := 5) (k := 5) rfl hj4 (show 5 < 6 by omega), Option.bind_some, hurtC_eq hj4, hC_k hj4 hj4, rt]
    · simp only [f_X11_comesDown_b153, br, if_neg q, cl, e3, Option.bind_some, lt, gd, dI, pI, nI_l6 (x := 5) (k := 5) rfl, inb_nI (show 6 * j + 5 < 24 by omega) (show 24 < 2 ^ 31 by omega), if_true, nI_clamp (show 6 * j + 5 < 2 ^ 31 by omega), hk, hk2]
theorem land_rel {g n s e t L j : Nat} {c : Nat → Nat} {σ τ : Sg} (R : Re g n s L σ τ) (N : Nu g n s e t L c σ) (hj : j < n) (ht : t < 600) (hd : σ.1 (fl j) 5 = 0 ∨ σ.1 (fl j) 5 = 1) (hc : σ.1 (fl j) 9 = nI t) : ∃ σ' τ', f_X4_land (fl j) (nI t) σ = some ((), σ') ∧ f_X11_comesDown (nI j) (nI t) τ = some ((), τ') ∧ Re g n s (L + 1) σ' τ' ∧ Nu g n s e t (L + 1) (cUp c j) σ' := by
  have hn4 : n ≤ 4 := R.1.1.2.2.1
  have hj4 : j < 4 := by omega
  have hgd := R.1.1.1
  have hg : σ.2.2 17 3 = g := R.1.1.2.1
  have hss : 1 ≤ s ∧ s ≤ 9 := ⟨R.1.1.2.2.2.2.1, R.1.1.2.2.2.2.2.1⟩
  have hs0 : σ.1 g 0 = nI s := R.1.1.2.2.2.2.2.2.1
  have i4 := inb_nI hj4 (show 4 < 2 ^ 31 by omega)
  have cj := nI_clamp (show j < 2 ^ 31 by omega)
  have hE : τ.1 56 2 = σ.1 g 1 := R.1.2.1.1
  obtain ⟨f1, f2, -⟩ := R.2.2.1 j hj
  obtain ⟨k1, k2⟩ := nu_cnt N hj hn4 ht hd hc
  have h4 : ¬ σ.1 (fl j) 5 = 4 := by rcases hd with h | h <;> rw [h] <;> decide
  have h2 : ¬ σ.1 (fl j) 5 = 2 := by rcases hd with h | h <;> rw [h] <;> decide
  obtain ⟨e20, hE2, -⟩ := N.1
  obtain ⟨⟨w, w1, w2, w3⟩, -, -, ⟨f, ff1, ff2⟩, -⟩ := N.2.1 j hj
  have hpw : ∃ P, σ.1 (fl j) 1 * σ.1 (fl j) 7 = nI P ∧ P ≤ 98901 := ⟨w * f, by rw [w3, ff2, nI_mul], Nat.le_trans (Nat.mul_le_mul w2 ff1) (Nat.le_of_ble_eq_true rfl)⟩
  have hneg := toInt_neg_s (x := σ.1 g 1) (e := e) (by omega) hE2
  have hpos : (σ.1 g 1).toInt = e := by rw [hE2, nI_toInt (by omega)]
  generalize hp : σ.1 (fl j) 1 * σ.1 (fl j) 7 = p at hpw
  by_cases hb : σ.1 (fl j) 6 < -(σ.1 g 1) ∨ σ.1 g 1 < σ.1 (fl j) 6
  · -- beyond the edge
    have R1 := re_d R hj h4 3 (by decide)
    obtain ⟨τ1, e1, R2⟩ := re_hurt (t := nI t) R1 hj
    obtain ⟨σ3, τ3, a1, a2, R3, P3⟩ := b66_rel (t := nI t) (p := p) (x := 4) (k := 4) R2 k2 hj (by omega) rfl
    refine ⟨σ3, τ3, ?_, ?_, R3, ?_⟩
    · rw [← a1]
      simp only [f_X4_land, gd, isFl_l hj4, if_true, dI, dR, hg, hgd, cl, beyond_eq hgd, if_pos hb, Option.bind_some, br, pI, hurtC_eq hj4, hp]
      rw [if_neg (show ¬ (1 : Int32) = 0 by decide)]
    · have e41 : f_X11_comesDown (nI j) (nI t) τ = f_X11_comesDown_b41 (nI j) (nI t) p τ := by
        simp only [f_X11_comesDown, cl, weight_eq R hj, Option.bind_some, gd, i4, if_true, dI, cj, f1, f2, hE, br, hp]
        by_cases q : σ.1 g 1 < σ.1 (fl j) 6
        · rw [if_pos q]
        · rw [if_neg q, if_neg]
          rcases hb with h | h
          · rw [Int32.zero_sub]; exact Int32.not_le.mpr h
          · exact absurd h q
      rw [e41]
      simp only [f_X11_comesDown_b41, gd, i4, if_true, pI, cj, cl, e1, Option.bind_some, a2, rt]
    · obtain ⟨p1, p2, p3, p4⟩ := P3
      refine nu_out N hj hn4 ht k1 hd (fun i hi hne b b1 b2 => ?_) (fun b b1 b2 b3 => ?_) ?_ (fun b => ?_) ⟨?_, ?_, ?_, ?_⟩
      · rw [p2 i b hi, Kp.hC.f b1, sI_ne (fun z => hne (fl_eq.mp z))]
      · rw [p2 j b hj4, Kp.hC.f b2, sI_nf b1]
      · rw [p2 j 5 hj4, Kp.hC.f (by omega), sI_eq]
      · rw [p4 g b hgd, hC_g (by rw [gd_17 hgd]; exact fun z => z.1) (by rw [gd_17 hgd]; exact fun z => z.1) (by rw [gd_fl hgd hj4]; exact fun z => z.1), sI_ne (of_eq_false (gd_fl hgd hj4))]
      · rw [p3, Kp.hC.s (by omega) (by omega), sI_ne (of_eq_false e17_fl)]
      · rw [p3, Kp.hC.s (by omega) (by omega), sI_ne (of_eq_false e17_fl)]
      · rw [p1, hC_2, sI_2]
      · rw [p3, Kp.hC.s (by omega) (by omega), sI_ne (of_eq_false e17_fl)]
  · -- on the mat
    have hin : -(e : Int) ≤ (σ.1 (fl j) 6).toInt ∧ (σ.1 (fl j) 6).toInt ≤ e := by
      have q1 : ¬ σ.1 (fl j) 6 < -(σ.1 g 1) := fun z => hb (Or.inl z)
      have q2 : ¬ σ.1 g 1 < σ.1 (fl j) 6 := fun z => hb (Or.inr z)
      rw [Int32.lt_iff_toInt_lt, hneg] at q1
      rw [Int32.lt_iff_toInt_lt, hpos] at q2
      omega
    obtain ⟨σ1, τ1, e1, e2, R1, K1⟩ := knock_all (t := nI t) (p := p) R hj h2 (fun k hk => (N.2.1 k hk).2.2.2.2.2.1)
    have R2 := re_f8 (re_d R1 hj (by rw [K1.f (by omega)]; exact h4) 2 (by decide)) hj (nI t)
    obtain ⟨k, σ3, τ3, hk, e3, e4, R3, P3⟩ := press_rel (p := p) (τ0 := τ1) R2 hj (t := nI t) (b := t) rfl (by omega) rfl
    obtain ⟨σ4, τ4, a1, a2, R4, P4⟩ := b66_rel (t := nI t) (p := p) (x := nI k) (k := k) R3 k2 hj hk rfl
    refine ⟨σ4, τ4, ?_, ?_, R4, ?_⟩
    · rw [← a1]
      simp only [f_X4_land, gd, isFl_l hj4, if_true, dI, dR, hg, hgd, cl, beyond_eq hgd, if_neg hb, Option.bind_some, br, pI, hp, e1, e3]
    · rw [← a2, ← e4, ← e2]
      simp only [f_X11_comesDown, cl, weight_eq R hj, Option.bind_some, gd, i4, if_true, dI, cj, f1, f2, hE, br, hp]
      rw [if_neg (fun z => hb (Or.inr z)), if_pos (by rw [Int32.zero_sub]; exact Int32.not_lt.mp (fun z => hb (Or.inl z)))]
    · obtain ⟨p1, p2, p3, p4⟩ := P4
      obtain ⟨u1, u2, u3, u4, u5, u6⟩ := P3
      have v17 : ∀ b, ¬ b = 14 → ¬ b = 15 → (sI (sI σ1 (fl j) 5 2) (fl j) 8 (nI t)).1 17 b = σ.1 17 b := fun b b1 b2 => by rw [sI_ne (of_eq_false e17_fl), sI_ne (of_eq_false e17_fl), K1.s b1 b2]
      have vg : ∀ b, (sI (sI σ1 (fl j) 5 2) (fl j) 8 (nI t)).1 g b = σ.1 g b := fun b => by
        rw [sI_ne (of_eq_false (gd_fl hgd hj4)), sI_ne (of_eq_false (gd_fl hgd hj4))]
        exact (fr_X4_knock _ _ σ _ e1 g b (gs_gd hgd)).1
      refine nu_on (p := p) N hss hgd hs0 hj hn4 ht k1 hd hpw hin (fun i hi hne b b1 b2 => ?_) (fun b b1 b2 b3 b4 => ?_) ?_ ?_ (fun b => ?_) ?_
      · rw [p2 i b hi, u1 i b b2, sI_ne (fun z => hne (fl_eq.mp z)), sI_ne (fun z => hne (fl_eq.mp z)), K1.f b1]
      · rw [p2 j b hj4, u1 j b b4, sI_nf b2, sI_nf b1, K1.f b3]
      · rw [p2 j 5 hj4, u1 j 5 (by omega), sI_nf (by omega), sI_eq]
      · rw [p2 j 8 hj4, u1 j 8 (by omega), sI_eq]
      · rw [p4 g b hgd, u2 g b hgd, vg]
      · rw [p3, p3, p3, p1]
        simp only [v17 6 (by omega) (by omega), v17 7 (by omega) (by omega), v17 9 (by omega) (by omega), vg, sI_2, K1.1] at u6
        exact u6
theorem lands_endC {g n s L fu : Nat} {σ τ : Sg} {t : Int32} (R : Re g n s L σ τ) : ∀ d i, i + d = 4 → n ≤ i → f_X4_landAll_b2 (fu + d + 1) t (nI i) σ = some ((), σ) := by
  intro d
  induction d with
  | zero =>
    intro i h1 h2
    have : i = 4 := by omega
    subst this
    rw [f_X4_landAll_b2]
    simp only [br]
    rfl
  | succ d ih =>
    intro i h1 h2
    have a : ¬ (4 : Int32) ≤ nI i := fun h => by have := (nI_leL (x := 4) (k := 4) rfl (by omega) (by omega)).mp h; omega
    have hi : i < 4 := by omega
    have h4 : ¬ (σ.1 (fl i) 5 = 0 ∨ σ.1 (fl i) 5 = 1) := by
      rcases R.2.1 i hi with ⟨h4, -⟩ | ⟨h4, -⟩
      · rw [h4]; decide
      · omega
    rw [show fu + (d + 1) + 1 = (fu + d + 1) + 1 by omega, f_X4_landAll_b2]
    simp only [gd, br, lt, if_neg a, inb_nI hi (show 4 < 2 ^ 31 by omega), if_true, nI_clamp (show i < 2 ^ 31 by omega), fl_at, isFl_l hi, cl, coming_eq hi, if_neg h4, Option.bind_some, f_X4_landAll_b47, nI_1]
    exact ih (i + 1) (by omega) (by omega)
theorem lands_rel {g n s e t : Nat} {k7 : Int32 → Sg → Option (Unit × Sg)} (ht : t < 600) : ∀ (d i fu fm L : Nat) (c : Nat → Nat) (σ τ : Sg), i + d = 4 → Re g n s L σ τ → Nu g n s e t L c σ →
    ∃ L' c' σ' τ', f_X4_landAll_b2 (fu + d + 1) (nI t) (nI i) σ = some ((), σ') ∧ f_X11_runs_b17 k7 (fm + d + 1) (nI t) (nI i) τ = f_X11_runs_b66 k7 (nI t) τ' ∧ Re g n s L' σ' τ' ∧ Nu g n s e t L' c' σ' ∧ off gs_mrunF τ τ' := by
  intro d
  induction d with
  | zero =>
    intro i fu fm L c σ τ h1 R N
    have hn4 : n ≤ 4 := R.1.1.2.2.1
    refine ⟨L, c, σ, τ, lands_endC R 0 i h1 (by omega), ?_, R, N, off_rfl⟩
    have : i = 4 := by omega
    subst this
    rw [f_X11_runs_b17]
    simp only [dI, br, R.1.1.2.2.2.1]
    rw [if_pos (nI_le hn4 (by omega))]
  | succ d ih =>
    intro i fu fm L c σ τ h1 R N
    have hn4 : n ≤ 4 := R.1.1.2.2.1
    have hi : i < 4 := by omega
    by_cases hin : i < n
    · have a : ¬ (4 : Int32) ≤ nI i := fun h => by have := (nI_leL (x := 4) (k := 4) rfl (by omega) (by omega)).mp h; omega
      have a2 : ¬ nI n ≤ nI i := nI_ge hin (by omega)
      have h0 : τ.1 56 6 = nI n := R.1.1.2.2.2.1
      have i4 := inb_nI hi (show 4 < 2 ^ 31 by omega)
      have ci := nI_clamp (show i < 2 ^ 31 by omega)
      have mC : ∀ υ : Sg, f_X11_runs_b60 k7 (f_X11_runs_b17 k7 (fm + d + 1)) (nI t) (nI i) υ = f_X11_runs_b17 k7 (fm + d + 1) (nI t) (nI (i + 1)) υ := fun υ => by simp only [f_X11_runs_b60, nI_1]
      have e1 : f_X4_landAll_b2 (fu + (d + 1) + 1) (nI t) (nI i) σ = if σ.1 (fl i) 5 = 0 ∨ σ.1 (fl i) 5 = 1 then (if σ.1 (fl i) 9 = nI t then (f_X4_land (fl i) (nI t) σ).bind (fun r => f_X4_landAll_b2 (fu + d + 1) (nI t) (nI (i + 1)) r.2) else f_X4_landAll_b2 (fu + d + 1) (nI t) (nI (i + 1)) σ) else f_X4_landAll_b2 (fu + d + 1) (nI t) (nI (i + 1)) σ := by
        rw [show fu + (d + 1) + 1 = (fu + d + 1) + 1 by omega, f_X4_landAll_b2]
        simp only [gd, br, lt, dI, if_neg a, i4, if_true, ci, fl_at, isFl_l hi, cl, coming_eq hi, Option.bind_some, f_X4_landAll_b47, nI_1]
        by_cases q : σ.1 (fl i) 5 = 0 ∨ σ.1 (fl i) 5 = 1
        · rw [if_pos q, if_pos q, if_neg (show ¬ (1 : Int32) = 0 by decide)]
        · rw [if_neg q, if_neg q, if_pos rfl]
      have e2 : f_X11_runs_b17 k7 (fm + (d + 1) + 1) (nI t) (nI i) τ = if τ.1 73 i = 0 ∨ τ.1 73 i = 1 then (if τ.1 75 i = nI t then (f_X11_comesDown (nI i) (nI t) τ).bind (fun r => f_X11_runs_b17 k7 (fm + d + 1) (nI t) (nI (i + 1)) r.2) else f_X11_runs_b17 k7 (fm + d + 1) (nI t) (nI (i + 1)) τ) else f_X11_runs_b17 k7 (fm + d + 1) (nI t) (nI (i + 1)) τ := by
        rw [show fm + (d + 1) + 1 = (fm + d + 1) + 1 by omega, f_X11_runs_b17]
        simp only [gd, br, dI, h0, if_neg a2, i4, if_true, ci, f_X11_runs_b44, cl, mC]
        by_cases q : τ.1 73 i = 0
        · rw [if_pos q, if_pos (Or.inl q)]
        · rw [if_neg q]
          by_cases q2 : τ.1 73 i = 1
          · rw [if_pos q2, if_pos (Or.inr q2)]
          · rw [if_neg q2, if_neg (fun z => z.elim q q2)]
      rw [e1, e2]
      rcases R.2.1 i hi with ⟨q1, q2⟩ | ⟨-, q1, q2, q3⟩
      · rw [if_neg (by rw [q1]; decide), if_neg (by rw [q2]; decide)]
        exact ih (i + 1) fu fm L c σ τ (by omega) R N
      · rw [q2, q3]
        by_cases q : σ.1 (fl i) 5 = 0 ∨ σ.1 (fl i) 5 = 1
        · rw [if_pos q, if_pos q]
          by_cases q4 : σ.1 (fl i) 9 = nI t
          · rw [if_pos q4, if_pos q4]
            obtain ⟨σ1, τ1, b1, b2, R1, N1⟩ := land_rel R N hin ht q q4
            rw [b1, b2]
            obtain ⟨L', c', σ', τ', x1, x2, x3, x4, x5⟩ := ih (i + 1) fu fm (L + 1) (cUp c i) σ1 τ1 (by omega) R1 N1
            exact ⟨L', c', σ', τ', x1, x2, x3, x4, off_trans (fr_X11_comesDown _ _ τ _ b2) x5⟩
          · rw [if_neg q4, if_neg q4]
            exact ih (i + 1) fu fm L c σ τ (by omega) R N
        · rw [if_neg q, if_neg q]
          exact ih (i + 1) fu fm L c σ τ (by omega) R N
    · refine ⟨L, c, σ, τ, lands_endC R (d + 1) i h1 (by omega), ?_, R, N, off_rfl⟩
      rw [f_X11_runs_b17]
      simp only [dI, br, R.1.1.2.2.2.1]
      rw [if_pos (nI_le (by omega) (by omega))]
