-- ===== one goes up =====
theorem toInt_mul_s {a b : Int32} (h : -2147483648 ≤ a.toInt * b.toInt ∧ a.toInt * b.toInt < 2147483648) : (a * b).toInt = a.toInt * b.toInt := by
  rw [Int32.toInt_mul, Int.bmod_eq_of_le] <;> omega
theorem toInt_div_s {a b : Int32} (h : -2147483648 ≤ a.toInt.tdiv b.toInt ∧ a.toInt.tdiv b.toInt < 2147483648) : (a / b).toInt = a.toInt.tdiv b.toInt := by
  rw [Int32.toInt_div, Int.bmod_eq_of_le] <;> omega
theorem nI_div {a b : Nat} (ha : a < 2 ^ 31) (hb : 0 < b) (hb2 : b < 2 ^ 31) : nI a / nI b = nI (a / b) := by
  have h1 : a / b ≤ a := Nat.div_le_self a b
  apply Int32.toInt_inj.mp
  rw [toInt_div_s, nI_toInt ha, nI_toInt hb2, nI_toInt (by omega)]
  · exact (Int.ofNat_tdiv a b).symm
  · rw [nI_toInt ha, nI_toInt hb2, ← Int.ofNat_tdiv]
    generalize a / b = z at h1
    omega
theorem tdiv40 {x : Int} (h : -19980 ≤ x ∧ x ≤ 19980) : -500 ≤ x.tdiv 40 ∧ x.tdiv 40 ≤ 500 := by
  rcases Int.le_total 0 x with q | q
  · rw [Int.tdiv_eq_ediv_of_nonneg q]; omega
  · have e : x.tdiv 40 = -((-x).tdiv 40) := by rw [Int.neg_tdiv, Int.neg_neg]
    rw [e, Int.tdiv_eq_ediv_of_nonneg (by omega)]; omega
theorem mul_bd {x : Int} {h : Nat} (hx : -20 ≤ x ∧ x ≤ 20) (hh : h ≤ 999) : -19980 ≤ x * (h : Int) ∧ x * (h : Int) ≤ 19980 := by
  obtain ⟨h1, h2⟩ := hx
  constructor
  · have : -20 * (h : Int) ≤ x * h := Int.mul_le_mul_of_nonneg_right h1 (by omega)
    omega
  · have : x * (h : Int) ≤ 20 * h := Int.mul_le_mul_of_nonneg_right h2 (by omega)
    omega
/-- where one comes down, both -/
theorem then_rel {g h q : Nat} {p br0 : Int32} {σ τ : Sg} (hg : isGd g = true) (hb : σ.1 g 3 = br0) (hb2 : τ.1 56 4 = br0) (b1 : -3 ≤ br0.toInt ∧ br0.toInt ≤ 3) (hp : -20 ≤ p.toInt ∧ p.toInt ≤ 20) (hh : h ≤ 999) (hq : q ≤ 9) : ∃ v, f_X2_comesTo g p (nI h) (nI q) σ = some (v, σ) ∧ f_X11_then p (nI h) (nI q) τ = some (v, τ) ∧ -1000 ≤ v.toInt ∧ v.toInt ≤ 1000 := by
  have m1 := mul_bd hp hh
  have h1 : (p * nI h).toInt = p.toInt * h := by rw [toInt_mul_s, nI_toInt (by omega)]; rw [nI_toInt (by omega)]; omega
  have t1 := tdiv40 m1
  have e40 : (40 : Int32).toInt = 40 := by decide
  have h2 : (p * nI h / 40).toInt = (p.toInt * h).tdiv 40 := by rw [toInt_div_s, h1, e40]; rw [h1, e40]; omega
  have h3 : (p + p * nI h / 40).toInt = p.toInt + (p.toInt * h).tdiv 40 := by rw [toInt_add_s, h2]; rw [h2]; omega
  have h4 : (p + p * nI h / 40 + br0).toInt = p.toInt + (p.toInt * h).tdiv 40 + br0.toInt := by rw [toInt_add_s, h3]; rw [h3]; omega
  generalize hw : p + p * nI h / 40 + br0 = w at h4
  have hwb : -600 ≤ w.toInt ∧ w.toInt ≤ 600 := by rw [h4]; omega
  have hqi : (nI q).toInt = q := nI_toInt (by omega)
  have a1 : (w + nI q).toInt = w.toInt + q := by rw [toInt_add_s, hqi]; rw [hqi]; omega
  have a2 : (w - nI q).toInt = w.toInt - q := by rw [toInt_sub_s, hqi]; rw [hqi]; omega
  have a3 : (0 - w).toInt = - w.toInt := by rw [toInt_sub_s, toInt_0]; omega; rw [toInt_0]; omega
  rw [f_X2_comesTo, ex_gd hg, ex_dI, hb, ex_lt, f_X11_then, ex_dI, hb2, ex_lt, hw]
  by_cases c : w ≤ 0
  · have c' : w.toInt ≤ 0 := by rw [Int32.le_iff_toInt_le, toInt_0] at c; exact c
    rw [ex_bt c, ex_bt c, ex_lt, ex_rt]
    by_cases d : w + nI q < 0
    · have d' : w.toInt + q < 0 := by rw [Int32.lt_iff_toInt_lt, a1, toInt_0] at d; exact d
      have d2 : ¬ 0 - w ≤ nI q := by rw [Int32.le_iff_toInt_le, a3, hqi]; omega
      rw [if_pos d, ex_bf d2, ex_rt]
      exact ⟨_, rfl, rfl, by omega⟩
    · have d' : ¬ w.toInt + q < 0 := by rw [Int32.lt_iff_toInt_lt, a1, toInt_0] at d; exact d
      have d2 : 0 - w ≤ nI q := by rw [Int32.le_iff_toInt_le, a3, hqi]; omega
      rw [if_neg d, ex_bt d2, ex_rt]
      exact ⟨_, rfl, rfl, by rw [toInt_0]; omega⟩
  · have c' : ¬ w.toInt ≤ 0 := by rw [Int32.le_iff_toInt_le, toInt_0] at c; exact c
    rw [ex_bf c, ex_bf c, ex_lt, ex_rt]
    by_cases d : 0 < w - nI q
    · have d' : 0 < w.toInt - q := by rw [Int32.lt_iff_toInt_lt, a2, toInt_0] at d; exact d
      have d2 : ¬ w ≤ nI q := by rw [Int32.le_iff_toInt_le, hqi]; omega
      rw [if_pos d, ex_bf d2, ex_rt]
      exact ⟨_, rfl, rfl, by omega⟩
    · have d' : ¬ 0 < w.toInt - q := by rw [Int32.lt_iff_toInt_lt, a2, toInt_0] at d; exact d
      have d2 : w ≤ nI q := by rw [Int32.le_iff_toInt_le, hqi]; omega
      rw [if_neg d, ex_bt d2, ex_rt]
      exact ⟨_, rfl, rfl, by rw [toInt_0]; omega⟩
theorem re_comes {g n s L j : Nat} {σ τ : Sg} (R : Re g n s L σ τ) (hj : j < n) (v : Int32) : Re g n s L (sI σ (fl j) 9 v) (sI τ 75 j v) := by
  obtain ⟨hC, hD, hF, hK, hZ, hL, hS, hT⟩ := R
  have hn4 : n ≤ 4 := hC.1.2.2.1
  have hj4 : j < 4 := by omega
  have hg1 := gd_fl hC.1.1 hj4
  have hg2 := gd_fk hC.1.1 hj4
  refine ⟨?_, ?_, ?_, ?_, ?_, ?_, ?_, ?_⟩
  · simpa [ReC, sI_gt, sI_2, fl_eq, e17_fl, hg1] using hC
  · intro i hi
    by_cases e : i = j
    · subst e
      rcases hD i hi with h | ⟨h1, h2, h3, h4⟩
      · left; simpa [sI_gt] using h
      · right
        exact ⟨h1, by simpa [sI_gt] using h2, by simpa [sI_gt] using h3, by simp [sI_gt]⟩
    · simpa [sI_gt, fl_eq, e] using hD i hi
  · simpa [ReF, sI_gt] using hF
  · simpa [ReK, sI_gt, fk_fl] using hK
  · simpa [ReZ, sI_gt] using hZ
  · simpa [ReL, sI_gt, e28_fl, e29_fl hj4] using hL
  · simpa [ReS, sI_gt, e17_fl] using hS
  · simpa [ReT, sI_gt, sI_2, e17_fl] using hT
/-- the class's one goes up -/
def upC (j : Nat) (h t tg : Int32) (σ : Sg) : Sg := sI (sI (sI (sI (sI (sI (sI (sI σ (fl j) 10 (σ.1 (fl j) 10 + 1)) (fl j) 11 (if σ.1 (fl j) 11 < h then h else σ.1 (fl j) 11)) (fl j) 12 (σ.1 (fl j) 12 + h)) (fl j) 5 1) (fl j) 7 h) (fl j) 8 t) (fl j) 9 (t + (2 + h / 2))) (fl j) 6 tg
theorem rise_eq {j : Nat} {h t tg : Int32} {σ : Sg} (hj : j < 4) : f_X1_rise (fl j) h t tg σ = some ((), upC j h t tg σ) := by
  have fo : ∀ υ : Sg, f_X1_flightOf h υ = some (2 + h / 2, υ) := fun υ => rfl
  rw [f_X1_rise, ex_gd (isFl_l hj), ex_dI, ex_pI, ex_dI, ex_lt, ex_pI, ex_dI, ex_pI, ex_pI, ex_pI, ex_pI, ex_cl (fo _), ex_pI, ex_pI, ex_rt, sI_nf (show ¬ 11 = 10 by omega), sI_nf (show ¬ 12 = 11 by omega), sI_nf (show ¬ 12 = 10 by omega)]
  rfl
theorem goesUp_eq {g n s L j : Nat} {h t q tg : Int32} {σ τ : Sg} (R : Re g n s L σ τ) (hj : j < n) (hq : σ.1 (fl j) 4 = q) (ht : ∀ τ', τ'.1 56 4 = τ.1 56 4 → f_X11_then (σ.1 (fl j) 6) h q τ' = some (tg, τ')) : f_X11_goesUp (nI j) h t τ = some ((), sI (sI (sI (sI (sI (sI (sI (sI τ 78 j (σ.1 (fl j) 10 + 1)) 79 j (if σ.1 (fl j) 11 < h then h else σ.1 (fl j) 11)) 80 j (σ.1 (fl j) 12 + h)) 73 j 1) 77 j t) 76 j h) 75 j (t + 2 + h / 2)) 74 j tg) := by
  have hn4 : n ≤ 4 := R.1.1.2.2.1
  have i4 := inb_nI (show j < 4 by omega) (show 4 < 2 ^ 31 by omega)
  have cj := nI_clamp (show j < 2 ^ 31 by omega)
  obtain ⟨f1, f2, f3, f4, f5, f6, f7, f8⟩ := R.2.2.1 j hj
  have h5 : τ.1 58 (6 * j + 5) = q := (R.1.2.2.2 j hj).2.2.trans hq
  have c24 := inb_nI (show 6 * j + 5 < 24 by omega) (show 24 < 2 ^ 31 by omega)
  have b35 : ∀ (υ : Sg) (w : Int32), υ.1 80 j = σ.1 (fl j) 12 → υ.1 74 j = σ.1 (fl j) 6 → υ.1 58 (6 * j + 5) = q → υ.1 56 4 = τ.1 56 4 → f_X11_goesUp_b35 (nI j) h t w (nI j) υ = some ((), sI (sI (sI (sI (sI (sI (sI υ 79 j w) 80 j (σ.1 (fl j) 12 + h)) 73 j 1) 77 j t) 76 j h) 75 j (t + 2 + h / 2)) 74 j tg) := by
    intro υ w k1 k2 k3 k4
    rw [f_X11_goesUp_b35, ex_gd i4, ex_pI, ex_gd i4, ex_dI, ex_gd i4, ex_pI, ex_gd i4, ex_pI, ex_gd i4, ex_pI, ex_gd i4, ex_pI, ex_gd i4, ex_pI, ex_gd i4, ex_dI, nI_l6 (x := 5) (k := 5) rfl, ex_gd c24, ex_dI, cj, nI_clamp (show 6 * j + 5 < 2 ^ 31 by omega)]
    simp only [sI_ne (show ¬ 80 = 79 by omega), sI_ne (show ¬ 74 = 75 by omega), sI_ne (show ¬ 74 = 76 by omega), sI_ne (show ¬ 74 = 77 by omega), sI_ne (show ¬ 74 = 73 by omega), sI_ne (show ¬ 74 = 80 by omega), sI_ne (show ¬ 74 = 79 by omega), sI_ne (show ¬ 58 = 75 by omega), sI_ne (show ¬ 58 = 76 by omega), sI_ne (show ¬ 58 = 77 by omega), sI_ne (show ¬ 58 = 73 by omega), sI_ne (show ¬ 58 = 80 by omega), sI_ne (show ¬ 58 = 79 by omega), k1, k2, k3]
    rw [ex_cl (ht _ (by rw [sI_ne (by omega), sI_ne (by omega), sI_ne (by omega), sI_ne (by omega), sI_ne (by omega), sI_ne (by omega)]; exact k4)), ex_gd i4, ex_pI, ex_rt]
  rw [f_X11_goesUp, ex_gd i4, ex_dI, ex_gd i4, ex_pI, ex_gd i4, ex_dI, cj, f4, sI_ne (show ¬ 79 = 78 by omega), f5]
  by_cases c : h ≤ σ.1 (fl j) 11
  · rw [ex_bt c, ex_gd i4, ex_dI, sI_ne (show ¬ 79 = 78 by omega), f5, b35 _ _ (by rw [sI_ne (by omega)]; exact f6) (by rw [sI_ne (by omega)]; exact f1) (by rw [sI_ne (by omega)]; exact h5) (by rw [sI_ne (by omega)]), if_neg (Int32.not_lt.mpr c)]
  · rw [ex_bf c, b35 _ _ (by rw [sI_ne (by omega)]; exact f6) (by rw [sI_ne (by omega)]; exact f1) (by rw [sI_ne (by omega)]; exact h5) (by rw [sI_ne (by omega)]), if_pos (Int32.not_le.mp c)]
theorem re_up {g n s L j : Nat} {h t tg : Int32} {σ τ : Sg} (R : Re g n s L σ τ) (hj : j < n) (h4 : ¬ σ.1 (fl j) 5 = 4) : Re g n s L (upC j h t tg σ) (sI (sI (sI (sI (sI (sI (sI (sI τ 78 j (σ.1 (fl j) 10 + 1)) 79 j (if σ.1 (fl j) 11 < h then h else σ.1 (fl j) 11)) 80 j (σ.1 (fl j) 12 + h)) 73 j 1) 77 j t) 76 j h) 75 j (t + 2 + h / 2)) 74 j tg) := by
  have R1 := re_f12 (re_f11 (re_f10 R hj (σ.1 (fl j) 10 + 1)) hj (if σ.1 (fl j) 11 < h then h else σ.1 (fl j) 11)) hj (σ.1 (fl j) 12 + h)
  have R2 := re_d R1 hj (by rw [sI_nf (by omega), sI_nf (by omega), sI_nf (by omega)]; exact h4) 1 (by decide)
  have R3 := re_f6 (re_comes (re_f8 (re_f7 R2 hj (by rw [sI_eq]; decide) h) hj t) hj (t + (2 + h / 2))) hj tg
  rw [sI_comm (a := 77) (c := 76) (by omega), show t + 2 + h / 2 = t + (2 + h / 2) from Int32.add_assoc t 2 (h / 2)]
  exact R3
theorem up_f {i j b : Nat} {h t tg : Int32} {σ : Sg} (hi : ¬ i = j) : (upC j h t tg σ).1 (fl i) b = σ.1 (fl i) b := by
  have e : ¬ fl i = fl j := fun z => hi (fl_eq.mp z)
  rw [upC, sI_ne e, sI_ne e, sI_ne e, sI_ne e, sI_ne e, sI_ne e, sI_ne e, sI_ne e]
theorem up_o {a j b : Nat} {h t tg : Int32} {σ : Sg} (e : ¬ a = fl j) : (upC j h t tg σ).1 a b = σ.1 a b := by
  rw [upC, sI_ne e, sI_ne e, sI_ne e, sI_ne e, sI_ne e, sI_ne e, sI_ne e, sI_ne e]
theorem up_j {j b : Nat} {h t tg : Int32} {σ : Sg} (h5 : ¬ b = 5) (h6 : ¬ b = 6) (h7 : ¬ b = 7) (h8 : ¬ b = 8) (h9 : ¬ b = 9) (h10 : ¬ b = 10) (h11 : ¬ b = 11) (h12 : ¬ b = 12) : (upC j h t tg σ).1 (fl j) b = σ.1 (fl j) b := by
  rw [upC, sI_nf h6, sI_nf h9, sI_nf h8, sI_nf h7, sI_nf h5, sI_nf h12, sI_nf h11, sI_nf h10]
theorem send_rel {g n s e t L j hh : Nat} {c : Nat → Nat} {σ τ : Sg} (R : Re g n s L σ τ) (N : Nu g n s e t L c σ) (hst : σ.1 17 6 = 1) (hj : j < n) (h2 : σ.1 (fl j) 5 = 2) (hh9 : hh ≤ 999) (ht : t < 600) (hu : ∃ u, σ.1 (fl j) 8 = nI u ∧ u + 2 ≤ t) : ∃ σ' τ', f_X4_send (fl j) (nI hh) (nI t) σ = some ((), σ') ∧ f_X11_goesUp (nI j) (nI hh) (nI t) τ = some ((), τ') ∧ Re g n s L σ' τ' ∧ Nu g n s e t L c σ' ∧ (∀ b, σ'.1 17 b = σ.1 17 b) ∧ (∀ i, ¬ i = j → ∀ b, σ'.1 (fl i) b = σ.1 (fl i) b) := by
  have hn4 : n ≤ 4 := R.1.1.2.2.1
  have hj4 : j < 4 := by omega
  have hgd := R.1.1.1
  have hg : σ.2.2 17 3 = g := R.1.1.2.1
  obtain ⟨⟨e20, n1, n2, n3⟩, hF, hA, ⟨c1, c2, c3, c4⟩, hM⟩ := id N
  obtain ⟨a1, a2, ⟨q, hq1, hq2⟩, a4, a5, a6, a7⟩ := hF j hj
  have hp := a7 h2
  have hbk : τ.1 56 4 = σ.1 g 3 := R.1.2.1.2.2.1
  obtain ⟨v, v1, v2, v3⟩ := then_rel (h := hh) (q := q) (p := σ.1 (fl j) 6) (τ := τ) hgd rfl hbk n3 (by omega) hh9 hq1
  have v2' : ∀ τ' : Sg, τ'.1 56 4 = τ.1 56 4 → f_X11_then (σ.1 (fl j) 6) (nI hh) (nI q) τ' = some (v, τ') := by
    intro τ' hτ
    obtain ⟨w, w1, w2, -⟩ := then_rel (h := hh) (q := q) (p := σ.1 (fl j) 6) (σ := σ) (τ := τ') hgd rfl (hτ.trans hbk) n3 (by omega) hh9 hq1
    rw [v1] at w1
    cases w1
    exact w2
  refine ⟨upC j (nI hh) (nI t) v σ, _, ?_, goesUp_eq R hj hq2 v2', re_up R hj (by rw [h2]; decide), ?_, fun b => up_o (of_eq_false e17_fl), fun i hi b => up_f hi⟩
  · rw [f_X4_send, ex_gd (isFl_l hj4), ex_dR, hg, ex_gd hgd, ex_dI, ex_dI, hq2, ex_cl v1, ex_cl (rise_eq hj4), ex_rt]
  · obtain ⟨u, u1, u2⟩ := hu
    have k8 : (upC j (nI hh) (nI t) v σ).1 (fl j) 8 = nI t := by rw [upC, sI_nf (by omega), sI_nf (by omega), sI_eq]
    have k7 : (upC j (nI hh) (nI t) v σ).1 (fl j) 7 = nI hh := by rw [upC, sI_nf (by omega), sI_nf (by omega), sI_nf (by omega), sI_eq]
    have k6 : (upC j (nI hh) (nI t) v σ).1 (fl j) 6 = v := by rw [upC, sI_eq]
    have k5 : (upC j (nI hh) (nI t) v σ).1 (fl j) 5 = 1 := by rw [upC, sI_nf (by omega), sI_nf (by omega), sI_nf (by omega), sI_nf (by omega), sI_eq]
    have k9 : (upC j (nI hh) (nI t) v σ).1 (fl j) 9 = nI (t + 2 + hh / 2) := by
      rw [upC, sI_nf (by omega), sI_eq, show (nI hh / 2) = nI (hh / 2) from nI_div (b := 2) (by omega) (by omega) (by omega), nI_addL (x := 2) (k := 2) rfl, nI_add, Nat.add_assoc]
    refine ⟨?_, ?_, ?_, ⟨c1, ?_, ?_, c4⟩, ?_⟩
    · unfold NuG
      have e : ∀ b, (upC j (nI hh) (nI t) v σ).1 g b = σ.1 g b := fun b => up_o (of_eq_false (gd_fl hgd hj4))
      rw [e, e, e]; exact ⟨e20, n1, n2, n3⟩
    · intro i hi
      by_cases z : i = j
      · subst z
        rw [k5, k6, k7, k8, up_j (b := 1) (by omega) (by omega) (by omega) (by omega) (by omega) (by omega) (by omega) (by omega), up_j (b := 2) (by omega) (by omega) (by omega) (by omega) (by omega) (by omega) (by omega) (by omega), up_j (b := 4) (by omega) (by omega) (by omega) (by omega) (by omega) (by omega) (by omega) (by omega)]
        exact ⟨a1, a2, ⟨q, hq1, hq2⟩, ⟨hh, hh9, rfl⟩, ⟨t, by omega, rfl⟩, v3, fun z => absurd z (by decide)⟩
      · have e : ∀ b, (upC j (nI hh) (nI t) v σ).1 (fl i) b = σ.1 (fl i) b := fun b => up_f z
        simp only [e]; exact hF i hi
    · intro i hi hd
      by_cases z : i = j
      · subst z
        obtain ⟨u', w1, w2, w3⟩ := c3 i hi h2
        rw [u1] at w2
        have := (nI_eq (by omega) (by omega)).mp w2
        exact ⟨t, hh, by omega, hh9, k8, k7, k9, by omega⟩
      · have e : ∀ b, (upC j (nI hh) (nI t) v σ).1 (fl i) b = σ.1 (fl i) b := fun b => up_f z
        rw [e] at hd
        simp only [e]; exact hA i hi hd
    · intro i hi hd
      by_cases z : i = j
      · subst z; rw [k5] at hd; exact absurd hd (by decide)
      · rw [up_f z] at hd; exact c2 i hi hd
    · intro i hi hd
      by_cases z : i = j
      · subst z; rw [k5] at hd; exact absurd hd (by decide)
      · rw [up_f z] at hd; rw [up_f z]; exact c3 i hi hd
    · left
      rw [up_o (of_eq_false e17_fl), up_o (of_eq_false e17_fl)]
      rcases hM with z | ⟨z, -⟩
      · exact z
      · rw [hst] at z; exact absurd z (by decide)
