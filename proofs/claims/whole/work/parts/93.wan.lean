-- ===== falls, wanders: both alike =====
def Zp {ρ : Type} (f : Sg → Option (ρ × Sg)) (σ : Sg) : Prop := ∀ r, f σ = some r → Zw r.2
theorem Wd.z {e S t f : Nat} {V : Nat → Nat} {σ τ : Sg} (W : Wd e S t V f σ τ) : Zw σ := fun j hj => (W.1 j hj).2.2
theorem wan_cases {g n s e m : Nat} {σ T : Sg} (J : Jr g n s e m σ T) (t0 : T.1 56 0 = 0) (x1 x2 x3 x4 : Int32) {y : Int32} (hy : ¬ y = 0) : (∃ h q N, h ≤ 60 ∧ q ≤ 9 ∧ N ≤ 12 ∧ x2 = nI h ∧ x3 = nI q ∧ x4 = nI N ∧ ¬ (x1 < -(nI e) ∨ nI e < x1) ∧ f_X10_mayWander x1 x2 x4 σ = some (1, σ) ∧ f_X10_isCorrects x3 σ = some (1, σ) ∧ f_X11_isWander x1 x2 x3 x4 y T = some (1, T)) ∨ ((f_X10_mayWander x1 x2 x4 σ = some (0, σ) ∨ (f_X10_mayWander x1 x2 x4 σ = some (1, σ) ∧ f_X10_isCorrects x3 σ = some (0, σ))) ∧ f_X11_isWander x1 x2 x3 x4 y T = some (0, sI T 56 0 y)) := by
  obtain ⟨g1, g2, g3, g4, g5, g6, g7⟩ := J.gd
  have b44 : f_X11_isWander_b44 y T = some (0, sI T 56 0 y) := by rw [f_X11_isWander_b44, f_X11_isWander_b45, ex_cl (right0 t0 hy), ex_gd (Or.inl rfl), ex_rt]
  have wf : ∀ {x y : Int32}, (x < 0 ∨ (¬ x < 0 ∧ y < x)) → f_X11_within x 0 y T = some (0, T) := fun hx => by
    rcases hx with q | ⟨q1, q2⟩
    · rw [f_X11_within, ex_bt q, ex_rt]
    · rw [f_X11_within, ex_bf q1, ex_bt q2, ex_rt]
  have wt : ∀ {k M : Nat} {y : Int32}, nI M = y → k ≤ M → M < 2 ^ 30 → (¬ nI k < 0 ∧ ¬ y < nI k) ∧ f_X11_within (nI k) 0 y T = some (1, T) := fun hy hk hM => by
    subst hy
    have b1 := nI_pos (n := _) (show _ < 2 ^ 31 from Nat.lt_of_le_of_lt hk (by omega))
    have b2 := nI_nlt hk (by omega)
    exact ⟨⟨b1, b2⟩, by rw [f_X11_within, ex_bf b1, ex_bf b2, ex_rt]⟩
  rcases what_cases x4 (M := 12) (y := 12) rfl (by omega) with ⟨N, hN, rfl⟩ | h4
  · obtain ⟨⟨n1, n2⟩, n3⟩ := wt (M := 12) (y := 12) rfl hN (by omega)
    rcases what_cases x2 (M := 60) (y := 60) rfl (by omega) with ⟨h, hh, rfl⟩ | h2
    · obtain ⟨⟨h1, h2⟩, h3⟩ := wt (M := 60) (y := 60) rfl hh (by omega)
      have th : f_X10_isToldHeight (nI h) σ = some (1, σ) := by rw [f_X10_isToldHeight, ex_bf h1, ex_bf h2, ex_rt]
      have be := beyond_eq (x := x1) (σ := σ) g1
      rw [g4] at be
      have ii := isIn_eq (x := x1) g5
      by_cases z : x1 < -(nI e) ∨ nI e < x1
      · rw [if_pos z] at be ii
        refine Or.inr ⟨Or.inl ?_, ?_⟩
        · rw [f_X10_mayWander, ex_bf n1, ex_bf n2, ex_cl th, ex_bf l1_0, ex_dR, g2, ex_gd g1, ex_cl be, ex_bf l1_0, ex_rt]
        · rw [f_X11_isWander, ex_cl n3, ex_bf l1_0, ex_cl h3, ex_bf l1_0, ex_cl ii, ex_bt rfl, b44]
      · rw [if_neg z] at be ii
        have mw : f_X10_mayWander x1 (nI h) (nI N) σ = some (1, σ) := by rw [f_X10_mayWander, ex_bf n1, ex_bf n2, ex_cl th, ex_bf l1_0, ex_dR, g2, ex_gd g1, ex_cl be, ex_bt rfl, ex_rt]
        rcases what_cases x3 (M := 9) (y := 9) rfl (by omega) with ⟨q, hq, rfl⟩ | h3'
        · obtain ⟨⟨q1, q2⟩, q3⟩ := wt (M := 9) (y := 9) rfl hq (by omega)
          refine Or.inl ⟨h, q, N, hh, hq, hN, rfl, rfl, rfl, z, mw, ?_, ?_⟩
          · rw [f_X10_isCorrects, ex_bf q1, ex_bf q2, ex_rt]
          · rw [f_X11_isWander, ex_cl n3, ex_bf l1_0, ex_cl h3, ex_bf l1_0, ex_cl ii, ex_bf l1_0, ex_cl q3, ex_bf l1_0, f_X11_isWander_b45, ex_cl (right1 t0), ex_gd (Or.inr rfl), ex_rt]
        · refine Or.inr ⟨Or.inr ⟨mw, ?_⟩, ?_⟩
          · rcases h3' with w | ⟨w1, w2⟩
            · rw [f_X10_isCorrects, ex_bt w, ex_rt]
            · rw [f_X10_isCorrects, ex_bf w1, ex_bt w2, ex_rt]
          · rw [f_X11_isWander, ex_cl n3, ex_bf l1_0, ex_cl h3, ex_bf l1_0, ex_cl ii, ex_bf l1_0, ex_cl (wf h3'), ex_bt rfl, b44]
    · have th : f_X10_isToldHeight x2 σ = some (0, σ) := by
        rcases h2 with w | ⟨w1, w2⟩
        · rw [f_X10_isToldHeight, ex_bt w, ex_rt]
        · rw [f_X10_isToldHeight, ex_bf w1, ex_bt w2, ex_rt]
      refine Or.inr ⟨Or.inl ?_, ?_⟩
      · rw [f_X10_mayWander, ex_bf n1, ex_bf n2, ex_cl th, ex_bt rfl, ex_rt]
      · rw [f_X11_isWander, ex_cl n3, ex_bf l1_0, ex_cl (wf h2), ex_bt rfl, b44]
  · refine Or.inr ⟨Or.inl ?_, ?_⟩
    · rcases h4 with w | ⟨w1, w2⟩
      · rw [f_X10_mayWander, ex_bt w, ex_rt]
      · rw [f_X10_mayWander, ex_bf w1, ex_bt w2, ex_rt]
    · rw [f_X11_isWander, ex_cl (wf h4), ex_bt rfl, b44]
theorem zp_of {ρ : Type} {f : Sg → Option (ρ × Sg)} {σ σ' : Sg} {v : ρ} (h : f σ = some (v, σ')) (z : Zw σ') : Zp f σ := fun r hr => by
  rw [h] at hr
  cases hr
  exact z
theorem ok_falls {g n s e m : Nat} {σ τ : Sg} (J : Jr g n s e m σ τ) (Z : Zw σ) (x1 x2 x3 x4 x5 : Int32) : OkX (f_X10_falls x1 x2 x3 x4 x5) (f_X11_falls x1 x2 x3 x4 x5) cB σ τ ∧ Zp (f_X10_falls x1 x2 x3 x4 x5) σ := by
  obtain ⟨J0, t0⟩ := thr0 J
  have hO := J.gd.2.1
  have hG := J.1.1
  rcases what_cases x5 (M := 1) (y := 1) rfl (by omega) with ⟨k, hk, rfl⟩ | hw
  · have iw := isWhat_t (M := 1) (y := 1) rfl t0 hk (by omega)
    have eC : f_X10_falls x1 x2 x3 x4 (nI k) σ = f_X10_falls_b16 x1 x2 x3 x4 (nI k) 1 σ := by
      rcases (by omega : k = 0 ∨ k = 1) with rfl | rfl
      · rw [f_X10_falls, ex_bt (show nI 0 = 0 from rfl), f_X10_falls_b11]
      · rw [f_X10_falls, ex_bf (by decide), ex_bt (show nI 1 = 1 from rfl), f_X10_falls_b11]
    rcases wan_cases J0 t0 x1 x2 x3 x4 l2_0 with ⟨h, q, N, hh, hq, hN, rfl, rfl, rfl, hx, m1, m2, m3⟩ | ⟨hm, m3⟩
    · obtain ⟨V, f, S, σ', τ', a1, a2, a3, a4, a5, a6, a7, a8⟩ := wan_rel (h := h) (q := q) (N := N) J0 Z hx hh hq hN
      obtain ⟨w1, ⟨w2, w3⟩, ⟨w4, w5⟩, w6, w7⟩ := id a3
      have pb := pow_bnd (S := S) (t := N) a5 hN
      have pp : 0 < S ^ N := Nat.pow_pos a4
      obtain ⟨v, v1, v2⟩ := part_rel (p := f) (w := S ^ N) (x := nI k) (σ := σ') (τ := τ') (by omega) pb pp
      have fin : f_X10_falls x1 (nI h) (nI q) (nI N) (nI k) σ = some (.inl v, σ') := by
        rw [eC, f_X10_falls_b16, ex_xv need1, ex_cl m1, ex_bf l1_0, ex_cl m2, ex_bf l1_0, f_X10_falls_b42, ex_xv dem1, ex_dR, hO, ex_gd hG, ex_cl a1, ex_dL, w2, ex_dL, w4, ex_cl v1, ex_rtX]
      refine ⟨⟨.inl v, σ', v, τ', fin, ?_, ⟨by rw [a8]; exact t0, rfl⟩, g, n, s, e, m, a6⟩, zp_of fin a3.z⟩
      rw [f_X11_falls, ex_pI, ex_cl iw, ex_bf l1_0, ex_cl m3, ex_bf l1_0, ex_cl a2, ex_dL, w3, ex_dL, w5, ex_cl v2, ex_rt]
    · have fin : f_X10_falls x1 x2 x3 x4 (nI k) σ = some (.inr true, σ) := by
        rw [eC, f_X10_falls_b16, ex_xv need1]
        rcases hm with m1 | ⟨m1, m2⟩
        · rw [ex_cl m1, ex_bt rfl, f_X10_falls_b41, f_X10_falls_b42, ex_xt dem0]
        · rw [ex_cl m1, ex_bf l1_0, ex_cl m2, ex_bt rfl, f_X10_falls_b41, f_X10_falls_b42, ex_xt dem0]
      refine ⟨ok_thr J true 0 (y := 2) fin ?_ rfl, zp_of fin Z⟩
      rw [f_X11_falls, ex_pI, ex_cl iw, ex_bf l1_0, ex_cl m3, ex_bt rfl, ex_rt]
  · have y0 : ¬ x5 = 0 := fun q => by
      rcases hw with h | ⟨-, h⟩ <;> rw [q] at h <;> exact absurd h (by decide)
    have y1 : ¬ x5 = 1 := fun q => by
      rcases hw with h | ⟨-, h⟩ <;> rw [q] at h <;> exact absurd h (by decide)
    have fin : f_X10_falls x1 x2 x3 x4 x5 σ = some (.inr false, σ) := by
      rw [f_X10_falls, ex_bf y0, ex_bf y1, f_X10_falls_b16, ex_xt need0]
    refine ⟨ok_thr J false 0 (y := 1) fin ?_ rfl, zp_of fin Z⟩
    rw [f_X11_falls, ex_pI, ex_cl (isWhat_f t0 hw), ex_bt rfl, ex_rt]
theorem ok_wanders {g n s e m : Nat} {σ τ : Sg} (J : Jr g n s e m σ τ) (Z : Zw σ) (x1 x2 x3 x4 x5 x6 : Int32) : OkX (f_X10_wanders x1 x2 x3 x4 x5 x6) (f_X11_wanders x1 x2 x3 x4 x5 x6) cB σ τ ∧ Zp (f_X10_wanders x1 x2 x3 x4 x5 x6) σ := by
  obtain ⟨J0, t0⟩ := thr0 J
  have hO := J.gd.2.1
  have hG := J.1.1
  rcases what_cases x6 (M := 1) (y := 1) rfl (by omega) with ⟨k, hk, rfl⟩ | hw
  · have iw := isWhat_t (M := 1) (y := 1) rfl t0 hk (by omega)
    have eC : f_X10_wanders x1 x2 x3 x4 x5 (nI k) σ = f_X10_wanders_b16 x1 x2 x3 x4 x5 (nI k) 1 σ := by
      rcases (by omega : k = 0 ∨ k = 1) with rfl | rfl
      · rw [f_X10_wanders, ex_bt (show nI 0 = 0 from rfl), f_X10_wanders_b11]
      · rw [f_X10_wanders, ex_bf (by decide), ex_bt (show nI 1 = 1 from rfl), f_X10_wanders_b11]
    rcases wan_cases J0 t0 x1 x2 x3 x4 l2_0 with ⟨h, q, N, hh, hq, hN, rfl, rfl, rfl, hx, m1, m2, m3⟩ | ⟨hm, m3⟩
    · obtain ⟨V, f, S, σ', τ', a1, a2, a3, a4, a5, a6, a7, a8⟩ := wan_rel (h := h) (q := q) (N := N) J0 Z hx hh hq hN
      obtain ⟨w1, ⟨w2, w3⟩, ⟨w4, w5⟩, w6, w7⟩ := id a3
      have pb := pow_bnd (S := S) (t := N) a5 hN
      have pp : 0 < S ^ N := Nat.pow_pos a4
      obtain ⟨g1, g2, g3, g4, g5, g6, g7⟩ := a6.gd
      have ii := isIn_eq (x := x5) g5
      -- how many are there
      have ways : ∃ p, p < 2 ^ 60 ∧ f_X9_waysAt x5 σ' = some (zL p, σ') ∧ (cl (f_X11_isIn x5) (fun r5 => br (r5 = 0) (f_X11_wanders_b62 (nI k) 0) (gd (inb (20 + x5) 41 = true) (dL 88 (20 + x5).toNatClampNeg (fun v7 => f_X11_wanders_b62 (nI k) v7))))) τ' = f_X11_wanders_b62 (nI k) (zL p) τ' := by
        by_cases z : x5 < -(nI e) ∨ nI e < x5
        · rw [if_pos z] at ii
          refine ⟨0, by decide, ?_, by rw [ex_cl ii, ex_bt rfl]; rfl⟩
          by_cases q1 : x5 < -20
          · rw [f_X9_waysAt, ex_bt q1, ex_rt]; rfl
          · by_cases q2 : 20 < x5
            · rw [f_X9_waysAt, ex_bf q1, ex_bt q2, ex_rt]; rfl
            · have e20 : (nI 20 : Int32) = 20 := rfl
              obtain ⟨j, j1, rfl, -, -⟩ := plc_of (e := 20) (x := x5) (by omega) (fun w => by
                rcases w with w | w
                · exact q1 w
                · exact q2 w)
              rw [f_X9_waysAt, ex_bf q1, ex_bf q2, plc_a.1, ex_gd (inb_nI j1 (by omega)), ex_dL, nI_clamp (show j < 2 ^ 31 by omega), ex_rt, (w1 j j1).1, w7 j j1 ((plc_out g3 (by omega)).mp z)]
        · rw [if_neg z] at ii
          obtain ⟨j, j1, rfl, j2, j3⟩ := plc_of g3 z
          have := sumN_le (X := V) 41 j1
          have q1 : ¬ plc j < -20 := fun w => by
            have e1 : (-20 : Int32).toInt = -20 := by decide
            rw [Int32.lt_iff_toInt_lt, plc_i (by omega), e1] at w
            omega
          have q2 : ¬ (20 : Int32) < plc j := fun w => by
            have := (plc_20 (by omega)).mp w; omega
          have i41 := inb_nI j1 (by omega)
          have cj := nI_clamp (show j < 2 ^ 31 by omega)
          refine ⟨V j, by omega, ?_, ?_⟩
          · rw [f_X9_waysAt, ex_bf q1, ex_bf q2, plc_a.1, ex_gd i41, ex_dL, cj, ex_rt, (w1 j j1).1]
          · rw [ex_cl ii, ex_bf l1_0, plc_a.2, ex_gd i41, ex_dL, cj, (w1 j j1).2.1]
      obtain ⟨p, p1, p2, p3⟩ := ways
      obtain ⟨v, v1, v2⟩ := part_rel (p := p) (w := S ^ N) (x := nI k) (σ := σ') (τ := τ') p1 pb pp
      have fin : f_X10_wanders x1 (nI h) (nI q) (nI N) x5 (nI k) σ = some (.inl v, σ') := by
        rw [eC, f_X10_wanders_b16, ex_xv need1, ex_cl m1, ex_bf l1_0, ex_cl m2, ex_bf l1_0, f_X10_wanders_b42, ex_xv dem1, ex_dR, hO, ex_gd hG, ex_cl a1, ex_cl p2, ex_dL, w4, ex_cl v1, ex_rtX]
      refine ⟨⟨.inl v, σ', v, τ', fin, ?_, ⟨by rw [a8]; exact t0, rfl⟩, g, n, s, e, m, a6⟩, zp_of fin a3.z⟩
      rw [f_X11_wanders, ex_pI, ex_cl iw, ex_bf l1_0, ex_cl m3, ex_bf l1_0, ex_cl a2]
      refine Eq.trans p3 ?_
      rw [f_X11_wanders_b62, ex_dL, w5, ex_cl v2, ex_rt]
    · have fin : f_X10_wanders x1 x2 x3 x4 x5 (nI k) σ = some (.inr true, σ) := by
        rw [eC, f_X10_wanders_b16, ex_xv need1]
        rcases hm with m1 | ⟨m1, m2⟩
        · rw [ex_cl m1, ex_bt rfl, f_X10_wanders_b41, f_X10_wanders_b42, ex_xt dem0]
        · rw [ex_cl m1, ex_bf l1_0, ex_cl m2, ex_bt rfl, f_X10_wanders_b41, f_X10_wanders_b42, ex_xt dem0]
      refine ⟨ok_thr J true 0 (y := 2) fin ?_ rfl, zp_of fin Z⟩
      rw [f_X11_wanders, ex_pI, ex_cl iw, ex_bf l1_0, ex_cl m3, ex_bt rfl, ex_rt]
  · have y0 : ¬ x6 = 0 := fun q => by
      rcases hw with h | ⟨-, h⟩ <;> rw [q] at h <;> exact absurd h (by decide)
    have y1 : ¬ x6 = 1 := fun q => by
      rcases hw with h | ⟨-, h⟩ <;> rw [q] at h <;> exact absurd h (by decide)
    have fin : f_X10_wanders x1 x2 x3 x4 x5 x6 σ = some (.inr false, σ) := by
      rw [f_X10_wanders, ex_bf y0, ex_bf y1, f_X10_wanders_b16, ex_xt need0]
    refine ⟨ok_thr J false 0 (y := 1) fin ?_ rfl, zp_of fin Z⟩
    rw [f_X11_wanders, ex_pI, ex_cl (isWhat_f t0 hw), ex_bt rfl, ex_rt]
