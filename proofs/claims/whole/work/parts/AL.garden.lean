-- ===== garden =====
theorem tg_out {g a b : Nat} (h1 : ¬ a = 14) (h2 : ¬ a = 15) (h3 : ¬ (g ≤ a ∧ a ≤ g + 6)) : gs_tg g a b = false := by
  rw [← Bool.not_eq_true]
  intro q
  simp only [gs_tg, Bool.or_eq_true, Bool.and_eq_true, Nat.ble_eq, beq_iff_eq] at q
  omega
theorem clear_eq {g : Nat} {σ : Sg} (hg : isGd g = true) : ∃ σ', f_X2_clear g σ = some ((), σ') ∧ (σ'.1 g 0 = 3 ∧ σ'.1 g 1 = 9 ∧ σ'.1 g 2 = 80 ∧ σ'.1 g 3 = 0 ∧ σ'.1 g 4 = 1 ∧ σ'.1 g 5 = 0 ∧ σ'.1 g 6 = 1 ∧ σ'.1 g 7 = 0 ∧ σ'.1 g 9 = 0 ∧ σ'.1 g 11 = 0) ∧ (σ'.1 (g + 3) 3 = 0 ∧ σ'.1 (g + 3) 4 = 0) ∧ (∀ a b, ¬ a = g → ¬ a = g + 3 → σ'.1 a b = σ.1 a b) ∧ σ'.2 = σ.2 := by
  have c6 : ∀ T : Sg, f_X6_clear (g + 3) T = some ((), sI (sI T (g + 3) 3 0) (g + 3) 4 0) := fun T => by
    rw [f_X6_clear, ex_gd (isRu_g hg), ex_pI, ex_pI, ex_rt]
  rw [f_X2_clear, ex_gd hg, ex_pI, ex_pI, ex_pI, ex_pI, ex_pI, ex_pI, ex_pI, ex_pI, ex_pI, ex_pI, ex_cl (c6 _), ex_rt]
  refine ⟨_, rfl, ⟨?_, ?_, ?_, ?_, ?_, ?_, ?_, ?_, ?_, ?_⟩, ⟨?_, ?_⟩, fun a b h1 h2 => ?_, rfl⟩
  · simp [sI_gt]
  · simp [sI_gt]
  · simp [sI_gt]
  · simp [sI_gt]
  · simp [sI_gt]
  · simp [sI_gt]
  · simp [sI_gt]
  · simp [sI_gt]
  · simp [sI_gt]
  · simp [sI_gt]
  · simp [sI_gt]
  · simp [sI_gt]
  · simp [sI_gt, h1, h2]
theorem scbeg_eq {g : Nat} {σ : Sg} (hg : isGd g = true) : ∃ σ', f_X7_begin 2 g σ = some ((), σ') ∧ (σ'.1 2 1 = σ.1 g 9 ∧ σ'.1 2 2 = -1 ∧ σ'.1 2 3 = 200 ∧ σ'.1 2 7 = 0 ∧ σ'.1 2 9 = 0) ∧ (∀ b, b < 24 → σ'.1 3 b = σ.1 (g + 1) b) ∧ (∀ a b, ¬ a = 2 → ¬ a = 3 → σ'.1 a b = σ.1 a b) ∧ σ'.2 = σ.2 := by
  have g3 : ¬ g = 3 := gd_0 hg (by omega)
  have g2 : ¬ g = 2 := gd_0 hg (by omega)
  rw [f_X7_begin, ex_gd (by decide), ex_gd hg, ex_wI, ex_dI, ex_pI, ex_pI, ex_pI, ex_pI, ex_pI, ex_rt]
  refine ⟨_, rfl, ⟨?_, ?_, ?_, ?_, ?_⟩, fun b hb => ?_, fun a b h1 h2 => ?_, rfl⟩
  · simp [sI_gt, rI_gt, g3]
  · simp [sI_gt]
  · simp [sI_gt]
  · simp [sI_gt]
  · simp [sI_gt]
  · simp [sI_gt, rI_gt, va_cpy, hb]
  · simp [sI_gt, rI_gt, h1, h2]
theorem refstart {k : Nat} {Z : Sg} (t0 : Z.1 56 0 = 0) : ∃ T, f_X11_garden_b23 (nI k) 1 Z = (cl f_X11_goes (fun _ => f_X11_garden_b134 FU)) T ∧ (T.1 56 15 = 0 ∧ T.1 56 16 = 0 ∧ T.1 56 17 = -1 ∧ T.1 56 19 = nI k ∧ T.1 56 20 = 0) ∧ (T.1 56 27 = 3 ∧ T.1 56 28 = 9 ∧ T.1 56 29 = 80 ∧ T.1 56 30 = 0 ∧ T.1 56 31 = 1 ∧ T.1 56 32 = 0 ∧ T.1 56 33 = 0 ∧ T.1 56 34 = 0 ∧ T.1 56 35 = 0 ∧ T.1 56 36 = 0) ∧ (T.1 64 0 = 0 ∧ T.1 64 1 = 1 ∧ T.1 64 2 = 0) ∧ (∀ a b, ¬ a = 64 → ¬ (a = 56 ∧ 15 ≤ b ∧ b ≤ 36) → T.1 a b = Z.1 a b) := by
  have cl0 : (0 : Int32).toNatClampNeg = 0 := rfl
  have cl1 : (1 : Int32).toNatClampNeg = 1 := rfl
  have cl2 : (2 : Int32).toNatClampNeg = 2 := rfl
  rw [f_X11_garden_b23, ex_cl (right1 t0), ex_bf l1_0, ex_pI, ex_pI, ex_pI, ex_pI, ex_pI, ex_pI, ex_pI, ex_pI, ex_pI, ex_pI, ex_pI, ex_pI, ex_pI, ex_pI, ex_pI, ex_pI, ex_pI, ex_pI, cl0, cl1, cl2]
  refine ⟨_, rfl, ⟨?_, ?_, ?_, ?_, ?_⟩, ⟨?_, ?_, ?_, ?_, ?_, ?_, ?_, ?_, ?_, ?_⟩, ⟨?_, ?_, ?_⟩, fun a b h1 h2 => ?_⟩
  all_goals try (simp [sI_gt]; done)
  simp only [sI_gt]
  repeat rw [if_neg (by omega)]
theorem ok_garden {g n s e m : Nat} {σ τ : Sg} (J : Jr g n s e m σ τ) (x : Int32) : OkX (f_X10_garden x) (f_X11_garden x) cI σ τ := by
  obtain ⟨J0, t0⟩ := thr0 J
  have c16 : f_X10_garden_b16 x σ = some (.inr true, σ) := by rw [f_X10_garden_b16, f_X10_garden_b17, ex_xt dem0]
  have m22 : f_X11_garden_b22 x (sI τ 56 0 0) = some (0, sI (sI τ 56 0 0) 56 0 1) := by rw [f_X11_garden_b22, f_X11_garden_b23, ex_cl (right0 t0 l1_0), ex_bt rfl, ex_rt]
  obtain ⟨l, l1, l2, l3, l4⟩ := J0.2.2.2.2.1
  by_cases hx : x < 0
  · exact ok_thr J true 0 (by rw [f_X10_garden, ex_bt hx, c16]) (by rw [f_X11_garden, ex_pI, ex_bt hx, m22]) rfl
  obtain ⟨k, hk31, rfl⟩ := nI_of hx
  by_cases hkl : l < k
  · exact ok_thr J true 0 (by rw [f_X10_garden, ex_bf hx, ex_dI, l2, ex_bt ((nI_ltI (by omega) hk31).mpr hkl), c16]) (by rw [f_X11_garden, ex_pI, ex_bf hx, ex_dI, l3, ex_bt ((nI_ltI (by omega) hk31).mpr hkl), m22]) rfl
  have nlt : ¬ nI l < nI k := fun q => hkl ((nI_ltI (by omega) hk31).mp q)
  have hk : k ≤ 600 := by omega
  have eC : f_X10_garden (nI k) σ = f_X10_garden_b17 (nI k) 1 σ := by rw [f_X10_garden, ex_bf hx, ex_dI, l2, ex_bf nlt]
  have eM : f_X11_garden (nI k) τ = f_X11_garden_b23 (nI k) 1 (sI τ 56 0 0) := by rw [f_X11_garden, ex_pI, ex_bf hx, ex_dI, l3, ex_bf nlt]
  generalize sI τ 56 0 0 = Z at *
  obtain ⟨jG, jR, jS, jP, jT, jF, jM, ⟨jO1, g', hg', hne, jO2⟩, jU, jL⟩ := id J0
  have hg := jG.1
  -- the bytes
  have hB : ∀ i, i < k → (Z.1 62 i).toNatClampNeg < 256 ∧ Z.1 62 i = nI (Z.1 62 i).toNatClampNeg ∧ σ.1 1 i = byt (Z.1 62 i).toNatClampNeg := fun i hi => by
    obtain ⟨v, v1, v2, v3⟩ := l4 i (by omega)
    have : (Z.1 62 i).toNatClampNeg = v := by rw [v2, nI_clamp (by omega)]
    rw [this]; exact ⟨v1, v2, v3⟩
  generalize hBd : (fun i => (Z.1 62 i).toNatClampNeg) = B
  have hB2 : ∀ i, i < k → B i < 256 ∧ Z.1 62 i = nI (B i) ∧ σ.1 1 i = byt (B i) := fun i hi => by rw [← hBd]; exact hB i hi
  have gne : ∀ c d, c < 35 → d ≤ 6 → ¬ c = g' + d := fun c d hc hd q => gd_ne hg' hd hc q.symm
  -- the class begins
  obtain ⟨σ2, y1, ⟨y20, y21, y22, y23, y24, y25, y26, y27, y29, y211⟩, ⟨y33, y34⟩, y4, y5⟩ := clear_eq (σ := sI σ 0 1 0) hg'
  generalize hσ4 : sI (sI (sR (sI σ2 14 2 0) 15 0 1) 15 1 (nI k)) 15 2 0 = σ4
  have q4 : ∀ a b, ¬ a = 15 → ¬ (a = 14 ∧ b = 2) → σ4.1 a b = σ2.1 a b := fun a b h1 h2 => by
    rw [← hσ4, sI_ne h1, sI_ne h1]
    show (sI σ2 14 2 0).1 a b = _
    rw [sI_gt, if_neg h2]
  have r4 : ∀ a b, ¬ (a = 15 ∧ b = 0) → σ4.2.2 a b = σ.2.2 a b := fun a b h => by
    rw [← hσ4]
    show (sR (sI σ2 14 2 0) 15 0 1).2.2 a b = _
    rw [sR_gt, if_neg h]
    show σ2.2.2 a b = _
    rw [y5]; rfl
  have T4 : TxC B k σ4 := ⟨by rw [← hσ4, sI_nf (by omega), sI_eq], by rw [← hσ4]; show (sR (sI σ2 14 2 0) 15 0 1).2.2 15 0 = 1; rw [sR_gt, if_pos ⟨rfl, rfl⟩], fun i hi => by
    rw [q4 _ _ (by omega) (by omega), y4 _ _ (gne 1 0 (by omega) (by omega)) (gne 1 3 (by omega) (by omega)), sI_ne (by omega)]; exact (hB2 i hi).2.2⟩
  obtain ⟨σ5, n1, K5, o5⟩ := nextC (p := 0) hk (fun i hi => (hB2 i hi).1) (by omega) T4 (by rw [← hσ4, sI_eq]; rfl)
  have tb : f_X8_tell 1 (nI k) (sI σ 0 1 0) = f_X8_tell_b23 FU 0 σ5 := by
    have e600 : (if 600 < nI k then 600 else nI k : Int32) = nI k := if_neg (fun q => by have := (nI_ltL (x := 600) (k := 600) rfl (by omega) (by omega)).mp q; omega)
    have bg : f_X5_begin 1 (nI k) (sI σ2 14 2 0) = some ((), σ5) := by rw [f_X5_begin, ex_gd rfl, ex_pR, ex_lt, e600, ex_pI, ex_pI, hσ4, ex_cl n1, ex_rt]
    rw [f_X8_tell, ex_gd rfl, ex_dR, show (sI σ 0 1 0).2.2 14 1 = g' from jO2, ex_gd hg', ex_cl y1, ex_pI, ex_cl bg]
  have c5 : ∀ d b, d ≤ 6 → σ5.1 (g' + d) b = σ2.1 (g' + d) b := fun d b hd => by
    rw [o5.2 _ _ (gd_ne hg' hd (by omega)), q4 _ _ (gd_ne hg' hd (by omega)) (fun q => gd_ne hg' hd (by omega) q.1)]
  have c50 : ∀ b, σ5.1 g' b = σ2.1 g' b := fun b => c5 0 b (by omega)
  have r5 : σ5.2.2 14 1 = g' := by rw [o5.1, r4 _ _ (by omega)]; exact jO2
  -- the reference begins
  obtain ⟨T, z1, ⟨z15, z16, z17, z19, z20⟩, ⟨z27, z28, z29, z30, z31, z32, z33, z34, z35, z36⟩, ⟨z640, z641, z642⟩, zo⟩ := refstart (k := k) t0
  obtain ⟨τ5, n2, M5, p5⟩ := goesM (B := B) (n := k) (p := 0) hk (fun i hi => (hB2 i hi).1) (by omega) ⟨z19, fun i hi => by rw [zo _ _ (by omega) (by omega)]; exact (hB2 i hi).2.1⟩ z20
  have mb : f_X11_garden_b23 (nI k) 1 Z = f_X11_garden_b134 FU τ5 := by rw [z1, ex_cl n2]
  have t5 : ∀ {a b : Nat}, ¬ (a = 56 ∧ 20 ≤ b ∧ b ≤ 26) → τ5.1 a b = T.1 a b := fun h => mtok_of p5 h
  have N5 : LN B k g' 0 9 1 0 0 0 0 0 σ5 τ5 := by
    refine ⟨⟨K5, M5, r5, (t5 (by omega)).trans z16⟩, ⟨⟨by omega, (c50 9).trans y29, (t5 (by omega)).trans z32⟩, ⟨3, by omega, by omega, (c50 0).trans y20, (t5 (by omega)).trans z27⟩, ⟨by omega, (c50 1).trans y21, (t5 (by omega)).trans z28⟩, ⟨80, by omega, (c50 2).trans y22, (t5 (by omega)).trans z29⟩, ?_, ?_, ⟨0, 1, 0, by omega, by omega, by omega, by omega, (c50 5).trans y25, (c50 6).trans y26, (c50 7).trans y27, (t5 (by omega)).trans z640, (t5 (by omega)).trans z641, (t5 (by omega)).trans z642⟩, ⟨fun j hj => absurd hj (by omega), fun j hj => absurd hj (by omega)⟩, ⟨0, by omega, (c50 11).trans y211, (t5 (by omega)).trans z34, fun i hi => absurd hi (by omega)⟩⟩, ⟨by omega, (c5 3 4 (by omega)).trans y34, (t5 (by omega)).trans z33, (c5 3 3 (by omega)).trans y33, (t5 (by omega)).trans z36, by rw [if_pos rfl], fun r hr => absurd hr (by omega)⟩, ⟨by omega, ?_, (t5 (by omega)).trans z35⟩⟩
    · rw [c50, y23, t5 (by omega), z30]; exact ⟨rfl, by decide, by decide⟩
    · rw [c50, y24, t5 (by omega), z31]
    · rw [o5.2 _ _ (by omega), ← hσ4, sI_ne (by omega), sI_ne (by omega)]
      show (sI σ2 14 2 0).1 14 2 = _
      rw [sI_eq]; rfl
  -- what the class has changed, whatever it has read
  have frC : ∀ r σ', f_X8_tell 1 (nI k) (sI σ 0 1 0) = some (r, σ') → (∀ a b, ¬ a = 14 → ¬ a = 15 → ¬ (g' ≤ a ∧ a ≤ g' + 6) → σ'.1 a b = (sI σ 0 1 0).1 a b) ∧ (σ'.2.2 0 6 = g ∧ σ'.2.2 14 1 = g') := fun r σ' q => by
    have o := tg_X8_tell 1 (nI k) hg' (sI σ 0 1 0) (r, σ') jO2 q
    refine ⟨fun a b h1 h2 h3 => (o a b (tg_out h1 h2 h3)).1, ?_, (tg_ref hg' o).trans jO2⟩
    rw [(o 0 6 (tg_out (by omega) (by omega) (fun q => gne 0 0 (by omega) (by omega) (by omega)))).2.2]; exact jO1
  have lo : ∀ a, a < 35 → ¬ (g' ≤ a ∧ a ≤ g' + 6) := fun a ha q => by rcases or3 hg' with rfl | rfl | rfl <;> omega
  have og : ∀ d, d ≤ 6 → ¬ (g' ≤ g + d ∧ g + d ≤ g' + 6) := fun d hd q => by rcases or3 hg' with rfl | rfl | rfl <;> rcases or3 hg with rfl | rfl | rfl <;> omega
  -- what the reference has changed, whatever it has read
  have frM : ∀ τ', RM τ5 τ' → ∀ a b, ¬ (a = 56 ∧ 15 ≤ b ∧ b ≤ 38) → ¬ (64 ≤ a ∧ a ≤ 70) → τ'.1 a b = Z.1 a b := fun τ' rm a b h1 h2 => by
    have := (rm.1 a b (by
      rw [← Bool.not_eq_true]
      intro q
      simp only [gs_mread, Bool.or_eq_true, Bool.and_eq_true, Nat.ble_eq, beq_iff_eq] at q
      omega)).1
    rw [this, t5 (by omega), zo _ _ (by omega) (by omega)]
  have fr15 : ∀ τ', RM τ5 τ' → τ'.1 56 15 = 0 := fun τ' rm => by
    rw [(rm.1 56 15 rfl).1, t5 (by omega)]; exact z15
  have hL := tell_loop hk (fun i hi => (hB2 i hi).1) hg' k 0 FU FU 0 0 9 0 0 0 0 σ5 τ5 (by omega) (by omega) (by show _ < 8192; omega) (by show _ < 8192; omega) (by omega) (by omega) (by omega) N5
  rcases hL with ⟨σ', τ', nj, e', m', a', k', u', p', w1, w2, N, w4, rm⟩ | ⟨σ', τ', w1, w2, bd, rm⟩
  · have te : f_X8_tell 1 (nI k) (sI σ 0 1 0) = some (0, σ') := tb.trans w1
    obtain ⟨fc, fr6, fr14⟩ := frC _ _ te
    have fm := frM τ' rm
    have h16 : τ'.1 56 16 = 0 := N.1.2.2.2
    obtain ⟨τ'', v0, ⟨v1, v2, v3, v4, v5, v6, v7, v8⟩, ⟨v57, v58, v59, v60, v61⟩, ⟨v46, v47, v48, v80, v83⟩, vo⟩ := take_eq N.1.2.2.2
    generalize hσ7 : sR (sR (sI σ' 0 2 (-1)) 14 1 g) 0 6 g' = σ7
    have q7 : ∀ a b, ¬ (a = 0 ∧ b = 2) → σ7.1 a b = σ'.1 a b := fun a b h => by rw [← hσ7]; show (sI σ' 0 2 (-1)).1 a b = _; rw [sI_gt, if_neg h]
    have r7a : σ7.2.2 0 6 = g' := by rw [← hσ7, sR_gt, if_pos ⟨rfl, rfl⟩]
    have r7b : σ7.2.2 14 1 = g := by rw [← hσ7, sR_gt, if_neg (by omega), sR_gt, if_pos ⟨rfl, rfl⟩]
    obtain ⟨σ8, b1, ⟨b21, b22, b23, b27, b29⟩, b3, b4, b5⟩ := scbeg_eq (σ := σ7) hg'
    have cres : f_X10_garden (nI k) σ = some (.inl 0, sI σ8 0 9 0) := by
      rw [eC, f_X10_garden_b17, ex_xv dem1, ex_pI, ex_cl te, ex_bt rfl, ex_pI, ex_dR, show (sI σ' 0 2 (-1)).2.2 14 1 = g' from fr14, ex_gd hg', ex_dR, show (sI σ' 0 2 (-1)).2.2 0 6 = g from fr6, ex_gd hg, ex_pR, ex_pR, hσ7, ex_cl b1, ex_pI, ex_rtX]
    have mres : f_X11_garden (nI k) τ = some (0, τ'') := by rw [eM, mb, w2, v0]
    generalize hσ9 : sI σ8 0 9 0 = σ9 at cres
    have q9 : ∀ a b, ¬ a = 0 → σ9.1 a b = σ8.1 a b := fun a b h => by rw [← hσ9, sI_ne h]
    have qg : ∀ d b, d ≤ 6 → σ9.1 (g' + d) b = σ'.1 (g' + d) b := fun d b hd => by
      rw [q9 _ _ (gd_ne hg' hd (by omega)), b4 _ _ (gd_ne hg' hd (by omega)) (gd_ne hg' hd (by omega)), q7 _ _ (fun q => gd_ne hg' hd (by omega) q.1)]
    have qg0 : ∀ b, σ9.1 g' b = σ'.1 g' b := fun b => qg 0 b (by omega)
    have q0 : ∀ b, ¬ b = 1 → ¬ b = 2 → ¬ b = 9 → σ9.1 0 b = σ.1 0 b := fun b h1 h2 h9 => by
      rw [← hσ9, sI_nf h9, b4 _ _ (by omega) (by omega), q7 _ _ (by omega), fc _ _ (by omega) (by omega) (lo 0 (by omega)), sI_nf h1]
    have r9 : σ9.2 = σ7.2 := by rw [← hσ9]; exact b5
    obtain ⟨-, ⟨⟨G1, G2, G3⟩, ⟨s', S1, S2, S3, S4⟩, ⟨E1, E2, E3⟩, ⟨kq, K1, K2, K3⟩, ⟨H1, H2, H3⟩, H4, ⟨la, lb, lc, L1, L2, L3, L4, L5, L6, L7, L8, L9, L10⟩, ⟨R1, R2⟩, ⟨pp, P1, P2, P3, P4⟩⟩, ⟨U1, U2, U3, U4, U5, U6, U7⟩, -⟩ := N
    refine ⟨.inl 0, σ9, 0, τ'', cres, mres, ⟨?_, rfl⟩, g', nj, s', e', m', ?_⟩
    · rw [vo _ _ (by omega) (by omega), fm _ _ (by omega) (by omega)]; exact t0
    refine ⟨⟨hg', G1, v6.trans G3, ⟨S1, S2, (qg0 0).trans S3, v1.trans S4⟩, ⟨?_, ?_, ?_, ?_⟩, E1, (qg0 1).trans E2, ⟨kq, K1, (qg0 2).trans K2⟩, by rw [qg0]; exact H2, by rw [qg0]; exact H3⟩, ⟨U1, (qg 3 4 (by omega)).trans U2, v7.trans U3, fun r hr => ?_⟩, ⟨?_, ?_, ?_, ⟨?_, ?_⟩, ⟨200, by omega, by omega, ?_, v47⟩, ⟨0, by omega, ?_, v48, fun i hi => absurd hi (by omega)⟩, ⟨0, by omega, ?_, v80, fun i hi => absurd hi (by omega)⟩⟩, ⟨?_, Or.inl ?_⟩, ⟨0, by omega, ?_, ?_, fun i hi => absurd hi (by omega)⟩, ⟨?_, ?_, ?_, ?_⟩, fun j hj => ?_, ⟨?_, g, hg, fun q => hne q.symm, ?_⟩, ⟨(qg0 9).trans G2, pp, P1, (qg0 11).trans P2, v8.trans P3, fun i hi => ?_⟩, ⟨la, lb, lc, L1, L2, L3, by omega, (qg0 5).trans L5, (qg0 6).trans L6, (qg0 7).trans L7, (v57 0 (by omega)).trans L8, (v57 1 (by omega)).trans L9, (v57 2 (by omega)).trans L10⟩⟩
    · rw [qg0, v2, E2, E3]
    · rw [qg0, v3, K2, K3]
    · rw [qg0, v4]; exact H1
    · rw [qg0, v5]; exact H4
    · obtain ⟨a, kk, ts, x1, x2, x3, x4, x5, x6, x7, x8, x9⟩ := U7 r hr
      refine ⟨a, kk, ts, by rw [qg 5 _ (by omega)]; exact x1, (qg 5 _ (by omega)).trans x2, by omega, CC.lt ts a (fun b _ _ => qg 4 b (by omega)) x4, (v59 r (by omega)).trans x5, x6, ?_, x9⟩
      have ml := mlen_le ts
      exact MC.cp ts kk (fun b _ h2 => v61 b (by omega)) x8
    · rw [q9 _ _ (by omega), b21, q7 _ _ (fun q => gd_0 hg' (by omega) q.1)]; exact G2
    · intro j hj kk hkk
      rw [v58 _ (by omega), q9 _ _ (by omega), b3 _ (by omega), q7 _ _ (fun q => gd_ne (d := 1) hg' (by omega) (by omega) q.1)]
      exact R1 j hj kk hkk
    · refine R2.cong G1 (fun b hb => ?_)
      rw [q9 _ _ (by omega), b3 b hb, q7 _ _ (fun q => gd_ne (d := 1) hg' (by omega) (by omega) q.1)]
    · rw [q9 _ _ (by omega), b22, v46]
    · rw [q9 _ _ (by omega), b22]; exact Or.inl rfl
    · rw [q9 _ _ (by omega), b23]; rfl
    · rw [q9 _ _ (by omega), b27]; rfl
    · rw [q9 _ _ (by omega), b29]; rfl
    · rw [v83, ← hσ9, sI_eq]
    · rw [← hσ9, sI_eq]
    · rw [← hσ9, sI_nf (by omega), b4 _ _ (by omega) (by omega), q7 _ _ (by omega), fc _ _ (by omega) (by omega) (lo 0 (by omega)), sI_eq]; rfl
    · rw [vo _ _ (by omega) (by omega)]; exact fr15 τ' rm
    · rw [vo _ _ (by omega) (by omega), (rm.2 h16).2, t5 (by omega), z17, ← hσ9, sI_nf (by omega), b4 _ _ (by omega) (by omega), ← hσ7]
      show _ = (sI σ' 0 2 (-1)).1 0 2
      rw [sI_eq]
    · rw [vo _ _ (by omega) (by omega), fm _ _ (by omega) (by omega), q0 _ (by omega) (by omega) (by omega)]; exact jF.2.1
    · rw [vo _ _ (by omega) (by omega), fm _ _ (by omega) (by omega), q0 _ (by omega) (by omega) (by omega)]; exact jF.2.2.1
    · rw [vo _ _ (by omega) (by omega), fm _ _ (by omega) (by omega), q0 _ (by omega) (by omega) (by omega)]; exact jF.2.2.2
    · have fl1 : fl j < 35 ∧ 19 ≤ fl j := by unfold fl; omega
      rw [q9 _ _ (by omega), b4 _ _ (by omega) (by omega), q7 _ _ (by omega), fc _ _ (by omega) (by omega) (lo _ (by omega)), sI_ne (by omega)]; exact jM j hj
    · rw [r9]; exact r7a
    · rw [r9]; exact r7b
    · obtain ⟨v, x1, x2, x3, x4⟩ := P4 i hi
      exact ⟨v, x1, x2, (qg 2 i (by omega)).trans x3, (v60 i (by omega)).trans x4⟩
  · have te : f_X8_tell 1 (nI k) (sI σ 0 1 0) = some (σ'.1 14 4, σ') := tb.trans w1
    obtain ⟨fc, fr6, fr14⟩ := frC _ _ te
    have fm := frM τ' rm
    obtain ⟨kd, d0, d1, d2, d3⟩ := id bd
    have h03 : (sI σ' 0 2 (σ'.1 14 5)).1 0 3 = σ.1 0 3 := by rw [sI_nf (by omega), fc _ _ (by omega) (by omega) (lo 0 (by omega)), sI_nf (by omega)]
    have h63 : τ'.1 63 0 = σ.1 0 3 := by rw [fm _ _ (by omega) (by omega)]; exact jF.2.1
    have cres : f_X10_garden (nI k) σ = some (.inl kd, sI (sI σ' 0 2 (σ'.1 14 5)) 0 3 (σ.1 0 3 + 1)) := by
      rw [eC, f_X10_garden_b17, ex_xv dem1, ex_pI, ex_cl te, d1, ex_bf d0, ex_dI, ex_pI, ex_dI, h03, ex_pI, ex_rtX]
    have mres : f_X11_garden (nI k) τ = some (kd, sI τ' 63 0 (σ.1 0 3 + 1)) := by
      rw [eM, mb, w2, f_X11_garden_b155, ex_cl (good0 bd.bad), ex_bt rfl, show (0 : Int32).toNatClampNeg = 0 from rfl, ex_dI, h63, ex_pI, ex_dI, sI_ne (by omega), d2, ex_rt]
    generalize hσ9 : sI (sI σ' 0 2 (σ'.1 14 5)) 0 3 (σ.1 0 3 + 1) = σ9 at cres
    generalize hτ9 : sI τ' 63 0 (σ.1 0 3 + 1) = τ9 at mres
    have q9 : ∀ a b, ¬ a = 0 → ¬ a = 14 → ¬ a = 15 → ¬ (g' ≤ a ∧ a ≤ g' + 6) → σ9.1 a b = σ.1 a b := fun a b h h1 h2 h3 => by
      rw [← hσ9, sI_ne h, sI_ne h, fc _ _ h1 h2 h3, sI_ne h]
    have q0 : ∀ b, ¬ b = 1 → ¬ b = 2 → ¬ b = 3 → σ9.1 0 b = σ.1 0 b := fun b h1 h2 h3 => by
      rw [← hσ9, sI_nf h3, sI_nf h2, fc _ _ (by omega) (by omega) (lo 0 (by omega)), sI_nf h1]
    have qg : ∀ d b, d ≤ 5 → σ9.1 (g + d) b = σ.1 (g + d) b := fun d b hd => q9 _ _ (gd_ne hg (by omega) (by omega)) (gd_ne hg (by omega) (by omega)) (gd_ne hg (by omega) (by omega)) (og d (by omega))
    have qg0 : ∀ b, σ9.1 g b = σ.1 g b := fun b => qg 0 b (by omega)
    have qs : ∀ a b, 1 ≤ a → a ≤ 13 → σ9.1 a b = σ.1 a b := fun a b h1 h2 => q9 _ _ (by omega) (by omega) (by omega) (lo a (by omega))
    have t9 : ∀ a b, ¬ (a = 56 ∧ 15 ≤ b ∧ b ≤ 38) → ¬ (64 ≤ a ∧ a ≤ 70) → ¬ (a = 63 ∧ b = 0) → τ9.1 a b = Z.1 a b := fun a b h1 h2 h3 => by
      rw [← hτ9, sI_gt, if_neg h3]; exact fm a b h1 h2
    refine ⟨.inl kd, σ9, kd, τ9, cres, mres, ⟨?_, rfl⟩, g, n, s, e, m, ?_⟩
    · rw [t9 _ _ (by omega) (by omega) (by omega)]; exact t0
    refine ⟨jG.of qg0 (fun b h1 h2 => t9 _ _ (by omega) (by omega) (by omega)), jR.of (qg 3 4 (by omega)) (fun b => qg 4 b (by omega)) (fun b => qg 5 b (by omega)) (t9 _ _ (by omega) (by omega) (by omega)) (fun b => t9 _ _ (by omega) (by omega) (by omega)) (fun b => t9 _ _ (by omega) (by omega) (by omega)), jS.of (fun a b h1 h2 => qs a b (by omega) (by omega)) (t9 _ _ (by omega) (by omega) (by omega)) (t9 _ _ (by omega) (by omega) (by omega)) (t9 _ _ (by omega) (by omega) (by omega)) (t9 _ _ (by omega) (by omega) (by omega)) (fun b => t9 _ _ (by omega) (by omega) (by omega)) (fun b => t9 _ _ (by omega) (by omega) (by omega)) (fun b => t9 _ _ (by omega) (by omega) (by omega)), ⟨?_, ?_⟩, ⟨0, by omega, ?_, ?_, fun i hi => absurd hi (by omega)⟩, ⟨?_, ?_, ?_, ?_⟩, fun j hj => ?_, ⟨?_, g', hg', hne, ?_⟩, ?_, ?_⟩
    · rw [t9 _ _ (by omega) (by omega) (by omega), q0 _ (by omega) (by omega) (by omega)]; exact jP.1
    · rw [q0 _ (by omega) (by omega) (by omega)]
      rcases jP.2 with q | ⟨q, w⟩
      · exact Or.inl q
      · exact Or.inr ⟨q, w.of (fun a b h1 h2 => qs a b (by omega) (by omega)) (t9 _ _ (by omega) (by omega) (by omega)) (t9 _ _ (by omega) (by omega) (by omega)) (t9 _ _ (by omega) (by omega) (by omega)) (t9 _ _ (by omega) (by omega) (by omega)) (fun b => t9 _ _ (by omega) (by omega) (by omega)) (fun b => t9 _ _ (by omega) (by omega) (by omega)) (fun b => t9 _ _ (by omega) (by omega) (by omega))⟩
    · rw [← hσ9, sI_nf (by omega), sI_nf (by omega), fc _ _ (by omega) (by omega) (lo 0 (by omega)), sI_eq]; rfl
    · rw [← hτ9, sI_ne (by omega)]; exact fr15 τ' rm
    · rw [← hτ9, sI_ne (by omega), d3, ← hσ9, sI_nf (by omega), sI_eq]
    · rw [← hτ9, sI_eq, ← hσ9, sI_eq]
    · rw [t9 _ _ (by omega) (by omega) (by omega), q0 _ (by omega) (by omega) (by omega)]; exact jF.2.2.1
    · rw [t9 _ _ (by omega) (by omega) (by omega), q0 _ (by omega) (by omega) (by omega)]; exact jF.2.2.2
    · have fl1 : fl j < 35 ∧ 19 ≤ fl j := by unfold fl; omega
      rw [q9 _ _ (by omega) (by omega) (by omega) (lo _ (by omega))]; exact jM j hj
    · rw [← hσ9]; exact fr6
    · rw [← hσ9]; exact fr14
    · obtain ⟨u1, pp, u2, u3, u4, u5⟩ := jU
      refine ⟨(qg0 9).trans u1, pp, u2, (qg0 11).trans u3, (t9 _ _ (by omega) (by omega) (by omega)).trans u4, fun i hi => ?_⟩
      rw [qg 2 i (by omega), t9 _ _ (by omega) (by omega) (by omega)]; exact u5 i hi
    · obtain ⟨a, b, c, u1, u2, u3, u4, u5, u6, u7, u8, u9, u10⟩ := jL
      exact ⟨a, b, c, u1, u2, u3, u4, (qg0 5).trans u5, (qg0 6).trans u6, (qg0 7).trans u7, (t9 _ _ (by omega) (by omega) (by omega)).trans u8, (t9 _ _ (by omega) (by omega) (by omega)).trans u9, (t9 _ _ (by omega) (by omega) (by omega)).trans u10⟩
