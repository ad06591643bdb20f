-- ===== obey, last, become, undo: both alike =====
theorem o_of {a : Nat} (h : a ≤ 40) : ∃ o, (a < 40 ∧ o = 0) ∨ (a = 40 ∧ o = 1) := by
  by_cases z : a < 40
  · exact ⟨0, Or.inl ⟨z, rfl⟩⟩
  · exact ⟨1, Or.inr ⟨by omega, rfl⟩⟩
theorem ok_obey {g n s e m : Nat} {σ τ : Sg} (J : Jr g n s e m σ τ) (x : Int32) : OkV (f_X10_obey x) (f_X11_obey x) σ τ := by
  obtain ⟨J0, t0⟩ := thr0 J
  obtain ⟨jG, jR, ⟨s1, s2, s3, s4, s5, ⟨a, a1, a2, a3, a4⟩, s7⟩, -⟩ := id J0
  have hm7 : (sI τ 56 0 0).1 56 7 = nI m := J0.2.1.2.2.1
  rcases rule_cases x J.2.1.1 with ⟨x1, x2, x3⟩ | hx
  · obtain ⟨o, ho⟩ := o_of a1
    obtain ⟨σ', c1, c2, c3, c4, c5, c6⟩ := keepC (σ := sI σ 2 2 x) (k := 3) (w := 0) (v := σ.1 2 2) (by rw [sI_nf (by omega)]; exact a2) a1 ho
    obtain ⟨T1, d1, d2, d3, d4, d5, d6, d7⟩ := keepM (x := 24) (y := (sI τ 56 0 0).1 56 46) a3 a1 ho
    have ac : f_X7_act 2 3 0 x σ = some (σ.1 2 2, σ') := by rw [f_X7_act, ex_gd isSc2, ex_cl put3, ex_cl c1, ex_rt]
    refine ⟨1, σ', sI T1 56 46 x, ?_, ?_, g, n, s, e, m, J0.act (fun a b h1 h2 h3 h4 h5 => ?_) c6 (fun a b h1 h2 h3 => ?_) (fun j hj k hk => ?_) ?_ ?_ ?_ ⟨a - o + 1, by omega, c2, by rw [sI_nf (by omega)]; exact d2, ?_⟩⟩
    · rw [f_X10_obey, ex_cl (isRule_t J x1 x2), ex_bf l1_0, ex_cl ac, ex_rt]
    · rw [f_X11_obey, ex_pI, ex_bf x1, ex_dI, hm7, ex_bt (Int32.not_le.mp x2), ex_dI, ex_cl d1, ex_pI, ex_rt]
    · rw [c5 a b h3 h4 h5 (by omega), sI_gt, if_neg (by omega)]
    · rw [sI_gt, if_neg (by omega), d6 a b h3 (by omega)]
    · rw [sI_ne (by omega), d6 _ _ (by omega) (by omega), c5 3 _ (by omega) (by omega) (by omega) (by omega), sI_ne (by omega)]; exact s2 j hj k hk
    · have : σ'.1 3 = σ.1 (2 + 1) := funext fun b => by rw [c5 3 b (by omega) (by omega) (by omega) (by omega), sI_ne (by omega)]
      rw [this]; exact s3
    · rw [sI_eq, c5 2 2 (by omega) (by omega) (by omega) (by omega), sI_eq]; exact ⟨rfl, x3⟩
    · rw [sI_nf (by omega), d6 56 47 (by omega) (by omega), c5 2 3 (by omega) (by omega) (by omega) (by omega), sI_nf (by omega)]; exact s5
    · refine acts_new (σ := sI σ 2 2 x) (τ := sI τ 56 0 0) (τ' := sI T1 56 46 x) (k := 3) (w := 0) (v := σ.1 2 2) (x := 24) (y := (sI τ 56 0 0).1 56 46) ho (fun i hi => ?_) c3 c4 (fun i hi => ?_) ?_ ?_ ⟨s4.1, Or.inl ⟨rfl, rfl, s4.2⟩⟩
      · rw [sI_ne (by omega), sI_ne (by omega), sI_ne (by omega)]; exact a4 i hi
      · rw [sI_ne (by omega)]; exact d3 i hi
      · rw [sI_ne (by omega)]; exact d4
      · rw [sI_ne (by omega)]; exact d5
  · have rM : f_X11_obey_b18 (sI τ 56 0 0) = some (0, sI (sI τ 56 0 0) 63 1 ((sI τ 56 0 0).1 63 1 + 1)) := by
      rw [f_X11_obey_b18, ex_cl (refuses_eq (k := 1) (x := 1) rfl (by omega)), ex_bt (by decide), ex_rt]
    refine ⟨0, _, _, ?_, ?_, g, n, s, e, m, (J0.refuse (k := 1) (by omega)).1⟩
    · rw [f_X10_obey, ex_cl (isRule_f J hx), ex_bt rfl, ex_dI, ex_pI, ex_rt]
    · rw [f_X11_obey, ex_pI]
      rcases hx with q | ⟨q1, q2⟩
      · rw [ex_bt q, rM]
      · rw [ex_bf q1, ex_dI, hm7, ex_bf (Int32.not_lt.mpr q2), rM]
theorem ok_last {g n s e m : Nat} {σ τ : Sg} (J : Jr g n s e m σ τ) (x : Int32) : OkV (f_X10_last x) (f_X11_last x) σ τ := by
  obtain ⟨J0, t0⟩ := thr0 J
  obtain ⟨jG, jR, ⟨s1, s2, s3, s4, ⟨N, n1, n2, n3, n4⟩, ⟨a, a1, a2, a3, a4⟩, s7⟩, -⟩ := id J0
  have cs : (∃ M, 1 ≤ M ∧ M ≤ 600 ∧ x = nI M) ∨ x < 1 ∨ (¬ x < 1 ∧ ¬ x ≤ 600) := by
    by_cases h1 : x < 1
    · exact Or.inr (Or.inl h1)
    · by_cases h2 : x ≤ 600
      · left
        have p : ¬ x < 0 := fun q => h1 (Int32.lt_trans q (by decide))
        obtain ⟨M, m1, rfl⟩ := nI_of p
        refine ⟨M, ?_, (nI_leR (x := 600) (k := 600) rfl (by omega) m1).mp h2, rfl⟩
        rcases Nat.lt_or_ge M 1 with q | q
        · exact absurd ((nI_ltR (x := 1) (k := 1) rfl (by omega) m1).mpr q) h1
        · exact q
      · exact Or.inr (Or.inr ⟨h1, h2⟩)
  rcases cs with ⟨M, m1, m2, rfl⟩ | hx
  · have l1 : ¬ nI M < 1 := fun q => by have := (nI_ltR (x := 1) (k := 1) rfl (by omega) (by omega)).mp q; omega
    have l2 : nI M ≤ 600 := (nI_leR (x := 600) (k := 600) rfl (by omega) (by omega)).mpr m2
    have wi : f_X11_within (nI M) 1 600 (sI τ 56 0 0) = some (1, sI τ 56 0 0) := by rw [f_X11_within, ex_bf l1, ex_bf (Int32.not_lt.mpr l2), ex_rt]
    obtain ⟨o, ho⟩ := o_of a1
    obtain ⟨σ', c1, c2, c3, c4, c5, c6⟩ := keepC (σ := sI σ 2 3 (nI M)) (k := 4) (w := 0) (v := σ.1 2 3) (by rw [sI_nf (by omega)]; exact a2) a1 ho
    obtain ⟨T1, d1, d2, d3, d4, d5, d6, d7⟩ := keepM (x := 25) (y := (sI τ 56 0 0).1 56 47) a3 a1 ho
    have ac : f_X7_act 2 4 0 (nI M) σ = some (σ.1 2 3, σ') := by rw [f_X7_act, ex_gd isSc2, ex_cl put4, ex_cl c1, ex_rt]
    refine ⟨1, σ', sI T1 56 47 (nI M), ?_, ?_, g, n, s, e, m, J0.act (fun a b h1 h2 h3 h4 h5 => ?_) c6 (fun a b h1 h2 h3 => ?_) (fun j hj k hk => ?_) ?_ ?_ ⟨M, m1, m2, ?_, sI_eq⟩ ⟨a - o + 1, by omega, c2, by rw [sI_nf (by omega)]; exact d2, ?_⟩⟩
    · rw [f_X10_last, ex_bf l1, ex_bt l2, ex_cl ac, ex_rt]
    · rw [f_X11_last, ex_pI, ex_cl wi, ex_bf l1_0, ex_dI, ex_cl d1, ex_pI, ex_rt]
    · rw [c5 a b h3 h4 h5 (by omega), sI_gt, if_neg (by omega)]
    · rw [sI_gt, if_neg (by omega), d6 a b h3 (by omega)]
    · rw [sI_ne (by omega), d6 _ _ (by omega) (by omega), c5 3 _ (by omega) (by omega) (by omega) (by omega), sI_ne (by omega)]; exact s2 j hj k hk
    · have : σ'.1 3 = σ.1 (2 + 1) := funext fun b => by rw [c5 3 b (by omega) (by omega) (by omega) (by omega), sI_ne (by omega)]
      rw [this]; exact s3
    · rw [sI_nf (by omega), d6 56 46 (by omega) (by omega), c5 2 2 (by omega) (by omega) (by omega) (by omega), sI_nf (by omega)]; exact s4
    · rw [c5 2 3 (by omega) (by omega) (by omega) (by omega), sI_eq]
    · refine acts_new (σ := sI σ 2 3 (nI M)) (τ := sI τ 56 0 0) (τ' := sI T1 56 47 (nI M)) (k := 4) (w := 0) (v := σ.1 2 3) (x := 25) (y := (sI τ 56 0 0).1 56 47) ho (fun i hi => ?_) c3 c4 (fun i hi => ?_) ?_ ?_ ⟨n4.trans n3.symm, Or.inr (Or.inl ⟨rfl, rfl, N, n1, n2, n3⟩)⟩
      · rw [sI_ne (by omega), sI_ne (by omega), sI_ne (by omega)]; exact a4 i hi
      · rw [sI_ne (by omega)]; exact d3 i hi
      · rw [sI_ne (by omega)]; exact d4
      · rw [sI_ne (by omega)]; exact d5
  · have wi : f_X11_within x 1 600 (sI τ 56 0 0) = some (0, sI τ 56 0 0) := by
      rcases hx with q | ⟨q1, q2⟩
      · rw [f_X11_within, ex_bt q, ex_rt]
      · rw [f_X11_within, ex_bf q1, ex_bt (Int32.not_le.mp q2), ex_rt]
    have rC : f_X10_last_b12 σ = some (0, sI σ 0 4 (σ.1 0 4 + 1)) := by rw [f_X10_last_b12, ex_dI, ex_pI, ex_rt]
    refine ⟨0, _, _, ?_, ?_, g, n, s, e, m, (J0.refuse (k := 1) (by omega)).1⟩
    · rcases hx with q | ⟨q1, q2⟩
      · rw [f_X10_last, ex_bt q, rC]
      · rw [f_X10_last, ex_bf q1, ex_bf q2, rC]
    · rw [f_X11_last, ex_pI, ex_cl wi, ex_bt rfl, ex_cl (refuses_eq (k := 1) (x := 1) rfl (by omega)), ex_bt (by decide), ex_rt]
theorem ok_become {g n s e m : Nat} {σ τ : Sg} (J : Jr g n s e m σ τ) (x y z : Int32) : OkX (f_X10_become x y z) (f_X11_become x y z) cN σ τ := by
  obtain ⟨J0, t0⟩ := thr0 J
  obtain ⟨jG, jR, ⟨s1, s2, s3, s4, s5, ⟨a, a1, a2, a3, a4⟩, s7⟩, -⟩ := id J0
  have hn4 := J.1.2.1
  have hnC := J.2.2.1.1
  have hnM : (sI τ 56 0 0).1 56 6 = nI n := J0.1.2.2.1
  rcases jumper_cases x hn4 with ⟨j, hj, rfl⟩ | hx
  · rcases what_cases y (M := 2) (y := 2) rfl (by omega) with ⟨k, hk, rfl⟩ | hy
    · have b1 : ¬ nI k < 0 := nI_pos (by omega)
      have b2 : ¬ (2 : Int32) < nI k := fun q => by
        have := (nI_ltL (x := 2) (k := 2) rfl (by omega) (by omega)).mp q; omega
      have iw := isWhat_t (M := 2) (y := 2) rfl t0 hk (by omega)
      have hmo : f_X10_mostOf (3 + nI k) σ = some (nI (bnd k), σ) := by
        rw [nI_addL (x := 3) (k := 3) rfl]
        rcases (by omega : k = 0 ∨ k = 1 ∨ k = 2) with rfl | rfl | rfl
        · rw [f_X10_mostOf, ex_bt (show nI 3 = 3 from rfl), ex_rt]; rfl
        · rw [f_X10_mostOf, ex_bf (by decide), ex_bt (show nI 4 = 4 from rfl), ex_rt]; rfl
        · rw [f_X10_mostOf, ex_bf (by decide), ex_bf (by decide), ex_rt]; rfl
      have bb : bnd k ≤ 99 := by
        rcases (by omega : k = 0 ∨ k = 1 ∨ k = 2) with rfl | rfl | rfl <;> decide
      have eC : f_X10_become (nI j) (nI k) z σ = (br (z < 0) (f_X10_become_b39) (br (z ≤ nI (bnd k)) (cl (f_X7_act 2 (nI k) (nI j) z) (fun r4 => rtX r4)) (f_X10_become_b39))) σ := by
        rw [f_X10_become, ex_cl (isJC_t hnC hj hn4), ex_bf l1_0, ex_bf b1, ex_bf b2, f_X10_become_b22, ex_xv need1]
        by_cases q : z < 0
        · rw [ex_bt q, ex_bt q]
        · rw [ex_bf q, ex_bf q, ex_cl hmo]
      have eM : f_X11_become (nI j) (nI k) z τ = f_X11_become_b47 (nI j) (nI k) z (nI (bnd k)) 0 z (sI τ 56 0 0) := by
        rw [f_X11_become, ex_pI, ex_cl (isJM_t t0 hnM hj hn4), ex_bf l1_0, ex_cl iw, ex_bf l1_0]
        rcases (by omega : k = 0 ∨ k = 1 ∨ k = 2) with rfl | rfl | rfl
        · rw [ex_bt (show nI 0 = 0 from rfl)]; rfl
        · rw [ex_bf (by decide), ex_bt (show nI 1 = 1 from rfl)]; rfl
        · rw [ex_bf (by decide), ex_bf (by decide)]; rfl
      have no : z < 0 ∨ (¬ z < 0 ∧ nI (bnd k) < z) → OkX (f_X10_become (nI j) (nI k) z) (f_X11_become (nI j) (nI k) z) cN σ τ := by
        intro hz
        have wi : f_X11_within z 0 (nI (bnd k)) (sI τ 56 0 0) = some (0, sI τ 56 0 0) := by
          rcases hz with q | ⟨q1, q2⟩
          · rw [f_X11_within, ex_bt q, ex_rt]
          · rw [f_X11_within, ex_bf q1, ex_bt q2, ex_rt]
        have rC : f_X10_become_b39 σ = some (.inl (-1), sI σ 0 4 (σ.1 0 4 + 1)) := by rw [f_X10_become_b39, ex_dI, ex_pI, ex_rtX]
        refine ⟨.inl (-1), _, _, _, ?_, ?_, ⟨?_, rfl⟩, g, n, s, e, m, (J0.refuse (k := 1) (by omega)).1⟩
        · rcases hz with q | ⟨q1, q2⟩
          · rw [eC, ex_bt q, rC]
          · rw [eC, ex_bf q1, ex_bf (Int32.not_le.mpr q2), rC]
        · rw [eM, f_X11_become_b47, ex_cl wi, ex_bt rfl, ex_cl (refuses_eq (k := 1) (x := 1) rfl (by omega)), ex_rt]
        · rw [sI_ne (by omega)]; exact t0
      rcases what_cases z (M := bnd k) (y := nI (bnd k)) rfl (by omega) with ⟨q, hq, rfl⟩ | hz
      · have z1 : ¬ nI q < 0 := nI_pos (by omega)
        have z2 : nI q ≤ nI (bnd k) := nI_le hq (by omega)
        have wi : f_X11_within (nI q) 0 (nI (bnd k)) (sI τ 56 0 0) = some (1, sI τ 56 0 0) := by rw [f_X11_within, ex_bf z1, ex_bf (Int32.not_lt.mpr z2), ex_rt]
        obtain ⟨o, ho⟩ := o_of a1
        have hj4 : j < 4 := by omega
        have hw : ∃ v, v ≤ bnd k ∧ σ.1 3 (6 * j + 3 + k) = nI v := by
          obtain ⟨-, -, -, q4, q5, q6⟩ := s3 j hj
          rcases (by omega : k = 0 ∨ k = 1 ∨ k = 2) with rfl | rfl | rfl
          · exact q4
          · exact q5
          · exact q6
        have hT : (sI τ 56 0 0).1 58 (6 * j + 3 + k) = σ.1 3 (6 * j + 3 + k) := by
          have := s2 j hj (3 + k) (by omega)
          rw [← Nat.add_assoc] at this
          exact this
        obtain ⟨σ', c1, c2, c3, c4, c5, c6⟩ := keepC (σ := sI σ 3 (6 * j + 3 + k) (nI q)) (k := nI k) (w := nI j) (v := σ.1 3 (6 * j + 3 + k)) (by rw [sI_ne (by omega)]; exact a2) a1 ho
        obtain ⟨T1, d1, d2, d3, d4, d5, d6, d7⟩ := keepM (x := nI (6 * j + 3 + k)) (y := σ.1 3 (6 * j + 3 + k)) a3 a1 ho
        have ac : f_X7_act 2 (nI k) (nI j) (nI q) σ = some (σ.1 3 (6 * j + 3 + k), σ') := by rw [f_X7_act, ex_gd isSc2, ex_cl (putk hj4 (by omega)), ex_cl c1, ex_rt]
        have e4 : 6 * nI j + 3 + nI k = nI (6 * j + 3 + k) := by rw [nI_l6 (x := 3) (k := 3) rfl, nI_add]
        have in24 := inb_nI (show 6 * j + 3 + k < 24 by omega) (by omega)
        have c24 := nI_clamp (show 6 * j + 3 + k < 2 ^ 31 by omega)
        have r3 : σ'.1 3 = upd (σ.1 3) (6 * j + 3 + k) (nI q) := by
          rw [← sI_upd]
          funext b
          rw [c5 3 b (by omega) (by omega) (by omega) (by omega)]
        refine ⟨.inl (σ.1 3 (6 * j + 3 + k)), σ', _, sI T1 58 (6 * j + 3 + k) (nI q), ?_, ?_, ⟨?_, rfl⟩, g, n, s, e, m, J0.act (fun a b h1 h2 h3 h4 h5 => ?_) c6 (fun a b h1 h2 h3 => ?_) (fun i hi b hb => ?_) ?_ ?_ ?_ ⟨a - o + 1, by omega, c2, by rw [sI_ne (by omega)]; exact d2, ?_⟩⟩
        · rw [eC, ex_bf z1, ex_bt z2, ex_cl ac, ex_rtX]
        · rw [eM, f_X11_become_b47, ex_cl wi, ex_bf l1_0, ex_lt, e4, ex_gd in24, ex_dI, c24, hT, ex_cl d1, ex_gd in24, ex_pI, ex_rt]
        · rw [sI_ne (by omega), d6 56 0 (by omega) (by omega)]; exact t0
        · rw [c5 a b h3 h4 h5 (by omega), sI_ne h2]
        · rw [sI_ne h2, d6 a b h3 (by omega)]
        · rw [r3, upd]
          by_cases y : 6 * i + b = 6 * j + 3 + k
          · rw [y, sI_eq, if_pos rfl]
          · rw [sI_nf y, if_neg y, d6 58 _ (by omega) (by omega)]; exact s2 i hi b hb
        · rw [r3]; exact s3.set hj (by omega) hq
        · rw [sI_ne (by omega), d6 56 46 (by omega) (by omega), c5 2 2 (by omega) (by omega) (by omega) (by omega), show (sI σ 3 (6 * j + 3 + k) (nI q)).1 2 2 = σ.1 2 2 from sI_ne (by omega)]; exact s4
        · rw [sI_ne (by omega), d6 56 47 (by omega) (by omega), c5 2 3 (by omega) (by omega) (by omega) (by omega), show (sI σ 3 (6 * j + 3 + k) (nI q)).1 2 3 = σ.1 2 3 from sI_ne (by omega)]; exact s5
        · obtain ⟨v, v1, v2⟩ := hw
          refine acts_new (σ := sI σ 3 (6 * j + 3 + k) (nI q)) (τ := sI τ 56 0 0) (τ' := sI T1 58 (6 * j + 3 + k) (nI q)) (k := nI k) (w := nI j) (v := σ.1 3 (6 * j + 3 + k)) (x := nI (6 * j + 3 + k)) (y := σ.1 3 (6 * j + 3 + k)) ho (fun i hi => ?_) c3 c4 (fun i hi => ?_) ?_ ?_ ⟨rfl, Or.inr (Or.inr ⟨j, k, v, hj, by omega, v1, rfl, rfl, rfl, v2⟩)⟩
          · rw [sI_ne (by omega), sI_ne (by omega), sI_ne (by omega)]; exact a4 i hi
          · rw [sI_ne (by omega)]; exact d3 i hi
          · rw [sI_ne (by omega)]; exact d4
          · rw [sI_ne (by omega)]; exact d5
      · exact no hz
    · refine ok_thr J false 0 (y := 1) ?_ ?_ rfl
      · rw [f_X10_become, ex_cl (isJC_t hnC hj hn4), ex_bf l1_0]
        rcases hy with q | ⟨q1, q2⟩
        · rw [ex_bt q, f_X10_become_b21, f_X10_become_b22, ex_xt need0]
        · rw [ex_bf q1, ex_bt q2, f_X10_become_b21, f_X10_become_b22, ex_xt need0]
      · rw [f_X11_become, ex_pI, ex_cl (isJM_t t0 hnM hj hn4), ex_bf l1_0, ex_cl (isWhat_f t0 hy), ex_bt rfl, ex_rt]
  · refine ok_thr J false 0 (y := 1) ?_ ?_ rfl
    · rw [f_X10_become, ex_cl (isJC_f hnC hx), ex_bt rfl, f_X10_become_b21, f_X10_become_b22, ex_xt need0]
    · rw [f_X11_become, ex_pI, ex_cl (isJM_f t0 hnM hx), ex_bt rfl, ex_rt]
theorem ok_undo {g n s e m : Nat} {σ τ : Sg} (J : Jr g n s e m σ τ) : OkV f_X10_undo f_X11_undo σ τ := by
  obtain ⟨J0, t0⟩ := thr0 J
  obtain ⟨jG, jR, ⟨s1, s2, s3, s4, s5, ⟨a, a1, a2, a3, a4⟩, s7⟩, -⟩ := id J0
  have hn4 := J.1.2.1
  by_cases z : a = 0
  · subst z
    have tb : f_X7_takeBack 2 σ = some (0, σ) := by rw [f_X7_takeBack, ex_gd isSc2, ex_dI, a2, ex_bt (show nI 0 ≤ 0 by decide), ex_rt]
    exact ⟨-1, σ, sI τ 56 0 0, by rw [f_X10_undo, ex_cl tb, ex_bt rfl, ex_rt], by rw [f_X11_undo, ex_pI, ex_dI, a3, ex_bt (show nI 0 = 0 from rfl), ex_rt], g, n, s, e, m, J0⟩
  · have le0 : ¬ nI a ≤ 0 := fun q => by have := (nI_leR (x := 0) (k := 0) rfl (by omega) (by omega)).mp q; omega
    have le40 : nI a ≤ 40 := (nI_leR (x := 40) (k := 40) rfl (by omega) (by omega)).mpr a1
    have i40 := inb_nI (show a - 1 < 40 by omega) (by omega)
    have ca := nI_clamp (show a - 1 < 2 ^ 31 by omega)
    have e2 : 2 * nI (a - 1) = nI (2 * (a - 1)) := nI_mulL (x := 2) (k := 2) rfl _
    have hc7 : (sI σ 2 7 (nI (a - 1))).1 2 7 = nI (a - 1) := sI_eq
    have hc4 : (sI σ 2 7 (nI (a - 1))).1 4 (a - 1) = σ.1 4 (a - 1) := sI_ne (by omega)
    have hc5 : (sI σ 2 7 (nI (a - 1))).1 5 (a - 1) = σ.1 5 (a - 1) := sI_ne (by omega)
    have hc6 : (sI σ 2 7 (nI (a - 1))).1 6 (a - 1) = σ.1 6 (a - 1) := sI_ne (by omega)
    have eC : ∀ v σ', f_X7_put 2 (σ.1 4 (a - 1)) (σ.1 5 (a - 1)) (σ.1 6 (a - 1)) (sI σ 2 7 (nI (a - 1))) = some (v, σ') → σ'.1 2 7 = nI (a - 1) → f_X10_undo σ = some (nI (a - 1), σ') := by
      intro v σ' h h7
      have tb : f_X7_takeBack 2 σ = some (1, σ') := by
        rw [f_X7_takeBack, ex_gd isSc2, ex_dI, a2, ex_bf le0, ex_dI, a2, ex_bt le40, ex_dI, a2, ex_pI, nI_s1 (by omega), ex_dI, hc7, ex_gd i40, ex_dI, ca, hc4, ex_dI, hc7, ex_gd i40, ex_dI, ca, hc5, ex_dI, hc7, ex_gd i40, ex_dI, ca, hc6, ex_cl h, ex_rt]
      rw [f_X10_undo, ex_cl tb, ex_bf l1_0, ex_dI, h7, ex_rt]
    generalize hT : sI τ 56 0 0 = T at *
    have hm48 : (sI T 56 48 (nI (a - 1))).1 56 48 = nI (a - 1) := sI_eq
    have hm0 : (sI T 56 48 (nI (a - 1))).1 71 (2 * (a - 1)) = T.1 71 (2 * (a - 1)) := sI_ne (by omega)
    have hm1 : (sI T 56 48 (nI (a - 1))).1 71 (2 * (a - 1) + 1) = T.1 71 (2 * (a - 1) + 1) := sI_ne (by omega)
    have eM : f_X11_undo τ = (br (T.1 71 (2 * (a - 1)) = 24) (pI 56 46 (T.1 71 (2 * (a - 1) + 1)) (dI 56 48 (fun v9 => rt v9))) (br (T.1 71 (2 * (a - 1)) = 25) (pI 56 47 (T.1 71 (2 * (a - 1) + 1)) (dI 56 48 (fun v11 => rt v11))) (gd (inb (T.1 71 (2 * (a - 1))) 24 = true) (pI 58 (T.1 71 (2 * (a - 1))).toNatClampNeg (T.1 71 (2 * (a - 1) + 1)) (dI 56 48 (fun v12 => rt v12)))))) (sI T 56 48 (nI (a - 1))) := by
      rw [f_X11_undo, ex_pI, hT, ex_dI, a3, ex_bf (nI_ne0 (by omega) (by omega)), ex_dI, a3, ex_pI, nI_s1 (by omega), ex_dI, hm48, e2, ex_gd (inb_nI (show 2 * (a - 1) < 80 by omega) (by omega)), ex_dI, nI_clamp (show 2 * (a - 1) < 2 ^ 31 by omega), hm0, ex_dI, hm48, e2, nI_1, ex_gd (inb_nI (show 2 * (a - 1) + 1 < 80 by omega) (by omega)), ex_dI, nI_clamp (show 2 * (a - 1) + 1 < 2 ^ 31 by omega), hm1]
    obtain ⟨r1, r2⟩ := a4 (a - 1) (by omega)
    have oldA : ∀ σ' τ' : Sg, (∀ c b, c = 4 ∨ c = 5 ∨ c = 6 → σ'.1 c b = σ.1 c b) → (∀ b, τ'.1 71 b = T.1 71 b) → ∀ i, i < a - 1 → ActR n m (σ'.1 4 i) (σ'.1 5 i) (σ'.1 6 i) (τ'.1 71 (2 * i)) (τ'.1 71 (2 * i + 1)) := by
      intro σ' τ' h1 h2 i hi
      rw [h1 4 i (by omega), h1 5 i (by omega), h1 6 i (by omega), h2, h2]
      exact a4 i (by omega)
    have e4 : σ.1 (2 + 2) (a - 1) = σ.1 4 (a - 1) := rfl
    have e5 : σ.1 (2 + 3) (a - 1) = σ.1 5 (a - 1) := rfl
    have e6 : σ.1 (2 + 4) (a - 1) = σ.1 6 (a - 1) := rfl
    rw [e4, e5, e6] at r2
    rw [e6] at r1
    rcases r2 with ⟨k1, k2, k3⟩ | ⟨k1, k2, N, k3, k4, k5⟩ | ⟨j, k, v, h1, h2, h3, h4, h5, h6, h7⟩
    · refine ⟨nI (a - 1), sI (sI σ 2 7 (nI (a - 1))) 2 2 (σ.1 6 (a - 1)), sI (sI T 56 48 (nI (a - 1))) 56 46 (σ.1 6 (a - 1)), eC _ _ (by rw [k1]; exact put3) (by rw [sI_nf (by omega)]; exact hc7), ?_, g, n, s, e, m, J0.act (fun a b h1 h2 h3 h4 h5 => ?_) rfl (fun a b h1 h2 h3 => ?_) (fun j hj k hk => ?_) ?_ ⟨?_, ?_⟩ ?_ ⟨a - 1, by omega, by rw [sI_nf (by omega)]; exact hc7, by rw [sI_nf (by omega)]; exact hm48, oldA _ _ (fun c b h => ?_) (fun b => ?_)⟩⟩
      · rw [eM, ex_bt k2, r1, ex_pI, ex_dI, sI_nf (by omega), hm48, ex_rt]
      · rw [sI_gt, if_neg (by omega), sI_gt, if_neg (by omega)]
      · rw [sI_gt, if_neg (by omega), sI_gt, if_neg (by omega)]
      · rw [sI_ne (by omega), sI_ne (by omega), sI_ne (by omega), sI_ne (by omega)]; exact s2 j hj k hk
      · rw [show (sI (sI σ 2 7 (nI (a - 1))) 2 2 (σ.1 6 (a - 1))).1 3 = σ.1 (2 + 1) from funext fun b => by rw [sI_ne (by omega), sI_ne (by omega)]]; exact s3
      · rw [sI_eq, sI_eq]
      · rw [sI_eq]; exact k3
      · rw [sI_nf (by omega), sI_nf (by omega), sI_nf (by omega), sI_nf (by omega)]; exact s5
      · rw [sI_ne (by omega), sI_ne (by omega)]
      · rw [sI_ne (by omega), sI_ne (by omega)]
    · refine ⟨nI (a - 1), sI (sI σ 2 7 (nI (a - 1))) 2 3 (σ.1 6 (a - 1)), sI (sI T 56 48 (nI (a - 1))) 56 47 (σ.1 6 (a - 1)), eC _ _ (by rw [k1]; exact put4) (by rw [sI_nf (by omega)]; exact hc7), ?_, g, n, s, e, m, J0.act (fun a b h1 h2 h3 h4 h5 => ?_) rfl (fun a b h1 h2 h3 => ?_) (fun j hj k hk => ?_) ?_ ?_ ⟨N, k3, k4, ?_, ?_⟩ ⟨a - 1, by omega, by rw [sI_nf (by omega)]; exact hc7, by rw [sI_nf (by omega)]; exact hm48, oldA _ _ (fun c b h => ?_) (fun b => ?_)⟩⟩
      · rw [eM, ex_bf (by rw [k2]; decide), ex_bt k2, r1, ex_pI, ex_dI, sI_nf (by omega), hm48, ex_rt]
      · rw [sI_gt, if_neg (by omega), sI_gt, if_neg (by omega)]
      · rw [sI_gt, if_neg (by omega), sI_gt, if_neg (by omega)]
      · rw [sI_ne (by omega), sI_ne (by omega), sI_ne (by omega), sI_ne (by omega)]; exact s2 j hj k hk
      · rw [show (sI (sI σ 2 7 (nI (a - 1))) 2 3 (σ.1 6 (a - 1))).1 3 = σ.1 (2 + 1) from funext fun b => by rw [sI_ne (by omega), sI_ne (by omega)]]; exact s3
      · rw [sI_nf (by omega), sI_nf (by omega), sI_nf (by omega), sI_nf (by omega)]; exact s4
      · rw [sI_eq]; exact k5
      · rw [sI_eq]; exact k5
      · rw [sI_ne (by omega), sI_ne (by omega)]
      · rw [sI_ne (by omega), sI_ne (by omega)]
    · have hp := putk (v := σ.1 6 (a - 1)) (σ := sI σ 2 7 (nI (a - 1))) (show j < 4 by omega) h2
      have r3 : (sI (sI σ 2 7 (nI (a - 1))) 3 (6 * j + 3 + k) (σ.1 6 (a - 1))).1 3 = upd (σ.1 (2 + 1)) (6 * j + 3 + k) (nI v) := by
        rw [sI_upd, h7, show (sI σ 2 7 (nI (a - 1))).1 3 = σ.1 (2 + 1) from funext fun b => sI_ne (by omega)]
      refine ⟨nI (a - 1), sI (sI σ 2 7 (nI (a - 1))) 3 (6 * j + 3 + k) (σ.1 6 (a - 1)), sI (sI T 56 48 (nI (a - 1))) 58 (6 * j + 3 + k) (σ.1 6 (a - 1)), eC _ _ (by rw [h4, h5]; exact hp) (by rw [sI_ne (by omega)]; exact hc7), ?_, g, n, s, e, m, J0.act (fun a b h1 h2 h3 h4 h5 => ?_) rfl (fun a b h1 h2 h3 => ?_) (fun i hi b hb => ?_) ?_ ?_ ?_ ⟨a - 1, by omega, by rw [sI_ne (by omega)]; exact hc7, by rw [sI_ne (by omega)]; exact hm48, oldA _ _ (fun c b h => ?_) (fun b => ?_)⟩⟩
      · rw [eM, h6, r1, ex_bf (fun q => by have := nI_inj (b := 24) (by omega) (by omega) q; omega), ex_bf (fun q => by have := nI_inj (b := 25) (by omega) (by omega) q; omega), ex_gd (inb_nI (show 6 * j + 3 + k < 24 by omega) (by omega)), ex_pI, nI_clamp (show 6 * j + 3 + k < 2 ^ 31 by omega), ex_dI, sI_ne (by omega), hm48, ex_rt]
      · rw [sI_ne h2, sI_gt, if_neg (by omega)]
      · rw [sI_ne h2, sI_gt, if_neg (by omega)]
      · rw [r3, upd]
        by_cases y : 6 * i + b = 6 * j + 3 + k
        · rw [y, sI_eq, if_pos rfl, h7]
        · rw [sI_nf y, if_neg y, sI_ne (by omega)]; exact s2 i hi b hb
      · rw [r3]; exact s3.set h1 h2 h3
      · rw [sI_ne (by omega), sI_nf (by omega), sI_ne (by omega), sI_nf (by omega)]; exact s4
      · rw [sI_ne (by omega), sI_nf (by omega), sI_ne (by omega), sI_nf (by omega)]; exact s5
      · rw [sI_ne (by omega), sI_ne (by omega)]
      · rw [sI_ne (by omega), sI_ne (by omega)]
