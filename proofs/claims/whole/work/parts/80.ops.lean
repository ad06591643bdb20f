-- ===== what is told and kept: fault, count, jumper, find, forget =====
theorem Jr.put {g n s e m : Nat} {σ σ' τ τ' : Sg} (J : Jr g n s e m σ τ) (hg : ∀ a b, 35 ≤ a → σ'.1 a b = σ.1 a b) (hr : σ'.2 = σ.2) (hm : ∀ j, j < 4 → σ'.1 (fl j) 0 = nI j) (h56 : ∀ b, 1 ≤ b → b ≤ 8 → τ'.1 56 b = τ.1 56 b) (h57 : ∀ a b, a = 57 ∨ a = 59 ∨ a = 60 ∨ a = 61 → τ'.1 a b = τ.1 a b) (hS : Sc 2 n m e 46 47 48 80 58 71 90 σ' τ') (hP : τ'.1 56 83 = σ'.1 0 9 ∧ (σ'.1 0 9 = 0 ∨ (σ'.1 0 9 = 1 ∧ Sc 8 n m e 84 85 86 87 92 93 94 σ' τ'))) (hT : Tp σ' τ') (hF : Ft σ' τ') : Jr g n s e m σ' τ' := by
  obtain ⟨jG, jR, jS, jP, jT, jF, jM, jO, jU, jL⟩ := J
  have hg3 := or3 jG.1
  have g35 : 35 ≤ g := by rcases hg3 with rfl | rfl | rfl <;> omega
  have cg0 : ∀ b, σ'.1 g b = σ.1 g b := fun b => hg _ _ g35
  refine ⟨jG.of cg0 (fun b b1 b2 => h56 b b1 (by omega)), jR.of (hg _ _ (by omega)) (fun b => hg _ _ (by omega)) (fun b => hg _ _ (by omega)) (h56 7 (by omega) (by omega)) (fun b => h57 _ b (by omega)) (fun b => h57 _ b (by omega)), hS, hP, hT, hF, hm, by rw [hr]; exact jO, ?_, ?_⟩
  · obtain ⟨u1, p, u2, u3, u4, u5⟩ := jU
    refine ⟨(cg0 9).trans u1, p, u2, (cg0 11).trans u3, (h56 8 (by omega) (by omega)).trans u4, fun i hi => ?_⟩
    obtain ⟨v, v1, v2, v3, v4⟩ := u5 i hi
    exact ⟨v, v1, v2, (hg _ _ (by omega)).trans v3, (h57 60 i (by omega)).trans v4⟩
  · obtain ⟨a, b, c, l1, l2, l3, l4, l5, l6, l7, l8, l9, l10⟩ := jL
    exact ⟨a, b, c, l1, l2, l3, l4, (cg0 5).trans l5, (cg0 6).trans l6, (cg0 7).trans l7, (h57 57 0 (by omega)).trans l8, (h57 57 1 (by omega)).trans l9, (h57 57 2 (by omega)).trans l10⟩
theorem ok_fault {g n s e m : Nat} {σ τ : Sg} (J : Jr g n s e m σ τ) : OkV f_X10_fault f_X11_fault σ τ := by
  obtain ⟨J0, t0⟩ := thr0 J
  have := J0.2.2.2.2.2.1.1
  exact ⟨_, σ, sI τ 56 0 0, by rw [f_X10_fault, ex_dI, ex_rt], by rw [f_X11_fault, ex_pI, ex_dI, this, ex_rt], g, n, s, e, m, J0⟩
/-- a refusal is counted -/
theorem Jr.refuse {g n s e m k : Nat} {σ τ : Sg} (J : Jr g n s e m σ τ) (hk : k < 3) : Jr g n s e m (sI σ 0 (3 + k) (σ.1 0 (3 + k) + 1)) (sI τ 63 k (τ.1 63 k + 1)) ∧ τ.1 63 k = σ.1 0 (3 + k) := by
  obtain ⟨jG, jR, jS, jP, jT, jF, jM, jO, jU, jL⟩ := id J
  have e0 : τ.1 63 k = σ.1 0 (3 + k) := by
    obtain ⟨-, f1, f2, f3⟩ := jF
    rcases (by omega : k = 0 ∨ k = 1 ∨ k = 2) with rfl | rfl | rfl
    · exact f1
    · exact f2
    · exact f3
  have c : ∀ a b, ¬ (a = 0 ∧ b = 3 + k) → (sI σ 0 (3 + k) (σ.1 0 (3 + k) + 1)).1 a b = σ.1 a b := fun a b q => by rw [sI_gt, if_neg q]
  have t : ∀ a b, ¬ a = 63 → (sI τ 63 k (τ.1 63 k + 1)).1 a b = τ.1 a b := fun a b q => sI_ne q
  refine ⟨J.put (fun a b ha => c a b (by omega)) rfl (fun j hj => ?_) (fun b _ _ => t _ _ (by omega)) (fun a b ha => t _ _ (by omega)) (jS.of (fun a b h1 h2 => c a b (by omega)) (t _ _ (by omega)) (t _ _ (by omega)) (t _ _ (by omega)) (t _ _ (by omega)) (fun _ => t _ _ (by omega)) (fun _ => t _ _ (by omega)) (fun _ => t _ _ (by omega))) ⟨?_, ?_⟩ ?_ ?_, e0⟩
  · rw [c _ _ (fun q => by unfold fl at q; omega)]; exact jM j hj
  · rw [t _ _ (by omega), c _ _ (by omega)]; exact jP.1
  · rw [c _ _ (by omega)]
    rcases jP.2 with q | ⟨q, w⟩
    · exact Or.inl q
    · exact Or.inr ⟨q, w.of (fun a b h1 h2 => c a b (by omega)) (t _ _ (by omega)) (t _ _ (by omega)) (t _ _ (by omega)) (t _ _ (by omega)) (fun _ => t _ _ (by omega)) (fun _ => t _ _ (by omega)) (fun _ => t _ _ (by omega))⟩
  · obtain ⟨l, l1, l2, l3, l4⟩ := jT
    refine ⟨l, l1, by rw [c _ _ (by omega)]; exact l2, by rw [t _ _ (by omega)]; exact l3, fun i hi => ?_⟩
    rw [c _ _ (by omega), t _ _ (by omega)]; exact l4 i hi
  · obtain ⟨f0, f1, f2, f3⟩ := jF
    rcases (by omega : k = 0 ∨ k = 1 ∨ k = 2) with rfl | rfl | rfl
    · exact ⟨by rw [t _ _ (by omega), c _ _ (by omega)]; exact f0, by rw [sI_eq, sI_eq, f1], by rw [sI_nf (by omega), sI_nf (by omega)]; exact f2, by rw [sI_nf (by omega), sI_nf (by omega)]; exact f3⟩
    · exact ⟨by rw [t _ _ (by omega), c _ _ (by omega)]; exact f0, by rw [sI_nf (by omega), sI_nf (by omega)]; exact f1, by rw [sI_eq, sI_eq, f2], by rw [sI_nf (by omega), sI_nf (by omega)]; exact f3⟩
    · exact ⟨by rw [t _ _ (by omega), c _ _ (by omega)]; exact f0, by rw [sI_nf (by omega), sI_nf (by omega)]; exact f1, by rw [sI_nf (by omega), sI_nf (by omega)]; exact f2, by rw [sI_eq, sI_eq, f3]⟩
theorem refuses_eq {k : Nat} {τ : Sg} {x : Int32} (hx : nI k = x) (hk : k < 3) : f_X11_refuses x τ = some (-1, sI τ 63 k (τ.1 63 k + 1)) := by
  subst hx
  rw [f_X11_refuses, ex_gd (inb_nI hk (by omega)), ex_dI, ex_gd (inb_nI hk (by omega)), ex_pI, nI_clamp (show k < 2 ^ 31 by omega), ex_rt]
theorem ok_jumper {g n s e m : Nat} {σ τ : Sg} (J : Jr g n s e m σ τ) (x y : Int32) : OkX (f_X10_jumper x y) (f_X11_jumper x y) cN σ τ := by
  obtain ⟨J0, t0⟩ := thr0 J
  have hn4 := J.1.2.1
  have hnC := J.2.2.1.1
  have hnM : (sI τ 56 0 0).1 56 6 = nI n := J0.1.2.2.1
  rcases jumper_cases x hn4 with ⟨j, hj, rfl⟩ | hx
  · rcases what_cases y (M := 5) (y := 5) rfl (by omega) with ⟨k, hk, rfl⟩ | hy
    · have b1 : ¬ nI k < 0 := nI_pos (by omega)
      have b2 : ¬ (6 : Int32) ≤ nI k := fun q => by
        have := (nI_leL (x := 6) (k := 6) rfl (by omega) (by omega)).mp q; omega
      have v := J0.2.2.1.2.1 j hj k (by omega)
      have ej : 6 * nI j + nI k = nI (6 * j + k) := by rw [nI_mulL (x := 6) (k := 6) rfl, nI_add]
      refine ⟨.inl (σ.1 3 (6 * j + k)), σ, _, sI τ 56 0 0, ?_, ?_, ⟨t0, rfl⟩, g, n, s, e, m, J0⟩
      · rw [f_X10_jumper, ex_cl (isJC_t hnC hj hn4), ex_bf l1_0, ex_bf b1, ex_bf b2, f_X10_jumper_b23, ex_xv need1, ex_cl (told_eq (j := j) (k := k) rfl (by omega) (by omega)), ex_rtX]
      · rw [f_X11_jumper, ex_pI, ex_cl (isJM_t t0 hnM hj hn4), ex_bf l1_0, ex_cl (isWhat_t (M := 5) (y := 5) rfl t0 hk (by omega)), ex_bf l1_0, ej, ex_gd (inb_nI (show 6 * j + k < 24 by omega) (by omega)), ex_dI, nI_clamp (show 6 * j + k < 2 ^ 31 by omega), v, ex_rt]
    · refine ok_thr J false 0 (y := 1) ?_ ?_ rfl
      · rw [f_X10_jumper, ex_cl (isJC_t hnC hj hn4), ex_bf l1_0]
        rcases hy with q | ⟨q1, q2⟩
        · rw [ex_bt q, f_X10_jumper_b22, f_X10_jumper_b23, ex_xt need0]
        · have q3 : (6 : Int32) ≤ y := by
            obtain ⟨z, z1, rfl⟩ := nI_of q1
            exact (nI_leL (x := 6) (k := 6) rfl (by omega) z1).mpr ((nI_ltL (x := 5) (k := 5) rfl (by omega) z1).mp q2)
          rw [ex_bf q1, ex_bt q3, f_X10_jumper_b22, f_X10_jumper_b23, ex_xt need0]
      · rw [f_X11_jumper, ex_pI, ex_cl (isJM_t t0 hnM hj hn4), ex_bf l1_0, ex_cl (isWhat_f t0 hy), ex_bt rfl, ex_rt]
  · refine ok_thr J false 0 (y := 1) ?_ ?_ rfl
    · rw [f_X10_jumper, ex_cl (isJC_f hnC hx), ex_bt rfl, f_X10_jumper_b22, f_X10_jumper_b23, ex_xt need0]
    · rw [f_X11_jumper, ex_pI, ex_cl (isJM_f t0 hnM hx), ex_bt rfl, ex_rt]
theorem ok_count {g n s e m : Nat} {σ τ : Sg} (J : Jr g n s e m σ τ) (x : Int32) : OkX (f_X10_count x) (f_X11_count x) cN σ τ := by
  obtain ⟨J0, t0⟩ := thr0 J
  obtain ⟨jG, jR, ⟨s1, s2, s3, s4, ⟨N, -, -, n3, n4⟩, ⟨a, -, a1, a2, -⟩, ⟨p, -, p1, p2, -⟩⟩, jP, ⟨l, -, l1, l2, -⟩, ⟨f0, f1, f2, f3⟩, jM, jO, ⟨u0, u, -, u1, u2, -⟩, ⟨x1, x2, x3, -, -, -, -, y1, y2, y3, z1, z2, z3⟩⟩ := id J0
  obtain ⟨gG, -, g6, ⟨-, -, g0, h1⟩, ⟨h2, h3, h4, h5⟩, -⟩ := jG
  have hO := jO.1
  rcases what_cases x (M := 18) (y := 18) rfl (by omega) with ⟨k, hk, rfl⟩ | hx
  · have b1 : ¬ nI k < 0 := nI_pos (by omega)
    have b2 : ¬ (18 : Int32) < nI k := fun q => by
      have := (nI_ltL (x := 18) (k := 18) rfl (by omega) (by omega)).mp q; omega
    have wi : f_X11_within (nI k) 0 18 (sI τ 56 0 0) = some (1, sI τ 56 0 0) := by rw [f_X11_within, ex_bf b1, ex_bf b2, ex_rt]
    have fin : ∀ v, (br (9 < nI k) (cl (f_X10_countNow (nI k)) (fun r2 => rtX r2)) (cl (f_X10_countTold (nI k)) (fun r3 => rtX r3))) σ = some (.inl v, σ) → (br (nI k = 0) (dI 56 1 (fun v5 => rt v5)) (br (nI k = 1) (dI 56 2 (fun v7 => rt v7)) (br (nI k = 2) (dI 56 3 (fun v9 => rt v9)) (br (nI k = 3) (dI 56 4 (fun v11 => rt v11)) (br (nI k = 4) (dI 56 5 (fun v13 => rt v13)) (br (nI k = 5) (gd (inb (nI k - 5) 3 = true) (dI 57 (nI k - 5).toNatClampNeg (fun v15 => rt v15))) (br (nI k = 6) (gd (inb (nI k - 5) 3 = true) (dI 57 (nI k - 5).toNatClampNeg (fun v17 => rt v17))) (br (nI k = 7) (gd (inb (nI k - 5) 3 = true) (dI 57 (nI k - 5).toNatClampNeg (fun v19 => rt v19))) (br (nI k = 8) (dI 56 6 (fun v21 => rt v21)) (br (nI k = 9) (dI 56 7 (fun v23 => rt v23)) (br (nI k = 10) (dI 56 46 (fun v25 => rt v25)) (br (nI k = 11) (dI 56 47 (fun v27 => rt v27)) (br (nI k = 12) (dI 56 8 (fun v29 => rt v29)) (br (nI k = 13) (dI 56 48 (fun v31 => rt v31)) (br (nI k = 14) (dI 56 80 (fun v33 => rt v33)) (br (nI k = 15) (dI 56 15 (fun v35 => rt v35)) (gd (inb (nI k - 16) 3 = true) (dI 63 (nI k - 16).toNatClampNeg (fun v36 => rt v36))))))))))))))))))) (sI τ 56 0 0) = some (v, sI τ 56 0 0) → OkX (f_X10_count (nI k)) (f_X11_count (nI k)) cN σ τ := fun v e1 e2 =>
      ⟨.inl v, σ, v, sI τ 56 0 0, by rw [f_X10_count, ex_bf b1, ex_bf b2, f_X10_count_b15, ex_xv need1]; exact e1, by rw [f_X11_count, ex_pI, ex_cl wi, ex_cl (right1 t0), ex_bf l1_0]; exact e2, ⟨t0, rfl⟩, g, n, s, e, m, J0⟩
    have tl : ∀ {v}, f_X10_countTold (nI k) σ = some (v, σ) → ¬ (9 : Int32) < nI k → (br (9 < nI k) (cl (f_X10_countNow (nI k)) (fun r2 => rtX r2)) (cl (f_X10_countTold (nI k)) (fun r3 => rtX r3))) σ = some (.inl v, σ) := fun h1 h2 => by rw [ex_bf h2, ex_cl h1, ex_rtX]
    have tn : ∀ {v}, f_X10_countNow (nI k) σ = some (v, σ) → (9 : Int32) < nI k → (br (9 < nI k) (cl (f_X10_countNow (nI k)) (fun r2 => rtX r2)) (cl (f_X10_countTold (nI k)) (fun r3 => rtX r3))) σ = some (.inl v, σ) := fun h1 h2 => by rw [ex_bt h2, ex_cl h1, ex_rtX]
    rcases (by omega : k = 0 ∨ k = 1 ∨ k = 2 ∨ k = 3 ∨ k = 4 ∨ k = 5 ∨ k = 6 ∨ k = 7 ∨ k = 8 ∨ k = 9 ∨ k = 10 ∨ k = 11 ∨ k = 12 ∨ k = 13 ∨ k = 14 ∨ k = 15 ∨ k = 16 ∨ k = 17 ∨ k = 18) with rfl | rfl | rfl | rfl | rfl | rfl | rfl | rfl | rfl | rfl | rfl | rfl | rfl | rfl | rfl | rfl | rfl | rfl | rfl
    · exact fin (σ.1 g 0) (tl (by rw [f_X10_countTold, ex_bt (show nI 0 = 0 from rfl), ex_dR, hO, ex_gd gG, ex_dI, ex_rt]) (by decide)) (by rw [ex_bt (show nI 0 = 0 from rfl), ex_dI, h1, g0, ex_rt])
    · exact fin (σ.1 g 1) (tl (by rw [f_X10_countTold, ex_bf (by decide), ex_bt (show nI 1 = 1 from rfl), ex_dR, hO, ex_gd gG, ex_dI, ex_rt]) (by decide)) (by rw [ex_bf (by decide), ex_bt (show nI 1 = 1 from rfl), ex_dI, h2, ex_rt])
    · exact fin (σ.1 g 2) (tl (by rw [f_X10_countTold, ex_bf (by decide), ex_bf (by decide), ex_bt (show nI 2 = 2 from rfl), ex_dR, hO, ex_gd gG, ex_dI, ex_rt]) (by decide)) (by rw [ex_bf (by decide), ex_bf (by decide), ex_bt (show nI 2 = 2 from rfl), ex_dI, h3, ex_rt])
    · exact fin (σ.1 g 3) (tl (by rw [f_X10_countTold, ex_bf (by decide), ex_bf (by decide), ex_bf (by decide), ex_bt (show nI 3 = 3 from rfl), ex_dR, hO, ex_gd gG, ex_dI, ex_rt]) (by decide)) (by rw [ex_bf (by decide), ex_bf (by decide), ex_bf (by decide), ex_bt (show nI 3 = 3 from rfl), ex_dI, h4, ex_rt])
    · exact fin (σ.1 g 4) (tl (by rw [f_X10_countTold, ex_bf (by decide), ex_bf (by decide), ex_bf (by decide), ex_bf (by decide), ex_bt (show nI 4 = 4 from rfl), ex_dR, hO, ex_gd gG, ex_dI, ex_rt]) (by decide)) (by rw [ex_bf (by decide), ex_bf (by decide), ex_bf (by decide), ex_bf (by decide), ex_bt (show nI 4 = 4 from rfl), ex_dI, h5, ex_rt])
    · exact fin (σ.1 g 5) (tl (by rw [f_X10_countTold, ex_bf (by decide), ex_bf (by decide), ex_bf (by decide), ex_bf (by decide), ex_bf (by decide), ex_bt (show nI 5 = 5 from rfl), ex_dR, hO, ex_gd gG, ex_dI, ex_rt]) (by decide)) (by rw [ex_bf (by decide), ex_bf (by decide), ex_bf (by decide), ex_bf (by decide), ex_bf (by decide), ex_bt (show nI 5 = 5 from rfl), ex_gd (by decide), ex_dI, show (nI 5 - 5).toNatClampNeg = 0 by decide, z1, y1, ex_rt])
    · exact fin (σ.1 g 6) (tl (by rw [f_X10_countTold, ex_bf (by decide), ex_bf (by decide), ex_bf (by decide), ex_bf (by decide), ex_bf (by decide), ex_bf (by decide), ex_bt (show nI 6 = 6 from rfl), ex_dR, hO, ex_gd gG, ex_dI, ex_rt]) (by decide)) (by rw [ex_bf (by decide), ex_bf (by decide), ex_bf (by decide), ex_bf (by decide), ex_bf (by decide), ex_bf (by decide), ex_bt (show nI 6 = 6 from rfl), ex_gd (by decide), ex_dI, show (nI 6 - 5).toNatClampNeg = 1 by decide, z2, y2, ex_rt])
    · exact fin (σ.1 g 7) (tl (by rw [f_X10_countTold, ex_bf (by decide), ex_bf (by decide), ex_bf (by decide), ex_bf (by decide), ex_bf (by decide), ex_bf (by decide), ex_bf (by decide), ex_bt (show nI 7 = 7 from rfl), ex_dR, hO, ex_gd gG, ex_dI, ex_rt]) (by decide)) (by rw [ex_bf (by decide), ex_bf (by decide), ex_bf (by decide), ex_bf (by decide), ex_bf (by decide), ex_bf (by decide), ex_bf (by decide), ex_bt (show nI 7 = 7 from rfl), ex_gd (by decide), ex_dI, show (nI 7 - 5).toNatClampNeg = 2 by decide, z3, y3, ex_rt])
    · exact fin (σ.1 g 9) (tl (by rw [f_X10_countTold, ex_bf (by decide), ex_bf (by decide), ex_bf (by decide), ex_bf (by decide), ex_bf (by decide), ex_bf (by decide), ex_bf (by decide), ex_bf (by decide), ex_bt (show nI 8 = 8 from rfl), ex_dR, hO, ex_gd gG, ex_dI, ex_rt]) (by decide)) (by rw [ex_bf (by decide), ex_bf (by decide), ex_bf (by decide), ex_bf (by decide), ex_bf (by decide), ex_bf (by decide), ex_bf (by decide), ex_bf (by decide), ex_bt (show nI 8 = 8 from rfl), ex_dI, g6, u0, ex_rt])
    · exact fin (σ.1 (g + 3) 4) (tl (by rw [f_X10_countTold, ex_bf (by decide), ex_bf (by decide), ex_bf (by decide), ex_bf (by decide), ex_bf (by decide), ex_bf (by decide), ex_bf (by decide), ex_bf (by decide), ex_bf (by decide), ex_dR, hO, ex_gd gG, ex_dI, ex_rt]) (by decide)) (by rw [ex_bf (by decide), ex_bf (by decide), ex_bf (by decide), ex_bf (by decide), ex_bf (by decide), ex_bf (by decide), ex_bf (by decide), ex_bf (by decide), ex_bf (by decide), ex_bt (show nI 9 = 9 from rfl), ex_dI, jR.2.2.1, jR.2.1, ex_rt])
    · exact fin (σ.1 2 2) (tn (by rw [f_X10_countNow, ex_bt (show nI 10 = 10 from rfl), ex_dI, ex_rt]) (by decide)) (by rw [ex_bf (by decide), ex_bf (by decide), ex_bf (by decide), ex_bf (by decide), ex_bf (by decide), ex_bf (by decide), ex_bf (by decide), ex_bf (by decide), ex_bf (by decide), ex_bf (by decide), ex_bt (show nI 10 = 10 from rfl), ex_dI, s4.1, ex_rt])
    · exact fin (σ.1 2 3) (tn (by rw [f_X10_countNow, ex_bf (by decide), ex_bt (show nI 11 = 11 from rfl), ex_dI, ex_rt]) (by decide)) (by rw [ex_bf (by decide), ex_bf (by decide), ex_bf (by decide), ex_bf (by decide), ex_bf (by decide), ex_bf (by decide), ex_bf (by decide), ex_bf (by decide), ex_bf (by decide), ex_bf (by decide), ex_bf (by decide), ex_bt (show nI 11 = 11 from rfl), ex_dI, n4, n3, ex_rt])
    · exact fin (σ.1 g 11) (tn (by rw [f_X10_countNow, ex_bf (by decide), ex_bf (by decide), ex_bt (show nI 12 = 12 from rfl), ex_dR, hO, ex_gd gG, ex_dI, ex_rt]) (by decide)) (by rw [ex_bf (by decide), ex_bf (by decide), ex_bf (by decide), ex_bf (by decide), ex_bf (by decide), ex_bf (by decide), ex_bf (by decide), ex_bf (by decide), ex_bf (by decide), ex_bf (by decide), ex_bf (by decide), ex_bf (by decide), ex_bt (show nI 12 = 12 from rfl), ex_dI, u2, u1, ex_rt])
    · exact fin (σ.1 2 7) (tn (by rw [f_X10_countNow, ex_bf (by decide), ex_bf (by decide), ex_bf (by decide), ex_bt (show nI 13 = 13 from rfl), ex_dI, ex_rt]) (by decide)) (by rw [ex_bf (by decide), ex_bf (by decide), ex_bf (by decide), ex_bf (by decide), ex_bf (by decide), ex_bf (by decide), ex_bf (by decide), ex_bf (by decide), ex_bf (by decide), ex_bf (by decide), ex_bf (by decide), ex_bf (by decide), ex_bf (by decide), ex_bt (show nI 13 = 13 from rfl), ex_dI, a2, a1, ex_rt])
    · exact fin (σ.1 2 9) (tn (by rw [f_X10_countNow, ex_bf (by decide), ex_bf (by decide), ex_bf (by decide), ex_bf (by decide), ex_bt (show nI 14 = 14 from rfl), ex_dI, ex_rt]) (by decide)) (by rw [ex_bf (by decide), ex_bf (by decide), ex_bf (by decide), ex_bf (by decide), ex_bf (by decide), ex_bf (by decide), ex_bf (by decide), ex_bf (by decide), ex_bf (by decide), ex_bf (by decide), ex_bf (by decide), ex_bf (by decide), ex_bf (by decide), ex_bf (by decide), ex_bt (show nI 14 = 14 from rfl), ex_dI, p2, p1, ex_rt])
    · exact fin (σ.1 0 1) (tn (by rw [f_X10_countNow, ex_bf (by decide), ex_bf (by decide), ex_bf (by decide), ex_bf (by decide), ex_bf (by decide), ex_bt (show nI 15 = 15 from rfl), ex_dI, ex_rt]) (by decide)) (by rw [ex_bf (by decide), ex_bf (by decide), ex_bf (by decide), ex_bf (by decide), ex_bf (by decide), ex_bf (by decide), ex_bf (by decide), ex_bf (by decide), ex_bf (by decide), ex_bf (by decide), ex_bf (by decide), ex_bf (by decide), ex_bf (by decide), ex_bf (by decide), ex_bf (by decide), ex_bt (show nI 15 = 15 from rfl), ex_dI, l2, l1, ex_rt])
    · exact fin (σ.1 0 3) (tn (by rw [f_X10_countNow, ex_bf (by decide), ex_bf (by decide), ex_bf (by decide), ex_bf (by decide), ex_bf (by decide), ex_bf (by decide), ex_bt (show nI 16 = 16 from rfl), ex_dI, ex_rt]) (by decide)) (by rw [ex_bf (by decide), ex_bf (by decide), ex_bf (by decide), ex_bf (by decide), ex_bf (by decide), ex_bf (by decide), ex_bf (by decide), ex_bf (by decide), ex_bf (by decide), ex_bf (by decide), ex_bf (by decide), ex_bf (by decide), ex_bf (by decide), ex_bf (by decide), ex_bf (by decide), ex_bf (by decide), ex_gd (by decide), ex_dI, show (nI 16 - 16).toNatClampNeg = 0 by decide, f1, ex_rt])
    · exact fin (σ.1 0 4) (tn (by rw [f_X10_countNow, ex_bf (by decide), ex_bf (by decide), ex_bf (by decide), ex_bf (by decide), ex_bf (by decide), ex_bf (by decide), ex_bf (by decide), ex_bt (show nI 17 = 17 from rfl), ex_dI, ex_rt]) (by decide)) (by rw [ex_bf (by decide), ex_bf (by decide), ex_bf (by decide), ex_bf (by decide), ex_bf (by decide), ex_bf (by decide), ex_bf (by decide), ex_bf (by decide), ex_bf (by decide), ex_bf (by decide), ex_bf (by decide), ex_bf (by decide), ex_bf (by decide), ex_bf (by decide), ex_bf (by decide), ex_bf (by decide), ex_gd (by decide), ex_dI, show (nI 17 - 16).toNatClampNeg = 1 by decide, f2, ex_rt])
    · exact fin (σ.1 0 5) (tn (by rw [f_X10_countNow, ex_bf (by decide), ex_bf (by decide), ex_bf (by decide), ex_bf (by decide), ex_bf (by decide), ex_bf (by decide), ex_bf (by decide), ex_bf (by decide), ex_dI, ex_rt]) (by decide)) (by rw [ex_bf (by decide), ex_bf (by decide), ex_bf (by decide), ex_bf (by decide), ex_bf (by decide), ex_bf (by decide), ex_bf (by decide), ex_bf (by decide), ex_bf (by decide), ex_bf (by decide), ex_bf (by decide), ex_bf (by decide), ex_bf (by decide), ex_bf (by decide), ex_bf (by decide), ex_bf (by decide), ex_gd (by decide), ex_dI, show (nI 18 - 16).toNatClampNeg = 2 by decide, f3, ex_rt])
  · have wi : f_X11_within x 0 18 (sI τ 56 0 0) = some (0, sI τ 56 0 0) := by
      rcases hx with q | ⟨q1, q2⟩
      · rw [f_X11_within, ex_bt q, ex_rt]
      · rw [f_X11_within, ex_bf q1, ex_bt q2, ex_rt]
    refine ok_thr J false 0 (y := 1) ?_ ?_ rfl
    · rcases hx with q | ⟨q1, q2⟩
      · rw [f_X10_count, ex_bt q, f_X10_count_b14, f_X10_count_b15, ex_xt need0]
      · rw [f_X10_count, ex_bf q1, ex_bt q2, f_X10_count_b14, f_X10_count_b15, ex_xt need0]
    · rw [f_X11_count, ex_pI, ex_cl wi, ex_cl (right0 t0 l1_0), ex_bt rfl, ex_rt]
