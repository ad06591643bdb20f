-- ===== correct =====
theorem cor_loop {g n s e m h N : Nat} {x : Int32} (hx : ¬ (x < -(nI e) ∨ nI e < x)) (hh : h ≤ 60) (hN : N ≤ 12) : ∀ (d i fu fm j : Nat) (x5 : Int64) (σ τ : Sg), i + d = 10 → 1 ≤ i → j ≤ 9 → Jr g n s e m σ τ → Zw σ → ∃ v σ' τ', f_X10_correct_b19 (fu + d + 1) x (nI h) (nI N) (nI j) x5 (nI i) σ = some (.inl v, σ') ∧ f_X11_correct_b28 (fm + d + 1) x (nI h) (nI N) (nI j) x5 (nI i) τ = some (v, τ') ∧ Jr g n s e m σ' τ' ∧ Zw σ' ∧ τ'.1 56 0 = τ.1 56 0 := by
  intro d
  induction d with
  | zero =>
    intro i fu fm j x5 σ τ hi h1 hj J Z
    have : i = 10 := by omega
    subst this
    exact ⟨nI j, σ, τ, by rw [f_X10_correct_b19, ex_bt (by decide), ex_rtX], by rw [f_X11_correct_b28, ex_bt (by decide), ex_rt], J, Z, rfl⟩
  | succ d ih =>
    intro i fu fm j x5 σ τ hi h1 hj J Z
    have l9 : ¬ (9 : Int32) < nI i := fun q => by have := (nI_ltL (x := 9) (k := 9) rfl (by omega) (by omega)).mp q; omega
    obtain ⟨V, f, S, σ1, τ1, a1, a2, a3, a4, a5, a6, a7, a8⟩ := wan_rel (h := h) (q := i) (N := N) J Z hx hh (by omega) hN
    obtain ⟨w1, ⟨w2, w3⟩, -⟩ := id a3
    have i0 : ¬ nI i = 0 := nI_ne0 (by omega) (by omega)
    have j1 : ¬ nI j = -1 := neg1_ne (by omega)
    rw [show fu + (d + 1) + 1 = (fu + d + 1) + 1 by omega, show fm + (d + 1) + 1 = (fm + d + 1) + 1 by omega, f_X10_correct_b19, ex_bf l9, ex_dR, J.gd.2.1, ex_gd J.1.1, ex_cl a1, ex_bf i0, ex_dL, w2, f_X11_correct_b28, ex_bf l9, ex_cl a2, ex_bf j1, ex_dL, w3]
    have t56 : τ1.1 56 0 = τ.1 56 0 := by rw [a8]
    by_cases z : x5 ≤ zL f
    · have z' : ¬ zL f < x5 := fun q => Int64.lt_irrefl (Int64.lt_of_lt_of_le q z)
      rw [ex_bt ((lg_cmp_ge _ _).mpr z), ex_bf (fun q => z' ((lg_cmp_lt _ _).mp q)), f_X10_correct_b73, nI_1, f_X11_correct_b73, nI_1]
      obtain ⟨v, σ', τ', c1, c2, c3, c4, c5⟩ := ih (i + 1) fu fm j x5 σ1 τ1 (by omega) (by omega) hj a6 a3.z
      exact ⟨v, σ', τ', c1, c2, c3, c4, c5.trans t56⟩
    · have z' : zL f < x5 := Int64.not_le.mp z
      rw [ex_bf (fun q => z ((lg_cmp_ge _ _).mp q)), ex_bt ((lg_cmp_lt _ _).mpr z'), f_X10_correct_b60, ex_dL, w2, f_X10_correct_b73, nI_1, f_X11_correct_b63, ex_dL, w3, f_X11_correct_b73, nI_1]
      obtain ⟨v, σ', τ', c1, c2, c3, c4, c5⟩ := ih (i + 1) fu fm i (zL f) σ1 τ1 (by omega) (by omega) (by omega) a6 a3.z
      exact ⟨v, σ', τ', c1, c2, c3, c4, c5.trans t56⟩
theorem ok_correct {g n s e m : Nat} {σ τ : Sg} (J : Jr g n s e m σ τ) (Z : Zw σ) (x1 x2 x3 : Int32) : OkX (f_X10_correct x1 x2 x3) (f_X11_correct x1 x2 x3) cI σ τ ∧ Zp (f_X10_correct x1 x2 x3) σ := by
  obtain ⟨J0, t0⟩ := thr0 J
  have hO := J.gd.2.1
  have hG := J.1.1
  rcases wan_cases J0 t0 x1 x2 0 x3 l1_0 with ⟨h, q, N, hh, hq, hN, rfl, -, rfl, hx, m1, m2, m3⟩ | ⟨hm, m3⟩
  · obtain ⟨V, f, S, σ1, τ1, a1, a2, a3, a4, a5, a6, a7, a8⟩ := wan_rel (h := h) (q := 0) (N := N) J0 Z hx hh (by omega) hN
    obtain ⟨w1, ⟨w2, w3⟩, -⟩ := id a3
    have a1' : f_X9_go g x1 (nI h) 0 (nI N) σ = some ((), σ1) := a1
    have a2' : f_X11_wandersBy x1 (nI h) 0 (nI N) (sI τ 56 0 0) = some ((), τ1) := a2
    obtain ⟨v, σ', τ', c1, c2, c3, c4, c5⟩ := cor_loop (h := h) (N := N) hx hh hN 9 1 (8190 - 9) (8190 - 9) 0 (zL f) σ1 τ1 rfl (by omega) (by omega) a6 a3.z
    have fin : f_X10_correct x1 (nI h) (nI N) σ = some (.inl v, σ') := by
      rw [f_X10_correct, ex_cl m1, ex_xv dem1, show FU = (8190 - 9 + 9 + 1) + 1 from rfl, f_X10_correct_b19, ex_bf (by decide), ex_dR, hO, ex_gd hG, ex_cl a1', ex_bt rfl, f_X10_correct_b60, ex_dL, w2, f_X10_correct_b73]
      exact c1
    refine ⟨⟨.inl v, σ', v, τ', fin, ?_, ⟨by rw [c5, a8]; exact t0, rfl⟩, g, n, s, e, m, c3⟩, zp_of fin c4⟩
    rw [f_X11_correct, ex_pI, ex_cl m3, ex_bf l1_0, show FU = (8190 - 9 + 9 + 1) + 1 from rfl, f_X11_correct_b28, ex_bf (by decide), ex_cl a2', ex_bt rfl, f_X11_correct_b63, ex_dL, w3, f_X11_correct_b73]
    exact c2
  · have fin : f_X10_correct x1 x2 x3 σ = some (.inr true, σ) := by
      rcases hm with m1 | ⟨m1, m2⟩
      · rw [f_X10_correct, ex_cl m1, ex_xt dem0]
      · have : f_X10_isCorrects 0 σ = some (1, σ) := by rw [f_X10_isCorrects, ex_bf (by decide), ex_bf (by decide), ex_rt]
        rw [this] at m2
        cases m2
    refine ⟨ok_thr J true 0 (y := 1) fin ?_ rfl, zp_of fin Z⟩
    rw [f_X11_correct, ex_pI, ex_cl m3, ex_bt rfl, ex_rt]
