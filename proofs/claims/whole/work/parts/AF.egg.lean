-- ===== the line of the egg =====
theorem GN.push {g nj e z q v : Nat} {σ τ : Sg} (G : GN g nj e z σ τ) (hq : q < 8) (h11 : σ.1 g 11 = nI q) (hv : 1 ≤ v ∧ v ≤ 99) : GN g nj e z (sI (sI σ (g + 2) q (nI v)) g 11 (nI (q + 1))) (sI (sI τ 67 q (nI v)) 56 34 (nI (q + 1))) := by
  obtain ⟨G1, G2, G3, G4, G5, G6, G7, G8, G9⟩ := G
  unfold GN
  have c : ∀ b, ¬ b = 11 → (sI (sI σ (g + 2) q (nI v)) g 11 (nI (q + 1))).1 g b = σ.1 g b := fun b hb => by rw [sI_nf hb, sI_ne (by omega)]
  have t : ∀ b, ¬ b = 34 → (sI (sI τ 67 q (nI v)) 56 34 (nI (q + 1))).1 56 b = τ.1 56 b := fun b hb => by rw [sI_nf hb, sI_ne (by omega)]
  have t64 : ∀ b, (sI (sI τ 67 q (nI v)) 56 34 (nI (q + 1))).1 64 b = τ.1 64 b := fun b => by rw [sI_ne (by omega), sI_ne (by omega)]
  have c1 : (sI (sI σ (g + 2) q (nI v)) g 11 (nI (q + 1))).1 (g + 1) = σ.1 (g + 1) := by rw [sI_row (by omega), sI_row (by omega)]
  have t5 : (sI (sI τ 67 q (nI v)) 56 34 (nI (q + 1))).1 65 = τ.1 65 := by rw [sI_row (by omega), sI_row (by omega)]
  rw [c 9 (by omega), c 0 (by omega), c 1 (by omega), c 2 (by omega), c 3 (by omega), c 4 (by omega), c 5 (by omega), c 6 (by omega), c 7 (by omega), t 32 (by omega), t 27 (by omega), t 28 (by omega), t 29 (by omega), t 30 (by omega), t 31 (by omega), t64, t64, t64, c1, t5]
  refine ⟨G1, G2, G3, G4, G5, G6, G7, G8, ?_⟩
  obtain ⟨p, p8, p1, p2, p3⟩ := G9
  have : p = q := nI_inj (by omega) (by omega) (p1.symm.trans h11)
  subst this
  refine ⟨p + 1, by omega, sI_eq, sI_eq, fun i hi => ?_⟩
  rw [sI_ne (show ¬ g + 2 = g by omega), sI_ne (show ¬ (67 : Nat) = 56 by omega)]
  by_cases y : i = p
  · subst y
    rw [sI_eq, sI_eq]
    exact ⟨v, hv.1, hv.2, rfl, rfl⟩
  · rw [sI_nf y, sI_nf y]
    exact p3 i (by omega)
theorem egg_loop {B : Nat → Nat} {n g nj e m a0 k0 u p0 : Nat} (hn : n ≤ 600) (hB : ∀ i, i < n → B i < 256) (hg : isGd g = true) : ∀ (w p fu fm i : Nat) (σ τ : Sg), n - p ≤ w → p ≤ n → p0 < p → n - p < fu → n - p < fm → i + (n - p) < 600 → a0 ≤ p → k0 ≤ 2 * p + 9 → LN B n g nj e 1 m a0 k0 u p σ τ → LR B n g p0 (f_X8_tellEgg_b13 fu (nI i) σ) ((cl (f_X11_readsEgg_b10 fm) (fun _ => f_X11_line_b292)) τ) := by
  intro w
  induction w with
  | zero =>
    intro p fu fm i σ τ hw hp h0 hfu hfm hi ha hk N
    obtain ⟨fu, rfl⟩ : ∃ k, fu = k + 1 := ⟨fu - 1, by omega⟩
    obtain ⟨fm, rfl⟩ : ∃ k, fm = k + 1 := ⟨fm - 1, by omega⟩
    have tk := tok_at (B := B) hp
    have k7 : ¬ tK B n p = 257 := fun q => by have := tk.2.2.2.2.1 (by omega); omega
    have em : f_X11_readsEgg_b10 (fm + 1) τ = some ((), τ) := by rw [f_X11_readsEgg_b10, ex_cl (good1 N.1.2.2.2), ex_bf l1_0, ex_dI, ex_bf (fun q => k7 (N.1.2.1.sort.1.mp q)), ex_rt]
    rw [f_X8_tellEgg_b13, ex_bf (le600 (show i < 600 by omega) (Nat.le_refl _)), ex_dI, ex_bf (fun q => k7 ((N.1.1.kind (k := 257) (x := 257) rfl (by omega)).mp q)), ex_rt, ex_cl em]
    exact Or.inl ⟨_, _, nj, e, m, a0, k0, u, p, rfl, rfl, N, h0, hp, ha, hk⟩
  | succ w ih =>
    intro p fu fm i σ τ hw hp h0 hfu hfm hi ha hk N
    obtain ⟨fu, rfl⟩ : ∃ k, fu = k + 1 := ⟨fu - 1, by omega⟩
    obtain ⟨fm, rfl⟩ : ∃ k, fm = k + 1 := ⟨fm - 1, by omega⟩
    have tk := tok_at (B := B) hp
    obtain ⟨q, q8, q1, q2, q3⟩ := N.2.1.2.2.2.2.2.2.2.2
    rw [f_X8_tellEgg_b13, ex_bf (le600 (show i < 600 by omega) (Nat.le_refl _)), ex_dI]
    by_cases k7 : tK B n p = 257
    · rw [ex_bt ((N.1.1.kind (k := 257) (x := 257) rfl (by omega)).mpr k7), ex_dR, N.1.2.2.1, ex_gd hg, ex_dI, q1]
      by_cases z : q < 8
      · rw [ex_bt ((nI_ltR (x := 8) (k := 8) rfl (by omega) (by omega)).mpr z)]
        have m0 : f_X11_readsEgg_b10 (fm + 1) τ = f_X11_readsEgg_b39 (f_X11_readsEgg_b10 fm) τ := by
          rw [f_X11_readsEgg_b10, ex_cl (good1 N.1.2.2.2), ex_bf l1_0, ex_dI, ex_bt (N.1.2.1.sort.1.mpr k7), ex_dI, q2, ex_bf (fun y => by have := (nI_eqL (x := 8) (k := 8) rfl (by omega) (by omega)).mp y; omega)]
        rcases num_rel (lo := 1) (hi := 99) (x1 := 1) (x2 := 99) hn hB hp N.1 rfl rfl (by omega) (by omega) with ⟨σ2, τ2, v, p2, d1, d2, L2, d3, d4, d5, d6, d7, d8⟩ | ⟨σ2, τ2, v, d1, d2, d3⟩
        · have N2 := N.sm hg L2 d6
          have e11 : σ2.1 g 11 = nI q := by rw [d6.1 _ _ (gd_0 hg (by omega)) (fun y => gd_0 hg (by omega) y.1)]; exact q1
          have e34 : τ2.1 56 34 = nI q := by rw [d6.2.2 _ _ (by omega)]; exact q2
          have ap : f_X2_addPush g (nI v) σ2 = some ((), sI (sI σ2 (g + 2) q (nI v)) g 11 (nI (q + 1))) := by
            rw [f_X2_addPush, ex_gd hg, ex_dI, e11, ex_bf (nI_pos (by omega)), ex_dI, e11, ex_bf (fun y => by have := (nI_leL (x := 8) (k := 8) rfl (by omega) (by omega)).mp y; omega), ex_dI, e11, ex_gd (inb_nI z (by omega)), ex_pI, nI_clamp (show q < 2 ^ 31 by omega), ex_dI, sI_ne (by omega), e11, ex_pI, nI_1, ex_rt]
          have N3 : LN B n g nj e 1 m a0 k0 u p2 (sI (sI σ2 (g + 2) q (nI v)) g 11 (nI (q + 1))) (sI (sI τ2 67 q (nI v)) 56 34 (nI (q + 1))) := by
            obtain ⟨⟨K, M, r, h0⟩, G, R, s0, s1, s2⟩ := N2
            have ne : ∀ c, c < 35 → ¬ c = g + 2 := fun c hc y => gd_ne (d := 2) hg (by omega) hc y.symm
            have ne0 : ∀ c, c < 35 → ¬ c = g := fun c hc y => gd_0 hg hc y.symm
            have t : ∀ {c x : Nat}, ¬ (c = 67) → ¬ (c = 56 ∧ x = 34) → (sI (sI τ2 67 q (nI v)) 56 34 (nI (q + 1))).1 c x = τ2.1 c x := fun h1 h2 => by rw [sI_gt, if_neg h2, sI_ne h1]
            exact ⟨⟨K.of (fun b => by rw [sI_ne (ne0 15 (by omega)), sI_ne (ne 15 (by omega))]) rfl (fun b => by rw [sI_ne (ne0 1 (by omega)), sI_ne (ne 1 (by omega))]), M.of (fun b _ _ => t (by omega) (by omega)) (fun b => t (by omega) (by omega)) rfl, r, (t (by omega) (by omega)).trans h0⟩, G.push z e11 ⟨d4, d5⟩, R.of (fun d' b h1 h2 => by rw [sI_ne (by omega), sI_ne (by omega)]) (t (by omega) (by omega)) (t (by omega) (by omega)) (fun b => t (by omega) (by omega)) (fun b => t (by omega) (by omega)), s0, by rw [sI_ne (ne0 14 (by omega)), sI_ne (ne 14 (by omega))]; exact s1, (t (by omega) (by omega)).trans s2⟩
          have i' := ih p2 fu fm (i + 1) _ _ (by omega) d8 (by omega) (by omega) (by omega) (by omega) (by omega) (by omega) N3
          have m1 : (cl (f_X11_readsEgg_b10 (fm + 1)) (fun _ => f_X11_line_b292)) τ = (cl (f_X11_readsEgg_b10 fm) (fun _ => f_X11_line_b292)) (sI (sI τ2 67 q (nI v)) 56 34 (nI (q + 1))) := by
            rw [cl, cl, m0, f_X11_readsEgg_b39, ex_cl d2, ex_cl (good1 L2.2.2.2), ex_bf l1_0, ex_dI, e34, ex_gd (inb_nI z (by omega)), ex_pI, nI_clamp (show q < 2 ^ 31 by omega), ex_dI, sI_ne (by omega), e34, ex_pI, nI_1]
          rw [ex_cl d1, ex_bf l1_0, ex_dR, L2.2.2.1, ex_gd hg, ex_dI, d3, ex_cl ap, nI_1, m1]
          exact i'
        · have em : f_X11_readsEgg_b10 (fm + 1) τ = some ((), τ2) := by rw [m0, f_X11_readsEgg_b39, ex_cl d2, ex_cl (good0 d3.bad), ex_bt rfl, ex_rt]
          rw [ex_cl d1, ex_bt rfl, ex_rt, ex_cl em]
          exact Or.inr ⟨_, _, rfl, b292_bad d3.bad, d3⟩
      · have e8 : q = 8 := by omega
        subst e8
        have bd := Bd.fw N.1.1 N.1.2.1 l2_0
        have em : f_X11_readsEgg_b10 (fm + 1) τ = some ((), wrS 2 τ) := by
          rw [f_X11_readsEgg_b10, ex_cl (good1 N.1.2.2.2), ex_bf l1_0, ex_dI, ex_bt (N.1.2.1.sort.1.mpr k7), ex_dI, q2, ex_bt (by decide), ex_cl (wrong1 N.1.2.2.2), ← wrS, f_X11_readsEgg_b39, ex_cl (num_bad bd.bad), ex_cl (good0 bd.bad), ex_bt rfl, ex_rt]
        rw [ex_bf (by decide), f_X8_tellEgg_b45, faC, ex_cl em]
        exact Or.inr ⟨_, _, rfl, b292_bad bd.bad, bd⟩
    · have em : f_X11_readsEgg_b10 (fm + 1) τ = some ((), τ) := by rw [f_X11_readsEgg_b10, ex_cl (good1 N.1.2.2.2), ex_bf l1_0, ex_dI, ex_bf (fun q => k7 (N.1.2.1.sort.1.mp q)), ex_rt]
      rw [ex_bf (fun q => k7 ((N.1.1.kind (k := 257) (x := 257) rfl (by omega)).mp q)), ex_rt, ex_cl em]
      exact Or.inl ⟨_, _, nj, e, m, a0, k0, u, p, rfl, rfl, N, h0, hp, ha, hk⟩
theorem eggl_rel {B : Nat → Nat} {n g nj e m a0 k0 u p : Nat} {σ τ : Sg} (hn : n ≤ 600) (hB : ∀ i, i < n → B i < 256) (hg : isGd g = true) (hp : p ≤ n) (N : LN B n g nj e 1 m a0 k0 u p σ τ) (ha : a0 ≤ p) (hk : k0 ≤ 2 * p + 8) (h : tK B n p = 256 ∧ tW B n p = 12) : LR B n g p (f_X8_tellEgg σ) (f_X11_line τ) := by
  have kn := knownM hn hp N.1.2.1
  rw [if_pos ⟨h.1, by omega⟩, h.2] at kn
  have tk := tok_at (B := B) hp
  have l0 : f_X11_line τ = (cl (f_X11_readsEgg) (fun _ => f_X11_line_b292)) τ := by
    rw [f_X11_line, ex_cl kn, ex_bf (by decide), ex_bf (by decide), ex_bf (by decide), ex_bf (by decide), ex_bf (by decide), ex_bf (by decide), ex_bt (by decide)]
  rw [l0, f_X8_tellEgg]
  rcases once_rel (i := 4) (x := 16) (y := 12) hn hB hp (by omega) N.1 N.2.2.2 (by omega) rfl rfl with ⟨σ1, τ1, c1, c2, L1, S1, o1, o2, o3, q1⟩ | ⟨σ1, τ1, c1, c2, c3⟩
  · have N1 := N.once hg L1 S1 o1 o3
    have m1 : (cl (f_X11_readsEgg) (fun _ => f_X11_line_b292)) τ = (cl (f_X11_readsEgg_b10 FU) (fun _ => f_X11_line_b292)) τ1 := by
      rw [cl, cl, f_X11_readsEgg, ex_cl c2, ex_bf l1_0]
    rw [ex_cl c1, ex_bf l1_0, m1]
    exact egg_loop hn hB hg (n - tE B n p) (tE B n p) FU FU 0 σ1 τ1 (Nat.le_refl _) tk.2.2.2.1 q1 (by show _ < 8192; omega) (by show _ < 8192; omega) (by omega) (by omega) (by omega) N1
  · have em : f_X11_readsEgg τ = some ((), τ1) := by rw [f_X11_readsEgg, ex_cl c2, ex_bt rfl, ex_rt]
    rw [ex_cl c1, ex_bt rfl, ex_rt, ex_cl em]
    exact Or.inr ⟨_, _, rfl, b292_bad c3.bad, c3⟩
