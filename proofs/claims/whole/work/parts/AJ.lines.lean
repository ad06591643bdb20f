-- ===== a line, both; all lines =====
theorem LR.wrap {B : Nat → Nat} {n g p : Nat} {f : Sg → Option (Int32 × Sg)} {σ : Sg} {t : Option (Unit × Sg)} (h : LR B n g p (f σ) t) : LR B n g p ((cl f (fun r => gd (r = 0 ∨ r = 1) (rt r))) σ) t := by
  rcases h with ⟨σ', τ', nj, e, m, a0, k0, u, p', h1, h2⟩ | ⟨σ', τ', h1, h2⟩
  · exact Or.inl ⟨σ', τ', nj, e, m, a0, k0, u, p', by rw [ex_cl h1, ex_gd (Or.inr rfl), ex_rt], h2⟩
  · exact Or.inr ⟨σ', τ', by rw [ex_cl h1, ex_gd (Or.inl rfl), ex_rt], h2⟩
theorem line_rel {B : Nat → Nat} {n g nj e m a0 k0 u p : Nat} {σ τ : Sg} (hn : n ≤ 600) (hB : ∀ i, i < n → B i < 256) (hg : isGd g = true) (hp : p ≤ n) (N : LN B n g nj e 1 m a0 k0 u p σ τ) (ha : a0 ≤ p) (hk : k0 ≤ 2 * p + 8) : LR B n g p (f_X8_tellLine σ) (f_X11_line τ) := by
  have K := N.1.1
  have wt : ∀ (q k : Nat), 2 ≤ q → q < 21 → wk q = k → (tK B n p = 256 ∧ tW B n p = k) → f_X5_isWord q σ = some (1, σ) := fun q k h1 h2 h3 h4 => isW_t hn hp K h1 h2 h3 h4
  have wf : ∀ (q k : Nat), 2 ≤ q → q < 21 → wk q = k → ¬ (tK B n p = 256 ∧ tW B n p = k) → f_X5_isWord q σ = some (0, σ) := fun q k h1 h2 h3 h4 => isW_f hn hp K h1 h2 h3 h4
  rw [f_X8_tellLine]
  by_cases c8 : tK B n p = 256 ∧ tW B n p = 8
  · rw [ex_cl (wt 2 8 (by omega) (by omega) rfl c8), ex_bf l1_0]
    exact (mat_rel hn hB hg hp N ha hk c8).wrap
  rw [ex_cl (wf 2 8 (by omega) (by omega) rfl c8), ex_bt rfl]
  by_cases c9 : tK B n p = 256 ∧ tW B n p = 9
  · rw [ex_cl (wt 3 9 (by omega) (by omega) rfl c9), ex_bf l1_0]
    exact (broken_rel hn hB hg hp N ha hk c9).wrap
  rw [ex_cl (wf 3 9 (by omega) (by omega) rfl c9), ex_bt rfl]
  by_cases c10 : tK B n p = 256 ∧ tW B n p = 10
  · rw [ex_cl (wt 4 10 (by omega) (by omega) rfl c10), ex_bf l1_0]
    exact (near_rel hn hB hg hp N ha hk c10).wrap
  rw [ex_cl (wf 4 10 (by omega) (by omega) rfl c10), ex_bt rfl]
  by_cases c11 : tK B n p = 256 ∧ tW B n p = 11
  · rw [ex_cl (wt 5 11 (by omega) (by omega) rfl c11), ex_bf l1_0]
    exact (slips_rel hn hB hg hp N ha hk c11).wrap
  rw [ex_cl (wf 5 11 (by omega) (by omega) rfl c11), ex_bt rfl]
  by_cases c13 : tK B n p = 256 ∧ tW B n p = 13
  · rw [ex_cl (wt 6 13 (by omega) (by omega) rfl c13), ex_bf l1_0]
    exact (jumperl_rel hn hB hg hp N ha hk c13).wrap
  rw [ex_cl (wf 6 13 (by omega) (by omega) rfl c13), ex_bt rfl]
  by_cases c15 : tK B n p = 256 ∧ tW B n p = 15
  · rw [ex_cl (wt 8 15 (by omega) (by omega) rfl c15), ex_bf l1_0]
    exact (rule_rel hn hB hg hp N ha hk c15).wrap
  rw [ex_cl (wf 8 15 (by omega) (by omega) rfl c15), ex_bt rfl]
  by_cases c12 : tK B n p = 256 ∧ tW B n p = 12
  · rw [ex_cl (wt 20 12 (by omega) (by omega) rfl c12), ex_bf l1_0]
    exact (eggl_rel hn hB hg hp N ha hk c12).wrap
  rw [ex_cl (wf 20 12 (by omega) (by omega) rfl c12), ex_bt rfl, faC]
  have kn := knownM hn hp N.1.2.1
  have ne : ∀ (k : Nat) (x : Int32), nI k = x → k < 2 ^ 31 → ¬ x = -1 → ¬ (tK B n p = 256 ∧ tW B n p = k) → ¬ (if tK B n p = 256 ∧ tW B n p < 19 then nI (tW B n p) else -1) = x := fun k x hx h31 hm hc q => by
    by_cases y : tK B n p = 256 ∧ tW B n p < 19
    · rw [if_pos y] at q
      exact hc ⟨y.1, nI_inj (by omega) h31 (q.trans hx.symm)⟩
    · rw [if_neg y] at q
      exact hm q.symm
  have bd := Bd.fw N.1.1 N.1.2.1 l1_0
  rw [f_X11_line, ex_cl kn, ex_bf (ne 8 8 rfl (by omega) (by decide) c8), ex_bf (ne 9 9 rfl (by omega) (by decide) c9), ex_bf (ne 10 10 rfl (by omega) (by decide) c10), ex_bf (ne 11 11 rfl (by omega) (by decide) c11), ex_bf (ne 13 13 rfl (by omega) (by decide) c13), ex_bf (ne 15 15 rfl (by omega) (by decide) c15), ex_bf (ne 12 12 rfl (by omega) (by decide) c12), ex_cl (wrong1 N.1.2.2.2), ← wrS]
  exact Or.inr ⟨_, _, rfl, b292_bad bd.bad, bd⟩
def RM (τ τ' : Sg) : Prop := off gs_mread τ τ' ∧ (τ'.1 56 16 = 0 → τ.1 56 16 = 0 ∧ τ'.1 56 17 = τ.1 56 17)
theorem RM.rf {τ : Sg} : RM τ τ := ⟨off_rfl, fun h => ⟨h, rfl⟩⟩
theorem RM.tr {τ τ1 τ2 : Sg} (h : RM τ τ1) (k : RM τ1 τ2) : RM τ τ2 := ⟨off_trans h.1 k.1, fun z => ⟨(h.2 (k.2 z).1).1, (k.2 z).2.trans (h.2 (k.2 z).1).2⟩⟩
theorem RM.line {τ τ' : Sg} (h : f_X11_line τ = some ((), τ')) : RM τ τ' := ⟨fr_X11_line τ _ h, fk_X11_line τ _ h⟩
/-- all lines from p on -/
theorem tell_loop {B : Nat → Nat} {n g : Nat} (hn : n ≤ 600) (hB : ∀ i, i < n → B i < 256) (hg : isGd g = true) : ∀ (d p fc fm i nj e m a0 k0 u : Nat) (σ τ : Sg), n - p ≤ d → p ≤ n → d < fc → d < fm → i ≤ p → a0 ≤ p → k0 ≤ 2 * p + 8 → LN B n g nj e 1 m a0 k0 u p σ τ →
    (∃ σ' τ' nj e m a0 k0 u p', f_X8_tell_b23 fc (nI i) σ = some (0, σ') ∧ f_X11_garden_b134 fm τ = f_X11_garden_b155 τ' ∧ LN B n g nj e 1 m a0 k0 u p' σ' τ' ∧ a0 ≤ 600 ∧ RM τ τ') ∨ (∃ σ' τ', f_X8_tell_b23 fc (nI i) σ = some (σ'.1 14 4, σ') ∧ f_X11_garden_b134 fm τ = f_X11_garden_b155 τ' ∧ Bd σ' τ' ∧ RM τ τ') := by
  intro d
  induction d with
  | zero =>
    intro p fc fm i nj e m a0 k0 u σ τ h1 h2 h3 h4 h5 h6 h7 N
    obtain ⟨fc, rfl⟩ : ∃ k, fc = k + 1 := ⟨fc - 1, by omega⟩
    obtain ⟨fm, rfl⟩ : ∃ k, fm = k + 1 := ⟨fm - 1, by omega⟩
    have tk := tok_at (B := B) h2
    have h8 : tK B n p = 258 := by
      by_cases z : tK B n p = 258
      · exact z
      · have := tk.2.2.2.2.1 z; omega
    refine Or.inl ⟨σ, τ, nj, e, m, a0, k0, u, p, ?_, ?_, N, by omega, RM.rf⟩
    · rw [f_X8_tell_b23, ex_bf (fun q => by have := (nI_ltL (x := 600) (k := 600) rfl (by omega) (by omega)).mp q; omega), ex_dI, ex_bt ((N.1.1.kind (k := 258) (x := 258) rfl (by omega)).mpr h8), ex_rt]
    · rw [f_X11_garden_b134, ex_cl (good1 N.1.2.2.2), ex_bf l1_0, ex_dI, ex_bt (N.1.2.1.sort.2.2.1.mpr h8)]
  | succ d ih =>
    intro p fc fm i nj e m a0 k0 u σ τ h1 h2 h3 h4 h5 h6 h7 N
    obtain ⟨fc, rfl⟩ : ∃ k, fc = k + 1 := ⟨fc - 1, by omega⟩
    obtain ⟨fm, rfl⟩ : ∃ k, fm = k + 1 := ⟨fm - 1, by omega⟩
    have tk := tok_at (B := B) h2
    have i600 : ¬ (600 : Int32) < nI i := fun q => by have := (nI_ltL (x := 600) (k := 600) rfl (by omega) (by omega)).mp q; omega
    by_cases h8 : tK B n p = 258
    · refine Or.inl ⟨σ, τ, nj, e, m, a0, k0, u, p, ?_, ?_, N, by omega, RM.rf⟩
      · rw [f_X8_tell_b23, ex_bf i600, ex_dI, ex_bt ((N.1.1.kind (k := 258) (x := 258) rfl (by omega)).mpr h8), ex_rt]
      · rw [f_X11_garden_b134, ex_cl (good1 N.1.2.2.2), ex_bf l1_0, ex_dI, ex_bt (N.1.2.1.sort.2.2.1.mpr h8)]
    · rw [f_X8_tell_b23, ex_bf i600, ex_dI, ex_bf (fun q => h8 ((N.1.1.kind (k := 258) (x := 258) rfl (by omega)).mp q)), f_X11_garden_b134, ex_cl (good1 N.1.2.2.2), ex_bf l1_0, ex_dI, ex_bf (fun q => h8 (N.1.2.1.sort.2.2.1.mp q))]
      rcases line_rel hn hB hg h2 N h6 h7 with ⟨σ', τ', nj', e', m', a', k', u', p', l1, l2, N', q1, q2, q3, q4⟩ | ⟨σ', τ', l1, l2, bd⟩
      · rw [ex_cl l1, ex_bf l1_0]
        have tk' := tok_at (B := B) q2
        by_cases z : tK B n p' = 59
        · have t5 := tk'.2.2.2.2.1 (by omega)
          obtain ⟨σ2, τ2, n1, n2, L2, -, o2⟩ := next_rel hn hB q2 N'.1
          have N2 := N'.sm hg L2 o2
          have pa : f_X8_pass 59 σ' = some (1, σ2) := by rw [f_X8_pass, ex_dI, ex_bt ((N'.1.1.kind (k := 59) (x := 59) rfl (by omega)).mpr z), ex_cl n1, ex_rt]
          have nd : f_X11_need 1 τ' = some ((), τ2) := by rw [f_X11_need, ex_cl (good1 N'.1.2.2.2), ex_bf l1_0, ex_bf l1_0, ex_cl n2, ex_rt]
          have ln : f_X11_line τ = some ((), τ2) := by rw [l2, f_X11_line_b292, ex_cl (sgn_t (c := 59) (x := 59) N'.1.2.1 rfl (by omega) z), ex_cl nd, ex_rt]
          rw [ex_cl pa, ex_bf l1_0, ex_cl ln, nI_1]
          rcases ih (tE B n p') fc fm (i + 1) nj' e' m' a' k' u' σ2 τ2 (by omega) tk'.2.2.2.1 (by omega) (by omega) (by omega) (by omega) (by omega) N2 with ⟨σ3, τ3, nj3, e3, m3, a3, k3, u3, p3, w1, w2, w3, w4, w5⟩ | ⟨σ3, τ3, w1, w2, w3, w4⟩
          · exact Or.inl ⟨σ3, τ3, nj3, e3, m3, a3, k3, u3, p3, w1, w2, w3, w4, (RM.line ln).tr w5⟩
          · exact Or.inr ⟨σ3, τ3, w1, w2, w3, (RM.line ln).tr w4⟩
        · have bd := Bd.fw N'.1.1 N'.1.2.1 l1_0
          have pa : f_X8_pass 59 σ' = some (0, faS 1 σ') := by rw [f_X8_pass, ex_dI, ex_bf (fun q => z ((N'.1.1.kind (k := 59) (x := 59) rfl (by omega)).mp q)), faC]
          have nd : f_X11_need 0 τ' = some ((), wrS 1 τ') := by rw [f_X11_need, ex_cl (good1 N'.1.2.2.2), ex_bf l1_0, ex_bt rfl, ex_cl (wrong1 N'.1.2.2.2), ex_rt, ← wrS]
          have ln : f_X11_line τ = some ((), wrS 1 τ') := by rw [l2, f_X11_line_b292, ex_cl (sgn_f (c := 59) (x := 59) N'.1.2.1 rfl (by omega) z), ex_cl nd, ex_rt]
          obtain ⟨fm, rfl⟩ : ∃ k, fm = k + 1 := ⟨fm - 1, by omega⟩
          refine Or.inr ⟨faS 1 σ', wrS 1 τ', by rw [ex_cl pa, ex_bt rfl, ex_dI, ex_rt], ?_, bd, RM.line ln⟩
          rw [ex_cl ln, f_X11_garden_b134, ex_cl (good0 bd.bad), ex_bt rfl]
      · obtain ⟨fm, rfl⟩ : ∃ k, fm = k + 1 := ⟨fm - 1, by omega⟩
        refine Or.inr ⟨σ', τ', by rw [ex_cl l1, ex_bt rfl, ex_dI, ex_rt], ?_, bd, RM.line l2⟩
        rw [ex_cl l2, f_X11_garden_b134, ex_cl (good0 bd.bad), ex_bt rfl]
