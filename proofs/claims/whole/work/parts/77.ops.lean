-- ===== by another rule: compare, best =====
def smV (v : Nat → Int32) : Nat → Nat → Int32 → Int32
  | 0, _, a => a
  | d + 1, i, a => smV v d (i + 1) (a + v i)
theorem smV_zero {v : Nat → Int32} {i : Nat} {a : Int32} : ∀ (d z : Nat), (∀ j, i + d ≤ j → j < i + d + z → v j = 0) → smV v (d + z) i a = smV v d i a := by
  intro d
  induction d generalizing i a with
  | zero =>
    intro z
    induction z generalizing i a with
    | zero => intro _; rfl
    | succ z ih =>
      intro h
      show smV v (0 + z) (i + 1) (a + v i) = a
      rw [h i (by omega) (by omega), Int32.add_zero]
      exact ih (fun j h1 h2 => h j (by omega) (by omega))
  | succ d ih =>
    intro z h
    rw [show d + 1 + z = (d + z) + 1 by omega]
    exact ih z (fun j h1 h2 => h j (by omega) (by omega))
theorem smV_eq {v w : Nat → Int32} : ∀ (d i : Nat) (a : Int32), (∀ j, i ≤ j → j < i + d → v j = w j) → smV v d i a = smV w d i a := by
  intro d
  induction d with
  | zero => intro i a _; rfl
  | succ d ih =>
    intro i a h
    show smV v d (i + 1) (a + v i) = smV w d (i + 1) (a + w i)
    rw [h i (by omega) (by omega)]
    exact ih (i + 1) _ (fun j h1 h2 => h j (by omega) (by omega))
theorem hurtsC_loop {σ : Sg} : ∀ (d i fu : Nat) (a : Int32), i + d = 4 → f_X4_hurtsOfAll_b4 (fu + d + 1) a (nI i) σ = some (smV (fun j => σ.1 (fl j) 13) d i a, σ) := by
  intro d
  induction d with
  | zero =>
    intro i fu a h
    have : i = 4 := by omega
    subst this
    rw [f_X4_hurtsOfAll_b4, ex_bt (by decide), ex_rt]; rfl
  | succ d ih =>
    intro i fu a h
    have b : ¬ (4 : Int32) ≤ nI i := fun h => by have := (nI_leL (x := 4) (k := 4) rfl (by omega) (by omega)).mp h; omega
    rw [show fu + (d + 1) + 1 = (fu + d + 1) + 1 by omega, f_X4_hurtsOfAll_b4, ex_bf b, ex_gd (inb_nI (show i < 4 by omega) (by omega)), ex_lt, nI_clamp (show i < 2 ^ 31 by omega), fl_at, ex_gd (isFl_l (by omega)), ex_dI, nI_1, ih (i + 1) fu _ (by omega)]
    rfl
theorem hurtsM_loop {n : Nat} {τ : Sg} (hn : n ≤ 4) (h6 : τ.1 56 6 = nI n) : ∀ (d i fu : Nat) (a : Int32), i + d = n → f_X11_hurtsAll_b4 (fu + d + 1) a (nI i) τ = some (smV (fun j => τ.1 81 j) d i a, τ) := by
  intro d
  induction d with
  | zero =>
    intro i fu a h
    have : i = n := by omega
    subst this
    rw [f_X11_hurtsAll_b4, ex_dI, h6, ex_bt (Int32.le_refl _), ex_rt]; rfl
  | succ d ih =>
    intro i fu a h
    rw [show fu + (d + 1) + 1 = (fu + d + 1) + 1 by omega, f_X11_hurtsAll_b4, ex_dI, h6, ex_bf (nI_ge (by omega) (by omega)), ex_gd (inb_nI (show i < 4 by omega) (by omega)), ex_dI, nI_clamp (show i < 2 ^ 31 by omega), nI_1, ih (i + 1) fu _ (by omega)]
    rfl
theorem hurts_rel {g n s e t : Nat} {σ τ : Sg} (I : Iv g n s e t σ τ) {τ' : Sg} (h6 : τ'.1 56 6 = τ.1 56 6) (hc : ∀ b, τ'.1 81 b = τ.1 81 b) : ∃ v, f_X4_hurtsOfAll σ = some (v, σ) ∧ f_X11_hurtsAll τ' = some (v, τ') := by
  obtain ⟨L, c, R, -⟩ := I
  have hn4 := R.1.1.2.2.1
  have k6 : τ'.1 56 6 = nI n := h6.trans R.1.1.2.2.2.1
  have a1 := hurtsC_loop (σ := σ) 4 0 (8191 - 4) 0 (by omega)
  have a2 := hurtsM_loop (τ := τ') hn4 k6 n 0 (8191 - n) 0 (by omega)
  rw [show 8191 - n + n + 1 = FU by rw [Nat.sub_add_cancel (by omega)]; rfl] at a2
  refine ⟨_, a1, a2.trans (congrArg (fun v => some (v, τ')) ?_)⟩
  have z := smV_zero (v := fun j => σ.1 (fl j) 13) (i := 0) (a := 0) n (4 - n) (fun j h1 h2 => (R.2.2.2.2.1.1 j (by omega) (by omega)).2)
  rw [show n + (4 - n) = 4 by omega] at z
  rw [z]
  exact smV_eq n 0 0 (fun j _ h2 => by
    show τ'.1 81 j = σ.1 (fl j) 13
    rw [hc]
    exact (R.2.2.1 j (by omega)).2.2.2.2.2.2.1)
theorem funsC_loop {σ : Sg} : ∀ (d i fu : Nat) (a : Int32), i + d = 4 → f_X4_funOfAll_b4 (fu + d + 1) a (nI i) σ = some (smV (fun j => σ.1 (fl j) 12) d i a, σ) := by
  intro d
  induction d with
  | zero =>
    intro i fu a h
    have : i = 4 := by omega
    subst this
    rw [f_X4_funOfAll_b4, ex_bt (by decide), ex_rt]; rfl
  | succ d ih =>
    intro i fu a h
    have b : ¬ (4 : Int32) ≤ nI i := fun h => by have := (nI_leL (x := 4) (k := 4) rfl (by omega) (by omega)).mp h; omega
    rw [show fu + (d + 1) + 1 = (fu + d + 1) + 1 by omega, f_X4_funOfAll_b4, ex_bf b, ex_gd (inb_nI (show i < 4 by omega) (by omega)), ex_lt, nI_clamp (show i < 2 ^ 31 by omega), fl_at, ex_gd (isFl_l (by omega)), ex_dI, nI_1, ih (i + 1) fu _ (by omega)]
    rfl
theorem funsM_loop {n : Nat} {τ : Sg} (hn : n ≤ 4) (h6 : τ.1 56 6 = nI n) : ∀ (d i fu : Nat) (a : Int32), i + d = n → f_X11_funAll_b4 (fu + d + 1) a (nI i) τ = some (smV (fun j => τ.1 80 j) d i a, τ) := by
  intro d
  induction d with
  | zero =>
    intro i fu a h
    have : i = n := by omega
    subst this
    rw [f_X11_funAll_b4, ex_dI, h6, ex_bt (Int32.le_refl _), ex_rt]; rfl
  | succ d ih =>
    intro i fu a h
    rw [show fu + (d + 1) + 1 = (fu + d + 1) + 1 by omega, f_X11_funAll_b4, ex_dI, h6, ex_bf (nI_ge (by omega) (by omega)), ex_gd (inb_nI (show i < 4 by omega) (by omega)), ex_dI, nI_clamp (show i < 2 ^ 31 by omega), nI_1, ih (i + 1) fu _ (by omega)]
    rfl
theorem funs_rel {g n s e t : Nat} {σ τ : Sg} (I : Iv g n s e t σ τ) {τ' : Sg} (h6 : τ'.1 56 6 = τ.1 56 6) (hc : ∀ b, τ'.1 80 b = τ.1 80 b) : ∃ v, f_X4_funOfAll σ = some (v, σ) ∧ f_X11_funAll τ' = some (v, τ') := by
  obtain ⟨L, c, R, -⟩ := I
  have hn4 := R.1.1.2.2.1
  have k6 : τ'.1 56 6 = nI n := h6.trans R.1.1.2.2.2.1
  have a1 := funsC_loop (σ := σ) 4 0 (8191 - 4) 0 (by omega)
  have a2 := funsM_loop (τ := τ') hn4 k6 n 0 (8191 - n) 0 (by omega)
  rw [show 8191 - n + n + 1 = FU by rw [Nat.sub_add_cancel (by omega)]; rfl] at a2
  refine ⟨_, a1, a2.trans (congrArg (fun v => some (v, τ')) ?_)⟩
  have z := smV_zero (v := fun j => σ.1 (fl j) 12) (i := 0) (a := 0) n (4 - n) (fun j h1 h2 => (R.2.2.2.2.1.1 j (by omega) (by omega)).1)
  rw [show n + (4 - n) = 4 by omega] at z
  rw [z]
  exact smV_eq n 0 0 (fun j _ h2 => by
    show τ'.1 80 j = σ.1 (fl j) 12
    rw [hc]
    exact (R.2.2.1 j (by omega)).2.2.2.2.2.1)
theorem by_rel {g n s e m : Nat} {σ τ : Sg} {r : Int32} (J : Jr g n s e m σ τ) (hr : RuleOk m r) : ∃ σ' τ' h f, f_X10_playBy r σ = some ((), σ') ∧ f_X11_runsBy r τ = some ((), τ') ∧ f_X4_hurtsOfAll σ' = some (h, σ') ∧ f_X11_hurtsAll τ' = some (h, τ') ∧ f_X4_funOfAll σ' = some (f, σ') ∧ f_X11_funAll τ' = some (f, τ') ∧ Jr g n s e m σ' τ' ∧ τ'.1 56 0 = τ.1 56 0 := by
  obtain ⟨jG, jR, ⟨s1, s2, s3, s4, s5, s6⟩, -⟩ := id J
  have hn4 := jG.2.1
  obtain ⟨σ1, a1, a2, a3⟩ := J.prep
  obtain ⟨N, S, τ', n1, n2, n3, n3', n4, b1, b2, b3, b4, b5, b6, b7, b8, b9⟩ := run_any (x := ((1 : Int32) <<< (nI n &&& 31)) - 1) (τ1 := sI τ 56 46 r) J (off_trans a3 (off_sI (i := 17) (k := 4) (v := r) rfl)) a2.rule s3 hr sI_eq (fun a b h1 h2 => by rw [sI_gt, if_neg h2]) (fun i hi b hb => by rw [sI_ne (by omega)]; exact s2 i hi b hb) (fun i hi => bit_all hn4 hi)
  have h6 : (sI τ 56 46 r).1 56 6 = nI n := by rw [sI_nf (by omega)]; exact jG.2.2.1
  have hA : f_X11_runsAll (sI τ 56 46 r) = some ((), τ') := by rw [f_X11_runsAll, ex_cl (all_eq h6), ex_cl b4, ex_rt]
  obtain ⟨h, h1, h2⟩ := hurts_rel b5 (τ' := sI τ' 56 46 (τ.1 56 46)) (by rw [sI_nf (by omega)]) (fun b => by rw [sI_ne (by omega)])
  obtain ⟨f, f1, f2⟩ := funs_rel b5 (τ' := sI τ' 56 46 (τ.1 56 46)) (by rw [sI_nf (by omega)]) (fun b => by rw [sI_ne (by omega)])
  refine ⟨S N, sI τ' 56 46 (τ.1 56 46), h, f, ?_, ?_, h1, h2, f1, f2, ?_, ?_⟩
  · rw [f_X10_playBy, ex_cl a1, ex_pI, ex_dI, n3', ex_cl b3, ex_rt]
  · rw [f_X11_runsBy, ex_dI, ex_pI, ex_cl hA, ex_pI, ex_rt]
  · refine J.frame (off_mono fc_play (b8 N (Nat.le_refl N))) (fun i k hik => ?_) b5.me
    have hm : gs_mrun i k = false := by
      cases z : gs_mrun i k with
      | false => rfl
      | true => rw [fm_run i k z] at hik; cases hik
    obtain ⟨c1, c2, c3⟩ := b7 i k hm
    refine ⟨?_, c2, c3⟩
    by_cases z : i = 56 ∧ k = 46
    · obtain ⟨rfl, rfl⟩ := z
      rw [sI_eq]
    · rw [sI_gt, if_neg z, c1, sI_gt, if_neg z]
  · rw [sI_nf (by omega), (b7 56 0 rfl).1, sI_nf (by omega)]
theorem rule_cases (x : Int32) {m : Nat} (hm : m ≤ 4) : (¬ x < -1 ∧ ¬ nI m ≤ x ∧ RuleOk m x) ∨ x < -1 ∨ (¬ x < -1 ∧ nI m ≤ x) := by
  by_cases h : x < -1
  · exact Or.inr (Or.inl h)
  · by_cases k : nI m ≤ x
    · exact Or.inr (Or.inr ⟨h, k⟩)
    · refine Or.inl ⟨h, k, ?_⟩
      by_cases p : x < 0
      · left
        have e1 : (-1 : Int32).toInt = -1 := by decide
        rw [Int32.lt_iff_toInt_lt, e1] at h
        rw [Int32.lt_iff_toInt_lt, toInt_0] at p
        apply Int32.toInt_inj.mp
        rw [e1]
        omega
      · obtain ⟨j, hj, rfl⟩ := nI_of p
        right
        refine ⟨j, ?_, rfl⟩
        rcases Nat.lt_or_ge j m with q | q
        · exact q
        · exact absurd (nI_le q hj) k
theorem isRule_t {g n s e m : Nat} {σ τ : Sg} {x : Int32} (J : Jr g n s e m σ τ) (h1 : ¬ x < -1) (h2 : ¬ nI m ≤ x) : f_X10_isRule x σ = some (1, σ) := by
  rw [f_X10_isRule, ex_bf h1, ex_dR, J.2.2.2.2.2.2.2.1.1, ex_gd J.1.1, ex_dI, J.2.1.2.1, ex_bf h2, ex_rt]
theorem isRule_f {g n s e m : Nat} {σ τ : Sg} {x : Int32} (J : Jr g n s e m σ τ) (h : x < -1 ∨ (¬ x < -1 ∧ nI m ≤ x)) : f_X10_isRule x σ = some (0, σ) := by
  rcases h with q | ⟨q1, q2⟩
  · rw [f_X10_isRule, ex_bt q, ex_rt]
  · rw [f_X10_isRule, ex_bf q1, ex_dR, J.2.2.2.2.2.2.2.1.1, ex_gd J.1.1, ex_dI, J.2.1.2.1, ex_bt q2, ex_rt]
theorem ok_compare {g n s e m : Nat} {σ τ : Sg} (J : Jr g n s e m σ τ) (x y : Int32) : OkX (f_X10_compare x y) (f_X11_compare x y) cN σ τ := by
  obtain ⟨J0, t0⟩ := thr0 J
  have hm7 : (sI τ 56 0 0).1 56 7 = nI m := J0.2.1.2.2.1
  rcases rule_cases x J.2.1.1 with ⟨x1, x2, x3⟩ | hx
  · rcases what_cases y (M := 1) (y := 1) rfl (by omega) with ⟨k, hk, rfl⟩ | hy
    · obtain ⟨σ', τ', h, f, a1, a2, a3, a4, a5, a6, a7, a8⟩ := by_rel J0 x3
      have iw := isWhat_t (M := 1) (y := 1) rfl t0 hk (by omega)
      have eC : f_X10_compare x (nI k) σ = (br (nI k = 0) (cl (f_X4_hurtsOfAll) (fun r2 => rtX r2)) (cl (f_X4_funOfAll) (fun r3 => rtX r3))) σ' := by
        rw [f_X10_compare, ex_cl (isRule_t J x1 x2), ex_bf l1_0]
        rcases (by omega : k = 0 ∨ k = 1) with rfl | rfl
        · rw [ex_bt (show nI 0 = 0 from rfl), f_X10_compare_b17, f_X10_compare_b22, ex_xv need1, ex_cl a1]
        · rw [ex_bf (by decide), ex_bt (show nI 1 = 1 from rfl), f_X10_compare_b17, f_X10_compare_b22, ex_xv need1, ex_cl a1]
      have eM : f_X11_compare x (nI k) τ = (br (nI k = 0) (cl (f_X11_hurtsAll) (fun r6 => rt r6)) (cl (f_X11_funAll) (fun r7 => rt r7))) τ' := by
        rw [f_X11_compare, ex_pI, ex_bf x1, ex_dI, hm7, ex_bf x2, f_X11_compare_b24, ex_cl (right1 t0), ex_bf l1_0, ex_cl iw, ex_bf l1_0, ex_cl a2]
      rcases (by omega : k = 0 ∨ k = 1) with rfl | rfl
      · exact ⟨.inl h, _, _, _, by rw [eC, ex_bt (show nI 0 = 0 from rfl), ex_cl a3, ex_rtX], by rw [eM, ex_bt (show nI 0 = 0 from rfl), ex_cl a4, ex_rt], ⟨a8.trans t0, rfl⟩, g, n, s, e, m, a7⟩
      · exact ⟨.inl f, _, _, _, by rw [eC, ex_bf (by decide), ex_cl a5, ex_rtX], by rw [eM, ex_bf (by decide), ex_cl a6, ex_rt], ⟨a8.trans t0, rfl⟩, g, n, s, e, m, a7⟩
    · have y0 : ¬ y = 0 := fun q => by
        rcases hy with h | ⟨-, h⟩ <;> rw [q] at h <;> exact absurd h (by decide)
      have y1 : ¬ y = 1 := fun q => by
        rcases hy with h | ⟨-, h⟩ <;> rw [q] at h <;> exact absurd h (by decide)
      refine ok_thr J false 0 (y := 1) ?_ ?_ rfl
      · rw [f_X10_compare, ex_cl (isRule_t J x1 x2), ex_bf l1_0, ex_bf y0, ex_bf y1, f_X10_compare_b21, f_X10_compare_b22, ex_xt need0]
      · rw [f_X11_compare, ex_pI, ex_bf x1, ex_dI, hm7, ex_bf x2, f_X11_compare_b24, ex_cl (right1 t0), ex_bf l1_0, ex_cl (isWhat_f t0 hy), ex_bt rfl, ex_rt]
  · refine ok_thr J false 0 (y := 1) ?_ ?_ rfl
    · rw [f_X10_compare, ex_cl (isRule_f J hx), ex_bt rfl, f_X10_compare_b21, f_X10_compare_b22, ex_xt need0]
    · rcases hx with q | ⟨q1, q2⟩
      · rw [f_X11_compare, ex_pI, ex_bt q, f_X11_compare_b23, f_X11_compare_b24, ex_cl (right0 t0 l1_0), ex_bt rfl, ex_rt]
      · rw [f_X11_compare, ex_pI, ex_bf q1, ex_dI, hm7, ex_bt q2, f_X11_compare_b23, f_X11_compare_b24, ex_cl (right0 t0 l1_0), ex_bt rfl, ex_rt]
theorem best_loop {g n s e m : Nat} : ∀ (d i fu fm : Nat) (x h f : Int32) (σ τ : Sg), i + d = m → Jr g n s e m σ τ → ∃ v σ' τ', f_X10_best_b9 (fu + d + 1) x h f (nI i) σ = some (v, σ') ∧ f_X11_best_b25 (fm + d + 1) x h f (nI i) τ = some (v, τ') ∧ Jr g n s e m σ' τ' := by
  intro d
  induction d with
  | zero =>
    intro i fu fm x h f σ τ hi J
    have : i = m := by omega
    subst this
    refine ⟨x, σ, τ, ?_, ?_, J⟩
    · rw [f_X10_best_b9, ex_dR, J.2.2.2.2.2.2.2.1.1, ex_gd J.1.1, ex_dI, J.2.1.2.1, ex_bt (Int32.le_refl _), ex_rt]
    · rw [f_X11_best_b25, ex_dI, J.2.1.2.2.1, ex_bt (Int32.le_refl _), ex_rt]
  | succ d ih =>
    intro i fu fm x h f σ τ hi J
    have hm4 := J.2.1.1
    obtain ⟨σ', τ', h', f', a1, a2, a3, a4, a5, a6, J', -⟩ := by_rel (r := nI i) J (Or.inr ⟨i, by omega, rfl⟩)
    have nx : ¬ nI i = -1 := neg1_ne (by omega)
    rw [show fu + (d + 1) + 1 = (fu + d + 1) + 1 by omega, show fm + (d + 1) + 1 = (fm + d + 1) + 1 by omega, f_X10_best_b9, ex_dR, J.2.2.2.2.2.2.2.1.1, ex_gd J.1.1, ex_dI, J.2.1.2.1, ex_bf (nI_ge (by omega) (by omega)), ex_cl a1, ex_cl a3, ex_cl a5, ex_bf nx, f_X11_best_b25, ex_dI, J.2.1.2.2.1, ex_bf (nI_ge (by omega) (by omega)), ex_cl a2, ex_cl a4]
    have i1 := ih (i + 1) fu fm x h f σ' τ' (by omega) J'
    have i2 := ih (i + 1) fu fm (nI i) h' f' σ' τ' (by omega) J'
    by_cases q1 : h' < h
    · rw [ex_bt q1, ex_bf (Int32.not_lt.mpr (Int32.le_of_lt q1)), ex_cl a4, ex_bf (fun q => by rw [q] at q1; exact Int32.lt_irrefl q1), f_X11_best_b67, ex_cl a4, ex_cl a6, f_X10_best_b72, f_X10_best_b81, f_X11_best_b80, nI_1]
      exact i2
    · rw [ex_bf q1]
      by_cases q2 : h' = h
      · rw [ex_bt q2, ex_bf (c := h < h') (by rw [q2]; exact Int32.lt_irrefl), ex_cl a4, ex_bt q2, ex_cl a6]
        by_cases q3 : f' ≤ f
        · rw [ex_bt q3, ex_bf (Int32.not_lt.mpr q3), f_X10_best_b81, f_X11_best_b80, nI_1]
          exact i1
        · rw [ex_bf q3, ex_bt (Int32.not_le.mp q3), f_X11_best_b67, ex_cl a4, ex_cl a6, f_X10_best_b72, f_X10_best_b81, f_X11_best_b80, nI_1]
          exact i2
      · have q4 : h < h' := by
          have := Int32.not_lt.mp q1
          exact Int32.lt_of_le_of_ne this (fun q => q2 q.symm)
        rw [ex_bf q2, ex_bt q4, f_X10_best_b81, f_X11_best_b80, nI_1]
        exact i1
theorem ok_best {g n s e m : Nat} {σ τ : Sg} (J : Jr g n s e m σ τ) : OkV f_X10_best f_X11_best σ τ := by
  obtain ⟨J0, t0⟩ := thr0 J
  have hm4 := J.2.1.1
  obtain ⟨σ', τ', h', f', a1, a2, a3, a4, a5, a6, J', -⟩ := by_rel (r := -1) J0 (Or.inl rfl)
  obtain ⟨v, σ2, τ2, b1, b2, b3⟩ := best_loop m 0 (8190 - m) (8191 - m) (-1) h' f' σ' τ' (by omega) J'
  rw [show 8191 - m + m + 1 = FU by rw [Nat.sub_add_cancel (by omega)]; rfl] at b2
  have nm : ¬ nI m ≤ -1 := fun q => by
    have e1 : (-1 : Int32).toInt = -1 := by decide
    rw [Int32.le_iff_toInt_le, e1, nI_toInt (by omega)] at q
    omega
  refine ⟨v, σ2, τ2, ?_, ?_, g, n, s, e, m, b3⟩
  · rw [f_X10_best, show FU = (8190 - m + m + 1) + 1 by rw [Nat.sub_add_cancel (by omega)]; rfl, f_X10_best_b9, ex_dR, J.2.2.2.2.2.2.2.1.1, ex_gd J.1.1, ex_dI, J.2.1.2.1, ex_bf nm, ex_cl a1, ex_cl a3, ex_cl a5, ex_bt rfl, f_X10_best_b72, f_X10_best_b81]
    exact b1
  · rw [f_X11_best, ex_pI, ex_cl a2, ex_cl a4, ex_cl a6]
    exact b2
