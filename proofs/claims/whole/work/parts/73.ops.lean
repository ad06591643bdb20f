-- ===== moment, danger, without =====
theorem run_any {g n s e m : Nat} {A : Nat → Bool} {K : Nat → Int32} {r x : Int32} {σ σ1 τ τ1 : Sg} (J : Jr g n s e m σ τ) (hσ : off gs_play σ σ1) (hB : BgA g n A K r σ1) (hK : JB e n K) (hr : RuleOk m r) (h46 : τ1.1 56 46 = r) (ho : ∀ a b, ¬ a = 58 → ¬ (a = 56 ∧ b = 46) → τ1.1 a b = τ.1 a b) (h58 : ∀ j, j < n → ∀ k, k < 6 → τ1.1 58 (6 * j + k) = K (6 * j + k)) (hx : ∀ j, j < n → bitB x j = A j) : ∃ (N : Nat) (S : Nat → Sg) (τ' : Sg), 1 ≤ N ∧ N ≤ 600 ∧ σ.1 2 3 = nI N ∧ σ1.1 2 3 = nI N ∧ τ.1 56 47 = nI N ∧ S 0 = σ1 ∧ Chain 0 N S ∧ f_X4_go 0 (nI N) σ1 = some ((), S N) ∧ f_X11_runs x τ1 = some ((), τ') ∧ Iv g n s e N (S N) τ' ∧ (∀ k, k < N → ∀ j, j < n → ∃ v, f_X1_heightIn (fl j) (nI k) (S (k + 1)) = some (v, S (k + 1)) ∧ τ'.1 84 (600 * j + k) = v) ∧ off gs_mrun τ1 τ' ∧ (∀ k, k ≤ N → off gs_play σ (S k)) ∧ (∀ k, k ≤ N → ∀ j, j < 4 → (S k).1 (fl j) 0 = nI j) := by
  obtain ⟨jG, jR, ⟨s1, s2, s3, s4, ⟨N, n1, n2, n3, n4⟩, s6⟩, j⟩ := id J
  obtain ⟨S, τ', b1, b2, b3, b4, b5, b6, b7, b8⟩ := run_mod (x := x) J hσ hB hK hr h46 (fun b b1 b2 => ho 56 b (by omega) (by omega)) (fun b => ho _ _ (by omega) (by omega)) (fun b => ho _ _ (by omega) (by omega)) h58 hx n2 (by rw [ho 56 47 (by omega) (by omega)]; exact n4)
  have := go_to b2 (Nat.le_refl N) n2
  rw [b1] at this
  exact ⟨N, S, τ', n1, n2, n3, by rw [(hσ 2 3 rfl).1]; exact n3, n4, b1, b2, this, b3, b4, b5, b6, b7, b8⟩
theorem JB.up {e n j k q : Nat} {J : Nat → Int32} (h : JB e n J) (hj : j < n) (hk : k = 3 ∧ q ≤ 99 ∨ k = 4 ∧ q ≤ 60) : JB e n (upd J (6 * j + k) (nI q)) := by
  intro i hi
  obtain ⟨a1, a2, a3, a4, a5, a6⟩ := h i hi
  have u : ∀ b, b < 6 → ¬ (i = j ∧ b = k) → upd J (6 * j + k) (nI q) (6 * i + b) = J (6 * i + b) := fun b hb hne => by
    rw [upd, if_neg]; omega
  rw [show upd J (6 * j + k) (nI q) (6 * i) = J (6 * i) from u 0 (by omega) (by omega), u 1 (by omega) (by omega), u 2 (by omega) (by omega), u 5 (by omega) (by omega)]
  refine ⟨a1, a2, a3, ?_, ?_, a6⟩
  · by_cases z : i = j ∧ 3 = k
    · obtain ⟨rfl, rfl⟩ := z
      rw [upd, if_pos rfl]
      exact ⟨q, by omega, rfl⟩
    · rw [u 3 (by omega) z]; exact a4
  · by_cases z : i = j ∧ 4 = k
    · obtain ⟨rfl, rfl⟩ := z
      rw [upd, if_pos rfl]
      exact ⟨q, by omega, rfl⟩
    · rw [u 4 (by omega) z]; exact a5
theorem off58 {τ τ' : Sg} {q : Nat} {v w : Int32} (h : off gs_mrun (sI τ 58 q v) τ') : off gs_fm (sI τ 58 q w) (sI τ' 58 q w) := by
  intro i k hik
  have hm : gs_mrun i k = false := by
    cases z : gs_mrun i k with
    | false => rfl
    | true => rw [fm_run i k z] at hik; cases hik
  obtain ⟨a1, a2, a3⟩ := h i k hm
  refine ⟨?_, a2, a3⟩
  by_cases z : i = 58 ∧ k = q
  · obtain ⟨rfl, rfl⟩ := z
    rw [sI_eq, sI_eq]
  · rw [sI_gt, if_neg z, sI_gt, if_neg z, a1, sI_gt, if_neg z]
theorem sI_sI {σ : Sg} {a b : Nat} {v w : Int32} : sI (sI σ a b v) a b w = sI σ a b w := by
  refine Prod.ext (funext fun x => funext fun y => ?_) rfl
  simp only [sI_gt]
  by_cases h : x = a ∧ y = b
  · rw [if_pos h, if_pos h]
  · rw [if_neg h, if_neg h, if_neg h]
/-- the run with another start (k 3) or drop (k 4) of one -/
theorem run_one {g n s e m j k q : Nat} {σ σ1 τ : Sg} {w : Int32} (J : Jr g n s e m σ (sI τ 58 (6 * j + k) w)) (hj : j < n) (hk : k = 3 ∧ q ≤ 99 ∨ k = 4 ∧ q ≤ 60) (hσ : off gs_play σ σ1) (hB : BgA g n (fun _ => true) (upd (σ.1 3) (6 * j + k) (nI q)) (σ.1 2 2) σ1) : ∃ (N : Nat) (S : Nat → Sg) (τ' : Sg), N ≤ 600 ∧ σ1.1 2 3 = nI N ∧ f_X4_go 0 (nI N) σ1 = some ((), S N) ∧ f_X11_runsAll (sI τ 58 (6 * j + k) (nI q)) = some ((), τ') ∧ Iv g n s e N (S N) τ' ∧ off gs_mrun (sI τ 58 (6 * j + k) (nI q)) τ' ∧ Jr g n s e m (S N) (sI τ' 58 (6 * j + k) w) := by
  obtain ⟨jG, jR, ⟨s1, s2, s3, s4, s5, s6⟩, -⟩ := id J
  have hn4 := jG.2.1
  obtain ⟨N, S, τ', n1, n2, n3, n3', n4, b1, b2, b3, b4, b5, b6, b7, b8, b9⟩ := run_any (x := ((1 : Int32) <<< (nI n &&& 31)) - 1) (τ1 := sI τ 58 (6 * j + k) (nI q)) J hσ hB (s3.up hj hk) s4.2 (by rw [sI_ne (by omega)]; have := s4.1; rw [sI_ne (by omega)] at this; exact this) (fun a b h1 h2 => by rw [sI_ne h1, sI_ne h1]) (fun i hi b hb => by
    by_cases z : i = j ∧ b = k
    · obtain ⟨rfl, rfl⟩ := z
      rw [sI_eq, upd, if_pos rfl]
    · have z' : ¬ 6 * i + b = 6 * j + k := by omega
      have := s2 i hi b hb
      rw [sI_nf z'] at this
      rw [sI_nf z', upd, if_neg z']
      exact this) (fun i hi => bit_all hn4 hi)
  have h6 : (sI τ 58 (6 * j + k) (nI q)).1 56 6 = nI n := by
    have := jG.2.2.1
    rw [sI_ne (by omega)] at this ⊢
    exact this
  refine ⟨N, S, τ', n2, n3', b3, ?_, b5, b7, ?_⟩
  · rw [f_X11_runsAll, ex_cl (all_eq h6), ex_cl b4, ex_rt]
  · exact J.frame (off_mono fc_play (b8 N (Nat.le_refl N))) (off58 b7) b5.me
theorem startIn_eq {j : Nat} {σ : Sg} {v : Int32} (hj : j < 4) : f_X1_startIn (fl j) v σ = some ((), sI σ (fl j) 9 v) := by rw [f_X1_startIn, ex_gd (isFl_l hj), ex_pI, ex_rt]
theorem dropFrom_eq {j : Nat} {σ : Sg} {v : Int32} (hj : j < 4) : f_X1_dropFrom (fl j) v σ = some ((), sI (sI σ (fl j) 3 v) (fl j) 7 v) := by rw [f_X1_dropFrom, ex_gd (isFl_l hj), ex_pI, ex_pI, ex_rt]
theorem play_fl {j k : Nat} : gs_play (fl j) k = true ∨ 4 ≤ j := by
  by_cases h : j < 4
  · left
    rcases (by omega : j = 0 ∨ j = 1 ∨ j = 2 ∨ j = 3) with rfl | rfl | rfl | rfl <;> rfl
  · right; omega
/-- what a moment is judged by -/
def wor (k : Nat) (σ : Sg) (j : Nat) : Int32 := if k = 0 then σ.1 (fl j) 11 else if k = 1 then σ.1 (fl j) 12 else -(σ.1 (fl j) 14)
theorem moment_loop {g n s e m j k : Nat} (hj : j < n) (hk : k ≤ 2) : ∀ (d i fu fm : Nat) (bC w bM was : Int32) (σ τ : Sg), i + d = 40 → Jr g n s e m σ (sI τ 58 (6 * j + 3) was) → τ.1 56 0 = 0 → (i = 0 ∧ bM = -1 ∨ 0 < i ∧ bM = bC ∧ ¬ bC = -1) → ∃ v σ' τ', f_X10_moment_b33 (fu + d + 1) (nI j) (nI k) bC w (nI i) σ = some (.inl v, σ') ∧ f_X11_moment_b45 (fm + d + 1) (nI j) (nI k) was bM w (nI i) τ = some (v, τ') ∧ Jr g n s e m σ' τ' ∧ τ'.1 56 0 = 0 := by
  intro d
  induction d with
  | zero =>
    intro i fu fm bC w bM was σ τ h1 J t0 hb
    have : i = 40 := by omega
    subst this
    have hn4 := J.1.2.1
    have eb : bM = bC := by rcases hb with ⟨h, -⟩ | ⟨-, h, -⟩; omega; exact h
    refine ⟨bC, σ, sI τ 58 (6 * j + 3) was, ?_, ?_, J, by rw [sI_ne (by omega)]; exact t0⟩
    · rw [f_X10_moment_b33, ex_bt (by decide), ex_rtX]
    · rw [f_X11_moment_b45, ex_bt (by decide), f_X11_moment_b136, nI_l6 (x := 3) (k := 3) rfl, ex_gd (inb_nI (show 6 * j + 3 < 24 by omega) (by omega)), ex_pI, nI_clamp (show 6 * j + 3 < 2 ^ 31 by omega), ex_rt, eb]
  | succ d ih =>
    intro i fu fm bC w bM was σ τ h1 J t0 hb
    have hn4 := J.1.2.1
    have hj4 : j < 4 := by omega
    have i4 := inb_nI hj4 (show 4 < 2 ^ 31 by omega)
    have cj := nI_clamp (show j < 2 ^ 31 by omega)
    have a : ¬ (40 : Int32) ≤ nI i := fun h => by have := (nI_leL (x := 40) (k := 40) rfl (by omega) (by omega)).mp h; omega
    obtain ⟨σ1, a1, a2, a3⟩ := J.prep
    obtain ⟨N, S, τ', n2, n3, b3, b4, b5, b6, J'⟩ := run_one (k := 3) (q := i) J hj (Or.inl ⟨rfl, by omega⟩) (off_trans a3 (off_sI (play_fl.resolve_right (by omega)))) (a2.start hj4 (v := nI i))
    obtain ⟨L, c, R, -⟩ := id b5
    obtain ⟨f1, f2, f3, f4, f5, f6, f7, f8⟩ := R.2.2.1 j hj
    have t0' : τ'.1 56 0 = 0 := by rw [(b6 56 0 rfl).1, sI_ne (by omega)]; exact t0
    have hw : f_X10_worthOf (fl j) (nI k) (S N) = some (wor k (S N) j, S N) := by
      rw [f_X10_worthOf, ex_gd (isFl_l hj4)]
      rcases (by omega : k = 0 ∨ k = 1 ∨ k = 2) with rfl | rfl | rfl
      · rw [ex_bt (by decide), ex_dI, ex_rt]; rfl
      · rw [ex_bf (by decide), ex_bt (by decide), ex_dI, ex_rt]; rfl
      · rw [ex_bf (by decide), ex_bf (by decide), ex_dI, ex_rt]; rfl
    have eC : f_X10_moment_b33 (fu + (d + 1) + 1) (nI j) (nI k) bC w (nI i) σ = (br (nI i = 0) (f_X10_moment_b98 (f_X10_moment_b33 (fu + d + 1)) (nI j) (nI k) (nI i) (wor k (S N) j)) (br (wor k (S N) j ≤ w) (f_X10_moment_b105 (f_X10_moment_b33 (fu + d + 1)) (nI j) (nI k) bC w (nI i)) (f_X10_moment_b98 (f_X10_moment_b33 (fu + d + 1)) (nI j) (nI k) (nI i) (wor k (S N) j)))) (S N) := by
      rw [show fu + (d + 1) + 1 = (fu + d + 1) + 1 by omega, f_X10_moment_b33, ex_bf a, ex_cl a1, ex_cl (flyer_eq hj4), ex_gd (isFl_l hj4), ex_cl (startIn_eq hj4), ex_dI, n3, ex_cl b3, ex_cl (flyer_eq hj4), ex_gd (isFl_l hj4), ex_cl hw]
    have eM : f_X11_moment_b45 (fm + (d + 1) + 1) (nI j) (nI k) was bM w (nI i) τ = f_X11_moment_b104 (f_X11_moment_b45 (fm + d + 1)) (nI j) (nI k) was bM w (nI i) (wor k (S N) j) τ' := by
      rw [show fm + (d + 1) + 1 = (fm + d + 1) + 1 by omega, f_X11_moment_b45, ex_bf a, nI_l6 (x := 3) (k := 3) rfl, ex_gd (inb_nI (show 6 * j + 3 < 24 by omega) (by omega)), ex_pI, nI_clamp (show 6 * j + 3 < 2 ^ 31 by omega), ex_cl b4]
      rcases (by omega : k = 0 ∨ k = 1 ∨ k = 2) with rfl | rfl | rfl
      · rw [ex_bt (by decide), ex_gd i4, ex_dI, cj, f5]; rfl
      · rw [ex_bf (by decide), ex_bt (by decide), ex_gd i4, ex_dI, cj, f6]; rfl
      · rw [ex_bf (by decide), ex_bf (by decide), ex_gd i4, ex_dI, cj, f8, Int32.zero_sub]; rfl
    have hne : ¬ nI i = -1 := neg1_ne (by omega)
    have up := ih (i + 1) fu fm (nI i) (wor k (S N) j) (nI i) was (S N) τ' (by omega) J' t0' (Or.inr ⟨by omega, rfl, hne⟩)
    rw [eC, eM, f_X11_moment_b104]
    rcases hb with ⟨hi0, hbM⟩ | ⟨hi0, hbM, hbC⟩
    · subst hi0
      rw [ex_bt (by decide), ex_bt hbM, f_X10_moment_b98, f_X10_moment_b105, nI_1, f_X11_moment_b122, f_X11_moment_b130, nI_1]
      exact up
    · have hbM' : ¬ bM = -1 := by rw [hbM]; exact hbC
      rw [ex_bf (nI_ne0 hi0 (by omega)), ex_bf hbM']
      by_cases z : wor k (S N) j ≤ w
      · rw [ex_bt z, ex_bf (Int32.not_lt.mpr z), f_X10_moment_b105, nI_1, f_X11_moment_b130, nI_1]
        exact ih (i + 1) fu fm bC w bM was (S N) τ' (by omega) J' t0' (Or.inr ⟨by omega, hbM, hbC⟩)
      · rw [ex_bf z, ex_bt (Int32.not_le.mp z), f_X10_moment_b98, f_X10_moment_b105, nI_1, f_X11_moment_b122, f_X11_moment_b130, nI_1]
        exact up
theorem sI_self {σ : Sg} {a b : Nat} {v : Int32} (h : σ.1 a b = v) : sI σ a b v = σ := by
  refine Prod.ext (funext fun x => funext fun y => ?_) rfl
  rw [sI_gt]
  by_cases z : x = a ∧ y = b
  · rw [if_pos z, z.1, z.2]; exact h.symm
  · rw [if_neg z]
theorem ok_moment {g n s e m : Nat} {σ τ : Sg} (J : Jr g n s e m σ τ) (x y : Int32) : OkX (f_X10_moment x y) (f_X11_moment x y) cN σ τ := by
  obtain ⟨J0, t0⟩ := thr0 J
  have hn4 := J.1.2.1
  have hnC := J.2.2.1.1
  have hnM : (sI τ 56 0 0).1 56 6 = nI n := J0.1.2.2.1
  rcases jumper_cases x hn4 with ⟨j, hj, rfl⟩ | hx
  · have hj4 : j < 4 := by omega
    rcases what_cases y (M := 2) (y := 2) rfl (by omega) with ⟨k, hk, rfl⟩ | hy
    · have Jw : Jr g n s e m σ (sI (sI τ 56 0 0) 58 (6 * j + 3) ((sI τ 56 0 0).1 58 (6 * j + 3))) := by rw [sI_self rfl]; exact J0
      obtain ⟨v, σ', τ', a1, a2, a3, a4⟩ := moment_loop hj hk 40 0 8151 8151 0 0 (-1) _ σ (sI τ 56 0 0) rfl Jw t0 (Or.inl ⟨rfl, rfl⟩)
      refine ⟨.inl v, σ', v, τ', ?_, ?_, ⟨a4, rfl⟩, g, n, s, e, m, a3⟩
      · rw [f_X10_moment, ex_cl (isJC_t hnC hj hn4), ex_bf l1_0, ex_bf (nI_pos (by omega)), ex_bf (lit_nlt (M := 2) (x := 2) rfl hk (by omega)), f_X10_moment_b22, ex_xv need1]
        exact a1
      · rw [f_X11_moment, ex_pI, ex_cl (isJM_t t0 hnM hj hn4), ex_bf l1_0, ex_cl (isWhat_t (M := 2) (y := 2) rfl t0 hk (by omega)), ex_bf l1_0, nI_l6 (x := 3) (k := 3) rfl, ex_gd (inb_nI (show 6 * j + 3 < 24 by omega) (by omega)), ex_dI, nI_clamp (show 6 * j + 3 < 2 ^ 31 by omega)]
        exact a2
    · refine ok_thr J false 0 (y := 1) ?_ ?_ rfl
      · rw [f_X10_moment, ex_cl (isJC_t hnC hj hn4), ex_bf l1_0]
        rcases hy with q | ⟨q1, q2⟩
        · rw [ex_bt q, f_X10_moment_b21, f_X10_moment_b22, ex_xt need0]
        · rw [ex_bf q1, ex_bt q2, f_X10_moment_b21, f_X10_moment_b22, ex_xt need0]
      · rw [f_X11_moment, ex_pI, ex_cl (isJM_t t0 hnM hj hn4), ex_bf l1_0, ex_cl (isWhat_f (y := 2) t0 hy), ex_bt rfl, ex_rt]
  · refine ok_thr J false 0 (y := 1) ?_ ?_ rfl
    · rw [f_X10_moment, ex_cl (isJC_f hnC hx), ex_bt rfl, f_X10_moment_b21, f_X10_moment_b22, ex_xt need0]
    · rw [f_X11_moment, ex_pI, ex_cl (isJM_f t0 hnM hx), ex_bt rfl, ex_rt]
theorem isHurt_eq {g n s e t : Nat} {σ τ : Sg} (I : Iv g n s e t σ τ) : f_X11_isHurt τ = some (if σ.1 17 14 = -1 then 0 else 1, τ) := by
  obtain ⟨L, c, R, -⟩ := I
  have h : τ.1 56 72 = σ.1 17 14 := R.2.2.2.2.2.2.1.2.2.2.2.2.1
  rw [f_X11_isHurt, ex_dI, h]
  by_cases z : σ.1 17 14 = -1
  · rw [ex_bt z, if_pos z, ex_rt]
  · rw [ex_bf z, if_neg z, ex_rt]
theorem danger_loop {g n s e m j : Nat} (hj : j < n) : ∀ (d i fu fm : Nat) (was : Int32) (σ τ : Sg), i + d = 61 → Jr g n s e m σ (sI τ 58 (6 * j + 4) was) → τ.1 56 0 = 0 → ∃ v σ' τ', f_X10_danger_b10 (fu + d + 1) (nI j) (nI i) σ = some (.inl v, σ') ∧ f_X11_danger_b32 (fm + d + 2) (nI j) was (-1) (nI i) τ = some (v, τ') ∧ Jr g n s e m σ' τ' ∧ τ'.1 56 0 = 0 := by
  intro d
  induction d with
  | zero =>
    intro i fu fm was σ τ h1 J t0
    have : i = 61 := by omega
    subst this
    have hn4 := J.1.2.1
    refine ⟨-1, σ, sI τ 58 (6 * j + 4) was, ?_, ?_, J, by rw [sI_ne (by omega)]; exact t0⟩
    · rw [f_X10_danger_b10, ex_bt (by decide), ex_rtX]
    · rw [f_X11_danger_b32, ex_bt (by decide), f_X11_danger_b77, nI_l6 (x := 4) (k := 4) rfl, ex_gd (inb_nI (show 6 * j + 4 < 24 by omega) (by omega)), ex_pI, nI_clamp (show 6 * j + 4 < 2 ^ 31 by omega), ex_rt]
  | succ d ih =>
    intro i fu fm was σ τ h1 J t0
    have hn4 := J.1.2.1
    have hj4 : j < 4 := by omega
    have a : ¬ (60 : Int32) < nI i := lit_nlt (M := 60) rfl (by omega) (by omega)
    obtain ⟨σ1, a1, a2, a3⟩ := J.prep
    obtain ⟨N, S, τ', n2, n3, b3, b4, b5, b6, J'⟩ := run_one (k := 4) (q := i) J hj (Or.inr ⟨rfl, by omega⟩) (off_trans a3 (off_trans (off_sI (play_fl.resolve_right (by omega))) (off_sI (play_fl.resolve_right (by omega))))) (a2.drop hj4 (v := nI i))
    have t0' : τ'.1 56 0 = 0 := by rw [(b6 56 0 rfl).1, sI_ne (by omega)]; exact t0
    have eC : f_X10_danger_b10 (fu + (d + 1) + 1) (nI j) (nI i) σ = (br ((S N).1 17 14 = ((-1))) ((f_X10_danger_b10 (fu + d + 1)) (nI j) (nI i + 1)) (rtX (nI i))) (S N) := by
      rw [show fu + (d + 1) + 1 = (fu + d + 1) + 1 by omega, f_X10_danger_b10, ex_bf a, ex_cl a1, ex_cl (flyer_eq hj4), ex_gd (isFl_l hj4), ex_cl (dropFrom_eq hj4), ex_dI, n3, ex_cl b3, ex_dI]
    have eM : f_X11_danger_b32 (fm + (d + 1) + 2) (nI j) was (-1) (nI i) τ = (br ((if (S N).1 17 14 = -1 then (0 : Int32) else 1) = 0) (f_X11_danger_b71 (f_X11_danger_b32 (fm + d + 2)) (nI j) was (-1) (nI i)) (f_X11_danger_b71 (f_X11_danger_b32 (fm + d + 2)) (nI j) was (nI i) (nI i))) τ' := by
      rw [show fm + (d + 1) + 2 = (fm + d + 2) + 1 by omega, f_X11_danger_b32, ex_bf a, ex_bt rfl, nI_l6 (x := 4) (k := 4) rfl, ex_gd (inb_nI (show 6 * j + 4 < 24 by omega) (by omega)), ex_pI, nI_clamp (show 6 * j + 4 < 2 ^ 31 by omega), ex_cl b4, ex_cl (isHurt_eq b5)]
    rw [eC, eM]
    by_cases z : (S N).1 17 14 = -1
    · rw [ex_bt z, if_pos z, ex_bt rfl, f_X11_danger_b71, nI_1]
      exact ih (i + 1) fu fm was (S N) τ' (by omega) J' t0'
    · rw [ex_bf z, if_neg z, ex_bf l1_0, f_X11_danger_b71, nI_1, ex_rtX]
      have hne : ¬ nI i = -1 := neg1_ne (by omega)
      refine ⟨nI i, S N, sI τ' 58 (6 * j + 4) was, rfl, ?_, J', by rw [sI_ne (by omega)]; exact t0'⟩
      have e77 : f_X11_danger_b77 (nI j) was (nI i) τ' = some (nI i, sI τ' 58 (6 * j + 4) was) := by
        rw [f_X11_danger_b77, nI_l6 (x := 4) (k := 4) rfl, ex_gd (inb_nI (show 6 * j + 4 < 24 by omega) (by omega)), ex_pI, nI_clamp (show 6 * j + 4 < 2 ^ 31 by omega), ex_rt]
      rw [show fm + d + 2 = (fm + d + 1) + 1 by omega, f_X11_danger_b32]
      by_cases y : (60 : Int32) < nI (i + 1)
      · rw [ex_bt y, e77]
      · rw [ex_bf y, ex_bf hne, e77]
theorem ok_danger {g n s e m : Nat} {σ τ : Sg} (J : Jr g n s e m σ τ) (x : Int32) : OkX (f_X10_danger x) (f_X11_danger x) cN σ τ := by
  obtain ⟨J0, t0⟩ := thr0 J
  have hn4 := J.1.2.1
  have hnC := J.2.2.1.1
  have hnM : (sI τ 56 0 0).1 56 6 = nI n := J0.1.2.2.1
  rcases jumper_cases x hn4 with ⟨j, hj, rfl⟩ | hx
  · have hj4 : j < 4 := by omega
    have Jw : Jr g n s e m σ (sI (sI τ 56 0 0) 58 (6 * j + 4) ((sI τ 56 0 0).1 58 (6 * j + 4))) := by rw [sI_self rfl]; exact J0
    obtain ⟨v, σ', τ', a1, a2, a3, a4⟩ := danger_loop hj 61 0 8130 8129 _ σ (sI τ 56 0 0) rfl Jw t0
    refine ⟨.inl v, σ', v, τ', ?_, ?_, ⟨a4, rfl⟩, g, n, s, e, m, a3⟩
    · rw [f_X10_danger, ex_cl (isJC_t hnC hj hn4), ex_xv need1]
      exact a1
    · rw [f_X11_danger, ex_pI, ex_cl (isJM_t t0 hnM hj hn4), ex_bf l1_0, nI_l6 (x := 4) (k := 4) rfl, ex_gd (inb_nI (show 6 * j + 4 < 24 by omega) (by omega)), ex_dI, nI_clamp (show 6 * j + 4 < 2 ^ 31 by omega)]
      exact a2
  · refine ok_thr J false 0 (y := 1) ?_ ?_ rfl
    · rw [f_X10_danger, ex_cl (isJC_f hnC hx), ex_xt need0]
    · rw [f_X11_danger, ex_pI, ex_cl (isJM_f t0 hnM hx), ex_bt rfl, ex_rt]
