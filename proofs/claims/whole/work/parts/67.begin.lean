-- ===== a run begins =====
theorem isSc2 : isSc 2 = true := rfl
theorem isFk_l {j : Nat} (h : j < 4) : isFk (fl j + 1) = true := isFk_j h
theorem told_eq {j k : Nat} {σ : Sg} {x : Int32} (hx : x = nI k) (hj : j < 4) (hk : k < 6) : f_X7_told 2 (nI j) x σ = some (σ.1 3 (6 * j + k), σ) := by
  have e : nI j * 6 + x = nI (6 * j + k) := by rw [hx, nI_mulR (x := 6) (k := 6) rfl, nI_add, Nat.mul_comm]
  have b : ¬ (24 : Int32) ≤ nI (6 * j + k) := fun h => by have := (nI_leL (x := 24) (k := 24) rfl (by omega) (by omega)).mp h; omega
  rw [f_X7_told, ex_gd isSc2, e, ex_bf (nI_pos (by omega)), ex_bf b, ex_gd (inb_nI (show 6 * j + k < 24 by omega) (by omega)), ex_dI, nI_clamp (show 6 * j + k < 2 ^ 31 by omega), ex_rt]
theorem fill6 {j fu : Nat} (hj : j < 4) : ∀ (d i : Nat) (σ : Sg), i + d = 6 → ∃ σ', f_J7_fill_53178_b5 (fu + d + 1) (fl j + 1) 0 (nI i) 6 σ = some ((), σ') ∧ Oc (fk j) σ σ' ∧ (∀ k, i ≤ k → k < 6 → σ'.1 (fk j) k = 0) ∧ (∀ k, k < i → σ'.1 (fk j) k = σ.1 (fk j) k) := by
  intro d
  induction d with
  | zero =>
    intro i σ h
    have : i = 6 := by omega
    subst this
    refine ⟨σ, ?_, Oc.rf, fun k h1 h2 => by omega, fun _ _ => rfl⟩
    rw [f_J7_fill_53178_b5, ex_gd (isFk_l hj), ex_bt (show (6 : Int32) ≤ nI 6 by decide), ex_rt]
  | succ d ih =>
    intro i σ h
    have b : ¬ (6 : Int32) ≤ nI i := fun h => by have := (nI_leL (x := 6) (k := 6) rfl (by omega) (by omega)).mp h; omega
    obtain ⟨σ', a1, a2, a3, a4⟩ := ih (i + 1) (sI σ (fk j) i 0) (by omega)
    refine ⟨σ', ?_, Oc.w.tr a2, fun k h1 h2 => ?_, fun k h1 => ?_⟩
    · rw [show fu + (d + 1) + 1 = (fu + d + 1) + 1 by omega, f_J7_fill_53178_b5, ex_gd (isFk_l hj), ex_bf b, ex_gd (inb_nI (show i < 6 by omega) (by omega)), ex_pI, nI_clamp (show i < 2 ^ 31 by omega), nI_1, fl_1]
      rw [fl_1] at a1
      exact a1
    · by_cases z : k = i
      · subst z; rw [a4 k (by omega), sI_eq]
      · exact a3 k (by omega) h2
    · rw [a4 k (by omega), sI_nf (by omega)]
/-- a flyer as it begins -/
def BgF (n : Nat) (J : Nat → Int32) (σ : Sg) (j : Nat) : Prop := σ.1 (fl j) 0 = nI j ∧ σ.1 (fl j) 5 = (if j < n then 0 else 4) ∧ σ.1 (fl j) 1 = J (6 * j) ∧ σ.1 (fl j) 2 = J (6 * j + 1) ∧ σ.1 (fl j) 6 = J (6 * j + 2) ∧ σ.1 (fl j) 9 = J (6 * j + 3) ∧ σ.1 (fl j) 3 = J (6 * j + 4) ∧ σ.1 (fl j) 7 = J (6 * j + 4) ∧ σ.1 (fl j) 4 = J (6 * j + 5) ∧ σ.1 (fl j) 8 = 0 ∧ σ.1 (fl j) 10 = 0 ∧ σ.1 (fl j) 11 = 0 ∧ σ.1 (fl j) 12 = 0 ∧ σ.1 (fl j) 13 = 0 ∧ σ.1 (fl j) 14 = 0 ∧ ∀ k, k < 6 → σ.1 (fk j) k = 0
theorem fl_3 {i : Nat} : (3 = fl i) = False := eq_false (by unfold fl; omega)
theorem flBegin_eq {j n : Nat} {σ : Sg} (hj : j < 4) (hme : σ.1 (fl j) 0 = nI j) (hn : σ.1 2 1 = nI n) (hn4 : n ≤ 4) : ∃ σ', f_X1_begin (fl j) 2 σ = some ((), σ') ∧ BgF n (σ.1 3) σ' j ∧ σ'.2 = σ.2 ∧ ∀ a b, ¬ a = fl j → ¬ a = fk j → σ'.1 a b = σ.1 a b := by
  have r3 : ∀ (υ : Sg) (k : Nat) (b : Nat) (v : Int32), (sI υ (fl j) k v).1 3 b = υ.1 3 b := fun υ k b v => sI_ne (of_eq_false fl_3)
  have main : ∀ x : Int32, x = (if j < n then 0 else 4) → ∃ σ', f_X1_begin_b27 (fl j) 2 x (fl j) σ = some ((), σ') ∧ BgF n (σ.1 3) σ' j ∧ σ'.2 = σ.2 ∧ ∀ a b, ¬ a = fl j → ¬ a = fk j → σ'.1 a b = σ.1 a b := by
    intro x hx
    generalize hA : sI (sI (sI (sI (sI (sI (sI (sI (sI (sI (sI (sI (sI (sI σ (fl j) 5 x) (fl j) 1 (σ.1 3 (6 * j + 0))) (fl j) 2 (σ.1 3 (6 * j + 1))) (fl j) 4 (σ.1 3 (6 * j + 5))) (fl j) 6 (σ.1 3 (6 * j + 2))) (fl j) 9 (σ.1 3 (6 * j + 3))) (fl j) 3 (σ.1 3 (6 * j + 4))) (fl j) 7 (σ.1 3 (6 * j + 4))) (fl j) 8 0) (fl j) 10 0) (fl j) 11 0) (fl j) 12 0) (fl j) 13 0) (fl j) 14 0 = A
    have hf0 := fill6 (fu := 8185) hj 6 0 A rfl
    obtain ⟨σ', a1, a2, a3, -⟩ := hf0
    have hfill : f_J7_fill_53178 (fl j + 1) 0 A = some ((), σ') := by
      rw [f_J7_fill_53178, ex_gd (isFk_l hj)]
      exact a1
    have start : ∀ (υ : Sg) (v : Int32), f_X1_startIn (fl j) v υ = some ((), sI υ (fl j) 9 v) := fun υ v => by rw [f_X1_startIn, ex_gd (isFl_l hj), ex_pI, ex_rt]
    have drop : ∀ (υ : Sg) (v : Int32), f_X1_dropFrom (fl j) v υ = some ((), sI (sI υ (fl j) 3 v) (fl j) 7 v) := fun υ v => by rw [f_X1_dropFrom, ex_gd (isFl_l hj), ex_pI, ex_pI, ex_rt]
    have m0 : ∀ (υ : Sg) (k : Nat) (v : Int32), ¬ 0 = k → (sI υ (fl j) k v).1 (fl j) 0 = υ.1 (fl j) 0 := fun υ k v h => sI_nf h
    refine ⟨σ', ?_, ?_, ?_, ?_⟩
    · rw [f_X1_begin_b27, ex_gd (isFl_l hj), ex_gd isSc2, ex_gd (isFl_l hj), ex_pI, ex_dI, m0 _ _ _ (by omega), hme, ex_cl (told_eq (x := 0) (k := 0) rfl hj (by omega)), ex_pI, ex_dI, m0 _ _ _ (by omega), m0 _ _ _ (by omega), hme, ex_cl (told_eq (x := 1) (k := 1) rfl hj (by omega)), ex_pI, ex_dI, m0 _ _ _ (by omega), m0 _ _ _ (by omega), m0 _ _ _ (by omega), hme, ex_cl (told_eq (x := 5) (k := 5) rfl hj (by omega)), ex_pI, ex_dI, m0 _ _ _ (by omega), m0 _ _ _ (by omega), m0 _ _ _ (by omega), m0 _ _ _ (by omega), hme, ex_cl (told_eq (x := 2) (k := 2) rfl hj (by omega)), ex_pI, ex_dI, m0 _ _ _ (by omega), m0 _ _ _ (by omega), m0 _ _ _ (by omega), m0 _ _ _ (by omega), m0 _ _ _ (by omega), hme, ex_cl (told_eq (x := 3) (k := 3) rfl hj (by omega)), ex_cl (start _ _), ex_dI, m0 _ _ _ (by omega), m0 _ _ _ (by omega), m0 _ _ _ (by omega), m0 _ _ _ (by omega), m0 _ _ _ (by omega), m0 _ _ _ (by omega), hme, ex_cl (told_eq (x := 4) (k := 4) rfl hj (by omega)), ex_cl (drop _ _), ex_pI, ex_pI, ex_pI, ex_pI, ex_pI, ex_pI]
      simp only [r3]
      rw [hA, ex_cl hfill, ex_rt]
    · have f : ∀ b, σ'.1 (fl j) b = A.1 (fl j) b := fun b => a2.2 _ _ (of_eq_false fl_fk)
      refine ⟨?_, ?_, ?_, ?_, ?_, ?_, ?_, ?_, ?_, ?_, ?_, ?_, ?_, ?_, ?_, fun k hk => a3 k (by omega) hk⟩
      · rw [f, ← hA]; simp [sI_gt, hme]
      · rw [f, ← hA, ← hx]; simp [sI_gt]
      all_goals rw [f, ← hA]; simp [sI_gt]
    · rw [a2.1, ← hA]; rfl
    · intro a b h1 h2
      rw [a2.2 a b h2, ← hA]
      simp only [sI_gt, h1, false_and, if_false]
  rw [f_X1_begin, ex_gd (isFl_l hj), ex_gd isSc2, ex_dI, ex_dI, hme, hn]
  by_cases z : j < n
  · rw [ex_bf (nI_ge z (by omega)), f_X1_begin_b16, ex_gd (isFl_l hj), ex_gd isSc2, ex_bf l1_0]
    exact main 0 (by rw [if_pos z])
  · rw [ex_bt (nI_le (by omega) (by omega)), f_X1_begin_b16, ex_gd (isFl_l hj), ex_gd isSc2, ex_bt rfl]
    exact main 4 (by rw [if_neg z])
theorem BgF.of {n j : Nat} {J : Nat → Int32} {σ σ' : Sg} (h : BgF n J σ j) (h1 : ∀ b, σ'.1 (fl j) b = σ.1 (fl j) b) (h2 : ∀ b, σ'.1 (fk j) b = σ.1 (fk j) b) : BgF n J σ' j := by
  unfold BgF
  simp only [h1, h2]
  exact h
/-- all of the play as it begins -/
def Bg (g n : Nat) (J : Nat → Int32) (r : Int32) (σ : Sg) : Prop := σ.2.2 17 3 = g ∧ σ.1 17 4 = r ∧ (∀ j, j < 4 → BgF n J σ j) ∧ σ.1 28 1 = 0 ∧ σ.1 17 5 = 0 ∧ σ.1 17 6 = 1 ∧ σ.1 17 9 = 0 ∧ σ.1 17 10 = 0 ∧ σ.1 17 11 = 0 ∧ σ.1 17 12 = 0 ∧ σ.1 17 13 = 0 ∧ σ.1 17 14 = -1 ∧ σ.1 17 15 = 0
theorem begin_loop {n fu : Nat} (hn4 : n ≤ 4) : ∀ (d i : Nat) (σ : Sg), i + d = 4 → (∀ j, j < 4 → σ.1 (fl j) 0 = nI j) → σ.1 2 1 = nI n → ∃ σ', f_X4_begin_b15 (fu + d + 1) 2 (nI i) σ = f_X4_begin_b40 σ' ∧ (∀ j, i ≤ j → j < 4 → BgF n (σ.1 3) σ' j) ∧ σ'.2 = σ.2 ∧ (∀ a b, (∀ j, i ≤ j → j < 4 → ¬ a = fl j ∧ ¬ a = fk j) → σ'.1 a b = σ.1 a b) := by
  intro d
  induction d with
  | zero =>
    intro i σ h hme hn
    have : i = 4 := by omega
    subst this
    refine ⟨σ, ?_, fun j h1 h2 => by omega, rfl, fun _ _ _ => rfl⟩
    rw [f_X4_begin_b15, ex_gd isSc2, ex_bt (show (4 : Int32) ≤ nI 4 by decide)]
  | succ d ih =>
    intro i σ h hme hn
    have hi : i < 4 := by omega
    have a : ¬ (4 : Int32) ≤ nI i := fun h => by have := (nI_leL (x := 4) (k := 4) rfl (by omega) (by omega)).mp h; omega
    obtain ⟨σ1, b1, b2, b3, b4⟩ := flBegin_eq hi (hme i hi) hn hn4
    have e3 : ∀ b, σ1.1 3 b = σ.1 3 b := fun b => b4 _ _ (of_eq_false fl_3) (by unfold fk; omega)
    obtain ⟨σ', c1, c2, c3, c4⟩ := ih (i + 1) σ1 (by omega) (fun j hj => by
      by_cases z : j = i
      · subst z; exact b2.1
      · rw [b4 _ _ (fun y => z (fl_eq.mp y)) (of_eq_false fl_fk)]; exact hme j hj) (by rw [b4 _ _ (by unfold fl; omega) (by unfold fk; omega)]; exact hn)
    have e3' : σ1.1 3 = σ.1 3 := funext e3
    refine ⟨σ', ?_, fun j h1 h2 => ?_, c3.trans b3, fun a b h1 => ?_⟩
    · rw [show fu + (d + 1) + 1 = (fu + d + 1) + 1 by omega, f_X4_begin_b15, ex_gd isSc2, ex_bf a, ex_gd (inb_nI hi (by omega)), ex_lt, nI_clamp (show i < 2 ^ 31 by omega), fl_at, ex_gd (isFl_l hi), ex_cl b1, nI_1]
      exact c1
    · by_cases z : j = i
      · subst z
        exact b2.of (fun b => c4 _ _ (fun k k1 k2 => ⟨fun y => by have := fl_eq.mp y; omega, of_eq_false fl_fk⟩)) (fun b => c4 _ _ (fun k k1 k2 => ⟨of_eq_false fk_fl, fun y => by have := fk_eq.mp y; omega⟩))
      · rw [← e3']; exact c2 j (by omega) h2
    · rw [c4 a b (fun j k1 k2 => h1 j (by omega) k2), b4 a b (h1 i (by omega) hi).1 (h1 i (by omega) hi).2]
theorem prepare_eq {g n : Nat} {σ : Sg} (hg : isGd g = true) (hgr : σ.2.2 0 6 = g) (hme : ∀ j, j < 4 → σ.1 (fl j) 0 = nI j) (hn : σ.1 2 1 = nI n) (hn4 : n ≤ 4) : ∃ σ', f_X10_prepare σ = some ((), σ') ∧ Bg g n (σ.1 3) (σ.1 2 2) σ' ∧ off gs_play σ σ' := by
  have l2 : ∀ j, ¬ 2 = fl j := fun j => by unfold fl; omega
  obtain ⟨σ1, a1, a2, a3, a4⟩ := begin_loop (fu := 8187) hn4 4 0 (sI (sR σ 17 3 g) 17 4 (σ.1 2 2)) rfl (fun j hj => by rw [sI_ne (of_eq_false fl_17), sR_1]; exact hme j hj) (by rw [sI_ne (by omega), sR_1]; exact hn)
  have e17 : ∀ b, σ1.1 17 b = (sI (sR σ 17 3 g) 17 4 (σ.1 2 2)).1 17 b := fun b => a4 _ _ (fun j k1 k2 => ⟨of_eq_false e17_fl, of_eq_false e17_fk⟩)
  have eJ : (sI (sR σ 17 3 g) 17 4 (σ.1 2 2)).1 3 = σ.1 3 := funext fun b => by rw [sI_ne (by omega), sR_1]
  have hb : f_X4_begin g 2 σ = f_X4_begin_b40 σ1 := by
    rw [f_X4_begin, ex_gd hg, ex_gd isSc2, ex_pR, ex_dI, ex_pI, ← a1]
    rfl
  generalize hB : sI (sI (sI (sI (sI (sI (sI (sR (sI (sI (sI (sI σ1 28 1 0) 17 5 0) 17 6 1) 17 7 0) 17 8 19) 17 9 0) 17 10 0) 17 11 0) 17 12 0) 17 13 0) 17 14 (-1)) 17 15 0 = B
  have h40 : f_X4_begin_b40 σ1 = some ((), B) := by
    rw [f_X4_begin_b40, ex_pI, ex_pI, ex_pI, ex_pI, ex_gd (by decide), ex_lt, clamp0, ex_gd (by decide), ex_pR, ex_pI, ex_pI, ex_pI, ex_pI, ex_pI, ex_pI, ex_pI, ex_rt, ← hB]
  have hp : f_X10_prepare σ = some ((), B) := by
    rw [f_X10_prepare, ex_dR, hgr, ex_gd hg, ex_cl (hb.trans h40), ex_rt]
  refine ⟨B, hp, ?_, fr_X10_prepare _ _ hp⟩
  have bf : ∀ a b, ¬ a = 17 → ¬ a = 28 → B.1 a b = σ1.1 a b := by
    intro a b h1 h2
    rw [← hB]
    simp only [sI_gt, sR_1, h1, h2, false_and, if_false]
  refine ⟨?_, ?_, ?_, ?_, ?_, ?_, ?_, ?_, ?_, ?_, ?_, ?_, ?_⟩
  · rw [← hB]
    simp [sI_2, sR_gt, a3]
  · have : B.1 17 4 = σ1.1 17 4 := by rw [← hB]; simp [sI_gt, sR_1]
    rw [this, e17, sI_eq]
  · intro j hj
    have := a2 j (by omega) hj
    rw [eJ] at this
    exact this.of (fun b => bf _ _ (of_eq_false fl_17) (of_eq_false fl_28)) (fun b => bf _ _ (of_eq_false fk_17) (of_eq_false (fk_28 hj)))
  all_goals rw [← hB]; simp [sI_gt, sR_1]
