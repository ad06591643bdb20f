-- ===== film, landing, over =====
theorem tick_cases (x : Int32) {N : Nat} (hN : N ≤ 600) : (∃ k, k < N ∧ x = nI k) ∨ x < 0 ∨ (¬ x < 0 ∧ nI N ≤ x) := by
  by_cases h : x < 0
  · exact Or.inr (Or.inl h)
  · obtain ⟨j, hj, rfl⟩ := nI_of h
    by_cases k : j < N
    · exact Or.inl ⟨j, k, rfl⟩
    · exact Or.inr (Or.inr ⟨h, nI_le (by omega) hj⟩)
theorem isT_t {k N : Nat} {σ : Sg} (h : σ.1 2 3 = nI N) (hk : k < N) (hN : N ≤ 600) : f_X10_isTick (nI k) σ = some (1, σ) := by
  rw [f_X10_isTick, ex_bf (nI_pos (by omega)), ex_dI, h, ex_bf (nI_ge hk (by omega)), ex_rt]
theorem isT_f {x : Int32} {N : Nat} {σ : Sg} (h : σ.1 2 3 = nI N) (hx : x < 0 ∨ (¬ x < 0 ∧ nI N ≤ x)) : f_X10_isTick x σ = some (0, σ) := by
  rcases hx with q | ⟨q1, q2⟩
  · rw [f_X10_isTick, ex_bt q, ex_rt]
  · rw [f_X10_isTick, ex_bf q1, ex_dI, h, ex_bt q2, ex_rt]
theorem ok_film {g n s e m : Nat} {σ τ : Sg} (J : Jr g n s e m σ τ) (x y : Int32) : OkX (f_X10_film x y) (f_X11_film x y) cN σ τ := by
  obtain ⟨J0, t0⟩ := thr0 J
  have hn4 := J.1.2.1
  have hnC := J.2.2.1.1
  have hnM : (sI τ 56 0 0).1 56 6 = nI n := J0.1.2.2.1
  rcases jumper_cases x hn4 with ⟨j, hj, rfl⟩ | hx
  · have hj4 : j < 4 := by omega
    obtain ⟨N, S, τ', n1, n2, n3, n4, p1, p2, p3, p4, I, p5, o1, o2, ome⟩ := J0.playAll
    rcases tick_cases y n2 with ⟨k, hk, rfl⟩ | hy
    · obtain ⟨v, v1, v2⟩ := p5 k hk j hj
      have e6 : 600 * nI j + nI k = nI (600 * j + k) := by rw [nI_mulL (x := 600) (k := 600) rfl, nI_add]
      refine ok_run (σ' := S (k + 1)) (τ' := τ') J v ?_ ?_ (run_thr o1 t0) (off_mono fc_play (o2 _ (by omega))) (off_trans (off_sI rfl) (run_off o1)) (ome _ (by omega))
      · rw [f_X10_film, ex_cl (isJC_t hnC hj hn4), ex_bf l1_0, ex_cl (isT_t n3 hk n2), ex_bf l1_0, f_X10_film_b21, ex_xv need1, ex_cl p1, nI_1, ex_cl (go_to p2 (show k + 1 ≤ N by omega) n2), ex_cl (flyer_eq hj4), ex_gd (isFl_l hj4), ex_cl v1, ex_rtX]
      · rw [f_X11_film, ex_pI, ex_cl (isJM_t t0 hnM hj hn4), ex_bf l1_0, ex_bf (nI_pos (by omega)), ex_dI, n4, ex_bf (nI_ge hk (by omega)), f_X11_film_b31, ex_cl (right1 t0), ex_bf l1_0, ex_cl p4, e6, ex_gd (inb_nI (show 600 * j + k < 2400 by omega) (by omega)), ex_dI, nI_clamp (show 600 * j + k < 2 ^ 31 by omega), v2, ex_rt]
    · refine ok_thr J false 0 (y := 1) ?_ ?_ rfl
      · rw [f_X10_film, ex_cl (isJC_t hnC hj hn4), ex_bf l1_0, ex_cl (isT_f n3 hy), ex_bt rfl, f_X10_film_b20, f_X10_film_b21, ex_xt need0]
      · have b30 : f_X11_film_b30 (nI j) y (sI τ 56 0 0) = some (0, sI (sI τ 56 0 0) 56 0 1) := by
          rw [f_X11_film_b30, f_X11_film_b31, ex_cl (right0 t0 l1_0), ex_bt rfl, ex_rt]
        rw [f_X11_film, ex_pI, ex_cl (isJM_t t0 hnM hj hn4), ex_bf l1_0]
        rcases hy with q | ⟨q1, q2⟩
        · rw [ex_bt q, b30]
        · rw [ex_bf q1, ex_dI, n4, ex_bt q2, b30]
  · refine ok_thr J false 0 (y := 1) ?_ ?_ rfl
    · rw [f_X10_film, ex_cl (isJC_f hnC hx), ex_bt rfl, f_X10_film_b20, f_X10_film_b21, ex_xt need0]
    · rw [f_X11_film, ex_pI, ex_cl (isJM_f t0 hnM hx), ex_bt rfl, ex_rt]
theorem ltold_eq {i k L : Nat} {σ : Sg} (hi : i < L) (hk : k < 5) (hL : L ≤ 600) : f_X3_told (nI i) (nI k) σ = some (σ.1 29 (5 * i + k), σ) := by
  have e : nI i * 5 + nI k = nI (5 * i + k) := by rw [nI_mulR (x := 5) (k := 5) rfl, nI_add, Nat.mul_comm]
  have b : ¬ (3000 : Int32) ≤ nI (5 * i + k) := fun h => by have := (nI_leL (x := 3000) (k := 3000) rfl (by omega) (by omega)).mp h; omega
  rw [f_X3_told, e, ex_bf (nI_pos (by omega)), ex_bf b, ex_gd (inb_nI (show 5 * i + k < 3000 by omega) (by omega)), ex_dI, nI_clamp (show 5 * i + k < 2 ^ 31 by omega), ex_rt]
theorem Iv.lands {g n s e t : Nat} {σ τ : Sg} (I : Iv g n s e t σ τ) : ∃ L, L ≤ 600 ∧ ReL L σ τ := by
  obtain ⟨L, c, R, ⟨-, -, -, ⟨c1, -, -, c4⟩, -⟩, -⟩ := I
  refine ⟨L, ?_, R.2.2.2.2.2.1⟩
  have := c1 0
  have := c1 1
  have := c1 2
  have := c1 3
  omega
theorem neg1_lt {x : Int32} (h : ¬ x < -1) : x = -1 ∨ ¬ x < 0 := by
  rw [Int32.lt_iff_toInt_lt] at h
  have e : (-1 : Int32).toInt = -1 := by decide
  by_cases z : x.toInt = -1
  · left; exact Int32.toInt_inj.mp (z.trans e.symm)
  · right; rw [Int32.lt_iff_toInt_lt, toInt_0]; omega
theorem ok_landing {g n s e m : Nat} {σ τ : Sg} (J : Jr g n s e m σ τ) (x y : Int32) : OkX (f_X10_landing x y) (f_X11_landing x y) cN σ τ := by
  obtain ⟨J0, t0⟩ := thr0 J
  have thr : f_X10_landing_b27 x y σ = some (.inr false, σ) := by rw [f_X10_landing_b27, f_X10_landing_b28, ex_xt need0]
  by_cases hx : x < -1
  · refine ok_thr J false 0 (y := 1) ?_ ?_ rfl
    · rw [f_X10_landing, ex_bt hx, thr]
    · rw [f_X11_landing, ex_pI, ex_bt hx, f_X11_landing_b16, ex_cl (right0 t0 l1_0), ex_bt rfl, ex_rt]
  · obtain ⟨N, S, τ', n1, n2, n3, n4, p1, p2, p3, p4, I, p5, o1, o2, ome⟩ := J0.playAll
    obtain ⟨L, hL, l1, l2, l3⟩ := I.lands
    have fin : ∀ v, f_X10_landing x y σ = some (.inl v, S N) → f_X11_landing x y τ = some (v, τ') → OkX (f_X10_landing x y) (f_X11_landing x y) cN σ τ := fun v h1 h2 => ok_run J v h1 h2 (run_thr o1 t0) (off_mono fc_play (o2 N (Nat.le_refl N))) (off_trans (off_sI rfl) (run_off o1)) I.me
    have eM : f_X11_landing x y τ = (br (x = ((-1))) (f_X11_landing_b35 x y 0 y) (f_X11_landing_b35 x y 4 y)) (sI τ 56 0 0) := by
      rw [f_X11_landing, ex_pI, ex_bf hx, f_X11_landing_b16, ex_cl (right1 t0), ex_bf l1_0]
    rcases neg1_lt hx with rfl | hx0
    · -- how many
      rcases what_cases y (M := 0) (y := 0) rfl (by omega) with ⟨k, hk, rfl⟩ | hy
      · have : k = 0 := by omega
        subst this
        refine fin (nI L) ?_ ?_
        · rw [f_X10_landing, ex_bf hx, ex_bf (by decide), ex_bf (by decide), ex_bt rfl, ex_bt (by decide), f_X10_landing_b23, f_X10_landing_b28, ex_xv need1, ex_cl p3, ex_dI, l1, ex_bf, f_X10_landing_b54, ex_xv need1, ex_bt rfl, ex_dI, l1, ex_rtX]
          rw [Int32.le_iff_toInt_le, nI_toInt (by omega)]
          have e : (-1 : Int32).toInt = -1 := by decide
          omega
        · rw [eM, ex_bt rfl, f_X11_landing_b35, ex_cl (isWhat_t (M := 0) (y := 0) rfl t0 hk (by omega)), ex_bf l1_0, ex_cl p4, ex_bt rfl, ex_dI, l2, ex_rt]
      · have h0 : ¬ y = 0 := by
          rintro rfl
          rcases hy with q | ⟨-, q⟩ <;> exact absurd q (by decide)
        refine ok_thr J false 0 (y := 1) ?_ ?_ rfl
        · rw [f_X10_landing, ex_bf hx]
          by_cases q1 : y < 0
          · rw [ex_bt q1, thr]
          · rw [ex_bf q1]
            by_cases q2 : (5 : Int32) ≤ y
            · rw [ex_bt q2, thr]
            · rw [ex_bf q2, ex_bt rfl, ex_bf h0, thr]
        · rw [eM, ex_bt rfl, f_X11_landing_b35, ex_cl (isWhat_f (y := 0) t0 hy), ex_bt rfl, ex_rt]
    · have hne : ¬ x = -1 := by
        rintro rfl
        exact hx0 (by decide)
      rcases what_cases y (M := 4) (y := 4) rfl (by omega) with ⟨k, hk, rfl⟩ | hy
      · obtain ⟨i, hi, rfl⟩ := nI_of hx0
        have b5 : ¬ (5 : Int32) ≤ nI k := fun h => by have := (nI_leL (x := 5) (k := 5) rfl (by omega) (by omega)).mp h; omega
        have eC : f_X10_landing (nI i) (nI k) σ = (br (nI L ≤ nI i) (f_X10_landing_b54 (nI i) (nI k) 0) (f_X10_landing_b54 (nI i) (nI k) 1)) (S N) := by
          rw [f_X10_landing, ex_bf hx, ex_bf (nI_pos (by omega)), ex_bf b5, ex_bf hne, f_X10_landing_b23, f_X10_landing_b28, ex_xv need1, ex_cl p3, ex_dI, l1]
        have eM2 : f_X11_landing (nI i) (nI k) τ = (br (nI L ≤ nI i) (f_X11_landing_b71 (nI i) (nI k) 0) (f_X11_landing_b71 (nI i) (nI k) 1)) τ' := by
          rw [eM, ex_bf hne, f_X11_landing_b35, ex_cl (isWhat_t (M := 4) (y := 4) rfl t0 hk (by omega)), ex_bf l1_0, ex_cl p4, ex_bf hne, ex_dI, l2]
        by_cases z : i < L
        · refine fin ((S N).1 29 (5 * i + k)) ?_ ?_
          · rw [eC, ex_bf (nI_ge z (by omega)), f_X10_landing_b54, ex_xv need1, ex_bf hne, ex_cl (ltold_eq z (by omega) hL), ex_rtX]
          · rw [eM2, ex_bf (nI_ge z (by omega)), f_X11_landing_b71, ex_cl (right1 (run_thr o1 t0)), ex_bf l1_0, nI_mulL (x := 5) (k := 5) rfl, nI_add, ex_gd (inb_nI (show 5 * i + k < 6500 by omega) (by omega)), ex_dI, nI_clamp (show 5 * i + k < 2 ^ 31 by omega), l3 _ (by omega), ex_rt]
        · have hle : nI L ≤ nI i := nI_le (by omega) hi
          refine ⟨.inr false, S N, 0, sI τ' 56 0 1, ?_, ?_, ?_, g, n, s, e, m, ?_⟩
          · rw [eC, ex_bt hle, f_X10_landing_b54, ex_xt need0]
          · rw [eM2, ex_bt hle, f_X11_landing_b71, ex_cl (right0 (run_thr o1 t0) l1_0), ex_bt rfl, ex_rt]
          · show cN false = some ((sI τ' 56 0 1).1 56 0)
            rw [sI_eq]; rfl
          · exact J.frame (off_mono fc_play (o2 N (Nat.le_refl N))) (off_trans (off_sI rfl) (off_trans (run_off o1) (off_sI rfl))) I.me
      · refine ok_thr J false 0 (y := 1) ?_ ?_ rfl
        · rw [f_X10_landing, ex_bf hx]
          rcases hy with q | ⟨q1, q2⟩
          · rw [ex_bt q, thr]
          · have q3 : (5 : Int32) ≤ y := by
              rw [Int32.lt_iff_toInt_lt] at q2
              rw [Int32.le_iff_toInt_le]
              have e4 : (4 : Int32).toInt = 4 := by decide
              have e5 : (5 : Int32).toInt = 5 := by decide
              omega
            rw [ex_bf q1, ex_bt q3, thr]
        · rw [eM, ex_bf hne, f_X11_landing_b35, ex_cl (isWhat_f (y := 4) t0 hy), ex_bt rfl, ex_rt]
-- over: the film's ticks at or above a height, from tick k on: how many, the first
def ovN (H : Nat → Int32) (h : Int32) : Nat → Nat → Nat
  | _, 0 => 0
  | k, d + 1 => (if H k < h then 0 else 1) + ovN H h (k + 1) d
def ovF (H : Nat → Int32) (h : Int32) : Nat → Nat → Int32
  | _, 0 => -1
  | k, d + 1 => if H k < h then ovF H h (k + 1) d else nI k
theorem ovN_le {H : Nat → Int32} {h : Int32} : ∀ d k, ovN H h k d ≤ d
  | 0, _ => Nat.le_refl 0
  | d + 1, k => by
    have := ovN_le (H := H) (h := h) d (k + 1)
    rw [ovN]
    split <;> omega
theorem ovN_s {H : Nat → Int32} {h : Int32} : ∀ d k, ovN H h k (d + 1) = ovN H h k d + (if H (k + d) < h then 0 else 1)
  | 0, k => by simp [ovN]
  | d + 1, k => by
    rw [ovN, ovN_s d (k + 1), ovN, show k + 1 + d = k + (d + 1) by omega]; omega
theorem over_C {g n s e m N j : Nat} {σ τ : Sg} {S : Nat → Sg} {x2 : Int32} {H : Nat → Int32} {x3 : Int32} (J : Jr g n s e m σ τ) (hj : j < 4) (n2 : N ≤ 600) (n3 : σ.1 2 3 = nI N) (p2 : Chain 0 N S) (o2 : ∀ k, k ≤ N → off gs_play σ (S k)) (hH : ∀ k, k < N → f_X1_heightIn (fl j) (nI k) (S (k + 1)) = some (H k, S (k + 1))) : ∀ (d k c fu : Nat) (f : Int32), k + d = N → c ≤ k → f_X10_over_b57 (fu + d + 1) (nI j) x2 x3 (nI c) f (nI k) (S k) = f_X10_over_b122 x3 (nI (c + ovN H x2 k d)) (if c = 0 then (if ovN H x2 k d = 0 then f else ovF H x2 k d) else f) (S N) := by
  intro d
  induction d with
  | zero =>
    intro k c fu f h1 h2
    have : k = N := by omega
    subst this
    have e3 : (S k).1 2 3 = nI k := by rw [(o2 k (Nat.le_refl k) 2 3 rfl).1]; exact n3
    rw [f_X10_over_b57, ex_dI, e3, ex_bt (Int32.le_refl _)]
    simp [ovN]
  | succ d ih =>
    intro k c fu f h1 h2
    have e3 : (S k).1 2 3 = nI N := by rw [(o2 k (by omega) 2 3 rfl).1]; exact n3
    rw [show fu + (d + 1) + 1 = (fu + d + 1) + 1 by omega, f_X10_over_b57, ex_dI, e3, ex_bf (nI_ge (by omega) (by omega)), nI_1, ex_cl (go_one p2 (show k < N by omega) n2), ex_cl (flyer_eq hj), ex_gd (isFl_l hj), ex_cl (hH k (by omega))]
    by_cases z : H k < x2
    · rw [ex_bt z, f_X10_over_b116, nI_1, ih (k + 1) c fu f (by omega) (by omega)]
      simp only [ovN, ovF, if_pos z, Nat.zero_add]
    · rw [ex_bf z]
      by_cases y : c = 0
      · subst y
        rw [ex_bt (show nI 0 = 0 from rfl), f_X10_over_b111, f_X10_over_b116, nI_1, nI_1, ih (k + 1) 1 fu (nI k) (by omega) (by omega)]
        simp only [ovN, ovF, if_neg z, if_true]
        rw [if_neg (show ¬ 0 + 1 = 0 by omega), if_neg (show ¬ 1 + ovN H x2 (k + 1) d = 0 by omega), Nat.zero_add]
      · rw [ex_bf (nI_ne0 (by omega) (by omega)), f_X10_over_b111, f_X10_over_b116, nI_1, nI_1, ih (k + 1) (c + 1) fu f (by omega) (by omega)]
        simp only [ovN, if_neg z, if_neg y]
        rw [if_neg (show ¬ c + 1 = 0 by omega), show c + 1 + ovN H x2 (k + 1) d = c + (1 + ovN H x2 (k + 1) d) by omega]
theorem over_M {N j : Nat} {τ : Sg} {x2 x3 : Int32} {H : Nat → Int32} (hj : j < 4) (n2 : N ≤ 600) (hH : ∀ k, k < N → τ.1 84 (600 * j + k) = H k) : ∀ (k fu : Nat), k ≤ N → f_X11_over_b58 (fu + k + 1) (nI j) x2 x3 (nI (ovN H x2 k (N - k))) (ovF H x2 k (N - k)) (nI k - 1) τ = f_X11_over_b96 x3 (nI (ovN H x2 0 N)) (ovF H x2 0 N) τ := by
  intro k
  induction k with
  | zero =>
    intro fu h
    rw [f_X11_over_b58, ex_bt (show nI 0 - 1 < 0 by decide), Nat.sub_zero]
  | succ k ih =>
    intro fu h
    have e6 : 600 * nI j + nI k = nI (600 * j + k) := by rw [nI_mulL (x := 600) (k := 600) rfl, nI_add]
    have ed : N - k = (N - (k + 1)) + 1 := by omega
    have hi := ih fu (by omega)
    rw [ed] at hi
    rw [show fu + (k + 1) + 1 = (fu + k + 1) + 1 by omega, f_X11_over_b58, nI_pred, ex_bf (nI_pos (by omega)), e6, ex_gd (inb_nI (show 600 * j + k < 2400 by omega) (by omega)), ex_dI, nI_clamp (show 600 * j + k < 2 ^ 31 by omega), hH k (by omega)]
    have em : nI k + (-1) = nI k - 1 := (Int32.sub_eq_add_neg _ _).symm
    by_cases z : H k < x2
    · rw [ex_bf (Int32.not_le.mpr z), f_X11_over_b90, em]
      simp only [ovN, ovF, if_pos z, Nat.zero_add] at hi
      exact hi
    · rw [ex_bt (Int32.not_lt.mp z), f_X11_over_b90, em, nI_1]
      simp only [ovN, ovF, if_neg z] at hi
      rw [show ovN H x2 (k + 1) (N - (k + 1)) + 1 = 1 + ovN H x2 (k + 1) (N - (k + 1)) by omega]
      exact hi
theorem ovF_none {H : Nat → Int32} {h : Int32} : ∀ d k, ovN H h k d = 0 → ovF H h k d = -1
  | 0, _, _ => rfl
  | d + 1, k, q => by
    rw [ovN] at q
    by_cases z : H k < h
    · rw [if_pos z] at q
      rw [ovF, if_pos z]
      exact ovF_none d (k + 1) (by omega)
    · rw [if_neg z] at q; omega
theorem ok_over {g n s e m : Nat} {σ τ : Sg} (J : Jr g n s e m σ τ) (x y w : Int32) : OkX (f_X10_over x y w) (f_X11_over x y w) cB σ τ := by
  obtain ⟨J0, t0⟩ := thr0 J
  have hn4 := J.1.2.1
  have hnC := J.2.2.1.1
  have hnM : (sI τ 56 0 0).1 56 6 = nI n := J0.1.2.2.1
  rcases jumper_cases x hn4 with ⟨j, hj, rfl⟩ | hx
  · have hj4 : j < 4 := by omega
    rcases what_cases w (M := 1) (y := 1) rfl (by omega) with ⟨k, hk, rfl⟩ | hw
    · have e22 : f_X10_over (nI j) y (nI k) σ = f_X10_over_b22 (nI j) y (nI k) 1 σ := by
        rw [f_X10_over, ex_cl (isJC_t hnC hj hn4), ex_bf l1_0]
        rcases (by omega : k = 0 ∨ k = 1) with rfl | rfl
        · rw [ex_bt (by decide), f_X10_over_b17]
        · rw [ex_bf (by decide), ex_bt (by decide), f_X10_over_b17]
      have eM : f_X11_over (nI j) y (nI k) τ = (cl (f_X11_within y 0 999) (fun r5 => cl (f_X11_right r5 2) (fun r6 => br (r6 = 0) (rt (0 : Int32)) (cl (f_X11_runsAll) (fun _ => dI 56 47 (fun v8 => f_X11_over_b58 FU (nI j) y (nI k) 0 ((-1)) (v8 - 1))))))) (sI τ 56 0 0) := by
        rw [f_X11_over, ex_pI, ex_cl (isJM_t t0 hnM hj hn4), ex_bf l1_0, ex_cl (isWhat_t (M := 1) (y := 1) rfl t0 hk (by omega)), ex_bf l1_0]
      rcases what_cases y (M := 999) (y := 999) rfl (by omega) with ⟨q, hq, rfl⟩ | hy
      · obtain ⟨N, S, τ', n1, n2, n3, n4, p1, p2, p3, p4, I, p5, o1, o2, ome⟩ := J0.playAll
        have hw1 : f_X11_within (nI q) 0 999 (sI τ 56 0 0) = some (1, sI τ 56 0 0) := by
          rw [f_X11_within, ex_bf (nI_pos (by omega)), ex_bf (lit_nlt (M := 999) (x := 999) rfl hq (by omega)), ex_rt]
        have hC := over_C (x2 := nI q) (x3 := nI k) (H := fun i => τ'.1 84 (600 * j + i)) J hj4 n2 n3 p2 o2 (fun i hi => by
          obtain ⟨v, v1, v2⟩ := p5 i hi j hj
          rw [v1]
          show some (v, S (i + 1)) = some (τ'.1 84 (600 * j + i), S (i + 1))
          rw [v2]) N 0 0 (8191 - N) (-1) (by omega) (by omega)
        have hM := over_M (x2 := nI q) (x3 := nI k) (τ := τ') (H := fun i => τ'.1 84 (600 * j + i)) hj4 n2 (fun i hi => rfl) N (8191 - N) (Nat.le_refl N)
        rw [show 8191 - N + N + 1 = FU by rw [Nat.sub_add_cancel (by omega)]; rfl] at hC hM
        rw [Nat.sub_self] at hM
        have t47 : τ'.1 56 47 = nI N := by rw [(o1 56 47 rfl).1]; exact n4
        have eF : (if 0 = 0 then (if ovN (fun i => τ'.1 84 (600 * j + i)) (nI q) 0 N = 0 then (-1 : Int32) else ovF (fun i => τ'.1 84 (600 * j + i)) (nI q) 0 N) else -1) = ovF (fun i => τ'.1 84 (600 * j + i)) (nI q) 0 N := by
          rw [if_pos rfl]
          by_cases z : ovN (fun i => τ'.1 84 (600 * j + i)) (nI q) 0 N = 0
          · rw [if_pos z, ovF_none _ _ z]
          · rw [if_neg z]
        rw [eF, Nat.zero_add] at hC
        have fC : f_X10_over (nI j) (nI q) (nI k) σ = f_X10_over_b122 (nI k) (nI (ovN (fun i => τ'.1 84 (600 * j + i)) (nI q) 0 N)) (ovF (fun i => τ'.1 84 (600 * j + i)) (nI q) 0 N) (S N) := by
          rw [e22, f_X10_over_b22, ex_xv need1, ex_bf (nI_pos (by omega)), ex_bf (lit_nlt (M := 999) (x := 999) rfl hq (by omega)), f_X10_over_b41, ex_xv dem1, ex_cl p1]
          exact hC
        have fM : f_X11_over (nI j) (nI q) (nI k) τ = f_X11_over_b96 (nI k) (nI (ovN (fun i => τ'.1 84 (600 * j + i)) (nI q) 0 N)) (ovF (fun i => τ'.1 84 (600 * j + i)) (nI q) 0 N) τ' := by
          rw [eM, ex_cl hw1, ex_cl (right1 t0), ex_bf l1_0, ex_cl p4, ex_dI, t47]
          exact hM
        have fin : ∀ v, f_X10_over (nI j) (nI q) (nI k) σ = some (.inl v, S N) → f_X11_over (nI j) (nI q) (nI k) τ = some (v, τ') → OkX (f_X10_over (nI j) (nI q) (nI k)) (f_X11_over (nI j) (nI q) (nI k)) cB σ τ := fun v h1 h2 => ok_run J v h1 h2 (run_thr o1 t0) (off_mono fc_play (o2 N (Nat.le_refl N))) (off_trans (off_sI rfl) (run_off o1)) I.me
        rcases (by omega : k = 0 ∨ k = 1) with rfl | rfl
        · exact fin _ (by rw [fC, f_X10_over_b122, ex_bt (by decide), ex_rtX]) (by rw [fM, f_X11_over_b96, ex_bt (by decide), ex_rt])
        · exact fin _ (by rw [fC, f_X10_over_b122, ex_bf (by decide), ex_rtX]) (by rw [fM, f_X11_over_b96, ex_bf (by decide), ex_rt])
      · refine ok_thr J true 0 (y := 2) ?_ ?_ rfl
        · rw [e22, f_X10_over_b22, ex_xv need1]
          rcases hy with q | ⟨q1, q2⟩
          · rw [ex_bt q, f_X10_over_b40, f_X10_over_b41, ex_xt dem0]
          · rw [ex_bf q1, ex_bt q2, f_X10_over_b40, f_X10_over_b41, ex_xt dem0]
        · have hw0 : f_X11_within y 0 999 (sI τ 56 0 0) = some (0, sI τ 56 0 0) := by
            rcases hy with q | ⟨q1, q2⟩
            · rw [f_X11_within, ex_bt q, ex_rt]
            · rw [f_X11_within, ex_bf q1, ex_bt q2, ex_rt]
          rw [eM, ex_cl hw0, ex_cl (right0 t0 l2_0), ex_bt rfl, ex_rt]
    · have w0 : ¬ w = 0 := by
        rintro rfl
        rcases hw with q | ⟨-, q⟩ <;> exact absurd q (by decide)
      have w1 : ¬ w = 1 := by
        rintro rfl
        rcases hw with q | ⟨-, q⟩ <;> exact absurd q (by decide)
      refine ok_thr J false 0 (y := 1) ?_ ?_ rfl
      · rw [f_X10_over, ex_cl (isJC_t hnC hj hn4), ex_bf l1_0, ex_bf w0, ex_bf w1, f_X10_over_b21, f_X10_over_b22, ex_xt need0]
      · rw [f_X11_over, ex_pI, ex_cl (isJM_t t0 hnM hj hn4), ex_bf l1_0, ex_cl (isWhat_f (y := 1) t0 hw), ex_bt rfl, ex_rt]
  · refine ok_thr J false 0 (y := 1) ?_ ?_ rfl
    · rw [f_X10_over, ex_cl (isJC_f hnC hx), ex_bt rfl, f_X10_over_b21, f_X10_over_b22, ex_xt need0]
    · rw [f_X11_over, ex_pI, ex_cl (isJM_f t0 hnM hx), ex_bt rfl, ex_rt]
