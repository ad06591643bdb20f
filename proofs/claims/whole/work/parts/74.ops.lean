-- ===== some of them: without, pairs, apart, at once =====
theorem run_set {g n s e m : Nat} {σ τ : Sg} {x y : Int32} (J : Jr g n s e m σ τ) (hxy : ∀ j, j < n → bitB y j = bitB x j) : ∃ (N : Nat) (σ1 σ2 σ3 : Sg) (τ' : Sg), f_X10_prepare σ = some ((), σ1) ∧ f_X4_keepOnly x σ1 = some ((), σ2) ∧ σ2.1 2 3 = nI N ∧ f_X4_go 0 (nI N) σ2 = some ((), σ3) ∧ f_X11_runs y τ = some ((), τ') ∧ Iv g n s e N σ3 τ' ∧ off gs_mrun τ τ' ∧ Jr g n s e m σ3 τ' := by
  obtain ⟨σ1, a1, a2, a3⟩ := J.prep
  obtain ⟨σ2, c1, c2⟩ := keep_eq (x := x) a2
  obtain ⟨jG, jR, ⟨s1, s2, s3, s4, s5, s6⟩, -⟩ := id J
  obtain ⟨N, S, τ', n1, n2, n3, n3', n4, b1, b2, b3, b4, b5, b6, b7, b8, b9⟩ := run_any (x := y) (τ1 := τ) J (off_trans a3 (fr_X4_keepOnly _ _ _ c1)) c2 s3 s4.2 s4.1 (fun _ _ _ _ => rfl) s2 hxy
  exact ⟨N, σ1, σ2, S N, τ', a1, c1, n3', b3, b4, b5, b7, J.frame (off_mono fc_play (b8 N (Nat.le_refl N))) (run_off b7) b5.me⟩
theorem hurtAmong_rel {g n s e m : Nat} {σ τ : Sg} {x : Int32} (J : Jr g n s e m σ τ) : ∃ v σ' τ', f_X10_hurtAmong x σ = some (v, σ') ∧ f_X11_runs x τ = some ((), τ') ∧ f_X11_isHurt τ' = some (v, τ') ∧ (v = 0 ∨ v = 1) ∧ Jr g n s e m σ' τ' ∧ τ'.1 56 0 = τ.1 56 0 := by
  obtain ⟨N, σ1, σ2, σ3, τ', a1, a2, a3, a4, a5, a6, a7, a8⟩ := run_set (x := x) (y := x) J (fun _ _ => rfl)
  refine ⟨if σ3.1 17 14 = -1 then 0 else 1, σ3, τ', ?_, a5, isHurt_eq a6, ?_, a8, (a7 56 0 rfl).1⟩
  · rw [f_X10_hurtAmong, ex_cl a1, ex_cl a2, ex_dI, a3, ex_cl a4, ex_dI]
    by_cases z : σ3.1 17 14 = -1
    · rw [ex_bt z, if_pos z, ex_rt]
    · rw [ex_bf z, if_neg z, ex_rt]
  · by_cases z : σ3.1 17 14 = -1
    · rw [if_pos z]; exact Or.inl rfl
    · rw [if_neg z]; exact Or.inr rfl
theorem bit_without {n j k : Nat} (hn : n ≤ 4) (hj : j < n) (hk : k < n) : bitB ((((1 : Int32) <<< (nI n &&& 31)) - 1) &&& (((1 : Int32) <<< (nI k &&& 31)) ^^^ ((-1)))) j = bitB (((1 : Int32) <<< (nI k &&& 31)) ^^^ ((-1))) j := by
  have : ∀ n' : Fin 5, ∀ j' : Fin 4, ∀ k' : Fin 4, j'.1 < n'.1 → k'.1 < n'.1 → bitB ((((1 : Int32) <<< (nI n'.1 &&& 31)) - 1) &&& (((1 : Int32) <<< (nI k'.1 &&& 31)) ^^^ ((-1)))) j'.1 = bitB (((1 : Int32) <<< (nI k'.1 &&& 31)) ^^^ ((-1))) j'.1 := by decide
  exact this ⟨n, by omega⟩ ⟨j, by omega⟩ ⟨k, by omega⟩ hj hk
theorem ok_without {g n s e m : Nat} {σ τ : Sg} (J : Jr g n s e m σ τ) (x y : Int32) : OkX (f_X10_without x y) (f_X11_without x y) cB σ τ := by
  obtain ⟨J0, t0⟩ := thr0 J
  have hn4 := J.1.2.1
  have hnC := J.2.2.1.1
  have hnM : (sI τ 56 0 0).1 56 6 = nI n := J0.1.2.2.1
  rcases jumper_cases x hn4 with ⟨j, hj, rfl⟩ | hx
  · have hj4 : j < 4 := by omega
    rcases jumper_cases y hn4 with ⟨k, hk, rfl⟩ | hy
    · by_cases z : nI j = nI k
      · refine ok_thr J true 0 (y := 2) ?_ ?_ rfl
        · rw [f_X10_without, ex_cl (isJC_t hnC hj hn4), ex_bf l1_0, ex_cl (isJC_t hnC hk hn4), ex_bf l1_0, f_X10_without_b21, ex_xv need1, ex_bt z, f_X10_without_b34, ex_xt dem0]
        · rw [f_X11_without, ex_pI, ex_cl (isJM_t t0 hnM hj hn4), ex_bf l1_0, ex_cl (isJM_t t0 hnM hk hn4), ex_bf l1_0, ex_bt z, f_X11_without_b32, ex_cl (right0 t0 l2_0), ex_bt rfl, ex_rt]
      · obtain ⟨N, S, τ', n1, n2, n3, n4, p1, p2, p3, p4, I, p5, o1, o2, ome⟩ := J0.playAll
        have J1 : Jr g n s e m (S N) τ' := J0.frame (off_mono fc_play (o2 N (Nat.le_refl N))) (run_off o1) I.me
        obtain ⟨L, c, R, -⟩ := id I
        obtain ⟨f1, f2, f3, f4, f5, f6, f7, f8⟩ := R.2.2.1 j hj
        obtain ⟨N', σ1, σ2, σ3, τ2, a1, a2, a3, a4, a5, a6, a7, a8⟩ := run_set (x := ((1 : Int32) <<< (nI k &&& 31)) ^^^ ((-1))) (y := (((1 : Int32) <<< (nI n &&& 31)) - 1) &&& (((1 : Int32) <<< (nI k &&& 31)) ^^^ ((-1)))) J1 (fun i hi => bit_without hn4 hi hk)
        obtain ⟨L', c', R', -⟩ := id a6
        have f5' := (R'.2.2.1 j hj).2.2.2.2.1
        have i4 := inb_nI hj4 (show 4 < 2 ^ 31 by omega)
        have cj := nI_clamp (show j < 2 ^ 31 by omega)
        refine ⟨.inl (σ3.1 (fl j) 11 - (S N).1 (fl j) 11), σ3, _, τ2, ?_, ?_, ⟨?_, rfl⟩, g, n, s, e, m, a8⟩
        · rw [f_X10_without, ex_cl (isJC_t hnC hj hn4), ex_bf l1_0, ex_cl (isJC_t hnC hk hn4), ex_bf l1_0, f_X10_without_b21, ex_xv need1, ex_bf z, f_X10_without_b34, ex_xv dem1, ex_cl p3, ex_cl (flyer_eq hj4), ex_gd (isFl_l hj4), ex_dI, ex_cl a1, ex_cl a2, ex_dI, a3, ex_cl a4, ex_cl (flyer_eq hj4), ex_gd (isFl_l hj4), ex_dI, ex_rtX]
        · rw [f_X11_without, ex_pI, ex_cl (isJM_t t0 hnM hj hn4), ex_bf l1_0, ex_cl (isJM_t t0 hnM hk hn4), ex_bf l1_0, ex_bf z, f_X11_without_b32, ex_cl (right1 t0), ex_bf l1_0, ex_cl p4, ex_gd i4, ex_dI, cj, f5, ex_cl (all_eq (J1.1.2.2.1)), ex_cl a5, ex_gd i4, ex_dI, f5', ex_rt]
        · exact run_thr a7 (run_thr o1 t0)
    · refine ok_thr J false 0 (y := 1) ?_ ?_ rfl
      · rw [f_X10_without, ex_cl (isJC_t hnC hj hn4), ex_bf l1_0, ex_cl (isJC_f hnC hy), ex_bt rfl, f_X10_without_b20, f_X10_without_b21, ex_xt need0]
      · rw [f_X11_without, ex_pI, ex_cl (isJM_t t0 hnM hj hn4), ex_bf l1_0, ex_cl (isJM_f t0 hnM hy), ex_bt rfl, ex_rt]
  · refine ok_thr J false 0 (y := 1) ?_ ?_ rfl
    · rw [f_X10_without, ex_cl (isJC_f hnC hx), ex_bt rfl, f_X10_without_b20, f_X10_without_b21, ex_xt need0]
    · rw [f_X11_without, ex_pI, ex_cl (isJM_f t0 hnM hx), ex_bt rfl, ex_rt]
-- pairs
theorem pairs_in {g n s e m i : Nat} {kC kM : Int32 → Int32 → Sg → Option (Int32 × Sg)} : ∀ (d k fu fm : Nat) (x : Int32) (σ τ : Sg), k + d = n → Jr g n s e m σ τ → ∃ y σ' τ', f_X10_pairs_b19 kC (fu + d + 1) x (nI i) (nI k) σ = kC y (nI (i + 1)) σ' ∧ f_X11_pairsOf_b16 kM (fm + d + 1) x (nI i) (nI k) τ = kM y (nI (i + 1)) τ' ∧ Jr g n s e m σ' τ' ∧ τ'.1 56 0 = τ.1 56 0 := by
  intro d
  induction d with
  | zero =>
    intro k fu fm x σ τ h J
    have : k = n := by omega
    subst this
    refine ⟨x, σ, τ, ?_, ?_, J, rfl⟩
    · rw [f_X10_pairs_b19, ex_dI, J.2.2.1.1, ex_bt (Int32.le_refl _), f_X10_pairs_b58, nI_1]
    · rw [f_X11_pairsOf_b16, ex_dI, J.1.2.2.1, ex_bt (Int32.le_refl _), f_X11_pairsOf_b62, nI_1]
  | succ d ih =>
    intro k fu fm x σ τ h J
    have hn4 := J.1.2.1
    obtain ⟨v, σ1, τ1, a1, a2, a3, a4, J1, a5⟩ := hurtAmong_rel (x := ((1 : Int32) <<< (nI i &&& 31)) ||| ((1 : Int32) <<< (nI k &&& 31))) J
    rw [show fu + (d + 1) + 1 = (fu + d + 1) + 1 by omega, show fm + (d + 1) + 1 = (fm + d + 1) + 1 by omega, f_X10_pairs_b19, ex_dI, J.2.2.1.1, ex_bf (nI_ge (by omega) (by omega)), ex_cl a1, f_X11_pairsOf_b16, ex_dI, J.1.2.2.1, ex_bf (nI_ge (by omega) (by omega)), ex_cl a2, ex_cl a3]
    rcases a4 with rfl | rfl
    · rw [ex_bt rfl, ex_bt rfl, f_X10_pairs_b52, nI_1, f_X11_pairsOf_b54, nI_1, Int32.or_zero]
      obtain ⟨y, σ', τ', b1, b2, b3, b4⟩ := ih (k + 1) fu fm x σ1 τ1 (by omega) J1
      exact ⟨y, σ', τ', b1, b2, b3, b4.trans a5⟩
    · have pb : f_X10_pairBit (nI i) (nI k) σ1 = some ((1 : Int32) <<< (((4 * nI i) + nI k) &&& 31), σ1) := by rw [f_X10_pairBit, ex_rt]
      rw [ex_bf l1_0, ex_bf l1_0, ex_cl pb, f_X10_pairs_b52, nI_1, f_X11_pairsOf_b54, nI_1]
      obtain ⟨y, σ', τ', b1, b2, b3, b4⟩ := ih (k + 1) fu fm _ σ1 τ1 (by omega) J1
      exact ⟨y, σ', τ', b1, b2, b3, b4.trans a5⟩
theorem pairs_out {g n s e m : Nat} : ∀ (d i fu fm : Nat) (x : Int32) (σ τ : Sg), i + d = n → Jr g n s e m σ τ → ∃ y σ' τ', f_X10_pairs_b4 (fu + d + 1) x (nI i) σ = some (y, σ') ∧ f_X11_pairsOf_b4 (fm + d + 1) x (nI i) τ = some (y, τ') ∧ Jr g n s e m σ' τ' ∧ τ'.1 56 0 = τ.1 56 0 := by
  intro d
  induction d with
  | zero =>
    intro i fu fm x σ τ h J
    have : i = n := by omega
    subst this
    refine ⟨x, σ, τ, ?_, ?_, J, rfl⟩
    · rw [f_X10_pairs_b4, ex_dI, J.2.2.1.1, ex_bt (Int32.le_refl _), ex_rt]
    · rw [f_X11_pairsOf_b4, ex_dI, J.1.2.2.1, ex_bt (Int32.le_refl _), ex_rt]
  | succ d ih =>
    intro i fu fm x σ τ h J
    have hn4 := J.1.2.1
    obtain ⟨y, σ1, τ1, b1, b2, J1, b4⟩ := pairs_in (kC := f_X10_pairs_b4 (fu + d + 1)) (kM := f_X11_pairsOf_b4 (fm + d + 1)) (i := i) (n - (i + 1)) (i + 1) (8191 - (n - (i + 1))) (8191 - (n - (i + 1))) x σ τ (by omega) J
    rw [show 8191 - (n - (i + 1)) + (n - (i + 1)) + 1 = FU by rw [Nat.sub_add_cancel (by omega)]; rfl] at b1 b2
    obtain ⟨y2, σ2, τ2, c1, c2, c3, c4⟩ := ih (i + 1) fu fm y σ1 τ1 (by omega) J1
    refine ⟨y2, σ2, τ2, ?_, ?_, c3, c4.trans b4⟩
    · rw [show fu + (d + 1) + 1 = (fu + d + 1) + 1 by omega, f_X10_pairs_b4, ex_dI, J.2.2.1.1, ex_bf (nI_ge (by omega) (by omega)), nI_1, b1]
      exact c1
    · rw [show fm + (d + 1) + 1 = (fm + d + 1) + 1 by omega, f_X11_pairsOf_b4, ex_dI, J.1.2.2.1, ex_bf (nI_ge (by omega) (by omega)), nI_1, b2]
      exact c2
theorem pairs_rel {g n s e m : Nat} {σ τ : Sg} (J : Jr g n s e m σ τ) : ∃ y σ' τ', f_X10_pairs σ = some (y, σ') ∧ f_X11_pairsOf τ = some (y, τ') ∧ Jr g n s e m σ' τ' ∧ τ'.1 56 0 = τ.1 56 0 := by
  have hn4 := J.1.2.1
  have := pairs_out n 0 (8191 - n) (8191 - n) 0 σ τ (by omega) J
  rw [show 8191 - n + n + 1 = FU by rw [Nat.sub_add_cancel (by omega)]; rfl] at this
  exact this
theorem ok_pairs {g n s e m : Nat} {σ τ : Sg} (J : Jr g n s e m σ τ) : OkV f_X10_pairs f_X11_pairs σ τ := by
  obtain ⟨J0, t0⟩ := thr0 J
  obtain ⟨y, σ', τ', a1, a2, a3, -⟩ := pairs_rel J0
  exact ⟨y, σ', τ', a1, by rw [f_X11_pairs, ex_pI, ex_cl a2, ex_rt], g, n, s, e, m, a3⟩
-- at once
theorem bits_eq {x : Nat} (hx : x < 16) (σ τ : Sg) : ∃ v, f_J6_bitCount_0f7a4 (nI x) σ = some (v, σ) ∧ f_X11_bits (nI x) τ = some (v, τ) := by
  have b : f_X11_bits (nI x) τ = some (0 + ((nI x >>> ((0 : Int32) &&& 31)) &&& 1) + ((nI x >>> ((0 + 1 : Int32) &&& 31)) &&& 1) + ((nI x >>> ((0 + 1 + 1 : Int32) &&& 31)) &&& 1) + ((nI x >>> ((0 + 1 + 1 + 1 : Int32) &&& 31)) &&& 1), τ) := by
    rw [f_X11_bits, show FU = 8187 + 1 + 1 + 1 + 1 + 1 from rfl, f_X11_bits_b4, ex_bf (by decide), ex_lt, f_X11_bits_b4, ex_bf (by decide), ex_lt, f_X11_bits_b4, ex_bf (by decide), ex_lt, f_X11_bits_b4, ex_bf (by decide), ex_lt, f_X11_bits_b4, ex_bt (by decide), ex_rt]
  refine ⟨_, ?_, b⟩
  rw [f_J6_bitCount_0f7a4, ex_lt, ex_lt, ex_lt, ex_lt, ex_lt, ex_rt]
  have : ∀ x' : Fin 16, (let x0 := nI x'.1; let w1 := x0 - (((x0.toUInt32 >>> ((1 : Int32).toUInt32 &&& Int32.toUInt32 31)).toInt32) &&& 1431655765); let w2 := (w1 &&& 858993459) + (((w1.toUInt32 >>> ((2 : Int32).toUInt32 &&& Int32.toUInt32 31)).toInt32) &&& 858993459); let w3 := (w2 + ((w2.toUInt32 >>> ((4 : Int32).toUInt32 &&& Int32.toUInt32 31)).toInt32)) &&& 252645135; let w4 := w3 + ((w3.toUInt32 >>> ((8 : Int32).toUInt32 &&& Int32.toUInt32 31)).toInt32); let w5 := w4 + ((w4.toUInt32 >>> ((16 : Int32).toUInt32 &&& Int32.toUInt32 31)).toInt32); w5 &&& 63) = 0 + ((nI x'.1 >>> ((0 : Int32) &&& 31)) &&& 1) + ((nI x'.1 >>> ((0 + 1 : Int32) &&& 31)) &&& 1) + ((nI x'.1 >>> ((0 + 1 + 1 : Int32) &&& 31)) &&& 1) + ((nI x'.1 >>> ((0 + 1 + 1 + 1 : Int32) &&& 31)) &&& 1) := by decide
  exact congrArg (fun v => some (v, σ)) (this ⟨x, hx⟩)
theorem shl_n {n : Nat} (h : n ≤ 4) : ((1 : Int32) <<< (nI n &&& 31)) = nI (2 ^ n) := by
  rcases (by omega : n = 0 ∨ n = 1 ∨ n = 2 ∨ n = 3 ∨ n = 4) with rfl | rfl | rfl | rfl | rfl <;> decide
theorem atOnce_loop {g n s e m : Nat} : ∀ (d i b fu fm : Nat) (σ τ : Sg), i + d = 2 ^ n → b < 16 → i ≤ 16 → Jr g n s e m σ τ → ∃ v σ' τ', f_X10_atOnce_b4 (fu + d + 1) (nI b) (nI i) σ = some (v, σ') ∧ f_X11_atOnce_b9 (fm + d + 1) (nI b) (nI i) τ = some (v, τ') ∧ Jr g n s e m σ' τ' := by
  intro d
  induction d with
  | zero =>
    intro i b fu fm σ τ h hb hi J
    have hn4 := J.1.2.1
    have h16 : i = 2 ^ n := by omega
    refine ⟨nI b, σ, τ, ?_, ?_, J⟩
    · rw [f_X10_atOnce_b4, ex_dI, J.2.2.1.1, shl_n hn4, h16, ex_bt (Int32.le_refl _), ex_rt]
    · rw [f_X11_atOnce_b9, ex_dI, J.1.2.2.1, shl_n hn4, h16, ex_bt (Int32.le_refl _), ex_rt]
  | succ d ih =>
    intro i b fu fm σ τ h hb hi J
    have hn4 := J.1.2.1
    have h2n : 2 ^ n ≤ 16 := by rcases (by omega : n = 0 ∨ n = 1 ∨ n = 2 ∨ n = 3 ∨ n = 4) with rfl | rfl | rfl | rfl | rfl <;> decide
    obtain ⟨v1, b1, b2⟩ := bits_eq (x := i) (by omega) σ τ
    obtain ⟨v2, b3, b4⟩ := bits_eq (x := b) hb σ τ
    rw [show fu + (d + 1) + 1 = (fu + d + 1) + 1 by omega, show fm + (d + 1) + 1 = (fm + d + 1) + 1 by omega, f_X10_atOnce_b4, ex_dI, J.2.2.1.1, shl_n hn4, ex_bf (nI_ge (by omega) (by omega)), ex_cl b1, ex_cl b3, f_X11_atOnce_b9, ex_dI, J.1.2.2.1, shl_n hn4, ex_bf (nI_ge (by omega) (by omega)), ex_cl b2, ex_cl b4]
    by_cases z : v1 ≤ v2
    · rw [ex_bt z, ex_bf (Int32.not_lt.mpr z), f_X10_atOnce_b38, nI_1, f_X11_atOnce_b47, nI_1]
      exact ih (i + 1) b fu fm σ τ (by omega) hb (by omega) J
    · rw [ex_bf z, ex_bt (Int32.not_le.mp z)]
      obtain ⟨v, σ1, τ1, a1, a2, a3, a4, J1, a5⟩ := hurtAmong_rel (x := nI i) J
      rw [ex_cl a1, ex_cl a2, ex_cl a3]
      by_cases y : v = 0
      · rw [ex_bt y, ex_bt y, f_X10_atOnce_b38, nI_1, f_X11_atOnce_b47, nI_1]
        exact ih (i + 1) i fu fm σ1 τ1 (by omega) (by omega) (by omega) J1
      · rw [ex_bf y, ex_bf y, f_X10_atOnce_b38, nI_1, f_X11_atOnce_b47, nI_1]
        exact ih (i + 1) b fu fm σ1 τ1 (by omega) hb (by omega) J1
theorem ok_atOnce {g n s e m : Nat} {σ τ : Sg} (J : Jr g n s e m σ τ) : OkV f_X10_atOnce f_X11_atOnce σ τ := by
  obtain ⟨J0, t0⟩ := thr0 J
  have hn4 := J.1.2.1
  have h2n : 2 ^ n ≤ 16 := by rcases (by omega : n = 0 ∨ n = 1 ∨ n = 2 ∨ n = 3 ∨ n = 4) with rfl | rfl | rfl | rfl | rfl <;> decide
  have h1 : 1 ≤ 2 ^ n := Nat.one_le_two_pow
  obtain ⟨v, σ', τ', a1, a2, a3⟩ := atOnce_loop (2 ^ n - 1) 1 0 (8191 - (2 ^ n - 1)) (8191 - (2 ^ n - 1)) σ (sI τ 56 0 0) (by omega) (by omega) (by omega) J0
  rw [show 8191 - (2 ^ n - 1) + (2 ^ n - 1) + 1 = FU by rw [Nat.sub_add_cancel (by omega)]; rfl] at a1 a2
  exact ⟨v, σ', τ', a1, by rw [f_X11_atOnce, ex_pI]; exact a2, g, n, s, e, m, a3⟩
