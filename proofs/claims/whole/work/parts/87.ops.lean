-- ===== safe =====
def plc (k : Nat) : Int32 := nI k - 20
theorem plc_i {k : Nat} (h : k ≤ 1000) : (plc k).toInt = (k : Int) - 20 := by
  have e2 : (20 : Int32).toInt = 20 := by decide
  unfold plc
  rw [toInt_sub_s, nI_toInt (by omega), e2]
  rw [nI_toInt (by omega), e2]; omega
theorem plc_s {k : Nat} (h : k ≤ 900) : plc k + 1 = plc (k + 1) := by
  have e1 : (1 : Int32).toInt = 1 := by decide
  apply Int32.toInt_inj.mp
  rw [toInt_add_s, plc_i (by omega), plc_i (by omega), e1]
  · omega
  · rw [plc_i (by omega), e1]; omega
theorem neg_nI {e : Nat} (he : e ≤ 20) : (-(nI e)).toInt = -(e : Int) := toInt_neg_s (by omega) rfl
theorem isIn_eq {e : Nat} {x : Int32} {τ : Sg} (h : τ.1 56 2 = nI e) : f_X11_isIn x τ = some (if x < -(nI e) ∨ nI e < x then 0 else 1, τ) := by
  have z : (0 : Int32) - nI e = -(nI e) := Int32.zero_sub _
  rw [f_X11_isIn, ex_dI, h]
  by_cases q : nI e < x
  · rw [ex_bt q, ex_rt, if_pos (Or.inr q)]
  · rw [ex_bf q, ex_dI, h, z]
    by_cases p : x < -(nI e)
    · rw [ex_bt p, ex_rt, if_pos (Or.inl p)]
    · rw [ex_bf p, ex_rt, if_neg (fun w => by rcases w with w | w; exact p w; exact q w)]
theorem in_bnd {e : Nat} {x : Int32} (he : e ≤ 20) (h : ¬ (x < -(nI e) ∨ nI e < x)) : -(e : Int) ≤ x.toInt ∧ x.toInt ≤ e := by
  have h1 : ¬ x < -(nI e) := fun q => h (Or.inl q)
  have h2 : ¬ nI e < x := fun q => h (Or.inr q)
  rw [Int32.lt_iff_toInt_lt, neg_nI he] at h1
  rw [Int32.lt_iff_toInt_lt, nI_toInt (by omega)] at h2
  omega
/-- the garden, for one who looks only at places -/
theorem Jr.gd {g n s e m : Nat} {σ τ : Sg} (J : Jr g n s e m σ τ) : isGd g = true ∧ σ.2.2 0 6 = g ∧ e ≤ 20 ∧ σ.1 g 1 = nI e ∧ τ.1 56 2 = nI e ∧ τ.1 56 4 = σ.1 g 3 ∧ (-3 ≤ (σ.1 g 3).toInt ∧ (σ.1 g 3).toInt ≤ 3) := by
  obtain ⟨g1, g2, g3, g4, ⟨h1, h2, h3, h4⟩, ⟨n1, n2, n3, n4⟩⟩ := J.1
  exact ⟨g1, J.2.2.2.2.2.2.2.1.1, n1, n2, h1.trans n2, h3, n4⟩
theorem stays_rel {g n s e m h q N : Nat} {σ τ : Sg} {k61 : Int32 → Int32 → Int32 → Int64 → Int32 → Sg → Option (Int64 × Sg)} {acc : Int64} {x6 : Int32} (J : Jr g n s e m σ τ) (hh : h ≤ 60) (hq : q ≤ 9) (hN : N ≤ 100) : ∀ (d i fu fm : Nat) (x : Int32), i + d = N → ∃ r, (r = 0 ∨ r = 1) ∧ f_X10_staysOn_b6 (fu + d + 1) (nI h) (nI q) (nI N) x (nI i) σ = some (r, σ) ∧ f_X11_safe_b77 k61 (fm + d + 1) (nI h) (nI q) (nI N) acc x6 x (nI i) τ = f_X11_safe_b130 k61 (nI h) (nI q) (nI N) x6 (if r = 0 then 0 else (1 : Int64) <<< ((20 + x6).toInt64 &&& 63)) acc τ ∧ ((x < -(nI e) ∨ nI e < x) → r = 0) := by
  obtain ⟨g1, g2, g3, g4, g5, g6, g7⟩ := J.gd
  have be := fun x => beyond_eq (x := x) (σ := σ) g1
  rw [g4] at be
  have ii := fun x => isIn_eq (x := x) g5
  have b108 : ∀ x, f_X11_safe_b108 k61 (nI h) (nI q) (nI N) acc x6 x τ = f_X11_safe_b130 k61 (nI h) (nI q) (nI N) x6 (if x < -(nI e) ∨ nI e < x then 0 else (1 : Int64) <<< ((20 + x6).toInt64 &&& 63)) acc τ := by
    intro x
    rw [f_X11_safe_b108, ex_cl (ii x)]
    by_cases z : x < -(nI e) ∨ nI e < x
    · rw [if_pos z, if_pos z, ex_bt rfl]
    · rw [if_neg z, if_neg z, ex_bf l1_0]
  intro d
  induction d with
  | zero =>
    intro i fu fm x hi
    have : i = N := by omega
    subst this
    by_cases z : x < -(nI e) ∨ nI e < x
    · refine ⟨0, Or.inl rfl, ?_, ?_, fun _ => rfl⟩
      · rw [f_X10_staysOn_b6, ex_bt (Int32.le_refl _), f_X10_staysOn_b46, ex_dR, g2, ex_gd g1, ex_cl (be x), if_pos z, ex_bf l1_0, ex_rt]
      · rw [f_X11_safe_b77, ex_bt (Int32.le_refl _), b108, if_pos z, if_pos rfl]
    · refine ⟨1, Or.inr rfl, ?_, ?_, fun w => absurd w z⟩
      · rw [f_X10_staysOn_b6, ex_bt (Int32.le_refl _), f_X10_staysOn_b46, ex_dR, g2, ex_gd g1, ex_cl (be x), if_neg z, ex_bt rfl, ex_rt]
      · rw [f_X11_safe_b77, ex_bt (Int32.le_refl _), b108, if_neg z, if_neg l1_0]
  | succ d ih =>
    intro i fu fm x hi
    have ge : ¬ nI N ≤ nI i := nI_ge (by omega) (by omega)
    by_cases z : x < -(nI e) ∨ nI e < x
    · refine ⟨0, Or.inl rfl, ?_, ?_, fun _ => rfl⟩
      · rw [show fu + (d + 1) + 1 = (fu + d + 1) + 1 by omega, f_X10_staysOn_b6, ex_bf ge, ex_dR, g2, ex_gd g1, ex_cl (be x), if_pos z, ex_bf l1_0, ex_rt]
      · rw [show fm + (d + 1) + 1 = (fm + d + 1) + 1 by omega, f_X11_safe_b77, ex_bf ge, ex_cl (ii x), if_pos z, ex_bt rfl, b108, if_pos z, if_pos rfl]
    · have bn := in_bnd g3 z
      obtain ⟨v, v1, v2, -⟩ := then_rel (p := x) (h := h) (q := q) g1 rfl g6 g7 (by omega) (by omega) hq
      obtain ⟨r, r1, r2, r3, -⟩ := ih (i + 1) fu fm v (by omega)
      refine ⟨r, r1, ?_, ?_, fun w => absurd w z⟩
      · rw [show fu + (d + 1) + 1 = (fu + d + 1) + 1 by omega, f_X10_staysOn_b6, ex_bf ge, ex_dR, g2, ex_gd g1, ex_cl (be x), if_neg z, ex_bt rfl, ex_dR, g2, ex_gd g1, ex_cl v1, nI_1]
        exact r2
      · rw [show fm + (d + 1) + 1 = (fm + d + 1) + 1 by omega, f_X11_safe_b77, ex_bf ge, ex_cl (ii x), if_neg z, ex_bf l1_0, ex_cl v2, nI_1]
        exact r3
theorem plc_out {e k : Nat} (he : e ≤ 20) (hk : k ≤ 40) : (plc k < -(nI e) ∨ nI e < plc k) ↔ (k + e < 20 ∨ 20 + e < k) := by
  rw [Int32.lt_iff_toInt_lt, Int32.lt_iff_toInt_lt, neg_nI he, nI_toInt (by omega), plc_i (by omega)]
  omega
theorem plc_20 {k : Nat} (hk : k ≤ 100) : (20 : Int32) < plc k ↔ 40 < k := by
  have e2 : (20 : Int32).toInt = 20 := by decide
  rw [Int32.lt_iff_toInt_lt, plc_i (by omega), e2]
  omega
theorem safe_skip {g n s e m h q N : Nat} {σ τ : Sg} (J : Jr g n s e m σ τ) (hh : h ≤ 60) (hq : q ≤ 9) (hN : N ≤ 100) {fu k : Nat} {acc : Int64} (hk : k ≤ 40) (ho : k + e < 20 ∨ 20 + e < k) : f_X10_safe_b39 (fu + 1) (nI h) (nI q) (nI N) acc (plc k) σ = f_X10_safe_b39 fu (nI h) (nI q) (nI N) acc (plc (k + 1)) σ := by
  have he := J.gd.2.2.1
  obtain ⟨r, -, r2, -, r4⟩ := stays_rel (k61 := fun _ _ _ _ _ _ => none) (acc := 0) (x6 := 0) J hh hq hN N 0 (8191 - N) (8191 - N) (plc k) (by omega)
  rw [show 8191 - N + N + 1 = FU by rw [Nat.sub_add_cancel (by omega)]; rfl] at r2
  rw [r4 ((plc_out he hk).mpr ho)] at r2
  rw [f_X10_safe_b39, ex_bf (fun z => by have := (plc_20 (by omega)).mp z; omega), ex_cl (f := f_X10_staysOn (plc k) (nI h) (nI q) (nI N)) r2, ex_bt rfl, f_X10_safe_b70, plc_s (by omega)]
theorem safe_skips {g n s e m h q N : Nat} {σ τ : Sg} (J : Jr g n s e m σ τ) (hh : h ≤ 60) (hq : q ≤ 9) (hN : N ≤ 100) {acc : Int64} : ∀ (d k fu : Nat), k + d ≤ 41 → (∀ i, k ≤ i → i < k + d → i + e < 20 ∨ 20 + e < i) → f_X10_safe_b39 (fu + d) (nI h) (nI q) (nI N) acc (plc k) σ = f_X10_safe_b39 fu (nI h) (nI q) (nI N) acc (plc (k + d)) σ := by
  intro d
  induction d with
  | zero => intro k fu _ _; rfl
  | succ d ih =>
    intro k fu hk ho
    rw [show fu + (d + 1) = (fu + d) + 1 by omega, safe_skip J hh hq hN (by omega) (ho k (by omega) (by omega)), ih (k + 1) fu (by omega) (fun i h1 h2 => ho i (by omega) (by omega)), show k + 1 + d = k + (d + 1) by omega]
theorem safe_loop {g n s e m h q N : Nat} {σ τ : Sg} (J : Jr g n s e m σ τ) (hh : h ≤ 60) (hq : q ≤ 9) (hN : N ≤ 100) : ∀ (d k fu fm : Nat) (acc : Int64), k + d = 21 + e → 20 ≤ k + e → ∃ v, f_X10_safe_b39 (fu + (20 - e) + d + 1) (nI h) (nI q) (nI N) acc (plc k) σ = some (.inl v, σ) ∧ f_X11_safe_b61 (fm + d + 1) (nI h) (nI q) (nI N) acc (plc k) τ = some (v, τ) := by
  have he := J.gd.2.2.1
  have h2 := J.gd.2.2.2.2.1
  intro d
  induction d with
  | zero =>
    intro k fu fm acc hk h20
    refine ⟨acc, ?_, ?_⟩
    · have := safe_skips (acc := acc) J hh hq hN (20 - e) k (fu + 1) (by omega) (fun i h1 h2 => by omega)
      rw [show fu + (20 - e) + 0 + 1 = fu + 1 + (20 - e) by omega, this, f_X10_safe_b39, ex_bt ((plc_20 (by omega)).mpr (by omega)), ex_rtX]
    · have lt : nI e < plc k := by rw [Int32.lt_iff_toInt_lt, nI_toInt (by omega), plc_i (by omega)]; omega
      rw [f_X11_safe_b61, ex_dI, h2, ex_bt lt, ex_rt]
  | succ d ih =>
    intro k fu fm acc hk h20
    have k40 : k ≤ 40 := by omega
    obtain ⟨r, r1, r2, r3, -⟩ := stays_rel (k61 := f_X11_safe_b61 (fm + d + 1)) (acc := acc) (x6 := plc k) J hh hq hN N 0 (8191 - N) (8191 - N) (plc k) (by omega)
    rw [show 8191 - N + N + 1 = FU by rw [Nat.sub_add_cancel (by omega)]; rfl] at r2 r3
    have lt : ¬ nI e < plc k := by rw [Int32.lt_iff_toInt_lt, nI_toInt (by omega), plc_i (by omega)]; omega
    have eM : f_X11_safe_b61 (fm + (d + 1) + 1) (nI h) (nI q) (nI N) acc (plc k) τ = f_X11_safe_b61 (fm + d + 1) (nI h) (nI q) (nI N) (acc ||| (if r = 0 then 0 else (1 : Int64) <<< ((20 + plc k).toInt64 &&& 63))) (plc (k + 1)) τ := by
      rw [show fm + (d + 1) + 1 = (fm + d + 1) + 1 by omega, f_X11_safe_b61, ex_dI, h2, ex_bf lt]
      refine Eq.trans r3 ?_
      rw [f_X11_safe_b130, plc_s (by omega)]
    have eC : f_X10_safe_b39 (fu + (20 - e) + (d + 1) + 1) (nI h) (nI q) (nI N) acc (plc k) σ = f_X10_safe_b39 (fu + (20 - e) + d + 1) (nI h) (nI q) (nI N) (acc ||| (if r = 0 then 0 else (1 : Int64) <<< ((20 + plc k).toInt64 &&& 63))) (plc (k + 1)) σ := by
      rw [show fu + (20 - e) + (d + 1) + 1 = (fu + (20 - e) + d + 1) + 1 by omega, f_X10_safe_b39, ex_bf (fun z => by have := (plc_20 (by omega)).mp z; omega), ex_cl (f := f_X10_staysOn (plc k) (nI h) (nI q) (nI N)) r2]
      rcases r1 with rfl | rfl
      · rw [ex_bt rfl, f_X10_safe_b70, plc_s (by omega), if_pos rfl, Int64.or_zero]
      · rw [ex_bf l1_0, ex_lt, f_X10_safe_b70, plc_s (by omega), if_neg l1_0]
    rw [eM, eC]
    exact ih (k + 1) fu fm _ (by omega) (by omega)
theorem ok_safe {g n s e m : Nat} {σ τ : Sg} (J : Jr g n s e m σ τ) (x y z : Int32) : OkX (f_X10_safe x y z) (f_X11_safe x y z) cI σ τ := by
  obtain ⟨J0, t0⟩ := thr0 J
  have bad : f_X10_safe_b28 x y z σ = some (.inr true, σ) ∧ f_X11_safe_b40 x y z (sI τ 56 0 0) = some (0, sI (sI τ 56 0 0) 56 0 1) := by
    constructor
    · rw [f_X10_safe_b28, f_X10_safe_b29, ex_xt dem0]
    · rw [f_X11_safe_b40, f_X11_safe_b41, ex_cl (right0 t0 l1_0), ex_bt rfl, ex_rt]
  have no : f_X10_safe x y z σ = f_X10_safe_b28 x y z σ → f_X11_safe x y z τ = f_X11_safe_b40 x y z (sI τ 56 0 0) → OkX (f_X10_safe x y z) (f_X11_safe x y z) cI σ τ := fun e1 e2 => ok_thr J true 0 (y := 1) (e1.trans bad.1) (e2.trans bad.2) rfl
  have wf : ∀ {x y : Int32}, (x < 0 ∨ (¬ x < 0 ∧ y < x)) → f_X11_within x 0 y (sI τ 56 0 0) = some (0, sI τ 56 0 0) := fun hx => by
    rcases hx with q | ⟨q1, q2⟩
    · rw [f_X11_within, ex_bt q, ex_rt]
    · rw [f_X11_within, ex_bf q1, ex_bt q2, ex_rt]
  have wt : ∀ {k M : Nat} {y : Int32}, nI M = y → k ≤ M → M < 2 ^ 30 → (¬ nI k < 0 ∧ ¬ y < nI k) ∧ f_X11_within (nI k) 0 y (sI τ 56 0 0) = some (1, sI τ 56 0 0) := fun hy hk hM => by
    subst hy
    have b1 := nI_pos (n := _) (show _ < 2 ^ 31 from Nat.lt_of_le_of_lt hk (by omega))
    have b2 := nI_nlt hk (by omega)
    exact ⟨⟨b1, b2⟩, by rw [f_X11_within, ex_bf b1, ex_bf b2, ex_rt]⟩
  rcases what_cases x (M := 60) (y := 60) rfl (by omega) with ⟨h, hh, rfl⟩ | hx
  · obtain ⟨⟨h1, h2⟩, h3⟩ := wt (M := 60) (y := 60) rfl hh (by omega)
    have th : f_X10_isToldHeight (nI h) σ = some (1, σ) := by rw [f_X10_isToldHeight, ex_bf h1, ex_bf h2, ex_rt]
    rcases what_cases y (M := 9) (y := 9) rfl (by omega) with ⟨q, hq, rfl⟩ | hy
    · obtain ⟨⟨q1, q2⟩, q3⟩ := wt (M := 9) (y := 9) rfl hq (by omega)
      have tq : f_X10_isCorrects (nI q) σ = some (1, σ) := by rw [f_X10_isCorrects, ex_bf q1, ex_bf q2, ex_rt]
      rcases what_cases z (M := 100) (y := 100) rfl (by omega) with ⟨N, hN, rfl⟩ | hz
      · obtain ⟨⟨n1, n2⟩, n3⟩ := wt (M := 100) (y := 100) rfl hN (by omega)
        have he := J0.gd.2.2.1
        have e56 := J0.gd.2.2.2.2.1
        obtain ⟨v, v1, v2⟩ := safe_loop (h := h) (q := q) (N := N) J0 hh hq hN (2 * e + 1) (20 - e) (8192 - (20 - e) - (20 - e) - (2 * e + 1) - 1) (8192 - (2 * e + 1) - 1) 0 (by omega) (by omega)
        have sk := safe_skips (h := h) (q := q) (N := N) (acc := 0) J0 hh hq hN (20 - e) 0 (8192 - (20 - e)) (by omega) (fun i _ h2 => by omega)
        refine ⟨.inl v, σ, v, sI τ 56 0 0, ?_, ?_, ⟨t0, rfl⟩, g, n, s, e, m, J0⟩
        · rw [f_X10_safe, ex_cl th, ex_bf l1_0, ex_cl tq, ex_bf l1_0, ex_bf n1, ex_bf n2, f_X10_safe_b29, ex_xv dem1]
          rw [show (-20 : Int32) = plc 0 by decide, show FU = 8192 - (20 - e) + (20 - e) by rw [Nat.sub_add_cancel (by omega)]; rfl, sk, Nat.zero_add]
          rw [show 8192 - (20 - e) - (20 - e) - (2 * e + 1) - 1 + (20 - e) + (2 * e + 1) + 1 = 8192 - (20 - e) by omega] at v1
          exact v1
        · rw [f_X11_safe, ex_pI, ex_cl h3, ex_bf l1_0, ex_cl q3, ex_bf l1_0, ex_cl n3, ex_bf l1_0, f_X11_safe_b41, ex_cl (right1 t0), ex_bf l1_0, ex_dI, e56]
          have e0 : (0 : Int32) - nI e = plc (20 - e) := by
            apply Int32.toInt_inj.mp
            rw [Int32.zero_sub, neg_nI he, plc_i (by omega)]
            omega
          rw [show 8192 - (2 * e + 1) - 1 + (2 * e + 1) + 1 = FU by rw [Nat.sub_sub, Nat.add_assoc, Nat.sub_add_cancel (by omega)]; rfl] at v2
          rw [e0]
          exact v2
      · refine no ?_ ?_
        · rw [f_X10_safe, ex_cl th, ex_bf l1_0, ex_cl tq, ex_bf l1_0]
          rcases hz with w | ⟨w1, w2⟩
          · rw [ex_bt w]
          · rw [ex_bf w1, ex_bt w2]
        · rw [f_X11_safe, ex_pI, ex_cl h3, ex_bf l1_0, ex_cl q3, ex_bf l1_0, ex_cl (wf hz), ex_bt rfl]
    · have tq : f_X10_isCorrects y σ = some (0, σ) := by
        rcases hy with w | ⟨w1, w2⟩
        · rw [f_X10_isCorrects, ex_bt w, ex_rt]
        · rw [f_X10_isCorrects, ex_bf w1, ex_bt w2, ex_rt]
      refine no ?_ ?_
      · rw [f_X10_safe, ex_cl th, ex_bf l1_0, ex_cl tq, ex_bt rfl]
      · rw [f_X11_safe, ex_pI, ex_cl h3, ex_bf l1_0, ex_cl (wf hy), ex_bt rfl]
  · have th : f_X10_isToldHeight x σ = some (0, σ) := by
      rcases hx with w | ⟨w1, w2⟩
      · rw [f_X10_isToldHeight, ex_bt w, ex_rt]
      · rw [f_X10_isToldHeight, ex_bf w1, ex_bt w2, ex_rt]
    refine no ?_ ?_
    · rw [f_X10_safe, ex_cl th, ex_bt rfl]
    · rw [f_X11_safe, ex_pI, ex_cl (wf hx), ex_bt rfl]
