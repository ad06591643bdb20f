-- ===== a call: both answer alike =====
def OkX {α : Type} (f : Sg → Option ((α ⊕ Bool) × Sg)) (h : Sg → Option (α × Sg)) (c : Bool → Option Int32) (σ τ : Sg) : Prop := ∃ r σ' b τ', f σ = some (r, σ') ∧ h τ = some (b, τ') ∧ (match r with | .inl v => τ'.1 56 0 = 0 ∧ v = b | .inr q => c q = some (τ'.1 56 0)) ∧ Jx σ' τ'
def OkV {α : Type} (f : Sg → Option (α × Sg)) (h : Sg → Option (α × Sg)) (σ τ : Sg) : Prop := ∃ v σ' τ', f σ = some (v, σ') ∧ h τ = some (v, τ') ∧ Jx σ' τ'
def cN (b : Bool) : Option Int32 := cond b none (some 1)
def cI (b : Bool) : Option Int32 := cond b (some 1) none
def cB (b : Bool) : Option Int32 := cond b (some 2) (some 1)
section ExX
variable {α β : Type} {σ σ' : Sg}
theorem ex_xt {f : Sg → Option ((β ⊕ Bool) × Sg)} {b : Bool} {d : β → Sg → Option ((α ⊕ Bool) × Sg)} (h : f σ = some (.inr b, σ')) : clX f d σ = some (.inr b, σ') := by rw [clX, h]; rfl
theorem ex_xv {f : Sg → Option ((β ⊕ Bool) × Sg)} {v : β} {d : β → Sg → Option ((α ⊕ Bool) × Sg)} (h : f σ = some (.inl v, σ')) : clX f d σ = d v σ' := by rw [clX, h]; rfl
theorem ex_rtX {v : α} : rtX v σ = some (.inl v, σ) := rfl
end ExX
theorem need0 {σ : Sg} : f_X10_need 0 σ = some (.inr false, σ) := rfl
theorem need1 {σ : Sg} : f_X10_need 1 σ = some (.inl (), σ) := by rw [f_X10_need, ex_bf l1_0]; rfl
theorem dem0 {σ : Sg} : f_X10_demand 0 σ = some (.inr true, σ) := rfl
theorem dem1 {σ : Sg} : f_X10_demand 1 σ = some (.inl (), σ) := by rw [f_X10_demand, ex_bf l1_0]; rfl
theorem right1 {c : Int32} {τ : Sg} (h : τ.1 56 0 = 0) : f_X11_right 1 c τ = some (1, τ) := by
  rw [f_X11_right, ex_dI, ex_bt h, ex_bf l1_0, f_X11_right_b16, ex_dI, ex_bt h, ex_rt]
theorem right0 {c : Int32} {τ : Sg} (h : τ.1 56 0 = 0) (hc : ¬ c = 0) : f_X11_right 0 c τ = some (0, sI τ 56 0 c) := by
  rw [f_X11_right, ex_dI, ex_bt h, ex_bt rfl, ex_pI, f_X11_right_b16, ex_dI, sI_eq, ex_bf hc, ex_rt]
theorem what_cases (x : Int32) {M : Nat} {y : Int32} (hy : nI M = y) (hM : M < 2 ^ 30) : (∃ k, k ≤ M ∧ x = nI k) ∨ x < 0 ∨ (¬ x < 0 ∧ y < x) := by
  subst hy
  by_cases h : x < 0
  · exact Or.inr (Or.inl h)
  · obtain ⟨j, hj, rfl⟩ := nI_of h
    by_cases k : j ≤ M
    · exact Or.inl ⟨j, k, rfl⟩
    · exact Or.inr (Or.inr ⟨h, (nI_ltI (by omega) hj).mpr (by omega)⟩)
theorem isWhat_t {M k : Nat} {y : Int32} {τ : Sg} (hy : nI M = y) (h : τ.1 56 0 = 0) (hk : k ≤ M) (hM : M < 2 ^ 30) : f_X11_isWhat (nI k) y τ = some (1, τ) := by
  subst hy
  have w : f_X11_within (nI k) 0 (nI M) τ = some (1, τ) := by
    rw [f_X11_within, ex_bf (nI_pos (by omega)), ex_bf (nI_nlt hk (by omega)), ex_rt]
  rw [f_X11_isWhat, ex_cl w, ex_cl (right1 h), ex_gd (Or.inr rfl), ex_rt]
theorem isWhat_f {x y : Int32} {τ : Sg} (h : τ.1 56 0 = 0) (hx : x < 0 ∨ (¬ x < 0 ∧ y < x)) : f_X11_isWhat x y τ = some (0, sI τ 56 0 1) := by
  have w : f_X11_within x 0 y τ = some (0, τ) := by
    rcases hx with q | ⟨q1, q2⟩
    · rw [f_X11_within, ex_bt q, ex_rt]
    · rw [f_X11_within, ex_bf q1, ex_bt q2, ex_rt]
  rw [f_X11_isWhat, ex_cl w, ex_cl (right0 h l1_0), ex_gd (Or.inl rfl), ex_rt]
theorem jumper_cases (x : Int32) {n : Nat} (hn : n ≤ 4) : (∃ j, j < n ∧ x = nI j) ∨ x < 0 ∨ (¬ x < 0 ∧ nI n ≤ x) := by
  by_cases h : x < 0
  · exact Or.inr (Or.inl h)
  · obtain ⟨j, hj, rfl⟩ := nI_of h
    by_cases k : j < n
    · exact Or.inl ⟨j, k, rfl⟩
    · exact Or.inr (Or.inr ⟨h, nI_le (by omega) hj⟩)
theorem isJC_t {j n : Nat} {σ : Sg} (h : σ.1 2 1 = nI n) (hj : j < n) (hn : n ≤ 4) : f_X10_isJumper (nI j) σ = some (1, σ) := by
  rw [f_X10_isJumper, ex_bf (nI_pos (by omega)), ex_dI, h, ex_bf (nI_ge hj (by omega)), ex_rt]
theorem isJC_f {x : Int32} {n : Nat} {σ : Sg} (h : σ.1 2 1 = nI n) (hx : x < 0 ∨ (¬ x < 0 ∧ nI n ≤ x)) : f_X10_isJumper x σ = some (0, σ) := by
  rcases hx with q | ⟨q1, q2⟩
  · rw [f_X10_isJumper, ex_bt q, ex_rt]
  · rw [f_X10_isJumper, ex_bf q1, ex_dI, h, ex_bt q2, ex_rt]
theorem isJM_t {j n : Nat} {τ : Sg} (h0 : τ.1 56 0 = 0) (h : τ.1 56 6 = nI n) (hj : j < n) (hn : n ≤ 4) : f_X11_isJumper (nI j) τ = some (1, τ) := by
  rw [f_X11_isJumper, ex_bf (nI_pos (by omega)), ex_dI, h, ex_bf (nI_ge hj (by omega)), f_X11_isJumper_b18, ex_cl (right1 h0), ex_gd (Or.inr rfl), ex_rt]
theorem isJM_f {x : Int32} {n : Nat} {τ : Sg} (h0 : τ.1 56 0 = 0) (h : τ.1 56 6 = nI n) (hx : x < 0 ∨ (¬ x < 0 ∧ nI n ≤ x)) : f_X11_isJumper x τ = some (0, sI τ 56 0 1) := by
  have b : f_X11_isJumper_b17 τ = some (0, sI τ 56 0 1) := by
    rw [f_X11_isJumper_b17, f_X11_isJumper_b18, ex_cl (right0 h0 l1_0), ex_gd (Or.inl rfl), ex_rt]
  rcases hx with q | ⟨q1, q2⟩
  · rw [f_X11_isJumper, ex_bt q, b]
  · rw [f_X11_isJumper, ex_bf q1, ex_dI, h, ex_bt q2, b]
theorem flyer_eq {j : Nat} {σ : Sg} (hj : j < 4) : f_X4_flyer (nI j) σ = some (fl j, σ) := by
  have e1 : (if (4 : Int32) - 1 < nI j then (4 : Int32) - 1 else nI j) = nI j := if_neg (fun h => by
    have := (nI_ltL (x := 4 - 1) (k := 3) (by decide) (by omega) (by omega)).mp h; omega)
  have e2 : (if (0 : Int32) < nI j then nI j else 0) = nI j := by
    by_cases z : j = 0
    · subst z; rfl
    · rw [if_pos]
      rw [Int32.lt_iff_toInt_lt, toInt_0, nI_toInt (by omega)]; omega
  rw [f_X4_flyer, ex_lt, e1, ex_lt, e2, ex_gd (inb_nI hj (by omega)), ex_lt, nI_clamp (show j < 2 ^ 31 by omega), fl_at, ex_gd (isFl_l hj), ex_rt]
theorem thr0 {g n s e m : Nat} {σ τ : Sg} (J : Jr g n s e m σ τ) : Jr g n s e m σ (sI τ 56 0 0) ∧ (sI τ 56 0 0).1 56 0 = 0 := ⟨J.none (off_sI rfl), sI_eq⟩
/-- a call that is refused -/
theorem ok_thr {α : Type} {f : Sg → Option ((α ⊕ Bool) × Sg)} {h : Sg → Option (α × Sg)} {c : Bool → Option Int32} {g n s e m : Nat} {σ τ : Sg} (J : Jr g n s e m σ τ) (q : Bool) (v : α) {y : Int32} (h1 : f σ = some (.inr q, σ)) (h2 : h τ = some (v, sI (sI τ 56 0 0) 56 0 y)) (hc : c q = some y) : OkX f h c σ τ :=
  ⟨_, _, _, _, h1, h2, by show c q = some ((sI (sI τ 56 0 0) 56 0 y).1 56 0); rw [sI_eq]; exact hc, g, n, s, e, m, J.none (off_trans (off_sI rfl) (off_sI rfl))⟩
theorem ok_run {α : Type} {f : Sg → Option ((α ⊕ Bool) × Sg)} {h : Sg → Option (α × Sg)} {c : Bool → Option Int32} {g n s e m : Nat} {σ τ σ' τ' : Sg} (J : Jr g n s e m σ τ) (v : α) (h1 : f σ = some (.inl v, σ')) (h2 : h τ = some (v, τ')) (h0 : τ'.1 56 0 = 0) (o1 : off gs_fc σ σ') (o2 : off gs_fm τ τ') (hme : ∀ j, j < 4 → σ'.1 (fl j) 0 = nI j) : OkX f h c σ τ :=
  ⟨_, _, _, _, h1, h2, ⟨h0, rfl⟩, g, n, s, e, m, J.frame o1 o2 hme⟩
/-- all that are told are there -/
theorem Jr.there {g n s e m N : Nat} {σ τ : Sg} {S : Nat → Sg} (J : Jr g n s e m σ τ) (h1 : f_X10_prepare σ = some ((), S 0)) (h2 : Chain 0 N S) (hN : N ≤ 600) : ∀ j, j < n → ¬ (S N).1 (fl j) 5 = 4 := by
  intro j hj
  have hn4 := J.1.2.1
  obtain ⟨σ1, a1, a2, a3⟩ := J.prep
  rw [h1] at a1
  cases a1
  have := (a2.2.2.1 j (by omega)).2.1
  rw [if_pos ⟨hj, rfl⟩] at this
  exact aw_X4_go (show j < 4 by omega) _ _ _ _ (by rw [this]; decide) (go_to h2 (Nat.le_refl N) hN)
theorem run_off {τ τ' : Sg} (h : off gs_mrun τ τ') : off gs_fm τ τ' := off_mono fm_run h
theorem run_thr {τ τ' : Sg} (h : off gs_mrun τ τ') (h0 : τ.1 56 0 = 0) : τ'.1 56 0 = 0 := by rw [(h 56 0 rfl).1]; exact h0
/-- the reference's part of a refused call on a jumper -/
theorem ok_ran {g n s e m : Nat} {σ τ : Sg} (J : Jr g n s e m σ τ) (x y : Int32) : OkX (f_X10_ran x y) (f_X11_ran x y) cN σ τ := by
  obtain ⟨J0, t0⟩ := thr0 J
  have hn4 := J.1.2.1
  have hnC := J.2.2.1.1
  have hnM : (sI τ 56 0 0).1 56 6 = nI n := J0.1.2.2.1
  rcases jumper_cases x hn4 with ⟨j, hj, rfl⟩ | hx
  · have hj4 : j < 4 := by omega
    rcases what_cases y (M := 6) (y := 6) rfl (by omega) with ⟨k, hk, rfl⟩ | hy
    · obtain ⟨N, S, τ', n1, n2, n3, n4, p1, p2, p3, p4, I, p5, o1, o2, ome⟩ := J0.playAll
      obtain ⟨L, c, R, -⟩ := id I
      obtain ⟨f1, f2, f3, f4, f5, f6, f7, f8⟩ := R.2.2.1 j hj
      have i4 := inb_nI hj4 (show 4 < 2 ^ 31 by omega)
      have cj := nI_clamp (show j < 2 ^ 31 by omega)
      have hdo : τ'.1 73 j = (S N).1 (fl j) 5 := by
        rcases R.2.1 j hj4 with ⟨h4, h5⟩ | ⟨-, -, h5, -⟩
        · exact absurd h4 (J0.there p1 p2 n2 j hj)
        · exact h5
      have b1 : ¬ nI k < 0 := nI_pos (by omega)
      have b2 : ¬ (6 : Int32) < nI k := fun q => by
        have := (nI_ltL (x := 6) (k := 6) rfl (by omega) (by omega)).mp q; omega
      have eC : f_X10_ran (nI j) (nI k) σ = (br (nI k = 0) (dI (fl j) 10 (fun v3 => rtX v3)) (br (nI k = 1) (dI (fl j) 11 (fun v5 => rtX v5)) (br (nI k = 2) (dI (fl j) 12 (fun v7 => rtX v7)) (br (nI k = 3) (dI (fl j) 13 (fun v9 => rtX v9)) (br (nI k = 4) (dI (fl j) 14 (fun v11 => rtX v11)) (br (nI k = 5) (dI (fl j) 6 (fun v13 => rtX v13)) (dI (fl j) 5 (fun v14 => rtX v14)))))))) (S N) := by
        rw [f_X10_ran, ex_cl (isJC_t hnC hj hn4), ex_bf l1_0, ex_bf b1, ex_bf b2, f_X10_ran_b23, ex_xv need1, ex_cl p3, ex_cl (flyer_eq hj4), ex_gd (isFl_l hj4)]
      have eM : f_X11_ran (nI j) (nI k) τ = (br (nI k = 0) (gd (inb (nI j) 4 = true) (dI 78 (nI j).toNatClampNeg (fun v6 => rt v6))) (br (nI k = 1) (gd (inb (nI j) 4 = true) (dI 79 (nI j).toNatClampNeg (fun v8 => rt v8))) (br (nI k = 2) (gd (inb (nI j) 4 = true) (dI 80 (nI j).toNatClampNeg (fun v10 => rt v10))) (br (nI k = 3) (gd (inb (nI j) 4 = true) (dI 81 (nI j).toNatClampNeg (fun v12 => rt v12))) (br (nI k = 4) (gd (inb (nI j) 4 = true) (dI 82 (nI j).toNatClampNeg (fun v14 => rt v14))) (br (nI k = 5) (gd (inb (nI j) 4 = true) (dI 74 (nI j).toNatClampNeg (fun v16 => rt v16))) (gd (inb (nI j) 4 = true) (dI 73 (nI j).toNatClampNeg (fun v17 => rt v17))))))))) τ' := by
        rw [f_X11_ran, ex_pI, ex_cl (isJM_t t0 hnM hj hn4), ex_bf l1_0, ex_cl (isWhat_t (M := 6) (y := 6) rfl t0 hk (by omega)), ex_bf l1_0, ex_cl p4]
      have fin : ∀ v, f_X10_ran (nI j) (nI k) σ = some (.inl v, S N) → f_X11_ran (nI j) (nI k) τ = some (v, τ') → OkX (f_X10_ran (nI j) (nI k)) (f_X11_ran (nI j) (nI k)) cN σ τ := fun v h1 h2 => ok_run J v h1 h2 (run_thr o1 t0) (off_mono fc_play (o2 N (Nat.le_refl N))) (off_trans (off_sI rfl) (run_off o1)) I.me
      rcases (by omega : k = 0 ∨ k = 1 ∨ k = 2 ∨ k = 3 ∨ k = 4 ∨ k = 5 ∨ k = 6) with rfl | rfl | rfl | rfl | rfl | rfl | rfl
      · exact fin _ (by rw [eC, ex_bt (by decide), ex_dI, ex_rtX]) (by rw [eM, ex_bt (by decide), ex_gd i4, ex_dI, cj, f4, ex_rt])
      · exact fin _ (by rw [eC, ex_bf (by decide), ex_bt (by decide), ex_dI, ex_rtX]) (by rw [eM, ex_bf (by decide), ex_bt (by decide), ex_gd i4, ex_dI, cj, f5, ex_rt])
      · exact fin _ (by rw [eC, ex_bf (by decide), ex_bf (by decide), ex_bt (by decide), ex_dI, ex_rtX]) (by rw [eM, ex_bf (by decide), ex_bf (by decide), ex_bt (by decide), ex_gd i4, ex_dI, cj, f6, ex_rt])
      · exact fin _ (by rw [eC, ex_bf (by decide), ex_bf (by decide), ex_bf (by decide), ex_bt (by decide), ex_dI, ex_rtX]) (by rw [eM, ex_bf (by decide), ex_bf (by decide), ex_bf (by decide), ex_bt (by decide), ex_gd i4, ex_dI, cj, f7, ex_rt])
      · exact fin _ (by rw [eC, ex_bf (by decide), ex_bf (by decide), ex_bf (by decide), ex_bf (by decide), ex_bt (by decide), ex_dI, ex_rtX]) (by rw [eM, ex_bf (by decide), ex_bf (by decide), ex_bf (by decide), ex_bf (by decide), ex_bt (by decide), ex_gd i4, ex_dI, cj, f8, ex_rt])
      · exact fin _ (by rw [eC, ex_bf (by decide), ex_bf (by decide), ex_bf (by decide), ex_bf (by decide), ex_bf (by decide), ex_bt (by decide), ex_dI, ex_rtX]) (by rw [eM, ex_bf (by decide), ex_bf (by decide), ex_bf (by decide), ex_bf (by decide), ex_bf (by decide), ex_bt (by decide), ex_gd i4, ex_dI, cj, f1, ex_rt])
      · exact fin _ (by rw [eC, ex_bf (by decide), ex_bf (by decide), ex_bf (by decide), ex_bf (by decide), ex_bf (by decide), ex_bf (by decide), ex_dI, ex_rtX]) (by rw [eM, ex_bf (by decide), ex_bf (by decide), ex_bf (by decide), ex_bf (by decide), ex_bf (by decide), ex_bf (by decide), ex_gd i4, ex_dI, cj, hdo, ex_rt])
    · refine ok_thr J false 0 (y := 1) ?_ ?_ rfl
      · rw [f_X10_ran, ex_cl (isJC_t hnC hj hn4), ex_bf l1_0]
        rcases hy with q | ⟨q1, q2⟩
        · rw [ex_bt q, f_X10_ran_b22, f_X10_ran_b23, ex_xt need0]
        · rw [ex_bf q1, ex_bt q2, f_X10_ran_b22, f_X10_ran_b23, ex_xt need0]
      · rw [f_X11_ran, ex_pI, ex_cl (isJM_t t0 hnM hj hn4), ex_bf l1_0, ex_cl (isWhat_f t0 hy), ex_bt rfl, ex_rt]
  · refine ok_thr J false 0 (y := 1) ?_ ?_ rfl
    · rw [f_X10_ran, ex_cl (isJC_f hnC hx), ex_bt rfl, f_X10_ran_b22, f_X10_ran_b23, ex_xt need0]
    · rw [f_X11_ran, ex_pI, ex_cl (isJM_f t0 hnM hx), ex_bt rfl, ex_rt]
theorem lit_nlt {k M : Nat} {x : Int32} (hx : Int32.ofNat M = x) (h : k ≤ M) (hM : M < 2 ^ 30) : ¬ x < nI k := fun q => by
  have := (nI_ltL hx (by omega) (by omega)).mp q; omega
theorem ok_mat {g n s e m : Nat} {σ τ : Sg} (J : Jr g n s e m σ τ) (x : Int32) : OkX (f_X10_mat x) (f_X11_mat x) cN σ τ := by
  obtain ⟨J0, t0⟩ := thr0 J
  rcases what_cases x (M := 4) (y := 4) rfl (by omega) with ⟨k, hk, rfl⟩ | hx
  · obtain ⟨N, S, τ', n1, n2, n3, n4, p1, p2, p3, p4, I, p5, o1, o2, ome⟩ := J0.playAll
    obtain ⟨L, c, R, -⟩ := id I
    obtain ⟨s1, s2, s3, s4, s5, s6, s7⟩ := id R.2.2.2.2.2.2.1
    have eC : f_X10_mat (nI k) σ = (br (nI k = 0) (dI 17 10 (fun v2 => rtX v2)) (br (nI k = 1) (dI 17 11 (fun v4 => rtX v4)) (br (nI k = 2) (dI 17 12 (fun v6 => rtX v6)) (br (nI k = 3) (dI 17 13 (fun v8 => rtX v8)) (dI 17 9 (fun v9 => rtX v9)))))) (S N) := by
      rw [f_X10_mat, ex_bf (nI_pos (by omega)), ex_bf (lit_nlt (M := 4) (x := 4) rfl hk (by omega)), f_X10_mat_b14, ex_xv need1, ex_cl p3]
    have eM : f_X11_mat (nI k) τ = (br (nI k = 0) (dI 56 68 (fun v4 => rt v4)) (br (nI k = 1) (dI 56 69 (fun v6 => rt v6)) (br (nI k = 2) (dI 56 70 (fun v8 => rt v8)) (br (nI k = 3) (dI 56 71 (fun v10 => rt v10)) (dI 56 66 (fun v11 => rt v11)))))) τ' := by
      rw [f_X11_mat, ex_pI, ex_cl (isWhat_t (M := 4) (y := 4) rfl t0 hk (by omega)), ex_bf l1_0, ex_cl p4]
    have fin : ∀ v, f_X10_mat (nI k) σ = some (.inl v, S N) → f_X11_mat (nI k) τ = some (v, τ') → OkX (f_X10_mat (nI k)) (f_X11_mat (nI k)) cN σ τ := fun v h1 h2 => ok_run J v h1 h2 (run_thr o1 t0) (off_mono fc_play (o2 N (Nat.le_refl N))) (off_trans (off_sI rfl) (run_off o1)) I.me
    rcases (by omega : k = 0 ∨ k = 1 ∨ k = 2 ∨ k = 3 ∨ k = 4) with rfl | rfl | rfl | rfl | rfl
    · exact fin _ (by rw [eC, ex_bt (by decide), ex_dI, ex_rtX]) (by rw [eM, ex_bt (by decide), ex_dI, s2, ex_rt])
    · exact fin _ (by rw [eC, ex_bf (by decide), ex_bt (by decide), ex_dI, ex_rtX]) (by rw [eM, ex_bf (by decide), ex_bt (by decide), ex_dI, s3, ex_rt])
    · exact fin _ (by rw [eC, ex_bf (by decide), ex_bf (by decide), ex_bt (by decide), ex_dI, ex_rtX]) (by rw [eM, ex_bf (by decide), ex_bf (by decide), ex_bt (by decide), ex_dI, s4, ex_rt])
    · exact fin _ (by rw [eC, ex_bf (by decide), ex_bf (by decide), ex_bf (by decide), ex_bt (by decide), ex_dI, ex_rtX]) (by rw [eM, ex_bf (by decide), ex_bf (by decide), ex_bf (by decide), ex_bt (by decide), ex_dI, s5, ex_rt])
    · exact fin _ (by rw [eC, ex_bf (by decide), ex_bf (by decide), ex_bf (by decide), ex_bf (by decide), ex_dI, ex_rtX]) (by rw [eM, ex_bf (by decide), ex_bf (by decide), ex_bf (by decide), ex_bf (by decide), ex_dI, s1, ex_rt])
  · refine ok_thr J false 0 (y := 1) ?_ ?_ rfl
    · rw [f_X10_mat]
      rcases hx with q | ⟨q1, q2⟩
      · rw [ex_bt q, f_X10_mat_b13, f_X10_mat_b14, ex_xt need0]
      · rw [ex_bf q1, ex_bt q2, f_X10_mat_b13, f_X10_mat_b14, ex_xt need0]
    · rw [f_X11_mat, ex_pI, ex_cl (isWhat_f t0 hx), ex_bt rfl, ex_rt]
theorem ok_stop {g n s e m : Nat} {σ τ : Sg} (J : Jr g n s e m σ τ) (x : Int32) : OkX (f_X10_stop x) (f_X11_stop x) cN σ τ := by
  obtain ⟨J0, t0⟩ := thr0 J
  rcases what_cases x (M := 1) (y := 1) rfl (by omega) with ⟨k, hk, rfl⟩ | hx
  · obtain ⟨N, S, τ', n1, n2, n3, n4, p1, p2, p3, p4, I, p5, o1, o2, ome⟩ := J0.playAll
    obtain ⟨L, c, R, -⟩ := id I
    obtain ⟨s1, s2, s3, s4, s5, s6, s7⟩ := id R.2.2.2.2.2.2.1
    have fin : ∀ v, f_X10_stop (nI k) σ = some (.inl v, S N) → f_X11_stop (nI k) τ = some (v, τ') → OkX (f_X10_stop (nI k)) (f_X11_stop (nI k)) cN σ τ := fun v h1 h2 => ok_run J v h1 h2 (run_thr o1 t0) (off_mono fc_play (o2 N (Nat.le_refl N))) (off_trans (off_sI rfl) (run_off o1)) I.me
    rcases (by omega : k = 0 ∨ k = 1) with rfl | rfl
    · exact fin _ (by rw [f_X10_stop, ex_bt (by decide), f_X10_stop_b9, f_X10_stop_b14, ex_xv need1, ex_cl p3, ex_bt (by decide), ex_dI, ex_rtX]) (by rw [f_X11_stop, ex_pI, ex_cl (isWhat_t (M := 1) (y := 1) rfl t0 hk (by omega)), ex_bf l1_0, ex_cl p4, ex_bt (by decide), ex_dI, s6, ex_rt])
    · exact fin _ (by rw [f_X10_stop, ex_bf (by decide), ex_bt (by decide), f_X10_stop_b9, f_X10_stop_b14, ex_xv need1, ex_cl p3, ex_bf (by decide), ex_dI, ex_rtX]) (by rw [f_X11_stop, ex_pI, ex_cl (isWhat_t (M := 1) (y := 1) rfl t0 hk (by omega)), ex_bf l1_0, ex_cl p4, ex_bf (by decide), ex_dI, s7, ex_rt])
  · have n0 : ¬ x = 0 := by
      rintro rfl
      rcases hx with q | ⟨-, q⟩ <;> exact absurd q (by decide)
    have n1 : ¬ x = 1 := by
      rintro rfl
      rcases hx with q | ⟨-, q⟩ <;> exact absurd q (by decide)
    refine ok_thr J false 0 (y := 1) ?_ ?_ rfl
    · rw [f_X10_stop, ex_bf n0, ex_bf n1, f_X10_stop_b14, ex_xt need0]
    · rw [f_X11_stop, ex_pI, ex_cl (isWhat_f (y := 1) t0 hx), ex_bt rfl, ex_rt]
theorem ok_lands {g n s e m : Nat} {σ τ : Sg} (J : Jr g n s e m σ τ) (x y : Int32) : OkX (f_X10_lands x y) (f_X11_lands x y) cN σ τ := by
  obtain ⟨J0, t0⟩ := thr0 J
  have hn4 := J.1.2.1
  have hnC := J.2.2.1.1
  have hnM : (sI τ 56 0 0).1 56 6 = nI n := J0.1.2.2.1
  rcases jumper_cases x hn4 with ⟨j, hj, rfl⟩ | hx
  · have hj4 : j < 4 := by omega
    rcases what_cases y (M := 5) (y := 5) rfl (by omega) with ⟨k, hk, rfl⟩ | hy
    · obtain ⟨N, S, τ', n1, n2, n3, n4, p1, p2, p3, p4, I, p5, o1, o2, ome⟩ := J0.playAll
      obtain ⟨L, c, R, -⟩ := id I
      have hK := R.2.2.2.1 j hj k (by omega)
      have b : ¬ (6 : Int32) ≤ nI k := fun h => by have := (nI_leL (x := 6) (k := 6) rfl (by omega) (by omega)).mp h; omega
      have ld : f_X1_landed (fl j) (nI k) (S N) = some ((S N).1 (fk j) k, S N) := by
        rw [f_X1_landed, ex_gd (isFl_l hj4), ex_bf (nI_pos (by omega)), ex_bf b, ex_gd (inb_nI (show k < 6 by omega) (by omega)), ex_dI, nI_clamp (show k < 2 ^ 31 by omega), fl_1, ex_rt]
      refine ok_run J ((S N).1 (fk j) k) ?_ ?_ (run_thr o1 t0) (off_mono fc_play (o2 N (Nat.le_refl N))) (off_trans (off_sI rfl) (run_off o1)) I.me
      · rw [f_X10_lands, ex_cl (isJC_t hnC hj hn4), ex_bf l1_0, ex_bf (nI_pos (by omega)), ex_bf b, f_X10_lands_b23, ex_xv need1, ex_cl p3, ex_cl (flyer_eq hj4), ex_gd (isFl_l hj4), ex_cl ld, ex_rtX]
      · rw [f_X11_lands, ex_pI, ex_cl (isJM_t t0 hnM hj hn4), ex_bf l1_0, ex_cl (isWhat_t (M := 5) (y := 5) rfl t0 hk (by omega)), ex_bf l1_0, ex_cl p4, nI_l6 (k := k) rfl, ex_gd (inb_nI (show 6 * j + k < 24 by omega) (by omega)), ex_dI, nI_clamp (show 6 * j + k < 2 ^ 31 by omega), hK, ex_rt]
    · refine ok_thr J false 0 (y := 1) ?_ ?_ rfl
      · rw [f_X10_lands, ex_cl (isJC_t hnC hj hn4), ex_bf l1_0]
        rcases hy with q | ⟨q1, q2⟩
        · rw [ex_bt q, f_X10_lands_b22, f_X10_lands_b23, ex_xt need0]
        · have q3 : (6 : Int32) ≤ y := by
            rw [Int32.lt_iff_toInt_lt] at q2
            rw [Int32.le_iff_toInt_le]
            have e5 : (5 : Int32).toInt = 5 := by decide
            have e6 : (6 : Int32).toInt = 6 := by decide
            omega
          rw [ex_bf q1, ex_bt q3, f_X10_lands_b22, f_X10_lands_b23, ex_xt need0]
      · rw [f_X11_lands, ex_pI, ex_cl (isJM_t t0 hnM hj hn4), ex_bf l1_0, ex_cl (isWhat_f (y := 5) t0 hy), ex_bt rfl, ex_rt]
  · refine ok_thr J false 0 (y := 1) ?_ ?_ rfl
    · rw [f_X10_lands, ex_cl (isJC_f hnC hx), ex_bt rfl, f_X10_lands_b22, f_X10_lands_b23, ex_xt need0]
    · rw [f_X11_lands, ex_pI, ex_cl (isJM_f t0 hnM hx), ex_bt rfl, ex_rt]
