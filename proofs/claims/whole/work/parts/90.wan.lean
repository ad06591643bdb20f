-- ===== the wander =====
def sumN (X : Nat → Nat) : Nat → Nat
  | 0 => 0
  | k + 1 => sumN X k + X k
def updN (X : Nat → Nat) (j v : Nat) : Nat → Nat := fun i => if i = j then v else X i
theorem sumN_upd {X : Nat → Nat} {j A : Nat} : ∀ k, (k ≤ j → sumN (updN X j (X j + A)) k = sumN X k) ∧ (j < k → sumN (updN X j (X j + A)) k = sumN X k + A) := by
  intro k
  induction k with
  | zero => exact ⟨fun _ => rfl, fun h => absurd h (by omega)⟩
  | succ k ih =>
    refine ⟨fun h => ?_, fun h => ?_⟩
    · show sumN (updN X j (X j + A)) k + updN X j (X j + A) k = sumN X k + X k
      rw [ih.1 (by omega), updN, if_neg (by omega)]
    · show sumN (updN X j (X j + A)) k + updN X j (X j + A) k = sumN X k + X k + A
      by_cases z : k = j
      · subst z
        rw [ih.1 (by omega), updN, if_pos rfl]; omega
      · rw [ih.2 (by omega), updN, if_neg z]; omega
theorem sumN_le {X : Nat → Nat} {j : Nat} : ∀ k, j < k → X j ≤ sumN X k := by
  intro k
  induction k with
  | zero => intro h; omega
  | succ k ih =>
    intro h
    show X j ≤ sumN X k + X k
    by_cases z : j = k
    · subst z; omega
    · have := ih (by omega); omega
theorem sumN_0 {X : Nat → Nat} : ∀ k, (∀ j, j < k → X j = 0) → sumN X k = 0 := by
  intro k
  induction k with
  | zero => intro _; rfl
  | succ k ih =>
    intro h
    show sumN X k + X k = 0
    rw [ih (fun j hj => h j (by omega)), h k (by omega)]
theorem sumN_cong {X Y : Nat → Nat} : ∀ k, (∀ j, j < k → X j = Y j) → sumN X k = sumN Y k := by
  intro k
  induction k with
  | zero => intro _; rfl
  | succ k ih =>
    intro h
    show sumN X k + X k = sumN Y k + Y k
    rw [ih (fun j hj => h j (by omega)), h k (by omega)]
theorem sL_at {σ : Sg} {a b i k : Nat} {v : Int64} : (sL σ i k v).2.1 a b = if a = i ∧ b = k then v else σ.2.1 a b := sL_gt σ i k v a b
theorem toL_nI {a : Nat} (h : a < 2 ^ 31) : (nI a).toInt64 = zL a := by
  apply Int64.toInt_inj.mp
  rw [Int32.toInt_toInt64, nI_toInt h, zL_toInt (by omega)]
def Wn (e : Nat) (X : Nat → Nat) (f : Nat) (σ τ : Sg) : Prop := (∀ j, j < 41 → σ.2.1 32 j = zL (X j) ∧ τ.2.1 89 j = zL (X j)) ∧ σ.2.1 30 2 = zL f ∧ τ.2.1 56 78 = zL f ∧ (∀ j, j < 41 → (j + e < 20 ∨ 20 + e < j) → X j = 0)
/-- what stays while ways come -/
def WK (σ τ σ' τ' : Sg) : Prop := σ'.1 = σ.1 ∧ σ'.2.2 = σ.2.2 ∧ τ'.1 = τ.1 ∧ τ'.2.2 = τ.2.2 ∧ (∀ a b, ¬ a = 32 → ¬ (a = 30 ∧ b = 2) → σ'.2.1 a b = σ.2.1 a b) ∧ (∀ a b, ¬ a = 89 → ¬ (a = 56 ∧ b = 78) → τ'.2.1 a b = τ.2.1 a b)
theorem WK.trans {σ τ σ1 τ1 σ2 τ2 : Sg} (h : WK σ τ σ1 τ1) (k : WK σ1 τ1 σ2 τ2) : WK σ τ σ2 τ2 :=
  ⟨k.1.trans h.1, k.2.1.trans h.2.1, k.2.2.1.trans h.2.2.1, k.2.2.2.1.trans h.2.2.2.1, fun a b h1 h2 => (k.2.2.2.2.1 a b h1 h2).trans (h.2.2.2.2.1 a b h1 h2), fun a b h1 h2 => (k.2.2.2.2.2 a b h1 h2).trans (h.2.2.2.2.2 a b h1 h2)⟩
theorem WK.rfl' {σ τ : Sg} : WK σ τ σ τ := ⟨rfl, rfl, rfl, rfl, fun _ _ _ _ => rfl, fun _ _ _ _ => rfl⟩
/-- some come to a place -/
theorem come_rel {g e f A : Nat} {d y w : Int32} {X : Nat → Nat} {σ τ : Sg} {dM : Sg → Option (Unit × Sg)} (hg : isGd g = true) (he : e ≤ 20) (hC : σ.1 g 1 = nI e) (hM : τ.1 56 2 = nI e) (W : Wn e X f σ τ) (hy : y = d) (hw : w = 20 + d) : ∃ X' f' σ' τ', f_X9_comeTo g d (zL A) σ = some ((), σ') ∧ (cl (f_X11_isIn y) (fun r5 => br (r5 = 0) (dL 56 78 (fun v7 => pL 56 78 (v7 + zL A) dM)) (gd (inb w 41 = true) (dL 89 w.toNatClampNeg (fun v9 => gd (inb w 41 = true) (pL 89 w.toNatClampNeg (v9 + zL A) dM)))))) τ = dM τ' ∧ Wn e X' f' σ' τ' ∧ sumN X' 41 + f' = sumN X 41 + f + A ∧ WK σ τ σ' τ' := by
  subst hy
  obtain ⟨w1, w2, w3, w4⟩ := W
  have be := beyond_eq (x := y) (σ := σ) hg
  rw [hC] at be
  have ii := isIn_eq (x := y) hM
  by_cases z : y < -(nI e) ∨ nI e < y
  · rw [if_pos z] at be ii
    refine ⟨X, f + A, sL σ 30 2 (zL (f + A)), sL τ 56 78 (zL (f + A)), ?_, ?_, ⟨fun j hj => ?_, ?_, ?_, w4⟩, by omega, rfl, rfl, rfl, rfl, fun a b h1 h2 => ?_, fun a b h1 h2 => ?_⟩
    · rw [f_X9_comeTo, ex_gd hg, ex_cl be, ex_bf l1_0, f_X9_comeTo_b26, ex_dL, w2, ex_pL, ex_rt, zL_add]
    · rw [ex_cl ii, ex_bt rfl, ex_dL, w3, ex_pL, zL_add]
    · rw [sL_at, if_neg (by omega), sL_at, if_neg (by omega)]; exact w1 j hj
    · rw [sL_at, if_pos ⟨rfl, rfl⟩]
    · rw [sL_at, if_pos ⟨rfl, rfl⟩]
    · rw [sL_at, if_neg h2]
    · rw [sL_at, if_neg h2]
  · rw [if_neg z] at be ii
    have bn := in_bnd he z
    have e20 : (20 : Int32).toInt = 20 := by decide
    obtain ⟨k, hk, ek⟩ : ∃ k, k < 41 ∧ 20 + y = nI k := by
      refine ⟨(y.toInt + 20).toNat, by omega, ?_⟩
      apply Int32.toInt_inj.mp
      rw [toInt_add_s, nI_toInt (by omega), e20]
      · omega
      · rw [e20]; omega
    have ek' : y + 20 = nI k := by rw [Int32.add_comm]; exact ek
    have hki : (k : Int) = y.toInt + 20 := by
      have := congrArg Int32.toInt ek
      rw [toInt_add_s (by rw [e20]; omega), nI_toInt (by omega), e20] at this
      omega
    have i41 := inb_nI hk (by omega)
    have ck := nI_clamp (show k < 2 ^ 31 by omega)
    have lt41 : nI k < 41 := (nI_ltR (x := 41) (k := 41) rfl (by omega) (by omega)).mpr hk
    rw [ek] at hw
    subst hw
    obtain ⟨a1, a2⟩ := w1 k hk
    refine ⟨updN X k (X k + A), f, sL σ 32 k (zL (X k + A)), sL τ 89 k (zL (X k + A)), ?_, ?_, ⟨fun j hj => ?_, ?_, ?_, fun j hj ho => ?_⟩, by have := (sumN_upd (X := X) (j := k) (A := A) 41).2 hk; omega, rfl, rfl, rfl, rfl, fun a b h1 h2 => ?_, fun a b h1 h2 => ?_⟩
    · rw [f_X9_comeTo, ex_gd hg, ex_cl be, ex_bt rfl, ek', ex_bf (nI_pos (by omega)), ex_bt lt41, ex_lt, ex_gd i41, ex_dL, ck, a1, ex_gd i41, ex_pL, ex_rt, zL_add]
    · rw [ex_cl ii, ex_bf l1_0, ex_gd i41, ex_dL, ck, a2, ex_gd i41, ex_pL, zL_add]
    · by_cases q : j = k
      · subst q
        rw [sL_at, if_pos ⟨rfl, rfl⟩, sL_at, if_pos ⟨rfl, rfl⟩, updN, if_pos rfl]
        exact ⟨rfl, rfl⟩
      · rw [sL_at, if_neg (by omega), sL_at, if_neg (by omega), updN, if_neg q]; exact w1 j hj
    · rw [sL_at, if_neg (by omega)]; exact w2
    · rw [sL_at, if_neg (by omega)]; exact w3
    · rw [updN, if_neg (by omega)]; exact w4 j hj ho
    · rw [sL_at, if_neg (by omega)]
    · rw [sL_at, if_neg (by omega)]
theorem i3 (v : Int32) : (v + nI 0 - 1 = v - 1 ∧ v + nI 1 - 1 = v ∧ v + nI 2 - 1 = v + 1) ∧ (20 + v + nI 0 - 1 = 20 + (v - 1) ∧ 20 + v + nI 1 - 1 = 20 + v ∧ 20 + v + nI 2 - 1 = 20 + (v + 1)) := by
  have e0 : ∀ u : Int32, u + nI 0 - 1 = u - 1 := fun u => by rw [show nI 0 = 0 from rfl, Int32.add_zero]
  have e1 : ∀ u : Int32, u + nI 1 - 1 = u := fun u => by rw [show nI 1 = 1 from rfl, Int32.add_sub_cancel]
  have e2 : ∀ u : Int32, u + nI 2 - 1 = u + 1 := fun u => by rw [Int32.sub_eq_add_neg, Int32.add_assoc]; rfl
  refine ⟨⟨e0 v, e1 v, e2 v⟩, ?_, e1 _, ?_⟩
  · rw [e0, Int32.sub_eq_add_neg, Int32.sub_eq_add_neg, Int32.add_assoc]
  · rw [e2, Int32.add_assoc]
/-- the slants, as both have them -/
def Sn (g a b c : Nat) (σ τ : Sg) : Prop := a ≤ 9 ∧ b ≤ 9 ∧ c ≤ 9 ∧ σ.1 g 5 = nI a ∧ σ.1 g 6 = nI b ∧ σ.1 g 7 = nI c ∧ τ.1 57 0 = nI a ∧ τ.1 57 1 = nI b ∧ τ.1 57 2 = nI c
theorem jump_loop {g e h q a b c : Nat} {V : Nat → Nat} {σ0 τ0 : Sg} {x4 x5 x6 : Int32} {k69 : Int32 → Int32 → Int32 → Int32 → Int32 → Sg → Option (Unit × Sg)} (hg : isGd g = true) (he : e ≤ 20) (hC : σ0.1 g 1 = nI e) (hM : τ0.1 56 2 = nI e) (hB : τ0.1 56 4 = σ0.1 g 3) (hB2 : -3 ≤ (σ0.1 g 3).toInt ∧ (σ0.1 g 3).toInt ≤ 3) (hS : Sn g a b c σ0 τ0) (hV : ∀ j, j < 41 → V j < 2 ^ 63 ∧ σ0.2.1 31 j = zL (V j) ∧ τ0.2.1 88 j = zL (V j)) (hh : h ≤ 60) (hq : q ≤ 9) : ∀ (d i fu fm : Nat) (X : Nat → Nat) (f : Nat) (σ τ : Sg), i + d = 41 → Wn e X f σ τ → WK σ0 τ0 σ τ → ∃ X' f' σ' τ', f_X9_jump_b43 (fu + d + 1) g (nI h) (nI q) (nI i) σ = some ((), σ') ∧ f_X11_wandersBy_b127 k69 (fm + d + 1) (nI h) (nI q) x4 x5 x6 (nI i) τ = f_X11_wandersBy_b249 k69 (nI h) (nI q) x4 x5 x6 τ' ∧ Wn e X' f' σ' τ' ∧ sumN X' 41 + f' + (a + b + c) * sumN V i = sumN X 41 + f + (a + b + c) * sumN V 41 ∧ WK σ0 τ0 σ' τ' := by
  intro d
  induction d with
  | zero =>
    intro i fu fm X f σ τ hi W K
    have : i = 41 := by omega
    subst this
    exact ⟨X, f, σ, τ, by rw [f_X9_jump_b43, ex_gd hg, ex_bt (by decide), ex_rt], by rw [f_X11_wandersBy_b127, ex_bt (by decide)], W, rfl, K⟩
  | succ d ih =>
    intro i fu fm X f σ τ hi W K
    have i41 : i < 41 := by omega
    have ge : ¬ (41 : Int32) ≤ nI i := fun z => by have := (nI_leL (x := 41) (k := 41) rfl (by omega) (by omega)).mp z; omega
    have in41 := inb_nI i41 (by omega)
    have ci := nI_clamp (show i < 2 ^ 31 by omega)
    obtain ⟨v0, v1, v2⟩ := hV i i41
    have rC : ∀ {σ τ : Sg}, WK σ0 τ0 σ τ → σ.2.1 31 i = zL (V i) := fun k => by rw [k.2.2.2.2.1 31 i (by omega) (by omega)]; exact v1
    have rM : ∀ {σ τ : Sg}, WK σ0 τ0 σ τ → τ.2.1 88 i = zL (V i) := fun k => by rw [k.2.2.2.2.2 88 i (by omega) (by omega)]; exact v2
    have sumS : sumN V (i + 1) = sumN V i + V i := rfl
    by_cases z : V i = 0
    · obtain ⟨X', f', σ', τ', c1, c2, c3, c4, c5⟩ := ih (i + 1) fu fm X f σ τ (by omega) W K
      have l0 : lg_cmp (zL (V i)) 0 = 0 := by rw [z]; exact (lg_cmp_eq _ _).mpr rfl
      refine ⟨X', f', σ', τ', ?_, ?_, c3, ?_, c5⟩
      · rw [show fu + (d + 1) + 1 = (fu + d + 1) + 1 by omega, f_X9_jump_b43, ex_gd hg, ex_bf ge, ex_gd in41, ex_dL, ci, rC K, ex_bt l0, f_X9_jump_b139, ex_gd hg, nI_1]
        exact c1
      · rw [show fm + (d + 1) + 1 = (fm + d + 1) + 1 by omega, f_X11_wandersBy_b127, ex_bf ge, ex_gd in41, ex_dL, ci, rM K, ex_bt l0, f_X11_wandersBy_b243, nI_1]
        exact c2
      · rw [sumS, z] at c4
        exact c4
    · have l0 : ¬ lg_cmp (zL (V i)) 0 = 0 := fun w => zL_ne0 (by omega) v0 ((lg_cmp_eq _ _).mp w)
      have hC' : ∀ {σ τ : Sg}, WK σ0 τ0 σ τ → σ.1 = σ0.1 := fun k => k.1
      have hM' : ∀ {σ τ : Sg}, WK σ0 τ0 σ τ → τ.1 = τ0.1 := fun k => k.2.2.1
      have pb : -20 ≤ (plc i).toInt ∧ (plc i).toInt ≤ 20 := by rw [plc_i (by omega)]; omega
      obtain ⟨v, t1, t2, -⟩ := then_rel (σ := σ) (τ := τ) (p := plc i) (h := h) (q := q) (br0 := σ0.1 g 3) hg (by rw [K.1]) (by rw [K.2.2.1]; exact hB) hB2 pb (by omega) hq
      obtain ⟨s1, s2, s3, s4, s5, s6, s7, s8, s9⟩ := hS
      obtain ⟨⟨y0, y1, y2⟩, w0, w1, w2⟩ := i3 v
      have mA : ∀ x, x ≤ 9 → zL (V i) * (nI x).toInt64 = zL (V i * x) := fun x hx => by rw [toL_nI (by omega), zL_mul]
      obtain ⟨X1, f1, σ1, τ1, a1, a2, a3, a4, a5⟩ := come_rel (A := V i * a) (dM := f_X11_wandersBy_b237 k69 (f_X11_wandersBy_b127 k69 (fm + d + 1)) (f_X11_wandersBy_b165 k69 (f_X11_wandersBy_b127 k69 (fm + d + 1)) 8191) (nI h) (nI q) x4 x5 x6 (nI i) v (nI 0)) hg he (by rw [K.1]; exact hC) (by rw [K.2.2.1]; exact hM) W y0 w0
      have K1 := K.trans a5
      obtain ⟨X2, f2, σ2, τ2, b1, b2, b3, b4, b5⟩ := come_rel (A := V i * b) (dM := f_X11_wandersBy_b237 k69 (f_X11_wandersBy_b127 k69 (fm + d + 1)) (f_X11_wandersBy_b165 k69 (f_X11_wandersBy_b127 k69 (fm + d + 1)) 8190) (nI h) (nI q) x4 x5 x6 (nI i) v (nI 1)) hg he (by rw [K1.1]; exact hC) (by rw [K1.2.2.1]; exact hM) a3 y1 w1
      have K2 := K1.trans b5
      obtain ⟨X3, f3, σ3, τ3, c1, c2, c3, c4, c5⟩ := come_rel (A := V i * c) (dM := f_X11_wandersBy_b237 k69 (f_X11_wandersBy_b127 k69 (fm + d + 1)) (f_X11_wandersBy_b165 k69 (f_X11_wandersBy_b127 k69 (fm + d + 1)) 8189) (nI h) (nI q) x4 x5 x6 (nI i) v (nI 2)) hg he (by rw [K2.1]; exact hC) (by rw [K2.2.2.1]; exact hM) b3 y2 w2
      have K3 := K2.trans c5
      obtain ⟨X', f', σ', τ', d1, d2, d3, d4, d5⟩ := ih (i + 1) fu fm X3 f3 σ3 τ3 (by omega) c3 K3
      refine ⟨X', f', σ', τ', ?_, ?_, d3, ?_, d5⟩
      · have e5 : σ.1 g 5 = nI a := by rw [K.1]; exact s4
        have e6 : σ1.1 g 6 = nI b := by rw [K1.1]; exact s5
        have e7 : σ2.1 g 7 = nI c := by rw [K2.1]; exact s6
        have t1' : f_X2_comesTo g (nI i - 20) (nI h) (nI q) σ = some (v, σ) := t1
        rw [show fu + (d + 1) + 1 = (fu + d + 1) + 1 by omega, f_X9_jump_b43, ex_gd hg, ex_bf ge, ex_gd in41, ex_dL, ci, rC K, ex_bf l0, ex_cl t1', ex_gd in41, ex_dL, rC K, ex_dI, e5, mA a s1, ex_cl a1, ex_gd in41, ex_dL, rC K1, ex_dI, e6, mA b s2, ex_cl b1, ex_gd in41, ex_dL, rC K2, ex_dI, e7, mA c s3, ex_cl c1, f_X9_jump_b139, ex_gd hg, nI_1]
        exact d1
      · have e5 : τ.1 57 0 = nI a := by rw [K.2.2.1]; exact s7
        have e6 : τ1.1 57 1 = nI b := by rw [K1.2.2.1]; exact s8
        have e7 : τ2.1 57 2 = nI c := by rw [K2.2.2.1]; exact s9
        have t2' : f_X11_then (nI i - 20) (nI h) (nI q) τ = some (v, τ) := t2
        have st : ∀ (k fz A : Nat) (τ : Sg), k < 3 → τ.2.1 88 i = zL (V i) → zL (V i) * (τ.1 57 k).toInt64 = zL A → f_X11_wandersBy_b165 k69 (f_X11_wandersBy_b127 k69 (fm + d + 1)) (fz + 1) (nI h) (nI q) x4 x5 x6 (nI i) v (nI k) τ = (cl (f_X11_isIn (v + nI k - 1)) (fun r5 => br (r5 = 0) (dL 56 78 (fun v7 => pL 56 78 (v7 + zL A) (f_X11_wandersBy_b237 k69 (f_X11_wandersBy_b127 k69 (fm + d + 1)) (f_X11_wandersBy_b165 k69 (f_X11_wandersBy_b127 k69 (fm + d + 1)) fz) (nI h) (nI q) x4 x5 x6 (nI i) v (nI k)))) (gd (inb (20 + v + nI k - 1) 41 = true) (dL 89 (20 + v + nI k - 1).toNatClampNeg (fun v9 => gd (inb (20 + v + nI k - 1) 41 = true) (pL 89 (20 + v + nI k - 1).toNatClampNeg (v9 + zL A) (f_X11_wandersBy_b237 k69 (f_X11_wandersBy_b127 k69 (fm + d + 1)) (f_X11_wandersBy_b165 k69 (f_X11_wandersBy_b127 k69 (fm + d + 1)) fz) (nI h) (nI q) x4 x5 x6 (nI i) v (nI k)))))))) τ := by
          intro k fz A τ hk h1 h2
          have g3 : ¬ (3 : Int32) ≤ nI k := fun z => by have := (nI_leL (x := 3) (k := 3) rfl (by omega) (by omega)).mp z; omega
          rw [f_X11_wandersBy_b165, ex_bf g3, ex_gd in41, ex_dL, ci, h1, ex_gd (inb_nI hk (by omega)), ex_dI, nI_clamp (show k < 2 ^ 31 by omega), ex_lt, h2]
          rfl
        rw [show fm + (d + 1) + 1 = (fm + d + 1) + 1 by omega, f_X11_wandersBy_b127, ex_bf ge, ex_gd in41, ex_dL, ci, rM K, ex_bf l0, ex_cl t2', show FU = 8191 + 1 from rfl]
        refine Eq.trans (st 0 8191 (V i * a) τ (by omega) (rM K) (by rw [e5]; exact mA a s1)) (a2.trans ?_)
        rw [f_X11_wandersBy_b237, nI_1, show (8191 : Nat) = 8190 + 1 from rfl]
        refine Eq.trans (st 1 8190 (V i * b) τ1 (by omega) (rM K1) (by rw [e6]; exact mA b s2)) (b2.trans ?_)
        rw [f_X11_wandersBy_b237, nI_1, show (8190 : Nat) = 8189 + 1 from rfl]
        refine Eq.trans (st 2 8189 (V i * c) τ2 (by omega) (rM K2) (by rw [e7]; exact mA c s3)) (c2.trans ?_)
        rw [f_X11_wandersBy_b237, nI_1, show (8189 : Nat) = 8188 + 1 from rfl, f_X11_wandersBy_b165, ex_bt (by decide), f_X11_wandersBy_b243, nI_1]
        exact d2
      · rw [sumS, Nat.mul_add] at d4
        have e9 : (a + b + c) * V i = V i * a + V i * b + V i * c := by rw [Nat.mul_comm, Nat.mul_add, Nat.mul_add]
        omega
