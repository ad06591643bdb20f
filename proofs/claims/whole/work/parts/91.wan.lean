-- ===== the wander as a whole =====
theorem fillC_loop : ∀ (d i fu : Nat) (σ : Sg), i + d = 41 → ∃ σ', f_J7_fill_d0a16_b6 (fu + d + 1) 0 (nI i) 41 σ = some ((), σ') ∧ (∀ b, σ'.2.1 32 b = if i ≤ b ∧ b < 41 then 0 else σ.2.1 32 b) ∧ σ'.1 = σ.1 ∧ σ'.2.2 = σ.2.2 ∧ (∀ a b, ¬ a = 32 → σ'.2.1 a b = σ.2.1 a b) := by
  intro d
  induction d with
  | zero =>
    intro i fu σ h
    have : i = 41 := by omega
    subst this
    exact ⟨σ, by rw [f_J7_fill_d0a16_b6, ex_bt (by decide), ex_rt], fun b => by rw [if_neg (by omega)], rfl, rfl, fun _ _ _ => rfl⟩
  | succ d ih =>
    intro i fu σ h
    have ge : ¬ (41 : Int32) ≤ nI i := fun z => by have := (nI_leL (x := 41) (k := 41) rfl (by omega) (by omega)).mp z; omega
    obtain ⟨σ', a1, a2, a3, a4, a5⟩ := ih (i + 1) fu (sL σ 32 i 0) (by omega)
    refine ⟨σ', ?_, fun b => ?_, a3, a4, fun a b z => by rw [a5 a b z, sL_at, if_neg (by omega)]⟩
    · rw [show fu + (d + 1) + 1 = (fu + d + 1) + 1 by omega, f_J7_fill_d0a16_b6, ex_bf ge, ex_gd (inb_nI (show i < 41 by omega) (by omega)), ex_pL, nI_clamp (show i < 2 ^ 31 by omega), nI_1]
      exact a1
    · rw [a2 b, sL_at]
      by_cases z : i + 1 ≤ b ∧ b < 41
      · rw [if_pos z, if_pos (by omega)]
      · rw [if_neg z]
        by_cases y : b = i
        · rw [if_pos ⟨rfl, y⟩, if_pos (by omega)]
        · rw [if_neg (fun q => y q.2), if_neg (by omega)]
theorem takeC {σ : Sg} : ∃ σ', f_X9_takeNext σ = some ((), σ') ∧ (∀ j, j < 41 → σ'.2.1 31 j = σ.2.1 32 j ∧ σ'.2.1 32 j = 0) ∧ σ'.1 = σ.1 ∧ σ'.2.2 = σ.2.2 ∧ (∀ b, σ'.2.1 30 b = σ.2.1 30 b) := by
  obtain ⟨σ', a1, a2, a3, a4, a5⟩ := fillC_loop 41 0 (8191 - 41) (rL σ 31 (va_cpy (σ.2.1 32) (σ.2.1 31) 0 0 41)) rfl
  refine ⟨σ', ?_, fun j hj => ⟨?_, ?_⟩, a3, a4, fun b => ?_⟩
  · rw [f_X9_takeNext, ex_wL, ex_cl (f := f_J7_fill_d0a16 0) a1, ex_rt]
  · rw [a5 31 j (by omega), rL_gt, if_pos rfl, va_cpy, if_pos (by omega), Nat.zero_add, Nat.sub_zero]
  · rw [a2 j, if_pos (by omega)]
  · rw [a5 30 b (by omega), rL_gt, if_neg (by omega)]
theorem zero89 {k69 : Int32 → Int32 → Int32 → Int32 → Int32 → Sg → Option (Unit × Sg)} {x2 x3 x4 x5 x6 : Int32} : ∀ (d i fu : Nat) (τ : Sg), i + d = 41 → ∃ τ', f_X11_wandersBy_b79 k69 (fu + d + 1) x2 x3 x4 x5 x6 (nI i) τ = f_X11_wandersBy_b100 k69 x2 x3 x4 x5 x6 τ' ∧ (∀ b, τ'.2.1 89 b = if i ≤ b ∧ b < 41 then 0 else τ.2.1 89 b) ∧ τ'.1 = τ.1 ∧ τ'.2.2 = τ.2.2 ∧ (∀ a b, ¬ a = 89 → τ'.2.1 a b = τ.2.1 a b) := by
  intro d
  induction d with
  | zero =>
    intro i fu τ h
    have : i = 41 := by omega
    subst this
    exact ⟨τ, by rw [f_X11_wandersBy_b79, ex_bt (by decide)], fun b => by rw [if_neg (by omega)], rfl, rfl, fun _ _ _ => rfl⟩
  | succ d ih =>
    intro i fu τ h
    have ge : ¬ (41 : Int32) ≤ nI i := fun z => by have := (nI_leL (x := 41) (k := 41) rfl (by omega) (by omega)).mp z; omega
    obtain ⟨τ', a1, a2, a3, a4, a5⟩ := ih (i + 1) fu (sL τ 89 i 0) (by omega)
    refine ⟨τ', ?_, fun b => ?_, a3, a4, fun a b z => by rw [a5 a b z, sL_at, if_neg (by omega)]⟩
    · rw [show fu + (d + 1) + 1 = (fu + d + 1) + 1 by omega, f_X11_wandersBy_b79, ex_bf ge, ex_gd (inb_nI (show i < 41 by omega) (by omega)), ex_pL, nI_clamp (show i < 2 ^ 31 by omega), nI_1]
      exact a1
    · rw [a2 b, sL_at]
      by_cases z : i + 1 ≤ b ∧ b < 41
      · rw [if_pos z, if_pos (by omega)]
      · rw [if_neg z]
        by_cases y : b = i
        · rw [if_pos ⟨rfl, y⟩, if_pos (by omega)]
        · rw [if_neg (fun q => y q.2), if_neg (by omega)]
theorem zero88 {x1 x2 x3 x4 : Int32} : ∀ (d i fu : Nat) (τ : Sg), i + d = 41 → ∃ τ', f_X11_wandersBy_b3 (fu + d + 1) x1 x2 x3 x4 (nI i) τ = f_X11_wandersBy_b24 x1 x2 x3 x4 τ' ∧ (∀ b, τ'.2.1 88 b = if i ≤ b ∧ b < 41 then 0 else τ.2.1 88 b) ∧ τ'.1 = τ.1 ∧ τ'.2.2 = τ.2.2 ∧ (∀ a b, ¬ a = 88 → τ'.2.1 a b = τ.2.1 a b) := by
  intro d
  induction d with
  | zero =>
    intro i fu τ h
    have : i = 41 := by omega
    subst this
    exact ⟨τ, by rw [f_X11_wandersBy_b3, ex_bt (by decide)], fun b => by rw [if_neg (by omega)], rfl, rfl, fun _ _ _ => rfl⟩
  | succ d ih =>
    intro i fu τ h
    have ge : ¬ (41 : Int32) ≤ nI i := fun z => by have := (nI_leL (x := 41) (k := 41) rfl (by omega) (by omega)).mp z; omega
    obtain ⟨τ', a1, a2, a3, a4, a5⟩ := ih (i + 1) fu (sL τ 88 i 0) (by omega)
    refine ⟨τ', ?_, fun b => ?_, a3, a4, fun a b z => by rw [a5 a b z, sL_at, if_neg (by omega)]⟩
    · rw [show fu + (d + 1) + 1 = (fu + d + 1) + 1 by omega, f_X11_wandersBy_b3, ex_bf ge, ex_gd (inb_nI (show i < 41 by omega) (by omega)), ex_pL, nI_clamp (show i < 2 ^ 31 by omega), nI_1]
      exact a1
    · rw [a2 b, sL_at]
      by_cases z : i + 1 ≤ b ∧ b < 41
      · rw [if_pos z, if_pos (by omega)]
      · rw [if_neg z]
        by_cases y : b = i
        · rw [if_pos ⟨rfl, y⟩, if_pos (by omega)]
        · rw [if_neg (fun q => y q.2), if_neg (by omega)]
theorem copy88 {k69 : Int32 → Int32 → Int32 → Int32 → Int32 → Sg → Option (Unit × Sg)} {x2 x3 x4 x5 x6 : Int32} : ∀ (d i fu : Nat) (τ : Sg), i + d = 41 → ∃ τ', f_X11_wandersBy_b252 k69 (fu + d + 1) x2 x3 x4 x5 x6 (nI i) τ = f_X11_wandersBy_b279 k69 x2 x3 x4 x5 x6 τ' ∧ (∀ b, τ'.2.1 88 b = if i ≤ b ∧ b < 41 then τ.2.1 89 b else τ.2.1 88 b) ∧ τ'.1 = τ.1 ∧ τ'.2.2 = τ.2.2 ∧ (∀ a b, ¬ a = 88 → τ'.2.1 a b = τ.2.1 a b) := by
  intro d
  induction d with
  | zero =>
    intro i fu τ h
    have : i = 41 := by omega
    subst this
    exact ⟨τ, by rw [f_X11_wandersBy_b252, ex_bt (by decide)], fun b => by rw [if_neg (by omega)], rfl, rfl, fun _ _ _ => rfl⟩
  | succ d ih =>
    intro i fu τ h
    have ge : ¬ (41 : Int32) ≤ nI i := fun z => by have := (nI_leL (x := 41) (k := 41) rfl (by omega) (by omega)).mp z; omega
    have in41 := inb_nI (show i < 41 by omega) (by omega)
    have ci := nI_clamp (show i < 2 ^ 31 by omega)
    obtain ⟨τ', a1, a2, a3, a4, a5⟩ := ih (i + 1) fu (sL τ 88 i (τ.2.1 89 i)) (by omega)
    refine ⟨τ', ?_, fun b => ?_, a3, a4, fun a b z => by rw [a5 a b z, sL_at, if_neg (by omega)]⟩
    · rw [show fu + (d + 1) + 1 = (fu + d + 1) + 1 by omega, f_X11_wandersBy_b252, ex_bf ge, ex_gd in41, ex_dL, ci, ex_gd in41, ex_pL, nI_1]
      exact a1
    · rw [a2 b]
      by_cases z : i + 1 ≤ b ∧ b < 41
      · rw [if_pos z, if_pos (by omega), sL_at, if_neg (by omega)]
      · rw [if_neg z, sL_at]
        by_cases y : b = i
        · rw [if_pos ⟨rfl, y⟩, if_pos (by omega), y]
        · rw [if_neg (fun q => y q.2), if_neg (by omega)]
/-- after t jumps -/
def Wd (e S t : Nat) (V : Nat → Nat) (f : Nat) (σ τ : Sg) : Prop := (∀ j, j < 41 → σ.2.1 31 j = zL (V j) ∧ τ.2.1 88 j = zL (V j) ∧ σ.2.1 32 j = 0) ∧ (σ.2.1 30 2 = zL f ∧ τ.2.1 56 78 = zL f) ∧ (σ.2.1 30 3 = zL (S ^ t) ∧ τ.2.1 56 79 = zL (S ^ t)) ∧ sumN V 41 + f = S ^ t ∧ (∀ j, j < 41 → (j + e < 20 ∨ 20 + e < j) → V j = 0)
theorem pow_bnd {S t : Nat} (hS : S ≤ 27) (ht : t ≤ 12) : S ^ t < 2 ^ 60 := by
  have h1 : S ^ t ≤ 27 ^ t := Nat.pow_le_pow_left hS t
  have h2 : 27 ^ t ≤ 27 ^ 12 := Nat.pow_le_pow_right (by omega) ht
  have h3 : 27 ^ 12 < 2 ^ 60 := by decide
  omega
theorem wan_loop {g e h q a b c N : Nat} {σ0 τ0 : Sg} (hg : isGd g = true) (he : e ≤ 20) (hC : σ0.1 g 1 = nI e) (hM : τ0.1 56 2 = nI e) (hB : τ0.1 56 4 = σ0.1 g 3) (hB2 : -3 ≤ (σ0.1 g 3).toInt ∧ (σ0.1 g 3).toInt ≤ 3) (hS : Sn g a b c σ0 τ0) (hh : h ≤ 60) (hq : q ≤ 9) (hN : N ≤ 12) : ∀ (d t fu fm : Nat) (V : Nat → Nat) (f : Nat) (σ τ : Sg), t + d = N → Wd e (a + b + c) t V f σ τ → σ.1 = σ0.1 → σ.2.2 = σ0.2.2 → τ.1 = τ0.1 → τ.2.2 = τ0.2.2 → ∃ V' f' σ' τ', f_X9_go_b24 (fu + d + 1) g (nI h) (nI q) (nI N) (nI t) σ = some ((), σ') ∧ f_X11_wandersBy_b69 (fm + d + 1) (nI h) (nI q) (nI N) (nI (a + b + c)) (nI t) τ = some ((), τ') ∧ Wd e (a + b + c) N V' f' σ' τ' ∧ σ'.1 = σ0.1 ∧ τ'.1 = τ0.1 := by
  intro d
  induction d with
  | zero =>
    intro t fu fm V f σ τ h1 W c1 c2 t1 t2
    have : t = N := by omega
    subst this
    exact ⟨V, f, σ, τ, by rw [f_X9_go_b24, ex_gd hg, ex_bt (Int32.le_refl _), ex_rt], by rw [f_X11_wandersBy_b69, ex_bt (Int32.le_refl _), ex_rt], W, c1, t1⟩
  | succ d ih =>
    intro t fu fm V f σ τ h1 W c1 c2 t1 t2
    obtain ⟨w1, ⟨w2, w3⟩, ⟨w4, w5⟩, w6, w7⟩ := W
    have ge : ¬ nI N ≤ nI t := nI_ge (by omega) (by omega)
    obtain ⟨s1, s2, s3, s4, s5, s6, s7, s8, s9⟩ := id hS
    have pb := pow_bnd (S := a + b + c) (t := t) (by omega) (by omega)
    -- the class's start of a jump
    have SL : ((nI a + nI b) + nI c).toInt64 = zL (a + b + c) := by rw [nI_add, nI_add, toL_nI (by omega)]
    have SL2 : (nI (a + b + c)).toInt64 = zL (a + b + c) := toL_nI (by omega)
    obtain ⟨τ1, z1, z2, z3, z4, z5⟩ := zero89 (k69 := f_X11_wandersBy_b69 (fm + d + 1)) (x2 := nI h) (x3 := nI q) (x4 := nI N) (x5 := nI (a + b + c)) (x6 := nI t) 41 0 (8191 - 41) τ rfl
    have pw : (a + b + c) ^ t * (a + b + c) = (a + b + c) ^ (t + 1) := (Nat.pow_succ _ _).symm
    generalize hσ1 : sL (sL σ 30 2 (zL (f * (a + b + c)))) 30 3 (zL ((a + b + c) ^ (t + 1))) = σ1
    generalize hτ2 : sL (sL τ1 56 78 (zL (f * (a + b + c)))) 56 79 (zL ((a + b + c) ^ (t + 1))) = τ2
    have σL : ∀ x y, ¬ (x = 30 ∧ (y = 2 ∨ y = 3)) → σ1.2.1 x y = σ.2.1 x y := fun x y hx => by rw [← hσ1, sL_at, if_neg (by omega), sL_at, if_neg (by omega)]
    have τL : ∀ x y, ¬ (x = 56 ∧ (y = 78 ∨ y = 79)) → τ2.2.1 x y = τ1.2.1 x y := fun x y hx => by rw [← hτ2, sL_at, if_neg (by omega), sL_at, if_neg (by omega)]
    have σ1I : σ1.1 = σ0.1 := by rw [← hσ1]; exact c1
    have σ1R : σ1.2.2 = σ0.2.2 := by rw [← hσ1]; exact c2
    have τ2I : τ2.1 = τ0.1 := by rw [← hτ2]; exact z3.trans t1
    have τ2R : τ2.2.2 = τ0.2.2 := by rw [← hτ2]; exact z4.trans t2
    have Wst : Wn e (fun _ => 0) (f * (a + b + c)) σ1 τ2 := by
      refine ⟨fun j hj => ⟨?_, ?_⟩, ?_, ?_, fun _ _ _ => rfl⟩
      · rw [σL _ _ (by omega), (w1 j hj).2.2]; rfl
      · rw [τL _ _ (by omega), z2 j, if_pos (by omega)]; rfl
      · rw [← hσ1, sL_at, if_neg (by omega), sL_at, if_pos ⟨rfl, rfl⟩]
      · rw [← hτ2, sL_at, if_neg (by omega), sL_at, if_pos ⟨rfl, rfl⟩]
    have hV : ∀ j, j < 41 → V j < 2 ^ 63 ∧ σ1.2.1 31 j = zL (V j) ∧ τ2.2.1 88 j = zL (V j) := fun j hj => by
      have := sumN_le (X := V) 41 hj
      exact ⟨by omega, by rw [σL _ _ (by omega)]; exact (w1 j hj).1, by rw [τL _ _ (by omega), z5 _ _ (by omega)]; exact (w1 j hj).2.1⟩
    obtain ⟨X, f1, σ2, τ3, j1, j2, j3, j4, j5⟩ := jump_loop (σ0 := σ1) (τ0 := τ2) (x4 := nI N) (x5 := nI (a + b + c)) (x6 := nI t) (k69 := f_X11_wandersBy_b69 (fm + d + 1)) (h := h) (q := q) hg he (by rw [σ1I]; exact hC) (by rw [τ2I]; exact hM) (by rw [σ1I, τ2I]; exact hB) (by rw [σ1I]; exact hB2) (show Sn g a b c σ1 τ2 by unfold Sn; rw [σ1I, τ2I]; exact hS) hV hh hq 41 0 (8191 - 41) (8191 - 41) (fun _ => 0) (f * (a + b + c)) σ1 τ2 rfl Wst WK.rfl'
    obtain ⟨σ3, k1, k2, k3, k4, k5⟩ := takeC (σ := σ2)
    obtain ⟨τ4, l1, l2, l3, l4, l5⟩ := copy88 (k69 := f_X11_wandersBy_b69 (fm + d + 1)) (x2 := nI h) (x3 := nI q) (x4 := nI N) (x5 := nI (a + b + c)) (x6 := nI t) 41 0 (8191 - 41) τ3 rfl
    have tot : sumN X 41 + f1 = (a + b + c) ^ (t + 1) := by
      have s0 : sumN (fun _ => 0) 41 = 0 := sumN_0 41 (fun _ _ => rfl)
      have s00 : sumN V 0 = 0 := rfl
      rw [s0, s00, Nat.mul_zero] at j4
      rw [← pw, ← w6, Nat.add_mul, Nat.mul_comm (sumN V 41)]
      omega
    have Wnew : Wd e (a + b + c) (t + 1) X f1 σ3 τ4 := by
      refine ⟨fun j hj => ⟨?_, ?_, (k2 j hj).2⟩, ⟨?_, ?_⟩, ⟨?_, ?_⟩, tot, j3.2.2.2⟩
      · rw [(k2 j hj).1]; exact (j3.1 j hj).1
      · rw [l2 j, if_pos (by omega)]; exact (j3.1 j hj).2
      · rw [k5]; exact j3.2.1
      · rw [l5 _ _ (by omega)]; exact j3.2.2.1
      · rw [k5, j5.2.2.2.2.1 30 3 (by omega) (by omega), ← hσ1, sL_at, if_pos ⟨rfl, rfl⟩]
      · rw [l5 _ _ (by omega), j5.2.2.2.2.2 56 79 (by omega) (by omega), ← hτ2, sL_at, if_pos ⟨rfl, rfl⟩]
    obtain ⟨V', f', σ', τ', m1, m2, m3, m4, m5⟩ := ih (t + 1) fu fm X f1 σ3 τ4 (by omega) Wnew (by rw [k3, j5.1, σ1I]) (by rw [k4, j5.2.1, σ1R]) (by rw [l3, j5.2.2.1, τ2I]) (by rw [l4, j5.2.2.2.1, τ2R])
    refine ⟨V', f', σ', τ', ?_, ?_, m3, m4, m5⟩
    · have jm : f_X9_jump g (nI h) (nI q) σ = some ((), σ2) := by
        have e5 : σ.1 g 5 = nI a := by rw [c1]; exact s4
        have e6 : σ.1 g 6 = nI b := by rw [c1]; exact s5
        have e7 : σ.1 g 7 = nI c := by rw [c1]; exact s6
        rw [f_X9_jump, ex_gd hg, ex_dI, e5, ex_dI, e6, ex_dI, e7, ex_dL, w2, ex_pL, SL, zL_mul, ex_dL, sL_at, if_neg (by omega), w4, ex_pL, zL_mul, pw, hσ1]
        exact j1
      rw [show fu + (d + 1) + 1 = (fu + d + 1) + 1 by omega, f_X9_go_b24, ex_gd hg, ex_bf ge, ex_cl jm, ex_cl k1, nI_1]
      exact m1
    · rw [show fm + (d + 1) + 1 = (fm + d + 1) + 1 by omega, f_X11_wandersBy_b69, ex_bf ge]
      refine Eq.trans z1 ?_
      have e78 : τ1.2.1 56 78 = zL f := by rw [z5 _ _ (by omega)]; exact w3
      have e79 : τ1.2.1 56 79 = zL ((a + b + c) ^ t) := by rw [z5 _ _ (by omega)]; exact w5
      rw [f_X11_wandersBy_b100, ex_dL, e78, ex_pL, SL2, zL_mul, ex_dL, sL_at, if_neg (by omega), e79, ex_pL, zL_mul, pw, hτ2]
      refine Eq.trans j2 ?_
      rw [f_X11_wandersBy_b249]
      refine Eq.trans l1 ?_
      rw [f_X11_wandersBy_b279, nI_1]
      exact m2
