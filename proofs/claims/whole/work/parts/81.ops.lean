-- ===== the scene: find, forget, obey, last, become, undo =====
theorem rI_eq {σ : Sg} {i b : Nat} {f : Nat → Int32} : (rI σ i f).1 i b = f b := by rw [rI_gt, if_pos rfl]
theorem rI_ne {σ : Sg} {i a b : Nat} {f : Nat → Int32} (h : ¬ a = i) : (rI σ i f).1 a b = σ.1 a b := by rw [rI_gt, if_neg h]
theorem Jr.scene {g n s e m : Nat} {σ σ' τ τ' : Sg} (J : Jr g n s e m σ τ) (hc : ∀ a b, ¬ (2 ≤ a ∧ a ≤ 7) → σ'.1 a b = σ.1 a b) (hr : σ'.2 = σ.2) (ht : ∀ a b, ¬ a = 58 → ¬ a = 71 → ¬ a = 90 → ¬ (a = 56 ∧ (b = 46 ∨ b = 47 ∨ b = 48 ∨ b = 80)) → τ'.1 a b = τ.1 a b) (hS : Sc 2 n m e 46 47 48 80 58 71 90 σ' τ') : Jr g n s e m σ' τ' := by
  obtain ⟨jG, jR, jS, jP, jT, jF, jM, jO, jU, jL⟩ := id J
  refine J.put (fun a b ha => hc a b (by omega)) hr (fun j hj => by rw [hc _ _ (fun q => by unfold fl at q; omega)]; exact jM j hj) (fun b _ _ => ht _ _ (by omega) (by omega) (by omega) (by omega)) (fun a b ha => ht _ _ (by omega) (by omega) (by omega) (by omega)) hS ⟨?_, ?_⟩ ?_ ?_
  · rw [ht _ _ (by omega) (by omega) (by omega) (by omega), hc _ _ (by omega)]; exact jP.1
  · rw [hc _ _ (by omega)]
    rcases jP.2 with q | ⟨q, w⟩
    · exact Or.inl q
    · exact Or.inr ⟨q, w.of (fun a b h1 h2 => hc a b (by omega)) (ht _ _ (by omega) (by omega) (by omega) (by omega)) (ht _ _ (by omega) (by omega) (by omega) (by omega)) (ht _ _ (by omega) (by omega) (by omega) (by omega)) (ht _ _ (by omega) (by omega) (by omega) (by omega)) (fun _ => ht _ _ (by omega) (by omega) (by omega) (by omega)) (fun _ => ht _ _ (by omega) (by omega) (by omega) (by omega)) (fun _ => ht _ _ (by omega) (by omega) (by omega) (by omega))⟩
  · obtain ⟨l, l1, l2, l3, l4⟩ := jT
    refine ⟨l, l1, by rw [hc _ _ (by omega)]; exact l2, by rw [ht _ _ (by omega) (by omega) (by omega) (by omega)]; exact l3, fun i hi => ?_⟩
    rw [hc _ _ (by omega), ht _ _ (by omega) (by omega) (by omega) (by omega)]; exact l4 i hi
  · obtain ⟨f0, f1, f2, f3⟩ := jF
    exact ⟨by rw [hc _ _ (by omega), ht _ _ (by omega) (by omega) (by omega) (by omega)]; exact f0, by rw [hc _ _ (by omega), ht _ _ (by omega) (by omega) (by omega) (by omega)]; exact f1, by rw [hc _ _ (by omega), ht _ _ (by omega) (by omega) (by omega) (by omega)]; exact f2, by rw [hc _ _ (by omega), ht _ _ (by omega) (by omega) (by omega) (by omega)]; exact f3⟩
-- find, forget
theorem ok_find {g n s e m : Nat} {σ τ : Sg} (J : Jr g n s e m σ τ) (x : Int32) : OkV (f_X10_find x) (f_X11_find x) σ τ := by
  obtain ⟨J0, t0⟩ := thr0 J
  obtain ⟨jG, jR, ⟨s1, s2, s3, s4, s5, s6, ⟨p, q0, q1, q2, q3⟩⟩, -⟩ := id J0
  have ref : f_X10_find_b23 σ = some (-1, sI σ 0 5 (σ.1 0 5 + 1)) ∧ f_X11_find_b25 (sI τ 56 0 0) = some (-1, sI (sI τ 56 0 0) 63 2 ((sI τ 56 0 0).1 63 2 + 1)) := by
    constructor
    · rw [f_X10_find_b23, ex_dI, ex_pI, ex_rt]
    · rw [f_X11_find_b25, ex_cl (refuses_eq (k := 2) (x := 2) rfl (by omega)), ex_rt]
  have fin : f_X10_find x σ = f_X10_find_b23 σ → f_X11_find x τ = f_X11_find_b25 (sI τ 56 0 0) → OkV (f_X10_find x) (f_X11_find x) σ τ := fun e1 e2 => ⟨_, _, _, e1.trans ref.1, e2.trans ref.2, g, n, s, e, m, (J0.refuse (k := 2) (by omega)).1⟩
  have hM : f_X11_find x τ = (br (nI p = 20) (f_X11_find_b25) (cl (f_X11_within x ((-99)) 99) (fun r3 => br (r3 = 0) (f_X11_find_b25) (dI 56 80 (fun v5 => gd (inb v5 20 = true) (pI 90 v5.toNatClampNeg x (dI 56 80 (fun v6 => pI 56 80 (v6 + 1) (dI 56 80 (fun v7 => rt v7)))))))))) (sI τ 56 0 0) := by
    rw [f_X11_find, ex_pI, ex_dI, q2]
  by_cases c1 : x < -99
  · refine fin (by rw [f_X10_find, ex_bt c1]) ?_
    have wi : f_X11_within x (-99) 99 (sI τ 56 0 0) = some (0, sI τ 56 0 0) := by rw [f_X11_within, ex_bt c1, ex_rt]
    rw [hM]
    by_cases z : nI p = 20
    · rw [ex_bt z]
    · rw [ex_bf z, ex_cl wi, ex_bt rfl]
  · by_cases c2 : 99 < x
    · refine fin (by rw [f_X10_find, ex_bf c1, ex_bt c2]) ?_
      have wi : f_X11_within x (-99) 99 (sI τ 56 0 0) = some (0, sI τ 56 0 0) := by rw [f_X11_within, ex_bf c1, ex_bt c2, ex_rt]
      rw [hM]
      by_cases z : nI p = 20
      · rw [ex_bt z]
      · rw [ex_bf z, ex_cl wi, ex_bt rfl]
    · have wi : f_X11_within x (-99) 99 (sI τ 56 0 0) = some (1, sI τ 56 0 0) := by rw [f_X11_within, ex_bf c1, ex_bf c2, ex_rt]
      by_cases z : p = 20
      · subst z
        have ap : f_X7_addPlace 2 x σ = some (0, σ) := by rw [f_X7_addPlace, ex_gd isSc2, ex_dI, q1, ex_bf (by decide), ex_dI, q1, ex_bf (by decide), ex_rt]
        exact fin (by rw [f_X10_find, ex_bf c1, ex_bf c2, ex_cl ap, ex_bt rfl]) (by rw [hM, ex_bt (show nI 20 = 20 from rfl)])
      · have p20 : p < 20 := by omega
        have z' : ¬ nI p = 20 := fun q => z (nI_inj (b := 20) (by omega) (by omega) q)
        have lt20 : nI p < 20 := (nI_ltR (x := 20) (k := 20) rfl (by omega) (by omega)).mpr p20
        have in20 := inb_nI p20 (by omega)
        have cp := nI_clamp (show p < 2 ^ 31 by omega)
        have r9 : (sI σ 7 p x).1 2 9 = nI p := by rw [sI_ne (by omega)]; exact q1
        have ap : f_X7_addPlace 2 x σ = some (1, sI (sI σ 7 p x) 2 9 (nI (p + 1))) := by
          rw [f_X7_addPlace, ex_gd isSc2, ex_dI, q1, ex_bf (nI_pos (by omega)), ex_dI, q1, ex_bt lt20, ex_dI, q1, ex_gd in20, ex_pI, cp, ex_dI, r9, ex_pI, ex_rt, nI_1]
        have t80 : (sI (sI τ 56 0 0) 90 p x).1 56 80 = nI p := by rw [sI_ne (by omega)]; exact q2
        have x99 : -99 ≤ x.toInt ∧ x.toInt ≤ 99 := by
          have e1 : (-99 : Int32).toInt = -99 := by decide
          have e2 : (99 : Int32).toInt = 99 := by decide
          rw [Int32.lt_iff_toInt_lt, e1] at c1
          rw [Int32.lt_iff_toInt_lt, e2] at c2
          omega
        have eC : f_X10_find x σ = some (nI (p + 1), sI (sI σ 7 p x) 2 9 (nI (p + 1))) := by
          rw [f_X10_find, ex_bf c1, ex_bf c2, ex_cl ap, ex_bf l1_0, ex_dI, sI_eq, ex_rt]
        have eM : f_X11_find x τ = some (nI (p + 1), sI (sI (sI τ 56 0 0) 90 p x) 56 80 (nI (p + 1))) := by
          rw [hM, ex_bf z', ex_cl wi, ex_bf l1_0, ex_dI, q2, ex_gd in20, ex_pI, cp, ex_dI, t80, ex_pI, nI_1, ex_dI, sI_eq, ex_rt]
        have c : ∀ a b, ¬ (a = 7 ∧ b = p) → ¬ (a = 2 ∧ b = 9) → (sI (sI σ 7 p x) 2 9 (nI (p + 1))).1 a b = σ.1 a b := fun a b h1 h2 => by rw [sI_gt, if_neg h2, sI_gt, if_neg h1]
        have t : ∀ a b, ¬ (a = 90 ∧ b = p) → ¬ (a = 56 ∧ b = 80) → (sI (sI (sI τ 56 0 0) 90 p x) 56 80 (nI (p + 1))).1 a b = (sI τ 56 0 0).1 a b := fun a b h1 h2 => by rw [sI_gt, if_neg h2, sI_gt, if_neg h1]
        have v1 : (sI (sI σ 7 p x) 2 9 (nI (p + 1))).1 (2 + 5) p = x := by rw [sI_ne (by omega), sI_eq]
        have v2 : (sI (sI (sI τ 56 0 0) 90 p x) 56 80 (nI (p + 1))).1 90 p = x := by rw [sI_ne (by omega), sI_eq]
        have v3 : (sI (sI σ 7 p x) 2 9 (nI (p + 1))).1 2 9 = nI (p + 1) := sI_eq
        have v4 : (sI (sI (sI τ 56 0 0) 90 p x) 56 80 (nI (p + 1))).1 56 80 = nI (p + 1) := sI_eq
        have hr : (sI (sI σ 7 p x) 2 9 (nI (p + 1))).2 = σ.2 := rfl
        refine ⟨_, _, _, eC, eM, g, n, s, e, m, ?_⟩
        generalize sI (sI σ 7 p x) 2 9 (nI (p + 1)) = σ' at *
        generalize sI (sI (sI τ 56 0 0) 90 p x) 56 80 (nI (p + 1)) = τ' at *
        generalize sI τ 56 0 0 = T at *
        refine J0.scene (fun a b h => c a b (by omega) (by omega)) hr (fun a b h1 h2 h3 h4 => t a b (by omega) (by omega)) ⟨?_, ?_, ?_, ?_, ?_, ?_, p + 1, by omega, v3, v4, fun i hi => ?_⟩
        · rw [c 2 1 (by omega) (by omega)]; exact s1
        · intro j hj k hk
          rw [c (2 + 1) _ (by omega) (by omega), t 58 _ (by omega) (by omega)]; exact s2 j hj k hk
        · have : σ'.1 (2 + 1) = σ.1 (2 + 1) := funext fun b => c _ _ (by omega) (by omega)
          rw [this]; exact s3
        · rw [c 2 2 (by omega) (by omega), t 56 46 (by omega) (by omega)]; exact s4
        · rw [c 2 3 (by omega) (by omega), t 56 47 (by omega) (by omega)]; exact s5
        · obtain ⟨a, a1, a2, a3, a4⟩ := s6
          refine ⟨a, a1, by rw [c 2 7 (by omega) (by omega)]; exact a2, by rw [t 56 48 (by omega) (by omega)]; exact a3, fun i hi => ?_⟩
          rw [c (2 + 2) i (by omega) (by omega), c (2 + 3) i (by omega) (by omega), c (2 + 4) i (by omega) (by omega), t 71 (2 * i) (by omega) (by omega), t 71 (2 * i + 1) (by omega) (by omega)]
          exact a4 i hi
        · by_cases y : i = p
          · subst y
            rw [v1, v2]
            exact ⟨rfl, x99⟩
          · rw [c (2 + 5) i (by omega) (by omega), t 90 i (by omega) (by omega)]
            exact q3 i (by omega)
theorem ok_forget {g n s e m : Nat} {σ τ : Sg} (J : Jr g n s e m σ τ) : OkV f_X10_forget f_X11_forget σ τ := by
  obtain ⟨J0, t0⟩ := thr0 J
  obtain ⟨jG, jR, ⟨s1, s2, s3, s4, s5, s6, ⟨p, q0, q1, q2, q3⟩⟩, -⟩ := id J0
  by_cases z : p = 0
  · subst z
    exact ⟨-1, σ, sI τ 56 0 0, by rw [f_X10_forget, ex_dI, q1, ex_bt (show nI 0 = 0 from rfl), ex_rt], by rw [f_X11_forget, ex_pI, ex_dI, q2, ex_bt (show nI 0 = 0 from rfl), ex_rt], g, n, s, e, m, J0⟩
  · have eC : f_X10_forget σ = some (nI (p - 1), sI σ 2 9 (nI (p - 1))) := by
      rw [f_X10_forget, ex_dI, q1, ex_bf (nI_ne0 (by omega) (by omega)), ex_dI, q1, ex_pI, nI_s1 (by omega), ex_dI, sI_eq, ex_rt]
    have eM : f_X11_forget τ = some (nI (p - 1), sI (sI τ 56 0 0) 56 80 (nI (p - 1))) := by
      rw [f_X11_forget, ex_pI, ex_dI, q2, ex_bf (nI_ne0 (by omega) (by omega)), ex_dI, q2, ex_pI, nI_s1 (by omega), ex_dI, sI_eq, ex_rt]
    have c : ∀ a b, ¬ (a = 2 ∧ b = 9) → (sI σ 2 9 (nI (p - 1))).1 a b = σ.1 a b := fun a b h => by rw [sI_gt, if_neg h]
    have t : ∀ a b, ¬ (a = 56 ∧ b = 80) → (sI (sI τ 56 0 0) 56 80 (nI (p - 1))).1 a b = (sI τ 56 0 0).1 a b := fun a b h => by rw [sI_gt, if_neg h]
    have v3 : (sI σ 2 9 (nI (p - 1))).1 2 9 = nI (p - 1) := sI_eq
    have v4 : (sI (sI τ 56 0 0) 56 80 (nI (p - 1))).1 56 80 = nI (p - 1) := sI_eq
    have hr : (sI σ 2 9 (nI (p - 1))).2 = σ.2 := rfl
    refine ⟨_, _, _, eC, eM, g, n, s, e, m, ?_⟩
    generalize sI σ 2 9 (nI (p - 1)) = σ' at *
    generalize sI (sI τ 56 0 0) 56 80 (nI (p - 1)) = τ' at *
    generalize sI τ 56 0 0 = T at *
    refine J0.scene (fun a b h => c a b (by omega)) hr (fun a b h1 h2 h3 h4 => t a b (by omega)) ⟨?_, ?_, ?_, ?_, ?_, ?_, p - 1, by omega, v3, v4, fun i hi => ?_⟩
    · rw [c 2 1 (by omega)]; exact s1
    · intro j hj k hk
      rw [c (2 + 1) _ (by omega), t 58 _ (by omega)]; exact s2 j hj k hk
    · have : σ'.1 (2 + 1) = σ.1 (2 + 1) := funext fun b => c _ _ (by omega)
      rw [this]; exact s3
    · rw [c 2 2 (by omega), t 56 46 (by omega)]; exact s4
    · rw [c 2 3 (by omega), t 56 47 (by omega)]; exact s5
    · obtain ⟨a, a1, a2, a3, a4⟩ := s6
      refine ⟨a, a1, by rw [c 2 7 (by omega)]; exact a2, by rw [t 56 48 (by omega)]; exact a3, fun i hi => ?_⟩
      rw [c (2 + 2) i (by omega), c (2 + 3) i (by omega), c (2 + 4) i (by omega), t 71 (2 * i) (by omega), t 71 (2 * i + 1) (by omega)]
      exact a4 i hi
    · rw [c (2 + 5) i (by omega), t 90 i (by omega)]
      exact q3 i (by omega)
