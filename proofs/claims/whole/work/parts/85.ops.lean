-- ===== the tape: feed =====
theorem byte_eq (y : Int32) : ∃ v, v < 256 ∧ y &&& 255 = nI v ∧ vp_nar .byte y.toInt8.toInt32 = byt v := by
  have hv : y.toBitVec.toNat % 256 < 256 := Nat.mod_lt _ (by omega)
  refine ⟨y.toBitVec.toNat % 256, hv, ?_, ?_⟩
  · apply Int32.toBitVec_inj.mp
    apply BitVec.eq_of_toNat_eq
    rw [Int32.toBitVec_and, BitVec.toNat_and]
    show y.toBitVec.toNat &&& 255 = _
    have h := Nat.and_two_pow_sub_one_eq_mod y.toBitVec.toNat 8
    rw [show 2 ^ 8 - 1 = 255 by decide, show 2 ^ 8 = 256 by decide] at h
    rw [h]
    show _ = (BitVec.ofNat 32 (y.toBitVec.toNat % 256)).toNat
    rw [BitVec.toNat_ofNat]
    omega
  · have e1 : vp_nar .byte y.toInt8.toInt32 = y.toInt8.toInt32.toInt8.toInt32 := rfl
    rw [e1]
    apply Int32.toInt_inj.mp
    rw [Int8.toInt_toInt32, Int32.toInt_toInt8, Int8.toInt_toInt32, Int32.toInt_toInt8]
    have h1 : y.toInt = y.toBitVec.toInt := rfl
    rw [h1, BitVec.toInt_eq_toNat_bmod]
    generalize y.toBitVec.toNat = u at *
    have h2 : (byt (u % 256)).toInt = if u % 256 < 128 then ((u % 256 : Nat) : Int) else ((u % 256 : Nat) : Int) - 256 := by
      unfold byt
      by_cases z : u % 256 < 128
      · rw [if_pos z, if_pos z, nI_toInt (by omega)]
      · rw [if_neg z, if_neg z, toInt_sub_s, nI_toInt (by omega)]
        · rfl
        · rw [nI_toInt (by omega)]
          have : (256 : Int32).toInt = 256 := by decide
          rw [this]
          omega
    rw [h2]
    have k : ∀ x : Int, x.bmod (2 ^ 8) = if x % 256 < 128 then x % 256 else x % 256 - 256 := fun x => by
      rw [Int.bmod_def]; rfl
    have hw : ((u : Int).bmod (2 ^ 32)) % 256 = ((u % 256 : Nat) : Int) := by
      rw [Int.bmod_def, show ((2 ^ 32 : Nat) : Int) = 4294967296 by decide]
      split <;> omega
    generalize (u : Int).bmod (2 ^ 32) = w at *
    generalize u % 256 = v at *
    rw [k, k w]
    split <;> split <;> split <;> omega
def Tpl (l : Nat) (σ τ : Sg) : Prop := σ.1 0 1 = nI l ∧ τ.1 56 15 = nI l ∧ ∀ i, i < l → ∃ v, v < 256 ∧ τ.1 62 i = nI v ∧ σ.1 1 i = byt v
def tpC (l : Nat) (y : Int32) (σ : Sg) : Sg := sI (sI σ 1 l (vp_nar .byte y.toInt8.toInt32)) 0 1 (nI (l + 1))
def tpM (l : Nat) (y : Int32) (τ : Sg) : Sg := sI (sI τ 62 l (y &&& 255)) 56 15 (nI (l + 1))
theorem Tpl.one {l : Nat} {y : Int32} {σ τ : Sg} (h : Tpl l σ τ) : Tpl (l + 1) (tpC l y σ) (tpM l y τ) := by
  refine ⟨sI_eq, sI_eq, fun i hi => ?_⟩
  have q1 : (tpM l y τ).1 62 i = (sI τ 62 l (y &&& 255)).1 62 i := sI_ne (by omega)
  have q2 : (tpC l y σ).1 1 i = (sI σ 1 l (vp_nar .byte y.toInt8.toInt32)).1 1 i := sI_ne (by omega)
  rw [q1, q2]
  by_cases z : i = l
  · subst z
    rw [sI_eq, sI_eq]
    exact byte_eq y
  · rw [sI_nf z, sI_nf z]
    exact h.2.2 i (by omega)
theorem addFour_eq {l : Nat} {x : Int32} {σ : Sg} (h : σ.1 0 1 = nI l) (hl : l + 4 ≤ 600) : f_X10_addFour x σ = some ((), tpC (l + 3) (x >>> ((0 : Int32) &&& 31)) (tpC (l + 2) (x >>> ((8 : Int32) &&& 31)) (tpC (l + 1) (x >>> ((16 : Int32) &&& 31)) (tpC l (x >>> ((24 : Int32) &&& 31)) σ)))) := by
  have st : ∀ (q fu : Nat) (sh : Int32) (σ : Sg), q < 600 → σ.1 0 1 = nI q → ¬ sh < 0 → f_X10_addFour_b3 (fu + 1) x sh σ = f_X10_addFour_b3 fu x (sh + (-8)) (tpC q (x >>> (sh &&& 31)) σ) := by
    intro q fu sh σ hq h1 h2
    have ge : ¬ (600 : Int32) ≤ nI q := fun z => by have := (nI_leL (x := 600) (k := 600) rfl (by omega) (by omega)).mp z; omega
    rw [f_X10_addFour_b3, ex_bf h2, ex_dI, h1, ex_bf ge, ex_dI, h1, ex_gd (inb_nI hq (by omega)), ex_pI, nI_clamp (show q < 2 ^ 31 by omega), ex_dI, sI_ne (by omega), h1, ex_pI, nI_1, f_X10_addFour_b42]
    rfl
  have h1 : ∀ q y (σ : Sg), (tpC q y σ).1 0 1 = nI (q + 1) := fun q y σ => sI_eq
  rw [f_X10_addFour, show FU = 8187 + 1 + 1 + 1 + 1 + 1 from rfl, st l _ 24 σ (by omega) h (by decide), show (24 : Int32) + (-8) = 16 by decide, st (l + 1) _ 16 _ (by omega) (h1 _ _ _) (by decide), show (16 : Int32) + (-8) = 8 by decide, st (l + 2) _ 8 _ (by omega) (h1 _ _ _) (by decide), show (8 : Int32) + (-8) = 0 by decide, st (l + 3) _ 0 _ (by omega) (h1 _ _ _) (by decide), f_X10_addFour_b3, ex_bt (by decide), ex_rt]
theorem lays_eq {l : Nat} {x : Int32} {τ : Sg} (h : τ.1 56 15 = nI l) (hl : l + 4 ≤ 600) : f_X11_lays x τ = some ((), tpM (l + 3) (x >>> ((0 : Int32) &&& 31)) (tpM (l + 2) (x >>> ((8 : Int32) &&& 31)) (tpM (l + 1) (x >>> ((16 : Int32) &&& 31)) (tpM l (x >>> ((24 : Int32) &&& 31)) τ)))) := by
  have st : ∀ (q fu : Nat) (sh : Int32) (τ : Sg), q < 600 → τ.1 56 15 = nI q → ¬ sh < 0 → f_X11_lays_b3 (fu + 1) x sh τ = f_X11_lays_b3 fu x (sh + (-8)) (tpM q (x >>> (sh &&& 31)) τ) := by
    intro q fu sh τ hq h1 h2
    rw [f_X11_lays_b3, ex_bf h2, ex_dI, h1, ex_gd (inb_nI hq (by omega)), ex_pI, nI_clamp (show q < 2 ^ 31 by omega), ex_dI, sI_ne (by omega), h1, ex_pI, nI_1]
    rfl
  have h1 : ∀ q y (τ : Sg), (tpM q y τ).1 56 15 = nI (q + 1) := fun q y τ => sI_eq
  rw [f_X11_lays, show FU = 8187 + 1 + 1 + 1 + 1 + 1 from rfl, st l _ 24 τ (by omega) h (by decide), show (24 : Int32) + (-8) = 16 by decide, st (l + 1) _ 16 _ (by omega) (h1 _ _ _) (by decide), show (16 : Int32) + (-8) = 8 by decide, st (l + 2) _ 8 _ (by omega) (h1 _ _ _) (by decide), show (8 : Int32) + (-8) = 0 by decide, st (l + 3) _ 0 _ (by omega) (h1 _ _ _) (by decide), f_X11_lays_b3, ex_bt (by decide), ex_rt]
theorem tpC_o {l : Nat} {y : Int32} {σ : Sg} {a b : Nat} (h1 : ¬ a = 1) (h2 : ¬ (a = 0 ∧ b = 1)) : (tpC l y σ).1 a b = σ.1 a b := by rw [tpC, sI_gt, if_neg h2, sI_ne h1]
theorem tpM_o {l : Nat} {y : Int32} {τ : Sg} {a b : Nat} (h1 : ¬ a = 62) (h2 : ¬ (a = 56 ∧ b = 15)) : (tpM l y τ).1 a b = τ.1 a b := by rw [tpM, sI_gt, if_neg h2, sI_ne h1]
def tpR (σ τ σ' τ' : Sg) : Prop := (∀ a b, ¬ a = 1 → ¬ (a = 0 ∧ b = 1) → σ'.1 a b = σ.1 a b) ∧ σ'.2 = σ.2 ∧ (∀ a b, ¬ a = 62 → ¬ (a = 56 ∧ b = 15) → τ'.1 a b = τ.1 a b)
theorem four_rel {l : Nat} {x : Int32} {σ τ : Sg} (h : Tpl l σ τ) (hl : l + 4 ≤ 600) : ∃ σ' τ', f_X10_addFour x σ = some ((), σ') ∧ f_X11_lays x τ = some ((), τ') ∧ Tpl (l + 4) σ' τ' ∧ tpR σ τ σ' τ' := by
  refine ⟨_, _, addFour_eq h.1 hl, lays_eq h.2.1 hl, h.one.one.one.one, fun a b h1 h2 => ?_, rfl, fun a b h1 h2 => ?_⟩
  · rw [tpC_o h1 h2, tpC_o h1 h2, tpC_o h1 h2, tpC_o h1 h2]
  · rw [tpM_o h1 h2, tpM_o h1 h2, tpM_o h1 h2, tpM_o h1 h2]
theorem tpR.trans {σ τ σ1 τ1 σ2 τ2 : Sg} (h : tpR σ τ σ1 τ1) (k : tpR σ1 τ1 σ2 τ2) : tpR σ τ σ2 τ2 :=
  ⟨fun a b h1 h2 => (k.1 a b h1 h2).trans (h.1 a b h1 h2), k.2.1.trans h.2.1, fun a b h1 h2 => (k.2.2 a b h1 h2).trans (h.2.2 a b h1 h2)⟩
theorem Jr.tape {g n s e m l : Nat} {σ τ σ' τ' : Sg} (J : Jr g n s e m σ τ) (h : Tpl l σ' τ') (hl : l ≤ 600) (r : tpR σ τ σ' τ') : Jr g n s e m σ' τ' := by
  obtain ⟨jG, jR, jS, jP, jT, jF, jM, jO, jU, jL⟩ := id J
  obtain ⟨c, hr, t⟩ := r
  refine J.put (fun a b ha => c a b (by omega) (by omega)) hr (fun j hj => by rw [c _ _ (fun q => by unfold fl at q; omega) (fun q => by unfold fl at q; omega)]; exact jM j hj) (fun b _ _ => t _ _ (by omega) (by omega)) (fun a b ha => t _ _ (by omega) (by omega)) (jS.of (fun a b h1 h2 => c a b (by omega) (by omega)) (t _ _ (by omega) (by omega)) (t _ _ (by omega) (by omega)) (t _ _ (by omega) (by omega)) (t _ _ (by omega) (by omega)) (fun _ => t _ _ (by omega) (by omega)) (fun _ => t _ _ (by omega) (by omega)) (fun _ => t _ _ (by omega) (by omega))) ⟨?_, ?_⟩ ⟨l, hl, h⟩ ?_
  · rw [c _ _ (by omega) (by omega), t _ _ (by omega) (by omega)]; exact jP.1
  · rw [c _ _ (by omega) (by omega)]
    rcases jP.2 with q | ⟨q, w⟩
    · exact Or.inl q
    · exact Or.inr ⟨q, w.of (fun a b h1 h2 => c a b (by omega) (by omega)) (t _ _ (by omega) (by omega)) (t _ _ (by omega) (by omega)) (t _ _ (by omega) (by omega)) (t _ _ (by omega) (by omega)) (fun _ => t _ _ (by omega) (by omega)) (fun _ => t _ _ (by omega) (by omega)) (fun _ => t _ _ (by omega) (by omega))⟩
  · obtain ⟨q0, q1, q2, q3⟩ := jF
    exact ⟨by rw [c _ _ (by omega) (by omega), t _ _ (by omega) (by omega)]; exact q0, by rw [c _ _ (by omega) (by omega), t _ _ (by omega) (by omega)]; exact q1, by rw [c _ _ (by omega) (by omega), t _ _ (by omega) (by omega)]; exact q2, by rw [c _ _ (by omega) (by omega), t _ _ (by omega) (by omega)]; exact q3⟩
theorem ok_feed {g n s e m : Nat} {σ τ : Sg} (J : Jr g n s e m σ τ) (x1 x2 x3 x4 x5 : Int32) : OkV (f_X10_feed x1 x2 x3 x4 x5) (f_X11_feed x1 x2 x3 x4 x5) σ τ := by
  obtain ⟨J0, t0⟩ := thr0 J
  obtain ⟨l, l1, l2⟩ := J0.2.2.2.2.1
  have e20 : nI l + 20 = nI (l + 20) := nI_addR (x := 20) (k := 20) rfl l
  by_cases z : l ≤ 580
  · have c580 : nI l ≤ 580 := (nI_leR (x := 580) (k := 580) rfl (by omega) (by omega)).mpr z
    have m600 : nI l + 20 ≤ 600 := by rw [e20]; exact (nI_leR (x := 600) (k := 600) rfl (by omega) (by omega)).mpr (by omega)
    obtain ⟨s1, T1, a1, a2, a3, a4⟩ := four_rel (x := x1) (show Tpl l σ (sI τ 56 0 0) from l2) (by omega)
    obtain ⟨s2, T2, b1, b2, b3, b4⟩ := four_rel (x := x2) a3 (by omega)
    obtain ⟨s3, T3, c1, c2, c3, c4⟩ := four_rel (x := x3) b3 (by omega)
    obtain ⟨s4, T4, d1, d2, d3, d4⟩ := four_rel (x := x4) c3 (by omega)
    obtain ⟨s5, T5, e1, e2, e3, e4⟩ := four_rel (x := x5) d3 (by omega)
    refine ⟨nI (l + 4 + 4 + 4 + 4 + 4), s5, T5, ?_, ?_, g, n, s, e, m, J0.tape e3 (by omega) ((((a4.trans b4).trans c4).trans d4).trans e4)⟩
    · rw [f_X10_feed, ex_dI, l2.1, ex_bt c580, ex_cl a1, ex_cl b1, ex_cl c1, ex_cl d1, ex_cl e1, ex_dI, e3.1, ex_rt]
    · rw [f_X11_feed, ex_pI, ex_dI, l2.2.1, ex_bt m600, ex_cl a2, ex_cl b2, ex_cl c2, ex_cl d2, ex_cl e2, ex_dI, e3.2.1, ex_rt]
  · have c580 : ¬ nI l ≤ 580 := fun q => z ((nI_leR (x := 580) (k := 580) rfl (by omega) (by omega)).mp q)
    have m600 : ¬ nI l + 20 ≤ 600 := by
      rw [e20]
      intro q
      have := (nI_leR (x := 600) (k := 600) rfl (by omega) (by omega)).mp q
      omega
    exact ⟨-1, σ, sI τ 56 0 0, by rw [f_X10_feed, ex_dI, l2.1, ex_bf c580, ex_rt], by rw [f_X11_feed, ex_pI, ex_dI, l2.2.1, ex_bf m600, ex_rt], g, n, s, e, m, J0⟩
