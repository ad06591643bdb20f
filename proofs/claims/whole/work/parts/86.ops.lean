-- ===== broken =====
def mkB (b0 b1 b2 b3 b4 b5 b6 : Bool) : Int32 := (((((((0 : Int32) ||| (if b0 = true then 1 else 0)) ||| (if b1 = true then 2 else 0)) ||| (if b2 = true then 4 else 0)) ||| (if b3 = true then 8 else 0)) ||| (if b4 = true then 16 else 0)) ||| (if b5 = true then 32 else 0)) ||| (if b6 = true then 64 else 0)
def mkS (S : Nat → Bool) : Int32 := mkB (S 0) (S 1) (S 2) (S 3) (S 4) (S 5) (S 6)
theorem mkB_and : ∀ (k : Fin 7) (b0 b1 b2 b3 b4 b5 b6 : Bool), mkB b0 b1 b2 b3 b4 b5 b6 &&& ((1 : Int32) <<< (nI k.1 &&& 31)) = mkB (b0 && k.1 == 0) (b1 && k.1 == 1) (b2 && k.1 == 2) (b3 && k.1 == 3) (b4 && k.1 == 4) (b5 && k.1 == 5) (b6 && k.1 == 6) := by decide
def dvB (P : Nat → Int32) (h : Int32) (i : Nat) : Int32 := (P i - P (i - 1)) - ((P (i - 1) * h) / 40)
def alB (P : Nat → Int32) (h : Int32) (i : Nat) (c : Nat) : Bool := (List.range' 1 (i - 1)).all (fun q => decide (dvB P h q = nI c - 3))
theorem alB_1 {P : Nat → Int32} {h : Int32} {c : Nat} : alB P h 1 c = true := rfl
theorem alB_s {P : Nat → Int32} {h : Int32} {i c : Nat} (hi : 1 ≤ i) : alB P h (i + 1) c = (alB P h i c && decide (dvB P h i = nI c - 3)) := by
  unfold alB
  rw [show i + 1 - 1 = (i - 1) + 1 by omega, List.range'_concat, List.all_append, show 1 + 1 * (i - 1) = i by omega]
  simp
theorem br_alg {a b t c : Int32} : a = (b + t) + c ↔ (a - b) - t = c := by
  constructor
  · intro h
    rw [h, Int32.add_assoc, Int32.add_comm b, Int32.add_sub_cancel, Int32.add_comm t, Int32.add_sub_cancel]
  · intro h
    have e : b + t + (a - b - t) = a := by rw [Int32.add_comm, Int32.add_comm b t, ← Int32.add_assoc, Int32.sub_add_cancel, Int32.sub_add_cancel]
    rw [← h, e]
theorem fit_loop {p : Nat} {h : Int32} {σ : Sg} (hp : p ≤ 20) (h9 : σ.1 2 9 = nI p) : ∀ (d i fu : Nat), i + d = max p 1 → 1 ≤ i → f_X7_fitting_b5 (fu + d + 1) 2 h (mkS (alB (σ.1 7) h i)) (nI i) σ = some (mkS (alB (σ.1 7) h (max p 1)), σ) := by
  intro d
  induction d with
  | zero =>
    intro i fu hi h1
    have : i = max p 1 := by omega
    subst this
    rw [f_X7_fitting_b5, ex_gd isSc2, ex_dI, h9, ex_bt (nI_le (by omega) (by omega)), ex_rt]
  | succ d ih =>
    intro i fu hi h1
    have hip : i < p := by omega
    have ge : ¬ (20 : Int32) ≤ nI i := fun q => by have := (nI_leL (x := 20) (k := 20) rfl (by omega) (by omega)).mp q; omega
    have nx := ih (i + 1) fu (by omega) (by omega)
    have e87 : ∀ v, mkS (alB (σ.1 7) h i) &&& v = mkS (alB (σ.1 7) h (i + 1)) → f_X7_fitting_b87 (f_X7_fitting_b5 (fu + d + 1)) 2 h (nI i) v (mkS (alB (σ.1 7) h i)) σ = some (mkS (alB (σ.1 7) h (max p 1)), σ) := by
      intro v hv
      rw [f_X7_fitting_b87, ex_gd isSc2, hv, nI_1]
      exact nx
    have zero : (∀ c, c < 7 → ¬ dvB (σ.1 7) h i = nI c - 3) → mkS (alB (σ.1 7) h i) &&& 0 = mkS (alB (σ.1 7) h (i + 1)) := by
      intro hc
      have f : ∀ c, c < 7 → alB (σ.1 7) h (i + 1) c = false := fun c c7 => by rw [alB_s h1, decide_eq_false (hc c c7), Bool.and_false]
      rw [Int32.and_zero, mkS, f 0 (by omega), f 1 (by omega), f 2 (by omega), f 3 (by omega), f 4 (by omega), f 5 (by omega), f 6 (by omega)]
      rfl
    have e68 : (∀ c, c < 7 → ¬ dvB (σ.1 7) h i = nI c - 3) → ∀ w, f_X7_fitting_b68 (f_X7_fitting_b5 (fu + d + 1)) 2 h (mkS (alB (σ.1 7) h i)) (nI i) w σ = some (mkS (alB (σ.1 7) h (max p 1)), σ) := by
      intro hc w
      rw [f_X7_fitting_b68, ex_gd isSc2, f_X7_fitting_b69, ex_gd isSc2, ex_bt rfl, e87 0 (zero hc)]
    rw [show fu + (d + 1) + 1 = (fu + d + 1) + 1 by omega, f_X7_fitting_b5, ex_gd isSc2, ex_dI, h9, ex_bf (nI_ge hip (by omega)), ex_bf ge, nI_s1 (by omega), ex_gd (inb_nI (show i - 1 < 20 by omega) (by omega)), ex_dI, nI_clamp (show i - 1 < 2 ^ 31 by omega), ex_gd (inb_nI (show i < 20 by omega) (by omega)), ex_dI, nI_clamp (show i < 2 ^ 31 by omega), ex_lt]
    show (br (dvB (σ.1 7) h i < -3) (f_X7_fitting_b68 (f_X7_fitting_b5 (fu + d + 1)) 2 h (mkS (alB (σ.1 7) h i)) (nI i) (dvB (σ.1 7) h i)) (br (3 < dvB (σ.1 7) h i) (f_X7_fitting_b68 (f_X7_fitting_b5 (fu + d + 1)) 2 h (mkS (alB (σ.1 7) h i)) (nI i) (dvB (σ.1 7) h i)) (f_X7_fitting_b69 (f_X7_fitting_b5 (fu + d + 1)) 2 h (mkS (alB (σ.1 7) h i)) (nI i) (dvB (σ.1 7) h i) 1))) σ = _
    have low : ∀ c : Fin 7, ¬ (nI c.1 - 3 : Int32) < -3 ∧ ¬ (3 : Int32) < nI c.1 - 3 := by decide
    by_cases q1 : dvB (σ.1 7) h i < -3
    · rw [ex_bt q1]
      exact e68 (fun c c7 e => (low ⟨c, c7⟩).1 (by rw [← e]; exact q1)) _
    · rw [ex_bf q1]
      by_cases q2 : 3 < dvB (σ.1 7) h i
      · rw [ex_bt q2]
        exact e68 (fun c c7 e => (low ⟨c, c7⟩).2 (by rw [← e]; exact q2)) _
      · rw [ex_bf q2]
        have hk : ∃ k, k < 7 ∧ dvB (σ.1 7) h i = nI k - 3 := by
          generalize dvB (σ.1 7) h i = w at *
          have e1 : (-3 : Int32).toInt = -3 := by decide
          have e2 : (3 : Int32).toInt = 3 := by decide
          rw [Int32.lt_iff_toInt_lt, e1] at q1
          rw [Int32.lt_iff_toInt_lt, e2] at q2
          refine ⟨(w.toInt + 3).toNat, by omega, ?_⟩
          apply Int32.toInt_inj.mp
          rw [toInt_sub_s, nI_toInt (by omega), e2]
          · omega
          · rw [nI_toInt (by omega), e2]; omega
        obtain ⟨k, k7, ek⟩ := hk
        have e3 : 3 + dvB (σ.1 7) h i = nI k := by
          rw [ek, Int32.add_comm, Int32.sub_add_cancel]
        rw [f_X7_fitting_b69, ex_gd isSc2, ex_bf l1_0, e3]
        refine e87 _ ?_
        have inj : ∀ c k' : Fin 7, (nI k'.1 - 3 = nI c.1 - 3) = (k'.1 = c.1) := by decide
        have f : ∀ c, c < 7 → alB (σ.1 7) h (i + 1) c = (alB (σ.1 7) h i c && k == c) := fun c c7 => by
          rw [alB_s h1, ek]
          congr 1
          rw [Bool.eq_iff_iff, decide_eq_true_eq, beq_iff_eq, inj ⟨c, c7⟩ ⟨k, k7⟩]
        have := mkB_and ⟨k, k7⟩ (alB (σ.1 7) h i 0) (alB (σ.1 7) h i 1) (alB (σ.1 7) h i 2) (alB (σ.1 7) h i 3) (alB (σ.1 7) h i 4) (alB (σ.1 7) h i 5) (alB (σ.1 7) h i 6)
        rw [mkS, mkS, f 0 (by omega), f 1 (by omega), f 2 (by omega), f 3 (by omega), f 4 (by omega), f 5 (by omega), f 6 (by omega)]
        exact this
theorem brk_in0 {p : Nat} {h x c : Int32} {τ : Sg} {k27 : Int32 → Int32 → Int32 → Sg → Option (Int32 × Sg)} (hp : p ≤ 20) (h80 : τ.1 56 80 = nI p) : ∀ (d i fu : Nat), i + d = max p 1 → f_X11_broken_b38 k27 (fu + d + 1) h x c 0 (nI i) τ = f_X11_broken_b101 k27 h x c 0 τ := by
  intro d
  induction d with
  | zero =>
    intro i fu hi
    rw [f_X11_broken_b38, ex_dI, h80, ex_bt (nI_le (by omega) (by omega))]
  | succ d ih =>
    intro i fu hi
    by_cases hip : i < p
    · rw [show fu + (d + 1) + 1 = (fu + d + 1) + 1 by omega, f_X11_broken_b38, ex_dI, h80, ex_bf (nI_ge hip (by omega)), ex_bt rfl, f_X11_broken_b92, f_X11_broken_b93, nI_1]
      exact ih (i + 1) fu (by omega)
    · rw [show fu + (d + 1) + 1 = (fu + d + 1) + 1 by omega, f_X11_broken_b38, ex_dI, h80, ex_bt (nI_le (by omega) (by omega))]
theorem brk_in {p c : Nat} {h x : Int32} {P : Nat → Int32} {τ : Sg} {k27 : Int32 → Int32 → Int32 → Sg → Option (Int32 × Sg)} (hp : p ≤ 20) (h80 : τ.1 56 80 = nI p) (hP : ∀ i, i < p → τ.1 90 i = P i) : ∀ (d i fu : Nat), i + d = max p 1 → 1 ≤ i → alB P h i c = true → f_X11_broken_b38 k27 (fu + d + 1) h x (nI c - 3) 1 (nI i) τ = f_X11_broken_b101 k27 h x (nI c - 3) (if alB P h (max p 1) c = true then 1 else 0) τ := by
  intro d
  induction d with
  | zero =>
    intro i fu hi h1 ha
    have : i = max p 1 := by omega
    subst this
    rw [if_pos ha, f_X11_broken_b38, ex_dI, h80, ex_bt (nI_le (by omega) (by omega))]
  | succ d ih =>
    intro i fu hi h1 ha
    have hip : i < p := by omega
    have mono : ∀ (z j : Nat), 1 ≤ j → alB P h (j + z) c = true → alB P h j c = true := by
      intro z
      induction z with
      | zero => intro j _ q; exact q
      | succ z iz =>
        intro j hj q
        rw [← Nat.add_assoc, alB_s (by omega), Bool.and_eq_true] at q
        exact iz j hj q.1
    rw [show fu + (d + 1) + 1 = (fu + d + 1) + 1 by omega, f_X11_broken_b38, ex_dI, h80, ex_bf (nI_ge hip (by omega)), ex_bf l1_0, ex_gd (inb_nI (show i < 20 by omega) (by omega)), ex_dI, nI_clamp (show i < 2 ^ 31 by omega), nI_s1 (by omega), ex_gd (inb_nI (show i - 1 < 20 by omega) (by omega)), ex_dI, nI_clamp (show i - 1 < 2 ^ 31 by omega), ex_gd (inb_nI (show i - 1 < 20 by omega) (by omega)), ex_dI, hP i hip, hP (i - 1) (by omega)]
    by_cases q : P i = P (i - 1) + P (i - 1) * h / 40 + (nI c - 3)
    · rw [ex_bt q, f_X11_broken_b93, nI_1]
      exact ih (i + 1) fu (by omega) (by omega) (by rw [alB_s h1, ha, Bool.true_and, decide_eq_true_eq]; exact br_alg.mp q)
    · have na : ¬ alB P h (max p 1) c = true := by
        intro qa
        have := mono (max p 1 - (i + 1)) (i + 1) (by omega) (by rw [show i + 1 + (max p 1 - (i + 1)) = max p 1 by omega]; exact qa)
        rw [alB_s h1, Bool.and_eq_true, decide_eq_true_eq] at this
        exact q (br_alg.mpr this.2)
      rw [ex_bf q, f_X11_broken_b92, f_X11_broken_b93, nI_1, if_neg na]
      exact brk_in0 hp h80 d (i + 1) fu (by omega)
theorem brk_c {p c fu : Nat} {h x : Int32} {P : Nat → Int32} {τ : Sg} (hp : p ≤ 20) (h80 : τ.1 56 80 = nI p) (hP : ∀ i, i < p → τ.1 90 i = P i) (hc : c < 7) : f_X11_broken_b27 (fu + 1) h x (nI c - 3) τ = f_X11_broken_b27 fu h (x ||| (if alB P h (max p 1) c = true then (1 : Int32) <<< (nI c &&& 31) else 0)) (nI (c + 1) - 3) τ := by
  have low : ∀ c : Fin 7, ¬ (3 : Int32) < nI c.1 - 3 ∧ (nI c.1 - 3) + 3 = nI c.1 ∧ (nI c.1 - 3) + 1 = nI (c.1 + 1) - 3 := by decide
  obtain ⟨c1, c2, c3⟩ := low ⟨c, hc⟩
  have := brk_in (x := x) (k27 := f_X11_broken_b27 fu) (h := h) (c := c) hp h80 hP (max p 1 - 1) 1 (8191 - (max p 1 - 1)) (by omega) (by omega) alB_1
  rw [show 8191 - (max p 1 - 1) + (max p 1 - 1) + 1 = FU by rw [Nat.sub_add_cancel (by omega)]; rfl] at this
  rw [f_X11_broken_b27, ex_bf c1]
  refine Eq.trans this ?_
  by_cases z : alB P h (max p 1) c = true
  · rw [if_pos z, if_pos z, f_X11_broken_b101, ex_bf l1_0, f_X11_broken_b116, c2, c3]
  · rw [if_neg z, if_neg z, f_X11_broken_b101, ex_bt rfl, f_X11_broken_b116, c3]
theorem ok_broken {g n s e m : Nat} {σ τ : Sg} (J : Jr g n s e m σ τ) (x : Int32) : OkX (f_X10_broken x) (f_X11_broken x) cI σ τ := by
  obtain ⟨J0, t0⟩ := thr0 J
  obtain ⟨jG, jR, ⟨s1, s2, s3, s4, s5, s6, ⟨p, q0, q1, q2, q3⟩⟩, -⟩ := id J0
  rcases what_cases x (M := 60) (y := 60) rfl (by omega) with ⟨w, hw, rfl⟩ | hx
  · have b1 : ¬ nI w < 0 := nI_pos (by omega)
    have b2 : ¬ (60 : Int32) < nI w := fun q => by
      have := (nI_ltL (x := 60) (k := 60) rfl (by omega) (by omega)).mp q; omega
    have wi : f_X11_within (nI w) 0 60 (sI τ 56 0 0) = some (1, sI τ 56 0 0) := by rw [f_X11_within, ex_bf b1, ex_bf b2, ex_rt]
    have ht : f_X10_isToldHeight (nI w) σ = some (1, σ) := by rw [f_X10_isToldHeight, ex_bf b1, ex_bf b2, ex_rt]
    have fl := fit_loop (h := nI w) (σ := σ) q0 q1 (max p 1 - 1) 1 (8191 - (max p 1 - 1)) (by omega) (by omega)
    rw [show 8191 - (max p 1 - 1) + (max p 1 - 1) + 1 = FU by rw [Nat.sub_add_cancel (by omega)]; rfl] at fl
    have e127 : mkS (alB (σ.1 7) (nI w) 1) = 127 := by
      rw [mkS, alB_1, alB_1, alB_1, alB_1, alB_1, alB_1, alB_1]; decide
    rw [e127] at fl
    have ft : f_X7_fitting 2 (nI w) σ = some (mkS (alB (σ.1 7) (nI w) (max p 1)), σ) := by
      rw [f_X7_fitting, ex_gd isSc2]
      exact fl
    have hP : ∀ i, i < p → (sI τ 56 0 0).1 90 i = σ.1 7 i := fun i hi => (q3 i hi).1
    have br : f_X11_broken_b27 FU (nI w) 0 (-3) (sI τ 56 0 0) = some (mkS (alB (σ.1 7) (nI w) (max p 1)), sI τ 56 0 0) := by
      rw [show (-3 : Int32) = nI 0 - 3 by decide, show FU = 8184 + 1 + 1 + 1 + 1 + 1 + 1 + 1 + 1 from rfl, brk_c q0 q2 hP (by omega), brk_c q0 q2 hP (by omega), brk_c q0 q2 hP (by omega), brk_c q0 q2 hP (by omega), brk_c q0 q2 hP (by omega), brk_c q0 q2 hP (by omega), brk_c q0 q2 hP (by omega), f_X11_broken_b27, ex_bt (by decide), ex_rt]
      rfl
    refine ⟨.inl (mkS (alB (σ.1 7) (nI w) (max p 1))), σ, _, sI τ 56 0 0, ?_, ?_, ⟨t0, rfl⟩, g, n, s, e, m, J0⟩
    · rw [f_X10_broken, ex_cl ht, ex_xv dem1, ex_cl ft, ex_rtX]
    · rw [f_X11_broken, ex_pI, ex_cl wi, ex_cl (right1 t0), ex_bf l1_0, br]
  · have wi : f_X11_within x 0 60 (sI τ 56 0 0) = some (0, sI τ 56 0 0) := by
      rcases hx with q | ⟨q1, q2⟩
      · rw [f_X11_within, ex_bt q, ex_rt]
      · rw [f_X11_within, ex_bf q1, ex_bt q2, ex_rt]
    have ht : f_X10_isToldHeight x σ = some (0, σ) := by
      rcases hx with q | ⟨q1, q2⟩
      · rw [f_X10_isToldHeight, ex_bt q, ex_rt]
      · rw [f_X10_isToldHeight, ex_bf q1, ex_bt q2, ex_rt]
    refine ok_thr J true 0 (y := 1) ?_ ?_ rfl
    · rw [f_X10_broken, ex_cl ht, ex_xt dem0]
    · rw [f_X11_broken, ex_pI, ex_cl wi, ex_cl (right0 t0 l1_0), ex_bt rfl, ex_rt]
