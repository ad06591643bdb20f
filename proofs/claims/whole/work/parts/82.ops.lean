-- ===== acts: obey, last, become, undo =====
theorem JB.set {e n j k q : Nat} {J : Nat → Int32} (h : JB e n J) (hj : j < n) (hk : k < 3) (hq : q ≤ bnd k) : JB e n (upd J (6 * j + 3 + k) (nI q)) := by
  intro i hi
  obtain ⟨a1, a2, a3, a4, a5, a6⟩ := h i hi
  have u : ∀ b, b < 6 → ¬ (i = j ∧ b = 3 + k) → upd J (6 * j + 3 + k) (nI q) (6 * i + b) = J (6 * i + b) := fun b hb hne => by
    rw [upd, if_neg]; omega
  have w : i = j → ∀ b, b = 3 + k → upd J (6 * j + 3 + k) (nI q) (6 * i + b) = nI q := fun e b hb => by
    rw [upd, if_pos (by omega)]
  rw [show upd J (6 * j + 3 + k) (nI q) (6 * i) = J (6 * i) from u 0 (by omega) (by omega), u 1 (by omega) (by omega), u 2 (by omega) (by omega)]
  refine ⟨a1, a2, a3, ?_, ?_, ?_⟩
  · by_cases z : i = j ∧ 3 = 3 + k
    · have k0 : k = 0 := by omega
      subst k0
      exact ⟨q, hq, w z.1 3 z.2⟩
    · rw [u 3 (by omega) z]; exact a4
  · by_cases z : i = j ∧ 4 = 3 + k
    · have k0 : k = 1 := by omega
      subst k0
      exact ⟨q, hq, w z.1 4 z.2⟩
    · rw [u 4 (by omega) z]; exact a5
  · by_cases z : i = j ∧ 5 = 3 + k
    · have k0 : k = 2 := by omega
      subst k0
      exact ⟨q, hq, w z.1 5 z.2⟩
    · rw [u 5 (by omega) z]; exact a6
theorem sI_upd {σ : Sg} {a c : Nat} {v : Int32} : (sI σ a c v).1 a = upd (σ.1 a) c v := by
  funext b
  rw [sI_gt, upd]
  by_cases h : b = c
  · rw [if_pos ⟨rfl, h⟩, if_pos h]
  · rw [if_neg (fun q => h q.2), if_neg h]
theorem Jr.act {g n s e m : Nat} {σ σ' T τ' : Sg} (J : Jr g n s e m σ T) (c : ∀ a b, ¬ (a = 2 ∧ (b = 2 ∨ b = 3 ∨ b = 7)) → ¬ a = 3 → ¬ a = 4 → ¬ a = 5 → ¬ a = 6 → σ'.1 a b = σ.1 a b) (hr : σ'.2 = σ.2) (t : ∀ a b, ¬ (a = 56 ∧ (b = 46 ∨ b = 47 ∨ b = 48)) → ¬ a = 58 → ¬ a = 71 → τ'.1 a b = T.1 a b) (h58 : ∀ j, j < n → ∀ k, k < 6 → τ'.1 58 (6 * j + k) = σ'.1 3 (6 * j + k)) (hJB : JB e n (σ'.1 3)) (hrule : τ'.1 56 46 = σ'.1 2 2 ∧ RuleOk m (σ'.1 2 2)) (hN : ∃ N, 1 ≤ N ∧ N ≤ 600 ∧ σ'.1 2 3 = nI N ∧ τ'.1 56 47 = nI N) (hA : ∃ a, a ≤ 40 ∧ σ'.1 2 7 = nI a ∧ τ'.1 56 48 = nI a ∧ ∀ i, i < a → ActR n m (σ'.1 4 i) (σ'.1 5 i) (σ'.1 6 i) (τ'.1 71 (2 * i)) (τ'.1 71 (2 * i + 1))) : Jr g n s e m σ' τ' := by
  obtain ⟨jG, jR, ⟨s1, s2, s3, s4, s5, s6, ⟨p, q0, q1, q2, q3⟩⟩, -⟩ := id J
  refine J.scene (fun a b h => c a b (by omega) (by omega) (by omega) (by omega) (by omega)) hr (fun a b h1 h2 h3 h4 => t a b (by omega) (by omega) (by omega)) ⟨?_, h58, hJB, hrule, hN, hA, p, q0, ?_, ?_, fun i hi => ?_⟩
  · rw [c 2 1 (by omega) (by omega) (by omega) (by omega) (by omega)]; exact s1
  · rw [c 2 9 (by omega) (by omega) (by omega) (by omega) (by omega)]; exact q1
  · rw [t 56 80 (by omega) (by omega) (by omega)]; exact q2
  · rw [c (2 + 5) i (by omega) (by omega) (by omega) (by omega) (by omega), t 90 i (by omega) (by omega) (by omega)]; exact q3 i hi
theorem keepC0 {a : Nat} {k w v : Int32} {σ : Sg} (ha : σ.1 2 7 = nI a) (h40 : a < 40) : f_X7_keepAct_b13 2 k w v σ = some ((), sI (sI (sI (sI σ 4 a k) 5 a w) 6 a v) 2 7 (nI (a + 1))) := by
  have ge : ¬ (40 : Int32) ≤ nI a := fun q => by have := (nI_leL (x := 40) (k := 40) rfl (by omega) (by omega)).mp q; omega
  have i40 := inb_nI h40 (by omega)
  have ca := nI_clamp (show a < 2 ^ 31 by omega)
  have r1 : (sI σ 4 a k).1 2 7 = nI a := by rw [sI_ne (by omega)]; exact ha
  have r2 : (sI (sI σ 4 a k) 5 a w).1 2 7 = nI a := by rw [sI_ne (by omega)]; exact r1
  have r3 : (sI (sI (sI σ 4 a k) 5 a w) 6 a v).1 2 7 = nI a := by rw [sI_ne (by omega)]; exact r2
  rw [f_X7_keepAct_b13, ex_gd isSc2, ex_dI, ha, ex_bf (nI_pos (by omega)), ex_dI, ha, ex_bf ge, ex_dI, ha, ex_gd i40, ex_pI, ca, ex_dI, r1, ex_gd i40, ex_pI, ca, ex_dI, r2, ex_gd i40, ex_pI, ca, ex_dI, r3, ex_pI, nI_1, ex_rt]
theorem keepC {a o : Nat} {k w v : Int32} {σ : Sg} (ha : σ.1 2 7 = nI a) (h40 : a ≤ 40) (ho : (a < 40 ∧ o = 0) ∨ (a = 40 ∧ o = 1)) : ∃ σ', f_X7_keepAct 2 k w v σ = some ((), σ') ∧ σ'.1 2 7 = nI (a - o + 1) ∧ (∀ i, i < a - o → σ'.1 4 i = σ.1 4 (i + o) ∧ σ'.1 5 i = σ.1 5 (i + o) ∧ σ'.1 6 i = σ.1 6 (i + o)) ∧ (σ'.1 4 (a - o) = k ∧ σ'.1 5 (a - o) = w ∧ σ'.1 6 (a - o) = v) ∧ (∀ c b, ¬ c = 4 → ¬ c = 5 → ¬ c = 6 → ¬ (c = 2 ∧ b = 7) → σ'.1 c b = σ.1 c b) ∧ σ'.2 = σ.2 := by
  rcases ho with ⟨h, rfl⟩ | ⟨rfl, rfl⟩
  · refine ⟨sI (sI (sI (sI σ 4 a k) 5 a w) 6 a v) 2 7 (nI (a + 1)), ?_, sI_eq, fun i hi => ?_, ?_, fun c b h1 h2 h3 h4 => ?_, rfl⟩
    · rw [f_X7_keepAct, ex_gd isSc2, ex_dI, ha, ex_bt ((nI_ltR (x := 40) (k := 40) rfl (by omega) (by omega)).mpr h), keepC0 ha h]
    · rw [sI_ne (by omega), sI_ne (by omega), sI_ne (by omega), sI_nf (by omega), sI_ne (by omega), sI_ne (by omega), sI_nf (by omega), sI_ne (by omega), sI_ne (by omega), sI_nf (by omega), sI_ne (by omega), sI_ne (by omega)]
      exact ⟨rfl, rfl, rfl⟩
    · rw [Nat.sub_zero, sI_ne (by omega), sI_ne (by omega), sI_ne (by omega), sI_eq, sI_ne (by omega), sI_ne (by omega), sI_eq, sI_ne (by omega), sI_eq]
      exact ⟨rfl, rfl, rfl⟩
    · rw [sI_gt, if_neg h4, sI_ne h3, sI_ne h2, sI_ne h1]
  · have dr : ∃ σd, f_X7_dropOldestAct 2 σ = some ((), σd) ∧ σd.1 2 7 = nI 39 ∧ (∀ i, i < 39 → σd.1 4 i = σ.1 4 (i + 1) ∧ σd.1 5 i = σ.1 5 (i + 1) ∧ σd.1 6 i = σ.1 6 (i + 1)) ∧ (∀ c b, ¬ c = 4 → ¬ c = 5 → ¬ c = 6 → ¬ (c = 2 ∧ b = 7) → σd.1 c b = σ.1 c b) ∧ σd.2 = σ.2 := by
      rw [f_X7_dropOldestAct, ex_gd isSc2, ex_wI, ex_wI, ex_wI, ex_pI, ex_rt]
      refine ⟨_, rfl, sI_eq, fun i hi => ?_, fun c b h1 h2 h3 h4 => ?_, rfl⟩
      · have vc : ∀ f g : Nat → Int32, va_cpy f g 1 0 39 i = f (i + 1) := fun f g => by rw [va_cpy, if_pos (by omega), Nat.sub_zero, Nat.add_comm]
        rw [sI_ne (by omega), rI_ne (by omega), rI_ne (by omega), rI_eq, vc, sI_ne (by omega), rI_ne (by omega), rI_eq, vc, rI_ne (by omega), sI_ne (by omega), rI_eq, vc, rI_ne (by omega), rI_ne (by omega)]
        exact ⟨rfl, rfl, rfl⟩
      · rw [sI_gt, if_neg h4, rI_ne h3, rI_ne h2, rI_ne h1]
    obtain ⟨σd, d1, d2, d3, d4, d5⟩ := dr
    have lt : ¬ nI 40 < 40 := by decide
    refine ⟨sI (sI (sI (sI σd 4 39 k) 5 39 w) 6 39 v) 2 7 (nI (39 + 1)), ?_, sI_eq, fun i hi => ?_, ?_, fun c b h1 h2 h3 h4 => ?_, d5⟩
    · rw [f_X7_keepAct, ex_gd isSc2, ex_dI, ha, ex_bf lt, ex_cl d1, keepC0 d2 (by omega)]
    · rw [sI_ne (by omega), sI_ne (by omega), sI_ne (by omega), sI_nf (by omega), sI_ne (by omega), sI_ne (by omega), sI_nf (by omega), sI_ne (by omega), sI_ne (by omega), sI_nf (by omega), sI_ne (by omega), sI_ne (by omega)]
      exact d3 i (by omega)
    · rw [show 40 - 1 = 39 by omega, sI_ne (by omega), sI_ne (by omega), sI_ne (by omega), sI_eq, sI_ne (by omega), sI_ne (by omega), sI_eq, sI_ne (by omega), sI_eq]
      exact ⟨rfl, rfl, rfl⟩
    · rw [sI_gt, if_neg h4, sI_ne h3, sI_ne h2, sI_ne h1]; exact d4 c b h1 h2 h3 h4
theorem keepM0 {a : Nat} {x y : Int32} {τ : Sg} (ha : τ.1 56 48 = nI a) (h40 : a < 40) : f_X11_keeps_b47 x y τ = some ((), sI (sI (sI τ 71 (2 * a) x) 71 (2 * a + 1) y) 56 48 (nI (a + 1))) := by
  have r1 : (sI τ 71 (2 * a) x).1 56 48 = nI a := by rw [sI_ne (by omega)]; exact ha
  have r2 : (sI (sI τ 71 (2 * a) x) 71 (2 * a + 1) y).1 56 48 = nI a := by rw [sI_ne (by omega)]; exact r1
  have e1 : 2 * nI a = nI (2 * a) := nI_mulL (x := 2) (k := 2) rfl a
  rw [f_X11_keeps_b47, ex_dI, ha, e1, ex_gd (inb_nI (show 2 * a < 80 by omega) (by omega)), ex_pI, nI_clamp (show 2 * a < 2 ^ 31 by omega), ex_dI, r1, e1, nI_1, ex_gd (inb_nI (show 2 * a + 1 < 80 by omega) (by omega)), ex_pI, nI_clamp (show 2 * a + 1 < 2 ^ 31 by omega), ex_dI, r2, ex_pI, nI_1, ex_rt]
theorem keepM_loop {x y : Int32} : ∀ (d i fu : Nat) (τ : Sg), i + d = 80 → 2 ≤ i → ∃ τ', f_X11_keeps_b11 (fu + d + 1) x y (nI i) τ = f_X11_keeps_b37 x y τ' ∧ (∀ b, τ'.1 71 b = if i ≤ b + 2 ∧ b < 78 then τ.1 71 (b + 2) else τ.1 71 b) ∧ (∀ a b, ¬ a = 71 → τ'.1 a b = τ.1 a b) ∧ τ'.2 = τ.2 := by
  intro d
  induction d with
  | zero =>
    intro i fu τ h h2
    have : i = 80 := by omega
    subst this
    refine ⟨τ, by rw [f_X11_keeps_b11, ex_bt (by decide)], fun b => ?_, fun _ _ _ => rfl, rfl⟩
    rw [if_neg (by omega)]
  | succ d ih =>
    intro i fu τ h h2
    have ge : ¬ (80 : Int32) ≤ nI i := fun q => by have := (nI_leL (x := 80) (k := 80) rfl (by omega) (by omega)).mp q; omega
    have e2 : nI i - 2 = nI (i - 2) := nI_sub (a := i) (b := 2) h2
    obtain ⟨τ', a1, a2, a3, a4⟩ := ih (i + 1) fu (sI τ 71 (i - 2) (τ.1 71 i)) (by omega) (by omega)
    refine ⟨τ', ?_, fun b => ?_, fun a b z => by rw [a3 a b z, sI_ne z], a4⟩
    · rw [show fu + (d + 1) + 1 = (fu + d + 1) + 1 by omega, f_X11_keeps_b11, ex_bf ge, ex_gd (inb_nI (show i < 80 by omega) (by omega)), ex_dI, nI_clamp (show i < 2 ^ 31 by omega), e2, ex_gd (inb_nI (show i - 2 < 80 by omega) (by omega)), ex_pI, nI_clamp (show i - 2 < 2 ^ 31 by omega), nI_1]
      exact a1
    · rw [a2 b]
      by_cases z : i + 1 ≤ b + 2 ∧ b < 78
      · rw [if_pos z, if_pos (by omega), sI_nf (by omega)]
      · rw [if_neg z]
        by_cases y : b = i - 2
        · subst y
          rw [sI_eq, if_pos (by omega), show i - 2 + 2 = i by omega]
        · rw [sI_nf y, if_neg (by omega)]
theorem keepM {a o : Nat} {x y : Int32} {τ : Sg} (ha : τ.1 56 48 = nI a) (h40 : a ≤ 40) (ho : (a < 40 ∧ o = 0) ∨ (a = 40 ∧ o = 1)) : ∃ τ', f_X11_keeps x y τ = some ((), τ') ∧ τ'.1 56 48 = nI (a - o + 1) ∧ (∀ i, i < 2 * (a - o) → τ'.1 71 i = τ.1 71 (i + 2 * o)) ∧ τ'.1 71 (2 * (a - o)) = x ∧ τ'.1 71 (2 * (a - o) + 1) = y ∧ (∀ c b, ¬ c = 71 → ¬ (c = 56 ∧ b = 48) → τ'.1 c b = τ.1 c b) ∧ τ'.2 = τ.2 := by
  rcases ho with ⟨h, rfl⟩ | ⟨rfl, rfl⟩
  · refine ⟨sI (sI (sI τ 71 (2 * a) x) 71 (2 * a + 1) y) 56 48 (nI (a + 1)), ?_, sI_eq, fun i hi => ?_, ?_, ?_, fun c b h1 h2 => ?_, rfl⟩
    · rw [f_X11_keeps, ex_dI, ha, ex_bf (fun q => by have := nI_inj (b := 40) (by omega) (by omega) q; omega), keepM0 ha h]
    · rw [sI_ne (by omega), sI_nf (by omega), sI_nf (by omega)]; rfl
    · rw [Nat.sub_zero, sI_ne (by omega), sI_nf (by omega), sI_eq]
    · rw [Nat.sub_zero, sI_ne (by omega), sI_eq]
    · rw [sI_gt, if_neg h2, sI_ne h1, sI_ne h1]
  · obtain ⟨τ1, a1, a2, a3, a4⟩ := keepM_loop (x := x) (y := y) 78 2 (8191 - 78) τ rfl (by omega)
    have h48 : τ1.1 56 48 = nI 40 := by rw [a3 _ _ (by omega)]; exact ha
    have h39 : (sI τ1 56 48 (nI 39)).1 56 48 = nI 39 := sI_eq
    refine ⟨sI (sI (sI (sI τ1 56 48 (nI 39)) 71 (2 * 39) x) 71 (2 * 39 + 1) y) 56 48 (nI (39 + 1)), ?_, sI_eq, fun i hi => ?_, ?_, ?_, fun c b h1 h2 => ?_, a4⟩
    · rw [f_X11_keeps, ex_dI, ha, ex_bt (show nI 40 = 40 from rfl)]
      refine Eq.trans a1 ?_
      rw [f_X11_keeps_b37, ex_dI, h48, ex_pI, nI_s1 (by omega), show 40 - 1 = 39 from rfl, keepM0 h39 (by omega)]
    · rw [sI_ne (by omega), sI_nf (by omega), sI_nf (by omega), sI_ne (by omega), a2, if_pos (by omega)]
    · rw [show 40 - 1 = 39 by omega, sI_ne (by omega), sI_nf (by omega), sI_eq]
    · rw [show 40 - 1 = 39 by omega, sI_ne (by omega), sI_eq]
    · rw [sI_gt, if_neg h2, sI_ne h1, sI_ne h1, sI_gt, if_neg h2, a3 _ _ h1]
/-- the acts after one more -/
theorem acts_new {n m a o : Nat} {k w v x y : Int32} {σ σ' τ τ' : Sg} (ho : (a < 40 ∧ o = 0) ∨ (a = 40 ∧ o = 1)) (hA : ∀ i, i < a → ActR n m (σ.1 4 i) (σ.1 5 i) (σ.1 6 i) (τ.1 71 (2 * i)) (τ.1 71 (2 * i + 1))) (hC : ∀ i, i < a - o → σ'.1 4 i = σ.1 4 (i + o) ∧ σ'.1 5 i = σ.1 5 (i + o) ∧ σ'.1 6 i = σ.1 6 (i + o)) (hn : σ'.1 4 (a - o) = k ∧ σ'.1 5 (a - o) = w ∧ σ'.1 6 (a - o) = v) (hM : ∀ i, i < 2 * (a - o) → τ'.1 71 i = τ.1 71 (i + 2 * o)) (hx : τ'.1 71 (2 * (a - o)) = x) (hy : τ'.1 71 (2 * (a - o) + 1) = y) (hR : ActR n m k w v x y) : ∀ i, i < a - o + 1 → ActR n m (σ'.1 4 i) (σ'.1 5 i) (σ'.1 6 i) (τ'.1 71 (2 * i)) (τ'.1 71 (2 * i + 1)) := by
  intro i hi
  by_cases z : i = a - o
  · subst z
    rw [hn.1, hn.2.1, hn.2.2, hx, hy]; exact hR
  · obtain ⟨c1, c2, c3⟩ := hC i (by omega)
    rw [c1, c2, c3, hM _ (by omega), hM _ (by omega), show 2 * i + 2 * o = 2 * (i + o) by omega, show 2 * i + 1 + 2 * o = 2 * (i + o) + 1 by omega]
    exact hA (i + o) (by omega)
theorem put3 {w v : Int32} {σ : Sg} : f_X7_put 2 3 w v σ = some (σ.1 2 2, sI σ 2 2 v) := by rw [f_X7_put, ex_gd isSc2, ex_bt rfl, ex_dI, ex_pI, ex_rt]
theorem put4 {w v : Int32} {σ : Sg} : f_X7_put 2 4 w v σ = some (σ.1 2 3, sI σ 2 3 v) := by rw [f_X7_put, ex_gd isSc2, ex_bf (by decide), ex_bt rfl, ex_dI, ex_pI, ex_rt]
theorem putk {j k : Nat} {v : Int32} {σ : Sg} (hj : j < 4) (hk : k < 3) : f_X7_put 2 (nI k) (nI j) v σ = some (σ.1 3 (6 * j + 3 + k), sI σ 3 (6 * j + 3 + k) v) := by
  have e1 : nI j * 6 + 3 + nI k = nI (6 * j + 3 + k) := by
    rw [nI_mulR (x := 6) (k := 6) rfl, nI_addR (x := 3) (k := 3) rfl, nI_add, Nat.mul_comm]
  have b : ¬ (24 : Int32) ≤ nI (6 * j + 3 + k) := fun h => by have := (nI_leL (x := 24) (k := 24) rfl (by omega) (by omega)).mp h; omega
  rw [f_X7_put, ex_gd isSc2, ex_bf (fun q => by have := nI_inj (b := 3) (by omega) (by omega) q; omega), ex_bf (fun q => by have := nI_inj (b := 4) (by omega) (by omega) q; omega), ex_lt, e1, ex_bf (nI_pos (by omega)), ex_bf b, ex_gd (inb_nI (show 6 * j + 3 + k < 24 by omega) (by omega)), ex_dI, nI_clamp (show 6 * j + 3 + k < 2 ^ 31 by omega), ex_gd (inb_nI (show 6 * j + 3 + k < 24 by omega) (by omega)), ex_pI, ex_rt]
