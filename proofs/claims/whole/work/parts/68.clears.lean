-- ===== a run begins: the reference, both =====
/-- whether bit j is set -/
def bitB (x : Int32) (j : Nat) : Bool := decide (((x >>> (nI j &&& 31)) &&& 1) = 1)
def CmJ (n : Nat) (A : Nat → Bool) (J : Nat → Int32) (τ : Sg) (j : Nat) : Prop := τ.1 73 j = (if j < n ∧ A j = true then 0 else 3) ∧ τ.1 74 j = J (6 * j + 2) ∧ τ.1 75 j = (if j < n ∧ A j = true then J (6 * j + 3) else -1) ∧ τ.1 76 j = J (6 * j + 4) ∧ τ.1 77 j = 0 ∧ τ.1 78 j = 0 ∧ τ.1 79 j = 0 ∧ τ.1 80 j = 0 ∧ τ.1 81 j = 0 ∧ τ.1 82 j = 0
def Cm (n : Nat) (A : Nat → Bool) (J : Nat → Int32) (τ : Sg) : Prop := (∀ j, j < 4 → CmJ n A J τ j) ∧ (∀ k, k < 24 → τ.1 83 k = 0) ∧ τ.1 56 64 = 0 ∧ τ.1 56 65 = -1 ∧ τ.1 56 66 = 0 ∧ τ.1 56 68 = 0 ∧ τ.1 56 69 = 0 ∧ τ.1 56 70 = 0 ∧ τ.1 56 71 = 0 ∧ τ.1 56 72 = -1 ∧ τ.1 56 73 = 0
theorem clears_k {fu : Nat} : ∀ (d i : Nat) (τ : Sg), i + d = 24 → ∃ τ', f_X11_clears_b154 (fu + d + 1) (nI i) τ = f_X11_clears_b173 τ' ∧ Oc 83 τ τ' ∧ (∀ k, i ≤ k → k < 24 → τ'.1 83 k = 0) ∧ (∀ k, k < i → τ'.1 83 k = τ.1 83 k) := by
  intro d
  induction d with
  | zero =>
    intro i τ h
    have : i = 24 := by omega
    subst this
    refine ⟨τ, ?_, Oc.rf, fun k h1 h2 => by omega, fun _ _ => rfl⟩
    rw [f_X11_clears_b154, ex_bt (show (24 : Int32) ≤ nI 24 by decide)]
  | succ d ih =>
    intro i τ h
    have b : ¬ (24 : Int32) ≤ nI i := fun h => by have := (nI_leL (x := 24) (k := 24) rfl (by omega) (by omega)).mp h; omega
    obtain ⟨τ', a1, a2, a3, a4⟩ := ih (i + 1) (sI τ 83 i 0) (by omega)
    refine ⟨τ', ?_, Oc.w.tr a2, fun k h1 h2 => ?_, fun k h1 => ?_⟩
    · rw [show fu + (d + 1) + 1 = (fu + d + 1) + 1 by omega, f_X11_clears_b154, ex_bf b, ex_gd (inb_nI (show i < 24 by omega) (by omega)), ex_pI, nI_clamp (show i < 2 ^ 31 by omega), nI_1]
      exact a1
    · by_cases z : k = i
      · subst z; rw [a4 k (by omega), sI_eq]
      · exact a3 k (by omega) h2
    · rw [a4 k (by omega), sI_nf (by omega)]
/-- one jumper's cells -/
def clJ (j : Nat) (st co : Int32) (τ : Sg) : Sg := sI (sI (sI (sI (sI (sI (sI (sI (sI (sI τ 73 j st) 74 j (τ.1 58 (6 * j + 2))) 75 j co) 76 j (τ.1 58 (6 * j + 4))) 77 j 0) 78 j 0) 79 j 0) 80 j 0) 81 j 0) 82 j 0
theorem clears_86 {k2 : Int32 → Int32 → Sg → Option (Unit × Sg)} {j : Nat} {x co : Int32} {τ : Sg} (hj : j < 4) : f_X11_clears_b86 k2 x (nI j) co (nI j) τ = k2 x (nI (j + 1)) (sI (sI (sI (sI (sI (sI (sI (sI τ 75 j co) 76 j (τ.1 58 (6 * j + 4))) 77 j 0) 78 j 0) 79 j 0) 80 j 0) 81 j 0) 82 j 0) := by
  have i4 := inb_nI hj (show 4 < 2 ^ 31 by omega)
  have cj := nI_clamp (show j < 2 ^ 31 by omega)
  rw [f_X11_clears_b86, ex_gd i4, ex_pI, nI_l6 (x := 4) (k := 4) rfl, ex_gd (inb_nI (show 6 * j + 4 < 24 by omega) (by omega)), ex_dI, nI_clamp (show 6 * j + 4 < 2 ^ 31 by omega), sI_ne (show ¬ 58 = 75 by omega), ex_gd i4, ex_pI, ex_gd i4, ex_pI, ex_gd i4, ex_pI, ex_gd i4, ex_pI, ex_gd i4, ex_pI, ex_gd i4, ex_pI, ex_gd i4, ex_pI, cj, nI_1]
theorem clears_44 {k2 : Int32 → Int32 → Sg → Option (Unit × Sg)} {j : Nat} {x b st : Int32} {τ : Sg} (hj : j < 4) : f_X11_clears_b44 k2 x (nI j) b st (nI j) τ = k2 x (nI (j + 1)) (clJ j st (if b = 0 then -1 else τ.1 58 (6 * j + 3)) τ) := by
  have i4 := inb_nI hj (show 4 < 2 ^ 31 by omega)
  have cj := nI_clamp (show j < 2 ^ 31 by omega)
  rw [f_X11_clears_b44, ex_gd i4, ex_pI, nI_l6 (x := 2) (k := 2) rfl, ex_gd (inb_nI (show 6 * j + 2 < 24 by omega) (by omega)), ex_dI, nI_clamp (show 6 * j + 2 < 2 ^ 31 by omega), sI_ne (show ¬ 58 = 73 by omega), ex_gd i4, ex_pI, cj]
  by_cases z : b = 0
  · rw [ex_bt z, clears_86 hj, if_pos z, sI_ne (show ¬ 58 = 74 by omega), sI_ne (show ¬ 58 = 73 by omega)]
    rfl
  · rw [ex_bf z, nI_l6 (x := 3) (k := 3) rfl, ex_gd (inb_nI (show 6 * j + 3 < 24 by omega) (by omega)), ex_dI, nI_clamp (show 6 * j + 3 < 2 ^ 31 by omega), sI_ne (show ¬ 58 = 74 by omega), sI_ne (show ¬ 58 = 73 by omega), clears_86 hj, if_neg z, sI_ne (show ¬ 58 = 74 by omega), sI_ne (show ¬ 58 = 73 by omega)]
    rfl
theorem clJ_o {j a b : Nat} {st co : Int32} {τ : Sg} (h : (∀ c, 73 ≤ c → c ≤ 82 → ¬ a = c) ∨ ¬ b = j) : (clJ j st co τ).1 a b = τ.1 a b := by
  unfold clJ
  rcases h with h | h
  · simp only [sI_gt, h 73 (by omega) (by omega), h 74 (by omega) (by omega), h 75 (by omega) (by omega), h 76 (by omega) (by omega), h 77 (by omega) (by omega), h 78 (by omega) (by omega), h 79 (by omega) (by omega), h 80 (by omega) (by omega), h 81 (by omega) (by omega), h 82 (by omega) (by omega), false_and, if_false]
  · simp only [sI_gt, h, and_false, if_false]
theorem clears_loop {n fu : Nat} {x : Int32} (hn4 : n ≤ 4) : ∀ (d i : Nat) (τ : Sg), i + d = 4 → τ.1 56 6 = nI n → ∃ τ', f_X11_clears_b2 (fu + d + 1) x (nI i) τ = f_X11_clears_b152 τ' ∧ (∀ j, i ≤ j → j < 4 → CmJ n (bitB x) (τ.1 58) τ' j) ∧ (∀ a b, (∀ c, 73 ≤ c → c ≤ 82 → ¬ a = c) ∨ b < i → τ'.1 a b = τ.1 a b) := by
  intro d
  induction d with
  | zero =>
    intro i τ h hn
    have : i = 4 := by omega
    subst this
    refine ⟨τ, ?_, fun j h1 h2 => by omega, fun _ _ _ => rfl⟩
    rw [f_X11_clears_b2, ex_bt (show (4 : Int32) ≤ nI 4 by decide)]
  | succ d ih =>
    intro i τ h hn
    have hi : i < 4 := by omega
    have a : ¬ (4 : Int32) ≤ nI i := fun h => by have := (nI_leL (x := 4) (k := 4) rfl (by omega) (by omega)).mp h; omega
    have go : ∀ st co : Int32, (st = (if i < n ∧ bitB x i = true then 0 else 3)) → (co = (if i < n ∧ bitB x i = true then τ.1 58 (6 * i + 3) else -1)) → f_X11_clears_b2 (fu + (d + 1) + 1) x (nI i) τ = f_X11_clears_b2 (fu + d + 1) x (nI (i + 1)) (clJ i st co τ) → ∃ τ', f_X11_clears_b2 (fu + (d + 1) + 1) x (nI i) τ = f_X11_clears_b152 τ' ∧ (∀ j, i ≤ j → j < 4 → CmJ n (bitB x) (τ.1 58) τ' j) ∧ (∀ a b, (∀ c, 73 ≤ c → c ≤ 82 → ¬ a = c) ∨ b < i → τ'.1 a b = τ.1 a b) := by
      intro st co h1 h2 h3
      obtain ⟨τ', b1, b2, b3⟩ := ih (i + 1) (clJ i st co τ) (by omega) (by rw [clJ_o (Or.inl (fun c _ _ => by omega))]; exact hn)
      have e58 : (clJ i st co τ).1 58 = τ.1 58 := funext fun b => clJ_o (Or.inl (fun c _ _ => by omega))
      refine ⟨τ', h3.trans b1, fun j k1 k2 => ?_, fun a b hab => ?_⟩
      · by_cases z : j = i
        · subst z
          have f : ∀ c, τ'.1 c j = (clJ j st co τ).1 c j := fun c => b3 c j (Or.inr (by omega))
          unfold CmJ
          simp only [f]
          rw [← h1, ← h2]
          simp [clJ, sI_gt]
        · rw [← e58]; exact b2 j (by omega) k2
      · rw [b3 a b (by rcases hab with q | q; exact Or.inl q; exact Or.inr (by omega)), clJ_o (by rcases hab with q | q; exact Or.inl q; exact Or.inr (by omega))]
    have e0 : ∀ (b st : Int32), f_X11_clears_b44 (f_X11_clears_b2 (fu + d + 1)) x (nI i) b st (nI i) τ = f_X11_clears_b2 (fu + d + 1) x (nI (i + 1)) (clJ i st (if b = 0 then -1 else τ.1 58 (6 * i + 3)) τ) := fun b st => clears_44 hi
    by_cases z : i < n
    · by_cases y : ((x >>> (nI i &&& 31)) &&& 1) = 1
      · have hb : bitB x i = true := decide_eq_true y
        refine go 0 (τ.1 58 (6 * i + 3)) (by rw [if_pos ⟨z, hb⟩]) (by rw [if_pos ⟨z, hb⟩]) ?_
        rw [show fu + (d + 1) + 1 = (fu + d + 1) + 1 by omega, f_X11_clears_b2, ex_bf a, ex_dI, hn, ex_bf (nI_ge z (by omega)), ex_bt y, f_X11_clears_b29, ex_bf l1_0, e0, if_neg l1_0]
      · have hb : ¬ bitB x i = true := fun q => y (of_decide_eq_true q)
        refine go 3 (-1) (by rw [if_neg (fun q => hb q.2)]) (by rw [if_neg (fun q => hb q.2)]) ?_
        rw [show fu + (d + 1) + 1 = (fu + d + 1) + 1 by omega, f_X11_clears_b2, ex_bf a, ex_dI, hn, ex_bf (nI_ge z (by omega)), ex_bf y, f_X11_clears_b28, f_X11_clears_b29, ex_bt rfl, e0, if_pos rfl]
    · refine go 3 (-1) (by rw [if_neg (fun q => z q.1)]) (by rw [if_neg (fun q => z q.1)]) ?_
      rw [show fu + (d + 1) + 1 = (fu + d + 1) + 1 by omega, f_X11_clears_b2, ex_bf a, ex_dI, hn, ex_bt (nI_le (by omega) (by omega)), f_X11_clears_b28, f_X11_clears_b29, ex_bt rfl, e0, if_pos rfl]
theorem clears_eq {n : Nat} {x : Int32} {τ : Sg} (hn4 : n ≤ 4) (hn : τ.1 56 6 = nI n) : ∃ τ', f_X11_clears x τ = some ((), τ') ∧ Cm n (bitB x) (τ.1 58) τ' ∧ off gs_mrunF τ τ' := by
  obtain ⟨τ1, a1, a2, a3⟩ := clears_loop (fu := 8187) (x := x) hn4 4 0 τ rfl hn
  obtain ⟨τ2, b1, b2, b3, -⟩ := clears_k (fu := 8167) 24 0 τ1 rfl
  generalize hB : sI (sI (sI (sI (sI (sI (sI (sI (sI (sI τ2 56 64 0) 56 65 (-1)) 56 66 0) 56 67 (-1)) 56 68 0) 56 69 0) 56 70 0) 56 71 0) 56 72 (-1)) 56 73 0 = B
  have hc : f_X11_clears x τ = some ((), B) := by
    have e1 : f_X11_clears x τ = f_X11_clears_b152 τ1 := a1
    have e2 : f_X11_clears_b152 τ1 = f_X11_clears_b173 τ2 := b1
    rw [e1, e2, f_X11_clears_b173, ex_pI, ex_pI, ex_pI, ex_pI, ex_pI, ex_pI, ex_pI, ex_pI, ex_pI, ex_pI, ex_rt, hB]
  refine ⟨B, hc, ?_, fr_X11_clears _ _ _ hc⟩
  have f : ∀ a b, ¬ a = 56 → B.1 a b = τ2.1 a b := by
    intro a b h
    rw [← hB]
    simp only [sI_gt, h, false_and, if_false]
  refine ⟨fun j hj => ?_, fun k hk => ?_, ?_, ?_, ?_, ?_, ?_, ?_, ?_, ?_, ?_⟩
  · have := a2 j (by omega) hj
    have g : ∀ c, 73 ≤ c → c ≤ 82 → B.1 c j = τ1.1 c j := fun c h1 h2 => by rw [f _ _ (by omega), b2.2 _ _ (by omega)]
    unfold CmJ
    rw [g 73 (by omega) (by omega), g 74 (by omega) (by omega), g 75 (by omega) (by omega), g 76 (by omega) (by omega), g 77 (by omega) (by omega), g 78 (by omega) (by omega), g 79 (by omega) (by omega), g 80 (by omega) (by omega), g 81 (by omega) (by omega), g 82 (by omega) (by omega)]
    exact this
  · rw [f _ _ (by omega)]; exact b3 k (by omega) hk
  all_goals rw [← hB]; simp [sI_gt]
-- the class with some left out
def BgA (g n : Nat) (A : Nat → Bool) (J : Nat → Int32) (r : Int32) (σ : Sg) : Prop := σ.2.2 17 3 = g ∧ σ.1 17 4 = r ∧ (∀ j, j < 4 → (σ.1 (fl j) 0 = nI j ∧ σ.1 (fl j) 5 = (if j < n ∧ A j = true then 0 else 4) ∧ σ.1 (fl j) 1 = J (6 * j) ∧ σ.1 (fl j) 2 = J (6 * j + 1) ∧ σ.1 (fl j) 6 = J (6 * j + 2) ∧ σ.1 (fl j) 9 = J (6 * j + 3) ∧ σ.1 (fl j) 3 = J (6 * j + 4) ∧ σ.1 (fl j) 7 = J (6 * j + 4) ∧ σ.1 (fl j) 4 = J (6 * j + 5) ∧ σ.1 (fl j) 8 = 0 ∧ σ.1 (fl j) 10 = 0 ∧ σ.1 (fl j) 11 = 0 ∧ σ.1 (fl j) 12 = 0 ∧ σ.1 (fl j) 13 = 0 ∧ σ.1 (fl j) 14 = 0 ∧ ∀ k, k < 6 → σ.1 (fk j) k = 0)) ∧ σ.1 28 1 = 0 ∧ σ.1 17 5 = 0 ∧ σ.1 17 6 = 1 ∧ σ.1 17 9 = 0 ∧ σ.1 17 10 = 0 ∧ σ.1 17 11 = 0 ∧ σ.1 17 12 = 0 ∧ σ.1 17 13 = 0 ∧ σ.1 17 14 = -1 ∧ σ.1 17 15 = 0
theorem Bg.all {g n : Nat} {J : Nat → Int32} {r : Int32} {σ : Sg} (h : Bg g n J r σ) : BgA g n (fun _ => true) J r σ := by
  obtain ⟨h1, h2, h3, h4⟩ := h
  refine ⟨h1, h2, fun j hj => ?_, h4⟩
  have := h3 j hj
  simpa [BgF] using this
/-- what is told of jumpers -/
def JB (e n : Nat) (J : Nat → Int32) : Prop := ∀ j, j < n → (∃ w, 1 ≤ w ∧ w ≤ 99 ∧ J (6 * j) = nI w) ∧ (∃ l, l ≤ 30 ∧ J (6 * j + 1) = nI l) ∧ (-(e : Int) ≤ (J (6 * j + 2)).toInt ∧ (J (6 * j + 2)).toInt ≤ e) ∧ (∃ q, q ≤ 99 ∧ J (6 * j + 3) = nI q) ∧ (∃ q, q ≤ 60 ∧ J (6 * j + 4) = nI q) ∧ (∃ q, q ≤ 9 ∧ J (6 * j + 5) = nI q)
theorem start_Iv {g n s e : Nat} {A B : Nat → Bool} {J : Nat → Int32} {r : Int32} {σ τ : Sg} (hg : isGd g = true) (hn4 : n ≤ 4) (hn : τ.1 56 6 = nI n) (hs : 1 ≤ s ∧ s ≤ 9 ∧ σ.1 g 0 = nI s ∧ τ.1 56 1 = nI s) (hG : τ.1 56 2 = σ.1 g 1 ∧ τ.1 56 3 = σ.1 g 2 ∧ τ.1 56 4 = σ.1 g 3 ∧ τ.1 56 5 = σ.1 g 4) (hN : NuG g e σ) (hr : τ.1 56 46 = r) (hB : BgA g n A J r σ) (hJ : JB e n J) (hM : Cm n B (τ.1 58) τ) (hx : ∀ j, j < n → B j = A j) (h58 : ∀ j, j < n → ∀ k, k < 6 → τ.1 58 (6 * j + k) = J (6 * j + k)) (U : Ru g σ τ) : Iv g n s e 0 σ τ := by
  obtain ⟨b1, b2, b3, b4, b5, b6, b7, b8, b9, b10, b11, b12, b13⟩ := hB
  obtain ⟨m1, m2, m3, m4, m5, m6, m7, m8, m9, m10, m11⟩ := hM
  obtain ⟨s1, s2, s3, s4⟩ := hs
  obtain ⟨g1, g2, g3, g4⟩ := hG
  refine ⟨0, fun _ => 0, ⟨⟨⟨hg, b1, hn4, hn, s1, s2, s3, s4⟩, ⟨g1, g2, g3, g4, by rw [hr, b2]⟩, fun j hj => (b3 j hj).1, ?_⟩, ?_, ?_, ?_, ⟨?_, ?_⟩, ⟨b4, m3, fun i hi => by omega⟩, ⟨by rw [m5, b7], by rw [m6, b8], by rw [m7, b9], by rw [m8, b10], by rw [m9, b11], by rw [m10, b12], by rw [m11, b13]⟩, Or.inl ⟨b6, m4⟩⟩, ⟨hN, ?_, ?_, ⟨fun _ => Nat.zero_le _, fun _ _ _ => rfl, ?_, rfl⟩, Or.inl ⟨b6, b7⟩⟩, U, ?_⟩
  · intro j hj
    obtain ⟨-, -, c1, c2, -, -, -, -, c4, -⟩ := b3 j (by omega)
    exact ⟨by rw [c1]; exact h58 j hj 0 (by omega), by rw [c2]; exact h58 j hj 1 (by omega), by rw [c4]; exact h58 j hj 5 (by omega)⟩
  · intro j hj
    obtain ⟨-, c0, -, -, -, c9, -⟩ := b3 j hj
    obtain ⟨d1, -, d2, -⟩ := m1 j hj
    by_cases z : j < n ∧ A j = true
    · right
      have z' : j < n ∧ B j = true := ⟨z.1, (hx j z.1).trans z.2⟩
      rw [if_pos z] at c0
      rw [if_pos z'] at d1 d2
      exact ⟨z.1, Or.inl c0, by rw [d1, c0], by rw [d2, c9]; exact h58 j z.1 3 (by omega)⟩
    · left
      have z' : ¬ (j < n ∧ B j = true) := fun q => z ⟨q.1, (hx j q.1).symm.trans q.2⟩
      rw [if_neg z] at c0
      rw [if_neg z'] at d1
      exact ⟨c0, d1⟩
  · intro j hj
    obtain ⟨-, -, -, -, c6, -, -, c7, -, c8, c10, c11, c12, c13, c14, -⟩ := b3 j (by omega)
    obtain ⟨-, d1, -, d2, d3, d4, d5, d6, d7, d8⟩ := m1 j (by omega)
    exact ⟨by rw [d1, c6]; exact h58 j hj 2 (by omega), by rw [d2, c7]; exact h58 j hj 4 (by omega), by rw [d3, c8], by rw [d4, c10], by rw [d5, c11], by rw [d6, c12], by rw [d7, c13], by rw [d8, c14]⟩
  · intro j hj k hk
    obtain ⟨-, -, -, -, -, -, -, -, -, -, -, -, -, -, -, ck⟩ := b3 j (by omega)
    rw [m2 _ (by omega), ck k hk]
  · intro j h1 h2
    obtain ⟨-, -, -, -, -, -, -, -, -, -, -, -, c12, c13, -, -⟩ := b3 j h2
    exact ⟨c12, c13⟩
  · intro j h1 _
    obtain ⟨-, -, -, -, -, -, c3, c7, -⟩ := b3 j h1
    rw [c3, c7]
  · intro j hj
    obtain ⟨-, c0, c1, c2, c6, c9, c3, c7, c4, c8, -⟩ := b3 j (by omega)
    obtain ⟨j1, j2, j3, j4, ⟨q, q1, q2⟩, j6⟩ := hJ j hj
    obtain ⟨e20, -⟩ := hN
    rw [c1, c2, c4, c7, c8, c6]
    exact ⟨j1, j2, j6, ⟨q, by omega, q2⟩, ⟨0, by omega, rfl⟩, by omega, fun _ => j3⟩
  · intro j hj hd
    obtain ⟨-, c0, -⟩ := b3 j (by omega)
    rw [c0] at hd
    by_cases z : j < n ∧ A j = true
    · rw [if_pos z] at hd; exact absurd hd (by decide)
    · rw [if_neg z] at hd; exact absurd hd (by decide)
  · intro j hj hd
    obtain ⟨-, c0, -⟩ := b3 j (by omega)
    rw [c0] at hd
    by_cases z : j < n ∧ A j = true
    · rw [if_pos z] at hd; exact absurd hd (by decide)
    · rw [if_neg z] at hd; exact absurd hd (by decide)
  · intro z
    rw [b5] at z
    exact absurd z (by decide)
