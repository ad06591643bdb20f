-- ===== the garden as it is read: what both have =====
def gJ (nj : Nat) (x y : Int32) : Prop := nj ≤ 4 ∧ x = nI nj ∧ y = nI nj
def gS (x y : Int32) : Prop := ∃ s, 1 ≤ s ∧ s ≤ 9 ∧ x = nI s ∧ y = nI s
def gE (e : Nat) (x y : Int32) : Prop := e ≤ 20 ∧ x = nI e ∧ y = nI e
def gK (x y : Int32) : Prop := ∃ k, k ≤ 100 ∧ x = nI k ∧ y = nI k
def gB (x y : Int32) : Prop := y = x ∧ -3 ≤ x.toInt ∧ x.toInt ≤ 3
def gL (z : Nat) (x5 x6 x7 y0 y1 y2 : Int32) : Prop := ∃ a b c, a ≤ 9 ∧ b ≤ 9 ∧ c ≤ 9 ∧ z ≤ a + b + c ∧ x5 = nI a ∧ x6 = nI b ∧ x7 = nI c ∧ y0 = nI a ∧ y1 = nI b ∧ y2 = nI c
def gR (nj e : Nat) (J J' : Nat → Int32) : Prop := (∀ j, j < nj → ∀ k, k < 6 → J' (6 * j + k) = J (6 * j + k)) ∧ JB e nj J
def gP (x y : Int32) (r r' : Nat → Int32) : Prop := ∃ p, p ≤ 8 ∧ x = nI p ∧ y = nI p ∧ ∀ i, i < p → ∃ v, 1 ≤ v ∧ v ≤ 99 ∧ r i = nI v ∧ r' i = nI v
def GN (g nj e z : Nat) (σ τ : Sg) : Prop := gJ nj (σ.1 g 9) (τ.1 56 32) ∧ gS (σ.1 g 0) (τ.1 56 27) ∧ gE e (σ.1 g 1) (τ.1 56 28) ∧ gK (σ.1 g 2) (τ.1 56 29) ∧ gB (σ.1 g 3) (τ.1 56 30) ∧ τ.1 56 31 = σ.1 g 4 ∧ gL z (σ.1 g 5) (σ.1 g 6) (σ.1 g 7) (τ.1 64 0) (τ.1 64 1) (τ.1 64 2) ∧ gR nj e (σ.1 (g + 1)) (τ.1 65) ∧ gP (σ.1 g 11) (τ.1 56 34) (σ.1 (g + 2)) (τ.1 67)
/-- the rules that are read, a0 codes of the class, k0 of the reference -/
def RuN (g m a0 k0 : Nat) (σ τ : Sg) : Prop := m ≤ 4 ∧ σ.1 (g + 3) 4 = nI m ∧ τ.1 56 33 = nI m ∧ σ.1 (g + 3) 3 = nI a0 ∧ τ.1 56 36 = nI k0 ∧ (if m = 0 then a0 = 0 else σ.1 (g + 5) (m - 1) = nI a0) ∧ ∀ r, r < m → ∃ a k ts, (if r = 0 then a = 0 else σ.1 (g + 5) (r - 1) = nI a) ∧ σ.1 (g + 5) r = nI (a + ts.length) ∧ a + ts.length ≤ a0 ∧ CC σ (g + 4) a ts ∧ τ.1 66 r = nI k ∧ k + 2 * ts.length < 1600 ∧ k + mlen ts < k0 ∧ MC τ 68 k ts ∧ wfT 0 ts
theorem sI_row {σ : Sg} {i k a : Nat} {v : Int32} (h : ¬ a = i) : (sI σ i k v).1 a = σ.1 a := funext (fun _ => sI_ne h)
theorem GN.of {g nj e z : Nat} {σ σ' τ τ' : Sg} (G : GN g nj e z σ τ) (hc : ∀ d b, d ≤ 2 → σ'.1 (g + d) b = σ.1 (g + d) b) (ht : ∀ b, 27 ≤ b → b ≤ 34 → τ'.1 56 b = τ.1 56 b) (h4 : ∀ b, τ'.1 64 b = τ.1 64 b) (h5 : ∀ b, τ'.1 65 b = τ.1 65 b) (h7 : ∀ b, τ'.1 67 b = τ.1 67 b) : GN g nj e z σ' τ' := by
  have c0 : ∀ b, σ'.1 g b = σ.1 g b := fun b => hc 0 b (by omega)
  have c1 : σ'.1 (g + 1) = σ.1 (g + 1) := funext (fun b => hc 1 b (by omega))
  have c2 : σ'.1 (g + 2) = σ.1 (g + 2) := funext (fun b => hc 2 b (by omega))
  have t5 : τ'.1 65 = τ.1 65 := funext h5
  have t7 : τ'.1 67 = τ.1 67 := funext h7
  unfold GN
  rw [c0, c0, c0, c0, c0, c0, c0, c0, c0, c0, c1, c2, t5, t7, h4, h4, h4, ht 27 (by omega) (by omega), ht 28 (by omega) (by omega), ht 29 (by omega) (by omega), ht 30 (by omega) (by omega), ht 31 (by omega) (by omega), ht 32 (by omega) (by omega), ht 34 (by omega) (by omega)]
  exact G
theorem GN.w0 {g nj e z : Nat} {v w : Int32} {σ τ : Sg} (G : GN g nj e z σ τ) (h : gS v w) : GN g nj e z (sI σ (g + 0) 0 v) (sI τ 56 27 w) := by
  obtain ⟨G1, G2, G3, G4, G5, G6, G7, G8, G9⟩ := G
  unfold GN
  rw [sI_row (show ¬ g + 1 = g + 0 by omega), sI_row (show ¬ g + 2 = g + 0 by omega), sI_row (show ¬ (65 : Nat) = 56 by omega), sI_row (show ¬ (67 : Nat) = 56 by omega)]
  exact ⟨by rw [sI_nf (by omega), sI_nf (by omega)]; exact G1, by rw [show g + 0 = g from rfl, sI_eq, sI_eq]; exact h, by rw [sI_nf (by omega), sI_nf (by omega)]; exact G3, by rw [sI_nf (by omega), sI_nf (by omega)]; exact G4, by rw [sI_nf (by omega), sI_nf (by omega)]; exact G5, by rw [sI_nf (by omega), sI_nf (by omega)]; exact G6, by rw [sI_nf (by omega), sI_nf (by omega), sI_nf (by omega), sI_ne (by omega), sI_ne (by omega), sI_ne (by omega)]; exact G7, G8, by rw [sI_nf (by omega), sI_nf (by omega)]; exact G9⟩
theorem GN.w1 {g nj e z e2 : Nat} {v w : Int32} {σ τ : Sg} (G : GN g nj e z σ τ) (h : gE e2 v w) (h0 : nj = 0) : GN g nj e2 z (sI σ (g + 0) 1 v) (sI τ 56 28 w) := by
  obtain ⟨G1, G2, G3, G4, G5, G6, G7, G8, G9⟩ := G
  unfold GN
  rw [sI_row (show ¬ g + 1 = g + 0 by omega), sI_row (show ¬ g + 2 = g + 0 by omega), sI_row (show ¬ (65 : Nat) = 56 by omega), sI_row (show ¬ (67 : Nat) = 56 by omega)]
  exact ⟨by rw [sI_nf (by omega), sI_nf (by omega)]; exact G1, by rw [sI_nf (by omega), sI_nf (by omega)]; exact G2, by rw [show g + 0 = g from rfl, sI_eq, sI_eq]; exact h, by rw [sI_nf (by omega), sI_nf (by omega)]; exact G4, by rw [sI_nf (by omega), sI_nf (by omega)]; exact G5, by rw [sI_nf (by omega), sI_nf (by omega)]; exact G6, by rw [sI_nf (by omega), sI_nf (by omega), sI_nf (by omega), sI_ne (by omega), sI_ne (by omega), sI_ne (by omega)]; exact G7, ⟨fun j hj => absurd hj (by omega), fun j hj => absurd hj (by omega)⟩, by rw [sI_nf (by omega), sI_nf (by omega)]; exact G9⟩
theorem GN.w2 {g nj e z : Nat} {v w : Int32} {σ τ : Sg} (G : GN g nj e z σ τ) (h : gK v w) : GN g nj e z (sI σ (g + 0) 2 v) (sI τ 56 29 w) := by
  obtain ⟨G1, G2, G3, G4, G5, G6, G7, G8, G9⟩ := G
  unfold GN
  rw [sI_row (show ¬ g + 1 = g + 0 by omega), sI_row (show ¬ g + 2 = g + 0 by omega), sI_row (show ¬ (65 : Nat) = 56 by omega), sI_row (show ¬ (67 : Nat) = 56 by omega)]
  exact ⟨by rw [sI_nf (by omega), sI_nf (by omega)]; exact G1, by rw [sI_nf (by omega), sI_nf (by omega)]; exact G2, by rw [sI_nf (by omega), sI_nf (by omega)]; exact G3, by rw [show g + 0 = g from rfl, sI_eq, sI_eq]; exact h, by rw [sI_nf (by omega), sI_nf (by omega)]; exact G5, by rw [sI_nf (by omega), sI_nf (by omega)]; exact G6, by rw [sI_nf (by omega), sI_nf (by omega), sI_nf (by omega), sI_ne (by omega), sI_ne (by omega), sI_ne (by omega)]; exact G7, G8, by rw [sI_nf (by omega), sI_nf (by omega)]; exact G9⟩
theorem GN.w3 {g nj e z : Nat} {v w : Int32} {σ τ : Sg} (G : GN g nj e z σ τ) (h : gB v w) : GN g nj e z (sI σ (g + 0) 3 v) (sI τ 56 30 w) := by
  obtain ⟨G1, G2, G3, G4, G5, G6, G7, G8, G9⟩ := G
  unfold GN
  rw [sI_row (show ¬ g + 1 = g + 0 by omega), sI_row (show ¬ g + 2 = g + 0 by omega), sI_row (show ¬ (65 : Nat) = 56 by omega), sI_row (show ¬ (67 : Nat) = 56 by omega)]
  exact ⟨by rw [sI_nf (by omega), sI_nf (by omega)]; exact G1, by rw [sI_nf (by omega), sI_nf (by omega)]; exact G2, by rw [sI_nf (by omega), sI_nf (by omega)]; exact G3, by rw [sI_nf (by omega), sI_nf (by omega)]; exact G4, by rw [show g + 0 = g from rfl, sI_eq, sI_eq]; exact h, by rw [sI_nf (by omega), sI_nf (by omega)]; exact G6, by rw [sI_nf (by omega), sI_nf (by omega), sI_nf (by omega), sI_ne (by omega), sI_ne (by omega), sI_ne (by omega)]; exact G7, G8, by rw [sI_nf (by omega), sI_nf (by omega)]; exact G9⟩
theorem GN.w4 {g nj e z : Nat} {v w : Int32} {σ τ : Sg} (G : GN g nj e z σ τ) (h : w = v) : GN g nj e z (sI σ (g + 0) 4 v) (sI τ 56 31 w) := by
  obtain ⟨G1, G2, G3, G4, G5, G6, G7, G8, G9⟩ := G
  unfold GN
  rw [sI_row (show ¬ g + 1 = g + 0 by omega), sI_row (show ¬ g + 2 = g + 0 by omega), sI_row (show ¬ (65 : Nat) = 56 by omega), sI_row (show ¬ (67 : Nat) = 56 by omega)]
  exact ⟨by rw [sI_nf (by omega), sI_nf (by omega)]; exact G1, by rw [sI_nf (by omega), sI_nf (by omega)]; exact G2, by rw [sI_nf (by omega), sI_nf (by omega)]; exact G3, by rw [sI_nf (by omega), sI_nf (by omega)]; exact G4, by rw [sI_nf (by omega), sI_nf (by omega)]; exact G5, by rw [sI_eq, show g + 0 = g from rfl, sI_eq]; exact h, by rw [sI_nf (by omega), sI_nf (by omega), sI_nf (by omega), sI_ne (by omega), sI_ne (by omega), sI_ne (by omega)]; exact G7, G8, by rw [sI_nf (by omega), sI_nf (by omega)]; exact G9⟩
theorem GN.w5 {g nj e z z2 : Nat} {v w : Int32} {σ τ : Sg} (G : GN g nj e z σ τ) (h : ∃ a, a ≤ 9 ∧ v = nI a ∧ w = nI a) (hz : z2 = 0) : GN g nj e z2 (sI σ (g + 0) 5 v) (sI τ 64 0 w) := by
  obtain ⟨G1, G2, G3, G4, G5, G6, G7, G8, G9⟩ := G
  unfold GN
  rw [sI_row (show ¬ g + 1 = g + 0 by omega), sI_row (show ¬ g + 2 = g + 0 by omega), sI_row (show ¬ (65 : Nat) = 64 by omega), sI_row (show ¬ (67 : Nat) = 64 by omega)]
  exact ⟨by rw [sI_nf (by omega), sI_ne (by omega)]; exact G1, by rw [sI_nf (by omega), sI_ne (by omega)]; exact G2, by rw [sI_nf (by omega), sI_ne (by omega)]; exact G3, by rw [sI_nf (by omega), sI_ne (by omega)]; exact G4, by rw [sI_nf (by omega), sI_ne (by omega)]; exact G5, by rw [sI_ne (by omega), sI_nf (by omega)]; exact G6, by
    obtain ⟨a, b, c, q1, q2, q3, q4, q5, q6, q7, q8, q9, q10⟩ := G7
    obtain ⟨d, h1, h2, h3⟩ := h
    rw [show g + 0 = g from rfl, sI_eq, sI_eq, sI_nf (by omega), sI_nf (by omega), sI_nf (by omega), sI_nf (by omega)]
    exact ⟨d, b, c, h1, q2, q3, by omega, h2, q6, q7, h3, q9, q10⟩, G8, by rw [sI_nf (by omega), sI_ne (by omega)]; exact G9⟩
theorem GN.w6 {g nj e z z2 : Nat} {v w : Int32} {σ τ : Sg} (G : GN g nj e z σ τ) (h : ∃ a, a ≤ 9 ∧ v = nI a ∧ w = nI a) (hz : z2 = 0) : GN g nj e z2 (sI σ (g + 0) 6 v) (sI τ 64 1 w) := by
  obtain ⟨G1, G2, G3, G4, G5, G6, G7, G8, G9⟩ := G
  unfold GN
  rw [sI_row (show ¬ g + 1 = g + 0 by omega), sI_row (show ¬ g + 2 = g + 0 by omega), sI_row (show ¬ (65 : Nat) = 64 by omega), sI_row (show ¬ (67 : Nat) = 64 by omega)]
  exact ⟨by rw [sI_nf (by omega), sI_ne (by omega)]; exact G1, by rw [sI_nf (by omega), sI_ne (by omega)]; exact G2, by rw [sI_nf (by omega), sI_ne (by omega)]; exact G3, by rw [sI_nf (by omega), sI_ne (by omega)]; exact G4, by rw [sI_nf (by omega), sI_ne (by omega)]; exact G5, by rw [sI_ne (by omega), sI_nf (by omega)]; exact G6, by
    obtain ⟨a, b, c, q1, q2, q3, q4, q5, q6, q7, q8, q9, q10⟩ := G7
    obtain ⟨d, h1, h2, h3⟩ := h
    rw [show g + 0 = g from rfl, sI_nf (show ¬ 5 = 6 by omega), sI_eq, sI_nf (show ¬ 7 = 6 by omega), sI_nf (show ¬ 0 = 1 by omega), sI_eq, sI_nf (show ¬ 2 = 1 by omega)]
    exact ⟨a, d, c, q1, h1, q3, by omega, q5, h2, q7, q8, h3, q10⟩, G8, by rw [sI_nf (by omega), sI_ne (by omega)]; exact G9⟩
theorem GN.w7 {g nj e z z2 : Nat} {v w : Int32} {σ τ : Sg} (G : GN g nj e z σ τ) (h : ∃ a, a ≤ 9 ∧ v = nI a ∧ w = nI a ∧ ∀ b c, σ.1 g 5 = nI b → σ.1 g 6 = nI c → b ≤ 9 → c ≤ 9 → z2 ≤ b + c + a) : GN g nj e z2 (sI σ (g + 0) 7 v) (sI τ 64 2 w) := by
  obtain ⟨G1, G2, G3, G4, G5, G6, G7, G8, G9⟩ := G
  unfold GN
  rw [sI_row (show ¬ g + 1 = g + 0 by omega), sI_row (show ¬ g + 2 = g + 0 by omega), sI_row (show ¬ (65 : Nat) = 64 by omega), sI_row (show ¬ (67 : Nat) = 64 by omega)]
  exact ⟨by rw [sI_nf (by omega), sI_ne (by omega)]; exact G1, by rw [sI_nf (by omega), sI_ne (by omega)]; exact G2, by rw [sI_nf (by omega), sI_ne (by omega)]; exact G3, by rw [sI_nf (by omega), sI_ne (by omega)]; exact G4, by rw [sI_nf (by omega), sI_ne (by omega)]; exact G5, by rw [sI_ne (by omega), sI_nf (by omega)]; exact G6, by
    obtain ⟨a, b, c, q1, q2, q3, q4, q5, q6, q7, q8, q9, q10⟩ := G7
    obtain ⟨d, h1, h2, h3, h4⟩ := h
    rw [show g + 0 = g from rfl, sI_nf (show ¬ 5 = 7 by omega), sI_nf (show ¬ 6 = 7 by omega), sI_eq, sI_nf (show ¬ 0 = 2 by omega), sI_nf (show ¬ 1 = 2 by omega), sI_eq]
    exact ⟨a, b, d, q1, q2, h1, h4 a b q5 q6 q1 q2, q5, q6, h2, q8, q9, h3⟩, G8, by rw [sI_nf (by omega), sI_ne (by omega)]; exact G9⟩
theorem MC.lt {τ τ' : Sg} {c : Nat} : ∀ (l : List Nat) (k : Nat), (∀ b, k ≤ b → b ≤ k + mlen l → τ'.1 c b = τ.1 c b) → MC τ c k l → MC τ' c k l
  | [], k, h, q => (h k (Nat.le_refl _) (Nat.le_refl _)).trans q
  | q :: r, k, h, ⟨h1, h2, h3⟩ => by
    rw [mlen] at h
    refine ⟨fun z => ?_, fun z y => ?_, fun z => ?_⟩
    · rw [if_pos z] at h
      exact ⟨(h k (Nat.le_refl _) (by omega)).trans (h1 z).1, MC.lt r _ (fun b b1 b2 => h b (by omega) (by omega)) (h1 z).2⟩
    · rw [if_neg (by omega)] at h
      exact ⟨(h k (Nat.le_refl _) (by omega)).trans (h2 z y).1, (h (k + 1) (by omega) (by omega)).trans (h2 z y).2.1, MC.lt r _ (fun b b1 b2 => h b (by omega) (by omega)) (h2 z y).2.2⟩
    · rw [if_neg (by omega)] at h
      exact ⟨(h k (Nat.le_refl _) (by omega)).trans (h3 z).1, (h (k + 1) (by omega) (by omega)).trans (h3 z).2.1, MC.lt r _ (fun b b1 b2 => h b (by omega) (by omega)) (h3 z).2.2⟩
theorem RuN.of {g m a0 k0 : Nat} {σ σ' τ τ' : Sg} (R : RuN g m a0 k0 σ τ) (hc : ∀ d b, 3 ≤ d → d ≤ 5 → σ'.1 (g + d) b = σ.1 (g + d) b) (h33 : τ'.1 56 33 = τ.1 56 33) (h36 : τ'.1 56 36 = τ.1 56 36) (h6 : ∀ b, τ'.1 66 b = τ.1 66 b) (h8 : ∀ b, τ'.1 68 b = τ.1 68 b) : RuN g m a0 k0 σ' τ' := by
  obtain ⟨r1, r2, r3, r4, r5, r6, r7⟩ := R
  refine ⟨r1, (hc 3 4 (by omega) (by omega)).trans r2, h33.trans r3, (hc 3 3 (by omega) (by omega)).trans r4, h36.trans r5, by rw [hc 5 _ (by omega) (by omega)]; exact r6, fun r hr => ?_⟩
  obtain ⟨a, k, ts, b1, b2, b3, b4, b5, b6, b7, b8, b9⟩ := r7 r hr
  exact ⟨a, k, ts, by rw [hc 5 _ (by omega) (by omega)]; exact b1, (hc 5 _ (by omega) (by omega)).trans b2, b3, CC.lt ts a (fun b _ _ => hc 4 b (by omega) (by omega)) b4, (h6 r).trans b5, b6, b7, MC.lt ts k (fun b _ _ => h8 b) b8, b9⟩
/-- all that is read so far -/
def LN (B : Nat → Nat) (n g nj e z m a0 k0 u p : Nat) (σ τ : Sg) : Prop := LK B n g p σ τ ∧ GN g nj e z σ τ ∧ RuN g m a0 k0 σ τ ∧ Se u σ τ
theorem LN.sm {B : Nat → Nat} {n g nj e z m a0 k0 u p p' : Nat} {σ τ σ' τ' : Sg} (hg : isGd g = true) (N : LN B n g nj e z m a0 k0 u p σ τ) (L : LK B n g p' σ' τ') (S : Sm σ τ σ' τ') : LN B n g nj e z m a0 k0 u p' σ' τ' := by
  obtain ⟨-, G, R, s0, s1, s2⟩ := N
  have c : ∀ d b, d ≤ 6 → σ'.1 (g + d) b = σ.1 (g + d) b := fun d b hd => S.1 _ _ (gd_ne hg hd (by omega)) (fun q => gd_ne hg hd (by omega) q.1)
  exact ⟨L, G.of (fun d b hd => c d b (by omega)) (fun b _ _ => S.2.2 _ _ (by omega)) (fun b => S.2.2 _ _ (by omega)) (fun b => S.2.2 _ _ (by omega)) (fun b => S.2.2 _ _ (by omega)), R.of (fun d b _ _ => c d b (by omega)) (S.2.2 _ _ (by omega)) (S.2.2 _ _ (by omega)) (fun b => S.2.2 _ _ (by omega)) (fun b => S.2.2 _ _ (by omega)), s0, (S.1 _ _ (by omega) (by omega)).trans s1, (S.2.2 _ _ (by omega)).trans s2⟩
theorem LN.once {B : Nat → Nat} {n g nj e z m a0 k0 u u' p p' : Nat} {σ τ σ' τ' : Sg} (hg : isGd g = true) (N : LN B n g nj e z m a0 k0 u p σ τ) (L : LK B n g p' σ' τ') (S : Se u' σ' τ') (h1 : ∀ a b, ¬ a = 15 → ¬ (a = 14 ∧ (b = 2 ∨ b = 3)) → σ'.1 a b = σ.1 a b) (h2 : ∀ a b, ¬ (a = 56 ∧ ((20 ≤ b ∧ b ≤ 26) ∨ b = 35)) → τ'.1 a b = τ.1 a b) : LN B n g nj e z m a0 k0 u' p' σ' τ' := by
  obtain ⟨-, G, R, -⟩ := N
  have c : ∀ d b, d ≤ 6 → σ'.1 (g + d) b = σ.1 (g + d) b := fun d b hd => h1 _ _ (gd_ne hg hd (by omega)) (fun q => gd_ne hg hd (by omega) q.1)
  exact ⟨L, G.of (fun d b hd => c d b (by omega)) (fun b _ _ => h2 _ _ (by omega)) (fun b => h2 _ _ (by omega)) (fun b => h2 _ _ (by omega)) (fun b => h2 _ _ (by omega)), R.of (fun d b _ _ => c d b (by omega)) (h2 _ _ (by omega)) (h2 _ _ (by omega)) (fun b => h2 _ _ (by omega)) (fun b => h2 _ _ (by omega)), S⟩
/-- a write into the garden, a write into the reference's fields -/
theorem LN.put {B : Nat → Nat} {n g nj e z nj' e' z' m a0 k0 u p d k a b : Nat} {v w : Int32} {σ τ : Sg} (hg : isGd g = true) (N : LN B n g nj e z m a0 k0 u p σ τ) (hd : d ≤ 2) (hab : (a = 56 ∧ 27 ≤ b ∧ b ≤ 34 ∧ ¬ b = 33) ∨ a = 64 ∨ a = 65 ∨ a = 67) (hG : GN g nj' e' z' (sI σ (g + d) k v) (sI τ a b w)) : LN B n g nj' e' z' m a0 k0 u p (sI σ (g + d) k v) (sI τ a b w) := by
  obtain ⟨⟨K, M, r, h0⟩, G, R, s0, s1, s2⟩ := N
  have ne : ∀ c, c < 35 → ¬ c = g + d := fun c hc q => gd_ne (d := d) hg (by omega) hc q.symm
  have t : ∀ {c x : Nat}, ¬ (c = a ∧ x = b) → (sI τ a b w).1 c x = τ.1 c x := fun h => by rw [sI_gt, if_neg h]
  exact ⟨⟨K.of (fun b => sI_ne (ne 15 (by omega))) rfl (fun b => sI_ne (ne 1 (by omega))), M.of (fun b _ _ => t (by omega)) (fun b => t (by omega)) rfl, r, (t (by omega)).trans h0⟩, hG, R.of (fun d' b h1 h2 => sI_ne (by omega)) (t (by omega)) (t (by omega)) (fun b => t (by omega)) (fun b => t (by omega)), s0, (sI_ne (ne 14 (by omega))).trans s1, (t (by omega)).trans s2⟩
/-- what a line's reading answers, both -/
def LR (B : Nat → Nat) (n g p : Nat) (rs : Option (Int32 × Sg)) (rt' : Option (Unit × Sg)) : Prop :=
  (∃ σ' τ' nj e m a0 k0 u p', rs = some (1, σ') ∧ rt' = f_X11_line_b292 τ' ∧ LN B n g nj e 1 m a0 k0 u p' σ' τ' ∧ p < p' ∧ p' ≤ n ∧ a0 ≤ p' ∧ k0 ≤ 2 * p' + 9) ∨ (∃ σ' τ', rs = some (0, σ') ∧ rt' = some ((), τ') ∧ Bd σ' τ')
theorem near_rel {B : Nat → Nat} {n g nj e m a0 k0 u p : Nat} {σ τ : Sg} (hn : n ≤ 600) (hB : ∀ i, i < n → B i < 256) (hg : isGd g = true) (hp : p ≤ n) (N : LN B n g nj e 1 m a0 k0 u p σ τ) (ha : a0 ≤ p) (hk : k0 ≤ 2 * p + 8) (h : tK B n p = 256 ∧ tW B n p = 10) : LR B n g p (f_X8_tellNear σ) (f_X11_line τ) := by
  have kn := knownM hn hp N.1.2.1
  rw [if_pos ⟨h.1, by omega⟩, h.2] at kn
  rw [f_X11_line, ex_cl kn, ex_bf (by decide), ex_bf (by decide), ex_bt (by decide), f_X8_tellNear]
  have tk := tok_at (B := B) hp
  rcases once_rel (i := 2) (x := 4) (y := nI 10) hn hB hp (by omega) N.1 N.2.2.2 (by omega) rfl rfl with ⟨σ1, τ1, c1, c2, L1, S1, o1, o2, o3, q1⟩ | ⟨σ1, τ1, c1, c2, c3⟩
  · have N1 := N.once hg L1 S1 o1 o3
    rw [ex_cl c1, ex_bf l1_0, ex_cl c2, ex_bf l1_0]
    rcases num_rel (lo := 0) (hi := 9) (x1 := 0) (x2 := 9) hn hB tk.2.2.2.1 L1 rfl rfl (by omega) (by omega) with ⟨σ2, τ2, v, p', d1, d2, L2, d3, d4, d5, d6, d7, d8⟩ | ⟨σ2, τ2, v, d1, d2, d3⟩
    · have N2 := N1.sm hg L2 d6
      rw [ex_cl d1, ex_bf l1_0, ex_dR, L2.2.2.1, ex_gd hg, ex_dI, d3, ex_pI, ex_rt, ex_cl d2, ex_pI]
      refine Or.inl ⟨sI σ2 (g + 0) 4 (nI v), sI τ2 56 31 (nI v), nj, e, m, a0, k0, _, p', rfl, rfl, N2.put hg (by omega) (Or.inl ⟨rfl, by omega, by omega, by omega⟩) ?_, by omega, d8, by omega, by omega⟩
      exact N2.2.1.w4 rfl
    · rw [ex_cl d1, ex_bt rfl, ex_rt, ex_cl d2, ex_pI]
      have bd := d3.of (τ' := sI τ2 56 31 v) (by rw [sI_nf (by omega)]) (by rw [sI_nf (by omega)])
      exact Or.inr ⟨_, _, rfl, b292_bad bd.bad, bd⟩
  · rw [ex_cl c1, ex_bt rfl, ex_rt, ex_cl c2, ex_bt rfl]
    exact Or.inr ⟨_, _, rfl, b292_bad c3.bad, c3⟩
