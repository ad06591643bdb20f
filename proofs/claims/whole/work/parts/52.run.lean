-- ===== a run: the class's cells in σ, the reference's in τ =====
def fl (j : Nat) : Nat := 19 + 2 * j
def fk (j : Nat) : Nat := 20 + 2 * j
theorem fl_eq {i j : Nat} : (fl i = fl j) ↔ i = j := by unfold fl; omega
theorem fk_eq {i j : Nat} : (fk i = fk j) ↔ i = j := by unfold fk; omega
theorem fl_fk {i j : Nat} : (fl i = fk j) = False := eq_false (by unfold fl fk; omega)
theorem fk_fl {i j : Nat} : (fk i = fl j) = False := eq_false (by unfold fl fk; omega)
theorem fl_17 {i : Nat} : (fl i = 17) = False := eq_false (by unfold fl; omega)
theorem fk_17 {i : Nat} : (fk i = 17) = False := eq_false (by unfold fk; omega)
theorem fl_28 {i : Nat} : (fl i = 28) = False := eq_false (by unfold fl; omega)
theorem fk_29 {i : Nat} : (fk i = 29) = False := eq_false (by unfold fk; omega)
theorem fl_29 {i : Nat} (h : i < 4) : (fl i = 29) = False := eq_false (by unfold fl; omega)
theorem fk_28 {i : Nat} (h : i < 4) : (fk i = 28) = False := eq_false (by unfold fk; omega)
theorem fl_27 {i : Nat} (h : i < 4) : (fl i = 27) = False := eq_false (by unfold fl; omega)
theorem fk_27 {i : Nat} : (fk i = 27) = False := eq_false (by unfold fk; omega)
theorem e17_fl {i : Nat} : (17 = fl i) = False := eq_false (by unfold fl; omega)
theorem e17_fk {i : Nat} : (17 = fk i) = False := eq_false (by unfold fk; omega)
theorem e28_fl {i : Nat} : (28 = fl i) = False := eq_false (by unfold fl; omega)
theorem e29_fk {i : Nat} : (29 = fk i) = False := eq_false (by unfold fk; omega)
theorem e29_fl {i : Nat} (h : i < 4) : (29 = fl i) = False := eq_false (by unfold fl; omega)
theorem e28_fk {i : Nat} (h : i < 4) : (28 = fk i) = False := eq_false (by unfold fk; omega)
theorem gd_fl {g j : Nat} (h : isGd g = true) (hj : j < 4) : (g = fl j) = False := eq_false (by rcases or3 h with rfl | rfl | rfl <;> unfold fl <;> omega)
theorem gd_fk {g j : Nat} (h : isGd g = true) (hj : j < 4) : (g = fk j) = False := eq_false (by rcases or3 h with rfl | rfl | rfl <;> unfold fk <;> omega)
theorem gd_17 {g : Nat} (h : isGd g = true) : (g = 17) = False := eq_false (by rcases or3 h with rfl | rfl | rfl <;> omega)
theorem gd_28 {g : Nat} (h : isGd g = true) : (g = 28) = False := eq_false (by rcases or3 h with rfl | rfl | rfl <;> omega)
theorem gd_29 {g : Nat} (h : isGd g = true) : (g = 29) = False := eq_false (by rcases or3 h with rfl | rfl | rfl <;> omega)
theorem gd_27 {g : Nat} (h : isGd g = true) : (g = 27) = False := eq_false (by rcases or3 h with rfl | rfl | rfl <;> omega)
theorem isFl_l {j : Nat} (h : j < 4) : isFl (fl j) = true := isFl_j h
theorem fl_at (j : Nat) : 18 + 1 + 2 * j = fl j := rfl
theorem fl_1 (j : Nat) : fl j + 1 = fk j := by unfold fl fk; omega
def ReC (g n s : Nat) (σ τ : Sg) : Prop := (isGd g = true ∧ σ.2.2 17 3 = g ∧ n ≤ 4 ∧ τ.1 56 6 = nI n ∧ 1 ≤ s ∧ s ≤ 9 ∧ σ.1 g 0 = nI s ∧ τ.1 56 1 = nI s) ∧
  (τ.1 56 2 = σ.1 g 1 ∧ τ.1 56 3 = σ.1 g 2 ∧ τ.1 56 4 = σ.1 g 3 ∧ τ.1 56 5 = σ.1 g 4 ∧ τ.1 56 46 = σ.1 17 4) ∧
  (∀ j, j < 4 → σ.1 (fl j) 0 = nI j) ∧
  (∀ j, j < n → τ.1 58 (6 * j) = σ.1 (fl j) 1 ∧ τ.1 58 (6 * j + 1) = σ.1 (fl j) 2 ∧ τ.1 58 (6 * j + 5) = σ.1 (fl j) 4)
/-- what one does; who is not there is away in the class, out in the reference -/
def ReD (n : Nat) (σ τ : Sg) : Prop := ∀ j, j < 4 → (σ.1 (fl j) 5 = 4 ∧ τ.1 73 j = 3) ∨ (j < n ∧ (σ.1 (fl j) 5 = 0 ∨ σ.1 (fl j) 5 = 1 ∨ σ.1 (fl j) 5 = 2 ∨ σ.1 (fl j) 5 = 3) ∧ τ.1 73 j = σ.1 (fl j) 5 ∧ τ.1 75 j = σ.1 (fl j) 9)
def ReF (n : Nat) (σ τ : Sg) : Prop := ∀ j, j < n → τ.1 74 j = σ.1 (fl j) 6 ∧ τ.1 76 j = σ.1 (fl j) 7 ∧ τ.1 77 j = σ.1 (fl j) 8 ∧ τ.1 78 j = σ.1 (fl j) 10 ∧ τ.1 79 j = σ.1 (fl j) 11 ∧ τ.1 80 j = σ.1 (fl j) 12 ∧ τ.1 81 j = σ.1 (fl j) 13 ∧ τ.1 82 j = σ.1 (fl j) 14
def ReK (n : Nat) (σ τ : Sg) : Prop := ∀ j, j < n → ∀ k, k < 6 → τ.1 83 (6 * j + k) = σ.1 (fk j) k
def ReZ (n : Nat) (σ : Sg) : Prop := (∀ j, n ≤ j → j < 4 → σ.1 (fl j) 12 = 0 ∧ σ.1 (fl j) 13 = 0) ∧ (∀ j, j < 4 → σ.1 (fl j) 5 = 0 → σ.1 (fl j) 3 = σ.1 (fl j) 7)
def ReL (L : Nat) (σ τ : Sg) : Prop := σ.1 28 1 = nI L ∧ τ.1 56 64 = nI L ∧ ∀ i, i < 5 * L → τ.1 85 i = σ.1 29 i
def ReS (σ τ : Sg) : Prop := τ.1 56 66 = σ.1 17 9 ∧ τ.1 56 68 = σ.1 17 10 ∧ τ.1 56 69 = σ.1 17 11 ∧ τ.1 56 70 = σ.1 17 12 ∧ τ.1 56 71 = σ.1 17 13 ∧ τ.1 56 72 = σ.1 17 14 ∧ τ.1 56 73 = σ.1 17 15
def ReT (n : Nat) (σ τ : Sg) : Prop := (σ.1 17 6 = 1 ∧ τ.1 56 65 = -1) ∨ (σ.1 17 6 = 0 ∧ ∃ b i, b ≤ 600 ∧ i < n ∧ σ.1 17 7 = nI b ∧ τ.1 56 65 = nI b ∧ σ.2.2 17 8 = fl i ∧ τ.1 56 67 = nI i)
def Re (g n s L : Nat) (σ τ : Sg) : Prop := ReC g n s σ τ ∧ ReD n σ τ ∧ ReF n σ τ ∧ ReK n σ τ ∧ ReZ n σ ∧ ReL L σ τ ∧ ReS σ τ ∧ ReT n σ τ
theorem neg1_ne {b : Nat} (h : b ≤ 600) : ¬ nI b = -1 := by
  intro e
  have h1 := nI_toInt (n := b) (by omega)
  rw [e] at h1
  have : (-1 : Int32).toInt = -1 := by decide
  omega
theorem re_f6 {g n s L j : Nat} {σ τ : Sg} (R : Re g n s L σ τ) (hj : j < n) (v : Int32) : Re g n s L (sI σ (fl j) 6 v) (sI τ 74 j v) := by
  obtain ⟨hC, hD, hF, hK, hZ, hL, hS, hT⟩ := R
  have hn4 : n ≤ 4 := hC.1.2.2.1
  have hj4 : j < 4 := by omega
  have hg1 := gd_fl hC.1.1 hj4
  have hg2 := gd_fk hC.1.1 hj4
  refine ⟨?_, ?_, ?_, ?_, ?_, ?_, ?_, ?_⟩
  · simpa [ReC, sI_gt, sI_2, fl_eq, fk_eq, fl_fk, fk_fl, e17_fl, e17_fk, e28_fl, e29_fk, e29_fl hj4, e28_fk hj4, hg1, hg2] using hC
  · simpa [ReD, sI_gt, sI_2, fl_eq, fk_eq, fl_fk, fk_fl, e17_fl, e17_fk, e28_fl, e29_fk, e29_fl hj4, e28_fk hj4, hg1, hg2] using hD
  · intro i hi
    obtain ⟨f1, f2, f3, f4, f5, f6, f7, f8⟩ := hF i hi
    by_cases e : i = j
    · subst e; simp [sI_gt, sI_2, fl_eq, fk_eq, fl_fk, fk_fl, e17_fl, e17_fk, e28_fl, e29_fk, e29_fl hj4, e28_fk hj4, hg1, hg2, f1, f2, f3, f4, f5, f6, f7, f8]
    · simp [sI_gt, sI_2, fl_eq, fk_eq, fl_fk, fk_fl, e17_fl, e17_fk, e28_fl, e29_fk, e29_fl hj4, e28_fk hj4, hg1, hg2, e, f1, f2, f3, f4, f5, f6, f7, f8]
  · intro i hi k hk
    simpa [sI_gt, sI_2, fl_eq, fk_eq, fl_fk, fk_fl, e17_fl, e17_fk, e28_fl, e29_fk, e29_fl hj4, e28_fk hj4, hg1, hg2] using hK i hi k hk
  · simpa [ReZ, sI_gt, sI_2, fl_eq, fk_eq, fl_fk, fk_fl, e17_fl, e17_fk, e28_fl, e29_fk, e29_fl hj4, e28_fk hj4, hg1, hg2] using hZ
  · simpa [ReL, sI_gt, sI_2, fl_eq, fk_eq, fl_fk, fk_fl, e17_fl, e17_fk, e28_fl, e29_fk, e29_fl hj4, e28_fk hj4, hg1, hg2] using hL
  · simpa [ReS, sI_gt, sI_2, fl_eq, fk_eq, fl_fk, fk_fl, e17_fl, e17_fk, e28_fl, e29_fk, e29_fl hj4, e28_fk hj4, hg1, hg2] using hS
  · simpa [ReT, sI_gt, sI_2, fl_eq, fk_eq, fl_fk, fk_fl, e17_fl, e17_fk, e28_fl, e29_fk, e29_fl hj4, e28_fk hj4, hg1, hg2] using hT
theorem re_f7 {g n s L j : Nat} {σ τ : Sg} (R : Re g n s L σ τ) (hj : j < n) (h0 : ¬ σ.1 (fl j) 5 = 0) (v : Int32) : Re g n s L (sI σ (fl j) 7 v) (sI τ 76 j v) := by
  obtain ⟨hC, hD, hF, hK, hZ, hL, hS, hT⟩ := R
  have hn4 : n ≤ 4 := hC.1.2.2.1
  have hj4 : j < 4 := by omega
  have hg1 := gd_fl hC.1.1 hj4
  have hg2 := gd_fk hC.1.1 hj4
  refine ⟨?_, ?_, ?_, ?_, ?_, ?_, ?_, ?_⟩
  · simpa [ReC, sI_gt, sI_2, fl_eq, fk_eq, fl_fk, fk_fl, e17_fl, e17_fk, e28_fl, e29_fk, e29_fl hj4, e28_fk hj4, hg1, hg2] using hC
  · simpa [ReD, sI_gt, sI_2, fl_eq, fk_eq, fl_fk, fk_fl, e17_fl, e17_fk, e28_fl, e29_fk, e29_fl hj4, e28_fk hj4, hg1, hg2] using hD
  · intro i hi
    obtain ⟨f1, f2, f3, f4, f5, f6, f7, f8⟩ := hF i hi
    by_cases e : i = j
    · subst e; simp [sI_gt, sI_2, fl_eq, fk_eq, fl_fk, fk_fl, e17_fl, e17_fk, e28_fl, e29_fk, e29_fl hj4, e28_fk hj4, hg1, hg2, f1, f2, f3, f4, f5, f6, f7, f8]
    · simp [sI_gt, sI_2, fl_eq, fk_eq, fl_fk, fk_fl, e17_fl, e17_fk, e28_fl, e29_fk, e29_fl hj4, e28_fk hj4, hg1, hg2, e, f1, f2, f3, f4, f5, f6, f7, f8]
  · intro i hi k hk
    simpa [sI_gt, sI_2, fl_eq, fk_eq, fl_fk, fk_fl, e17_fl, e17_fk, e28_fl, e29_fk, e29_fl hj4, e28_fk hj4, hg1, hg2] using hK i hi k hk
  · refine ⟨fun i h1 h2 => ?_, fun i h1 h2 => ?_⟩
    · have h := hZ.1 i h1 h2
      simpa [sI_gt, sI_2, fl_eq, fk_eq, fl_fk, fk_fl, e17_fl, e17_fk, e28_fl, e29_fk, e29_fl hj4, e28_fk hj4, hg1, hg2] using h
    · have h := hZ.2 i h1
      simp only [sI_gt, sI_2, fl_eq, fk_eq, fl_fk, fk_fl, e17_fl, e17_fk, e28_fl, e29_fk, e29_fl hj4, e28_fk hj4, hg1, hg2, Nat.reduceEqDiff, and_false, if_false] at h2 ⊢
      have e : ¬ i = j := fun e => h0 (e ▸ h2)
      simpa [e] using h h2
  · simpa [ReL, sI_gt, sI_2, fl_eq, fk_eq, fl_fk, fk_fl, e17_fl, e17_fk, e28_fl, e29_fk, e29_fl hj4, e28_fk hj4, hg1, hg2] using hL
  · simpa [ReS, sI_gt, sI_2, fl_eq, fk_eq, fl_fk, fk_fl, e17_fl, e17_fk, e28_fl, e29_fk, e29_fl hj4, e28_fk hj4, hg1, hg2] using hS
  · simpa [ReT, sI_gt, sI_2, fl_eq, fk_eq, fl_fk, fk_fl, e17_fl, e17_fk, e28_fl, e29_fk, e29_fl hj4, e28_fk hj4, hg1, hg2] using hT
theorem re_f8 {g n s L j : Nat} {σ τ : Sg} (R : Re g n s L σ τ) (hj : j < n) (v : Int32) : Re g n s L (sI σ (fl j) 8 v) (sI τ 77 j v) := by
  obtain ⟨hC, hD, hF, hK, hZ, hL, hS, hT⟩ := R
  have hn4 : n ≤ 4 := hC.1.2.2.1
  have hj4 : j < 4 := by omega
  have hg1 := gd_fl hC.1.1 hj4
  have hg2 := gd_fk hC.1.1 hj4
  refine ⟨?_, ?_, ?_, ?_, ?_, ?_, ?_, ?_⟩
  · simpa [ReC, sI_gt, sI_2, fl_eq, fk_eq, fl_fk, fk_fl, e17_fl, e17_fk, e28_fl, e29_fk, e29_fl hj4, e28_fk hj4, hg1, hg2] using hC
  · simpa [ReD, sI_gt, sI_2, fl_eq, fk_eq, fl_fk, fk_fl, e17_fl, e17_fk, e28_fl, e29_fk, e29_fl hj4, e28_fk hj4, hg1, hg2] using hD
  · intro i hi
    obtain ⟨f1, f2, f3, f4, f5, f6, f7, f8⟩ := hF i hi
    by_cases e : i = j
    · subst e; simp [sI_gt, sI_2, fl_eq, fk_eq, fl_fk, fk_fl, e17_fl, e17_fk, e28_fl, e29_fk, e29_fl hj4, e28_fk hj4, hg1, hg2, f1, f2, f3, f4, f5, f6, f7, f8]
    · simp [sI_gt, sI_2, fl_eq, fk_eq, fl_fk, fk_fl, e17_fl, e17_fk, e28_fl, e29_fk, e29_fl hj4, e28_fk hj4, hg1, hg2, e, f1, f2, f3, f4, f5, f6, f7, f8]
  · intro i hi k hk
    simpa [sI_gt, sI_2, fl_eq, fk_eq, fl_fk, fk_fl, e17_fl, e17_fk, e28_fl, e29_fk, e29_fl hj4, e28_fk hj4, hg1, hg2] using hK i hi k hk
  · simpa [ReZ, sI_gt, sI_2, fl_eq, fk_eq, fl_fk, fk_fl, e17_fl, e17_fk, e28_fl, e29_fk, e29_fl hj4, e28_fk hj4, hg1, hg2] using hZ
  · simpa [ReL, sI_gt, sI_2, fl_eq, fk_eq, fl_fk, fk_fl, e17_fl, e17_fk, e28_fl, e29_fk, e29_fl hj4, e28_fk hj4, hg1, hg2] using hL
  · simpa [ReS, sI_gt, sI_2, fl_eq, fk_eq, fl_fk, fk_fl, e17_fl, e17_fk, e28_fl, e29_fk, e29_fl hj4, e28_fk hj4, hg1, hg2] using hS
  · simpa [ReT, sI_gt, sI_2, fl_eq, fk_eq, fl_fk, fk_fl, e17_fl, e17_fk, e28_fl, e29_fk, e29_fl hj4, e28_fk hj4, hg1, hg2] using hT
theorem re_f10 {g n s L j : Nat} {σ τ : Sg} (R : Re g n s L σ τ) (hj : j < n) (v : Int32) : Re g n s L (sI σ (fl j) 10 v) (sI τ 78 j v) := by
  obtain ⟨hC, hD, hF, hK, hZ, hL, hS, hT⟩ := R
  have hn4 : n ≤ 4 := hC.1.2.2.1
  have hj4 : j < 4 := by omega
  have hg1 := gd_fl hC.1.1 hj4
  have hg2 := gd_fk hC.1.1 hj4
  refine ⟨?_, ?_, ?_, ?_, ?_, ?_, ?_, ?_⟩
  · simpa [ReC, sI_gt, sI_2, fl_eq, fk_eq, fl_fk, fk_fl, e17_fl, e17_fk, e28_fl, e29_fk, e29_fl hj4, e28_fk hj4, hg1, hg2] using hC
  · simpa [ReD, sI_gt, sI_2, fl_eq, fk_eq, fl_fk, fk_fl, e17_fl, e17_fk, e28_fl, e29_fk, e29_fl hj4, e28_fk hj4, hg1, hg2] using hD
  · intro i hi
    obtain ⟨f1, f2, f3, f4, f5, f6, f7, f8⟩ := hF i hi
    by_cases e : i = j
    · subst e; simp [sI_gt, sI_2, fl_eq, fk_eq, fl_fk, fk_fl, e17_fl, e17_fk, e28_fl, e29_fk, e29_fl hj4, e28_fk hj4, hg1, hg2, f1, f2, f3, f4, f5, f6, f7, f8]
    · simp [sI_gt, sI_2, fl_eq, fk_eq, fl_fk, fk_fl, e17_fl, e17_fk, e28_fl, e29_fk, e29_fl hj4, e28_fk hj4, hg1, hg2, e, f1, f2, f3, f4, f5, f6, f7, f8]
  · intro i hi k hk
    simpa [sI_gt, sI_2, fl_eq, fk_eq, fl_fk, fk_fl, e17_fl, e17_fk, e28_fl, e29_fk, e29_fl hj4, e28_fk hj4, hg1, hg2] using hK i hi k hk
  · simpa [ReZ, sI_gt, sI_2, fl_eq, fk_eq, fl_fk, fk_fl, e17_fl, e17_fk, e28_fl, e29_fk, e29_fl hj4, e28_fk hj4, hg1, hg2] using hZ
  · simpa [ReL, sI_gt, sI_2, fl_eq, fk_eq, fl_fk, fk_fl, e17_fl, e17_fk, e28_fl, e29_fk, e29_fl hj4, e28_fk hj4, hg1, hg2] using hL
  · simpa [ReS, sI_gt, sI_2, fl_eq, fk_eq, fl_fk, fk_fl, e17_fl, e17_fk, e28_fl, e29_fk, e29_fl hj4, e28_fk hj4, hg1, hg2] using hS
  · simpa [ReT, sI_gt, sI_2, fl_eq, fk_eq, fl_fk, fk_fl, e17_fl, e17_fk, e28_fl, e29_fk, e29_fl hj4, e28_fk hj4, hg1, hg2] using hT
theorem re_f11 {g n s L j : Nat} {σ τ : Sg} (R : Re g n s L σ τ) (hj : j < n) (v : Int32) : Re g n s L (sI σ (fl j) 11 v) (sI τ 79 j v) := by
  obtain ⟨hC, hD, hF, hK, hZ, hL, hS, hT⟩ := R
  have hn4 : n ≤ 4 := hC.1.2.2.1
  have hj4 : j < 4 := by omega
  have hg1 := gd_fl hC.1.1 hj4
  have hg2 := gd_fk hC.1.1 hj4
  refine ⟨?_, ?_, ?_, ?_, ?_, ?_, ?_, ?_⟩
  · simpa [ReC, sI_gt, sI_2, fl_eq, fk_eq, fl_fk, fk_fl, e17_fl, e17_fk, e28_fl, e29_fk, e29_fl hj4, e28_fk hj4, hg1, hg2] using hC
  · simpa [ReD, sI_gt, sI_2, fl_eq, fk_eq, fl_fk, fk_fl, e17_fl, e17_fk, e28_fl, e29_fk, e29_fl hj4, e28_fk hj4, hg1, hg2] using hD
  · intro i hi
    obtain ⟨f1, f2, f3, f4, f5, f6, f7, f8⟩ := hF i hi
    by_cases e : i = j
    · subst e; simp [sI_gt, sI_2, fl_eq, fk_eq, fl_fk, fk_fl, e17_fl, e17_fk, e28_fl, e29_fk, e29_fl hj4, e28_fk hj4, hg1, hg2, f1, f2, f3, f4, f5, f6, f7, f8]
    · simp [sI_gt, sI_2, fl_eq, fk_eq, fl_fk, fk_fl, e17_fl, e17_fk, e28_fl, e29_fk, e29_fl hj4, e28_fk hj4, hg1, hg2, e, f1, f2, f3, f4, f5, f6, f7, f8]
  · intro i hi k hk
    simpa [sI_gt, sI_2, fl_eq, fk_eq, fl_fk, fk_fl, e17_fl, e17_fk, e28_fl, e29_fk, e29_fl hj4, e28_fk hj4, hg1, hg2] using hK i hi k hk
  · simpa [ReZ, sI_gt, sI_2, fl_eq, fk_eq, fl_fk, fk_fl, e17_fl, e17_fk, e28_fl, e29_fk, e29_fl hj4, e28_fk hj4, hg1, hg2] using hZ
  · simpa [ReL, sI_gt, sI_2, fl_eq, fk_eq, fl_fk, fk_fl, e17_fl, e17_fk, e28_fl, e29_fk, e29_fl hj4, e28_fk hj4, hg1, hg2] using hL
  · simpa [ReS, sI_gt, sI_2, fl_eq, fk_eq, fl_fk, fk_fl, e17_fl, e17_fk, e28_fl, e29_fk, e29_fl hj4, e28_fk hj4, hg1, hg2] using hS
  · simpa [ReT, sI_gt, sI_2, fl_eq, fk_eq, fl_fk, fk_fl, e17_fl, e17_fk, e28_fl, e29_fk, e29_fl hj4, e28_fk hj4, hg1, hg2] using hT
theorem re_f12 {g n s L j : Nat} {σ τ : Sg} (R : Re g n s L σ τ) (hj : j < n) (v : Int32) : Re g n s L (sI σ (fl j) 12 v) (sI τ 80 j v) := by
  obtain ⟨hC, hD, hF, hK, hZ, hL, hS, hT⟩ := R
  have hn4 : n ≤ 4 := hC.1.2.2.1
  have hj4 : j < 4 := by omega
  have hg1 := gd_fl hC.1.1 hj4
  have hg2 := gd_fk hC.1.1 hj4
  refine ⟨?_, ?_, ?_, ?_, ?_, ?_, ?_, ?_⟩
  · simpa [ReC, sI_gt, sI_2, fl_eq, fk_eq, fl_fk, fk_fl, e17_fl, e17_fk, e28_fl, e29_fk, e29_fl hj4, e28_fk hj4, hg1, hg2] using hC
  · simpa [ReD, sI_gt, sI_2, fl_eq, fk_eq, fl_fk, fk_fl, e17_fl, e17_fk, e28_fl, e29_fk, e29_fl hj4, e28_fk hj4, hg1, hg2] using hD
  · intro i hi
    obtain ⟨f1, f2, f3, f4, f5, f6, f7, f8⟩ := hF i hi
    by_cases e : i = j
    · subst e; simp [sI_gt, sI_2, fl_eq, fk_eq, fl_fk, fk_fl, e17_fl, e17_fk, e28_fl, e29_fk, e29_fl hj4, e28_fk hj4, hg1, hg2, f1, f2, f3, f4, f5, f6, f7, f8]
    · simp [sI_gt, sI_2, fl_eq, fk_eq, fl_fk, fk_fl, e17_fl, e17_fk, e28_fl, e29_fk, e29_fl hj4, e28_fk hj4, hg1, hg2, e, f1, f2, f3, f4, f5, f6, f7, f8]
  · intro i hi k hk
    simpa [sI_gt, sI_2, fl_eq, fk_eq, fl_fk, fk_fl, e17_fl, e17_fk, e28_fl, e29_fk, e29_fl hj4, e28_fk hj4, hg1, hg2] using hK i hi k hk
  · refine ⟨fun i h1 h2 => ?_, fun i h1 h2 => ?_⟩
    · have h := hZ.1 i h1 h2
      have e : ¬ i = j := by omega
      simpa [sI_gt, sI_2, fl_eq, fk_eq, fl_fk, fk_fl, e17_fl, e17_fk, e28_fl, e29_fk, e29_fl hj4, e28_fk hj4, hg1, hg2, e] using h
    · have h := hZ.2 i h1
      simp only [sI_gt, sI_2, fl_eq, fk_eq, fl_fk, fk_fl, e17_fl, e17_fk, e28_fl, e29_fk, e29_fl hj4, e28_fk hj4, hg1, hg2, Nat.reduceEqDiff, and_false, if_false] at h2 ⊢
      exact h h2
  · simpa [ReL, sI_gt, sI_2, fl_eq, fk_eq, fl_fk, fk_fl, e17_fl, e17_fk, e28_fl, e29_fk, e29_fl hj4, e28_fk hj4, hg1, hg2] using hL
  · simpa [ReS, sI_gt, sI_2, fl_eq, fk_eq, fl_fk, fk_fl, e17_fl, e17_fk, e28_fl, e29_fk, e29_fl hj4, e28_fk hj4, hg1, hg2] using hS
  · simpa [ReT, sI_gt, sI_2, fl_eq, fk_eq, fl_fk, fk_fl, e17_fl, e17_fk, e28_fl, e29_fk, e29_fl hj4, e28_fk hj4, hg1, hg2] using hT
theorem re_f13 {g n s L j : Nat} {σ τ : Sg} (R : Re g n s L σ τ) (hj : j < n) (v : Int32) : Re g n s L (sI σ (fl j) 13 v) (sI τ 81 j v) := by
  obtain ⟨hC, hD, hF, hK, hZ, hL, hS, hT⟩ := R
  have hn4 : n ≤ 4 := hC.1.2.2.1
  have hj4 : j < 4 := by omega
  have hg1 := gd_fl hC.1.1 hj4
  have hg2 := gd_fk hC.1.1 hj4
  refine ⟨?_, ?_, ?_, ?_, ?_, ?_, ?_, ?_⟩
  · simpa [ReC, sI_gt, sI_2, fl_eq, fk_eq, fl_fk, fk_fl, e17_fl, e17_fk, e28_fl, e29_fk, e29_fl hj4, e28_fk hj4, hg1, hg2] using hC
  · simpa [ReD, sI_gt, sI_2, fl_eq, fk_eq, fl_fk, fk_fl, e17_fl, e17_fk, e28_fl, e29_fk, e29_fl hj4, e28_fk hj4, hg1, hg2] using hD
  · intro i hi
    obtain ⟨f1, f2, f3, f4, f5, f6, f7, f8⟩ := hF i hi
    by_cases e : i = j
    · subst e; simp [sI_gt, sI_2, fl_eq, fk_eq, fl_fk, fk_fl, e17_fl, e17_fk, e28_fl, e29_fk, e29_fl hj4, e28_fk hj4, hg1, hg2, f1, f2, f3, f4, f5, f6, f7, f8]
    · simp [sI_gt, sI_2, fl_eq, fk_eq, fl_fk, fk_fl, e17_fl, e17_fk, e28_fl, e29_fk, e29_fl hj4, e28_fk hj4, hg1, hg2, e, f1, f2, f3, f4, f5, f6, f7, f8]
  · intro i hi k hk
    simpa [sI_gt, sI_2, fl_eq, fk_eq, fl_fk, fk_fl, e17_fl, e17_fk, e28_fl, e29_fk, e29_fl hj4, e28_fk hj4, hg1, hg2] using hK i hi k hk
  · refine ⟨fun i h1 h2 => ?_, fun i h1 h2 => ?_⟩
    · have h := hZ.1 i h1 h2
      have e : ¬ i = j := by omega
      simpa [sI_gt, sI_2, fl_eq, fk_eq, fl_fk, fk_fl, e17_fl, e17_fk, e28_fl, e29_fk, e29_fl hj4, e28_fk hj4, hg1, hg2, e] using h
    · have h := hZ.2 i h1
      simp only [sI_gt, sI_2, fl_eq, fk_eq, fl_fk, fk_fl, e17_fl, e17_fk, e28_fl, e29_fk, e29_fl hj4, e28_fk hj4, hg1, hg2, Nat.reduceEqDiff, and_false, if_false] at h2 ⊢
      exact h h2
  · simpa [ReL, sI_gt, sI_2, fl_eq, fk_eq, fl_fk, fk_fl, e17_fl, e17_fk, e28_fl, e29_fk, e29_fl hj4, e28_fk hj4, hg1, hg2] using hL
  · simpa [ReS, sI_gt, sI_2, fl_eq, fk_eq, fl_fk, fk_fl, e17_fl, e17_fk, e28_fl, e29_fk, e29_fl hj4, e28_fk hj4, hg1, hg2] using hS
  · simpa [ReT, sI_gt, sI_2, fl_eq, fk_eq, fl_fk, fk_fl, e17_fl, e17_fk, e28_fl, e29_fk, e29_fl hj4, e28_fk hj4, hg1, hg2] using hT
theorem re_f14 {g n s L j : Nat} {σ τ : Sg} (R : Re g n s L σ τ) (hj : j < n) (v : Int32) : Re g n s L (sI σ (fl j) 14 v) (sI τ 82 j v) := by
  obtain ⟨hC, hD, hF, hK, hZ, hL, hS, hT⟩ := R
  have hn4 : n ≤ 4 := hC.1.2.2.1
  have hj4 : j < 4 := by omega
  have hg1 := gd_fl hC.1.1 hj4
  have hg2 := gd_fk hC.1.1 hj4
  refine ⟨?_, ?_, ?_, ?_, ?_, ?_, ?_, ?_⟩
  · simpa [ReC, sI_gt, sI_2, fl_eq, fk_eq, fl_fk, fk_fl, e17_fl, e17_fk, e28_fl, e29_fk, e29_fl hj4, e28_fk hj4, hg1, hg2] using hC
  · simpa [ReD, sI_gt, sI_2, fl_eq, fk_eq, fl_fk, fk_fl, e17_fl, e17_fk, e28_fl, e29_fk, e29_fl hj4, e28_fk hj4, hg1, hg2] using hD
  · intro i hi
    obtain ⟨f1, f2, f3, f4, f5, f6, f7, f8⟩ := hF i hi
    by_cases e : i = j
    · subst e; simp [sI_gt, sI_2, fl_eq, fk_eq, fl_fk, fk_fl, e17_fl, e17_fk, e28_fl, e29_fk, e29_fl hj4, e28_fk hj4, hg1, hg2, f1, f2, f3, f4, f5, f6, f7, f8]
    · simp [sI_gt, sI_2, fl_eq, fk_eq, fl_fk, fk_fl, e17_fl, e17_fk, e28_fl, e29_fk, e29_fl hj4, e28_fk hj4, hg1, hg2, e, f1, f2, f3, f4, f5, f6, f7, f8]
  · intro i hi k hk
    simpa [sI_gt, sI_2, fl_eq, fk_eq, fl_fk, fk_fl, e17_fl, e17_fk, e28_fl, e29_fk, e29_fl hj4, e28_fk hj4, hg1, hg2] using hK i hi k hk
  · simpa [ReZ, sI_gt, sI_2, fl_eq, fk_eq, fl_fk, fk_fl, e17_fl, e17_fk, e28_fl, e29_fk, e29_fl hj4, e28_fk hj4, hg1, hg2] using hZ
  · simpa [ReL, sI_gt, sI_2, fl_eq, fk_eq, fl_fk, fk_fl, e17_fl, e17_fk, e28_fl, e29_fk, e29_fl hj4, e28_fk hj4, hg1, hg2] using hL
  · simpa [ReS, sI_gt, sI_2, fl_eq, fk_eq, fl_fk, fk_fl, e17_fl, e17_fk, e28_fl, e29_fk, e29_fl hj4, e28_fk hj4, hg1, hg2] using hS
  · simpa [ReT, sI_gt, sI_2, fl_eq, fk_eq, fl_fk, fk_fl, e17_fl, e17_fk, e28_fl, e29_fk, e29_fl hj4, e28_fk hj4, hg1, hg2] using hT
theorem re_s9 {g n s L : Nat} {σ τ : Sg} (R : Re g n s L σ τ) (v : Int32) : Re g n s L (sI σ 17 9 v) (sI τ 56 66 v) := by
  obtain ⟨hC, hD, hF, hK, hZ, hL, hS, hT⟩ := R
  have hg := gd_17 hC.1.1
  refine ⟨?_, ?_, ?_, ?_, ?_, ?_, ?_, ?_⟩
  · simpa [ReC, sI_gt, sI_2, fl_17, fk_17, hg] using hC
  · simpa [ReD, sI_gt, sI_2, fl_17, fk_17] using hD
  · simpa [ReF, sI_gt, sI_2, fl_17, fk_17] using hF
  · simpa [ReK, sI_gt, sI_2, fl_17, fk_17] using hK
  · simpa [ReZ, sI_gt, sI_2, fl_17, fk_17] using hZ
  · simpa [ReL, sI_gt, sI_2, fl_17, fk_17] using hL
  · obtain ⟨s1, s2, s3, s4, s5, s6, s7⟩ := hS
    simp [ReS, sI_gt, sI_2, fl_17, fk_17, s1, s2, s3, s4, s5, s6, s7]
  · simpa [ReT, sI_gt, sI_2, fl_17, fk_17] using hT
theorem re_s10 {g n s L : Nat} {σ τ : Sg} (R : Re g n s L σ τ) (v : Int32) : Re g n s L (sI σ 17 10 v) (sI τ 56 68 v) := by
  obtain ⟨hC, hD, hF, hK, hZ, hL, hS, hT⟩ := R
  have hg := gd_17 hC.1.1
  refine ⟨?_, ?_, ?_, ?_, ?_, ?_, ?_, ?_⟩
  · simpa [ReC, sI_gt, sI_2, fl_17, fk_17, hg] using hC
  · simpa [ReD, sI_gt, sI_2, fl_17, fk_17] using hD
  · simpa [ReF, sI_gt, sI_2, fl_17, fk_17] using hF
  · simpa [ReK, sI_gt, sI_2, fl_17, fk_17] using hK
  · simpa [ReZ, sI_gt, sI_2, fl_17, fk_17] using hZ
  · simpa [ReL, sI_gt, sI_2, fl_17, fk_17] using hL
  · obtain ⟨s1, s2, s3, s4, s5, s6, s7⟩ := hS
    simp [ReS, sI_gt, sI_2, fl_17, fk_17, s1, s2, s3, s4, s5, s6, s7]
  · simpa [ReT, sI_gt, sI_2, fl_17, fk_17] using hT
theorem re_s11 {g n s L : Nat} {σ τ : Sg} (R : Re g n s L σ τ) (v : Int32) : Re g n s L (sI σ 17 11 v) (sI τ 56 69 v) := by
  obtain ⟨hC, hD, hF, hK, hZ, hL, hS, hT⟩ := R
  have hg := gd_17 hC.1.1
  refine ⟨?_, ?_, ?_, ?_, ?_, ?_, ?_, ?_⟩
  · simpa [ReC, sI_gt, sI_2, fl_17, fk_17, hg] using hC
  · simpa [ReD, sI_gt, sI_2, fl_17, fk_17] using hD
  · simpa [ReF, sI_gt, sI_2, fl_17, fk_17] using hF
  · simpa [ReK, sI_gt, sI_2, fl_17, fk_17] using hK
  · simpa [ReZ, sI_gt, sI_2, fl_17, fk_17] using hZ
  · simpa [ReL, sI_gt, sI_2, fl_17, fk_17] using hL
  · obtain ⟨s1, s2, s3, s4, s5, s6, s7⟩ := hS
    simp [ReS, sI_gt, sI_2, fl_17, fk_17, s1, s2, s3, s4, s5, s6, s7]
  · simpa [ReT, sI_gt, sI_2, fl_17, fk_17] using hT
theorem re_s12 {g n s L : Nat} {σ τ : Sg} (R : Re g n s L σ τ) (v : Int32) : Re g n s L (sI σ 17 12 v) (sI τ 56 70 v) := by
  obtain ⟨hC, hD, hF, hK, hZ, hL, hS, hT⟩ := R
  have hg := gd_17 hC.1.1
  refine ⟨?_, ?_, ?_, ?_, ?_, ?_, ?_, ?_⟩
  · simpa [ReC, sI_gt, sI_2, fl_17, fk_17, hg] using hC
  · simpa [ReD, sI_gt, sI_2, fl_17, fk_17] using hD
  · simpa [ReF, sI_gt, sI_2, fl_17, fk_17] using hF
  · simpa [ReK, sI_gt, sI_2, fl_17, fk_17] using hK
  · simpa [ReZ, sI_gt, sI_2, fl_17, fk_17] using hZ
  · simpa [ReL, sI_gt, sI_2, fl_17, fk_17] using hL
  · obtain ⟨s1, s2, s3, s4, s5, s6, s7⟩ := hS
    simp [ReS, sI_gt, sI_2, fl_17, fk_17, s1, s2, s3, s4, s5, s6, s7]
  · simpa [ReT, sI_gt, sI_2, fl_17, fk_17] using hT
theorem re_s13 {g n s L : Nat} {σ τ : Sg} (R : Re g n s L σ τ) (v : Int32) : Re g n s L (sI σ 17 13 v) (sI τ 56 71 v) := by
  obtain ⟨hC, hD, hF, hK, hZ, hL, hS, hT⟩ := R
  have hg := gd_17 hC.1.1
  refine ⟨?_, ?_, ?_, ?_, ?_, ?_, ?_, ?_⟩
  · simpa [ReC, sI_gt, sI_2, fl_17, fk_17, hg] using hC
  · simpa [ReD, sI_gt, sI_2, fl_17, fk_17] using hD
  · simpa [ReF, sI_gt, sI_2, fl_17, fk_17] using hF
  · simpa [ReK, sI_gt, sI_2, fl_17, fk_17] using hK
  · simpa [ReZ, sI_gt, sI_2, fl_17, fk_17] using hZ
  · simpa [ReL, sI_gt, sI_2, fl_17, fk_17] using hL
  · obtain ⟨s1, s2, s3, s4, s5, s6, s7⟩ := hS
    simp [ReS, sI_gt, sI_2, fl_17, fk_17, s1, s2, s3, s4, s5, s6, s7]
  · simpa [ReT, sI_gt, sI_2, fl_17, fk_17] using hT
theorem re_s14 {g n s L : Nat} {σ τ : Sg} (R : Re g n s L σ τ) (v : Int32) : Re g n s L (sI σ 17 14 v) (sI τ 56 72 v) := by
  obtain ⟨hC, hD, hF, hK, hZ, hL, hS, hT⟩ := R
  have hg := gd_17 hC.1.1
  refine ⟨?_, ?_, ?_, ?_, ?_, ?_, ?_, ?_⟩
  · simpa [ReC, sI_gt, sI_2, fl_17, fk_17, hg] using hC
  · simpa [ReD, sI_gt, sI_2, fl_17, fk_17] using hD
  · simpa [ReF, sI_gt, sI_2, fl_17, fk_17] using hF
  · simpa [ReK, sI_gt, sI_2, fl_17, fk_17] using hK
  · simpa [ReZ, sI_gt, sI_2, fl_17, fk_17] using hZ
  · simpa [ReL, sI_gt, sI_2, fl_17, fk_17] using hL
  · obtain ⟨s1, s2, s3, s4, s5, s6, s7⟩ := hS
    simp [ReS, sI_gt, sI_2, fl_17, fk_17, s1, s2, s3, s4, s5, s6, s7]
  · simpa [ReT, sI_gt, sI_2, fl_17, fk_17] using hT
theorem re_s15 {g n s L : Nat} {σ τ : Sg} (R : Re g n s L σ τ) (v : Int32) : Re g n s L (sI σ 17 15 v) (sI τ 56 73 v) := by
  obtain ⟨hC, hD, hF, hK, hZ, hL, hS, hT⟩ := R
  have hg := gd_17 hC.1.1
  refine ⟨?_, ?_, ?_, ?_, ?_, ?_, ?_, ?_⟩
  · simpa [ReC, sI_gt, sI_2, fl_17, fk_17, hg] using hC
  · simpa [ReD, sI_gt, sI_2, fl_17, fk_17] using hD
  · simpa [ReF, sI_gt, sI_2, fl_17, fk_17] using hF
  · simpa [ReK, sI_gt, sI_2, fl_17, fk_17] using hK
  · simpa [ReZ, sI_gt, sI_2, fl_17, fk_17] using hZ
  · simpa [ReL, sI_gt, sI_2, fl_17, fk_17] using hL
  · obtain ⟨s1, s2, s3, s4, s5, s6, s7⟩ := hS
    simp [ReS, sI_gt, sI_2, fl_17, fk_17, s1, s2, s3, s4, s5, s6, s7]
  · simpa [ReT, sI_gt, sI_2, fl_17, fk_17] using hT
theorem re_k {g n s L j k : Nat} {σ τ : Sg} (R : Re g n s L σ τ) (hj : j < n) (hk : k < 6) (v : Int32) : Re g n s L (sI σ (fk j) k v) (sI τ 83 (6 * j + k) v) := by
  obtain ⟨hC, hD, hF, hK, hZ, hL, hS, hT⟩ := R
  have hn4 : n ≤ 4 := hC.1.2.2.1
  have hj4 : j < 4 := by omega
  have hg1 := gd_fl hC.1.1 hj4
  have hg2 := gd_fk hC.1.1 hj4
  refine ⟨?_, ?_, ?_, ?_, ?_, ?_, ?_, ?_⟩
  · simpa [ReC, sI_gt, sI_2, fl_eq, fk_eq, fl_fk, fk_fl, e17_fl, e17_fk, e28_fl, e29_fk, e29_fl hj4, e28_fk hj4, hg1, hg2] using hC
  · simpa [ReD, sI_gt, sI_2, fl_eq, fk_eq, fl_fk, fk_fl, e17_fl, e17_fk, e28_fl, e29_fk, e29_fl hj4, e28_fk hj4, hg1, hg2] using hD
  · simpa [ReF, sI_gt, sI_2, fl_eq, fk_eq, fl_fk, fk_fl, e17_fl, e17_fk, e28_fl, e29_fk, e29_fl hj4, e28_fk hj4, hg1, hg2] using hF
  · intro i hi q hq
    have h := hK i hi q hq
    by_cases e : i = j
    · subst e
      by_cases e2 : q = k
      · subst e2; simp [sI_gt, sI_2, fl_eq, fk_eq, fl_fk, fk_fl, e17_fl, e17_fk, e28_fl, e29_fk, e29_fl hj4, e28_fk hj4, hg1, hg2]
      · have e3 : ¬ 6 * i + q = 6 * i + k := by omega
        simp only [sI_gt, sI_2, fl_eq, fk_eq, fl_fk, fk_fl, e17_fl, e17_fk, e28_fl, e29_fk, e29_fl hj4, e28_fk hj4, hg1, hg2, e2, e3, and_false, if_false]; exact h
    · have e3 : ¬ 6 * i + q = 6 * j + k := by omega
      simp only [sI_gt, sI_2, fl_eq, fk_eq, fl_fk, fk_fl, e17_fl, e17_fk, e28_fl, e29_fk, e29_fl hj4, e28_fk hj4, hg1, hg2, e, e3, and_false, false_and, if_false]; exact h
  · simpa [ReZ, sI_gt, sI_2, fl_eq, fk_eq, fl_fk, fk_fl, e17_fl, e17_fk, e28_fl, e29_fk, e29_fl hj4, e28_fk hj4, hg1, hg2] using hZ
  · simpa [ReL, sI_gt, sI_2, fl_eq, fk_eq, fl_fk, fk_fl, e17_fl, e17_fk, e28_fl, e29_fk, e29_fl hj4, e28_fk hj4, hg1, hg2] using hL
  · simpa [ReS, sI_gt, sI_2, fl_eq, fk_eq, fl_fk, fk_fl, e17_fl, e17_fk, e28_fl, e29_fk, e29_fl hj4, e28_fk hj4, hg1, hg2] using hS
  · simpa [ReT, sI_gt, sI_2, fl_eq, fk_eq, fl_fk, fk_fl, e17_fl, e17_fk, e28_fl, e29_fk, e29_fl hj4, e28_fk hj4, hg1, hg2] using hT
section Lock
variable {α β : Type} {R : α → Sg → β → Sg → Prop} {σ τ : Sg}
/-- both branch alike -/
theorem ww_br {c c' : Prop} [Decidable c] [Decidable c'] {d1 d2 : Sg → Option (α × Sg)} {e1 e2 : Sg → Option (β × Sg)} (hc : c ↔ c') (h1 : c → ww d1 e1 R σ τ) (h2 : ¬ c → ww d2 e2 R σ τ) : ww (br c d1 d2) (br c' e1 e2) R σ τ := by
  rw [wl_br, wr_br, wr_br]
  exact ⟨fun h => ⟨fun _ => h1 h, fun q => absurd (hc.mp h) q⟩, fun h => ⟨fun q => absurd (hc.mpr q) h, fun _ => h2 h⟩⟩
end Lock
theorem hurt23_rel {g n s L j : Nat} {σ τ : Sg} {t : Int32} (R : Re g n s L σ τ) (hj : j < n) : ww (f_X4_hurt_b23 (fl j) t) (f_X11_hurts_b23 (nI j) t) (fun _ σ' _ τ' => Re g n s L σ' τ') σ τ := by
  have hj4 : j < 4 := by have := R.1.1.2.2.1; omega
  have hme := R.1.2.2.1 j hj4
  obtain ⟨s1, s2, s3, s4, s5, s6, s7⟩ := id R.2.2.2.2.2.2.1
  unfold f_X4_hurt_b23 f_X11_hurts_b23
  rw [wl_gd]
  refine ⟨isFl_l hj4, ?_⟩
  rw [wl_dI, wr_dI]
  refine ww_br (by rw [s6]) (fun h => ?_) (fun h => ?_)
  · rw [wl_dI, wl_dI, wl_pI, wr_dI, wr_pI, ww_rt, s7, hme]
    exact re_s15 R _
  · exact ww_rt.mpr R
/-- the class's one is hurt, and the reference's -/
theorem hurt_rel {g n s L j : Nat} {σ τ : Sg} {t : Int32} (R : Re g n s L σ τ) (hj : j < n) : ww (f_X4_hurt (fl j) t) (f_X11_hurts (nI j) t) (fun _ σ' _ τ' => Re g n s L σ' τ') σ τ := by
  have hj4 : j < 4 := by have := R.1.1.2.2.1; omega
  obtain ⟨f1, f2, f3, f4, f5, f6, f7, f8⟩ := R.2.2.1 j hj
  have R1 := re_f13 R hj (σ.1 (fl j) 13 + 1)
  have q1 : (sI τ 81 j (σ.1 (fl j) 13 + 1)).1 56 72 = (sI σ (fl j) 13 (σ.1 (fl j) 13 + 1)).1 17 14 := R1.2.2.2.2.2.2.1.2.2.2.2.2.1
  unfold f_X4_hurt f_X11_hurts
  rw [wl_gd, wr_gd]
  refine ⟨isFl_l hj4, inb_nI hj4 (by omega), ?_⟩
  rw [nI_clamp (by omega), wl_dI, wl_pI, wr_dI, wr_gd, wr_pI, f7]
  refine ⟨inb_nI hj4 (by omega), ?_⟩
  rw [wl_dI, wr_dI]
  refine ww_br (by rw [q1]) (fun h => ?_) (fun h => ?_)
  · rw [wl_pI, wr_pI]
    exact hurt23_rel (re_s14 R1 _) hj
  · exact hurt23_rel R1 hj
