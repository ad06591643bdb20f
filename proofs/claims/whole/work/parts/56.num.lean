-- ===== numbers of a run =====
def NuG (g e : Nat) (σ : Sg) : Prop := e ≤ 20 ∧ σ.1 g 1 = nI e ∧ (∃ q, q ≤ 100 ∧ σ.1 g 2 = nI q) ∧ -3 ≤ (σ.1 g 3).toInt ∧ (σ.1 g 3).toInt ≤ 3
def NuF (n e : Nat) (σ : Sg) : Prop := ∀ j, j < n → (∃ w, 1 ≤ w ∧ w ≤ 99 ∧ σ.1 (fl j) 1 = nI w) ∧ (∃ l, l ≤ 30 ∧ σ.1 (fl j) 2 = nI l) ∧ (∃ q, q ≤ 9 ∧ σ.1 (fl j) 4 = nI q) ∧ (∃ f, f ≤ 999 ∧ σ.1 (fl j) 7 = nI f) ∧ (∃ u, u ≤ 600 ∧ σ.1 (fl j) 8 = nI u) ∧ (-1000 ≤ (σ.1 (fl j) 6).toInt ∧ (σ.1 (fl j) 6).toInt ≤ 1000) ∧ (σ.1 (fl j) 5 = 2 → -(e : Int) ≤ (σ.1 (fl j) 6).toInt ∧ (σ.1 (fl j) 6).toInt ≤ e)
def NuA (n : Nat) (c : Nat → Nat) (σ : Sg) : Prop := ∀ j, j < n → σ.1 (fl j) 5 = 1 → ∃ u f, u ≤ 600 ∧ f ≤ 999 ∧ σ.1 (fl j) 8 = nI u ∧ σ.1 (fl j) 7 = nI f ∧ σ.1 (fl j) 9 = nI (u + 2 + f / 2) ∧ 4 * c j ≤ u + 2 + f / 2
def NuC (n t L : Nat) (c : Nat → Nat) (σ : Sg) : Prop := (∀ j, c j ≤ 150) ∧ (∀ j, j < n → σ.1 (fl j) 5 = 0 → c j = 0) ∧ (∀ j, j < n → σ.1 (fl j) 5 = 2 → ∃ u, u ≤ t ∧ σ.1 (fl j) 8 = nI u ∧ 4 * c j ≤ u + 4) ∧ L = c 0 + c 1 + c 2 + c 3
def on1 (σ : Sg) (j : Nat) : Nat := if σ.1 (fl j) 5 = 2 then 1 else 0
def on4 (σ : Sg) : Nat := on1 σ 0 + on1 σ 1 + on1 σ 2 + on1 σ 3
def NuM (n s t : Nat) (σ : Sg) : Prop := (σ.1 17 6 = 1 ∧ σ.1 17 9 = 0) ∨ (σ.1 17 6 = 0 ∧ ∃ b i u S, σ.1 17 7 = nI b ∧ b ≤ t ∧ t ≤ b + 2 * s ∧ i < n ∧ σ.2.2 17 8 = fl i ∧ σ.1 (fl i) 5 = 2 ∧ σ.1 (fl i) 8 = nI u ∧ b ≤ u ∧ u < b + s ∧ u ≤ t ∧ σ.1 17 9 = nI S ∧ S ≤ 98901 * on4 σ)
def Nu (g n s e t L : Nat) (c : Nat → Nat) (σ : Sg) : Prop := NuG g e σ ∧ NuF n e σ ∧ NuA n c σ ∧ NuC n t L c σ ∧ NuM n s t σ
theorem on4_same {σ σ' : Sg} (h : ∀ i, i < 4 → (σ'.1 (fl i) 5 = 2 ↔ σ.1 (fl i) 5 = 2)) : on4 σ' = on4 σ := by
  unfold on4 on1
  simp only [h 0 (by omega), h 1 (by omega), h 2 (by omega), h 3 (by omega)]
theorem on4_up {j : Nat} {σ σ' : Sg} (hj : j < 4) (h : ∀ i, i < 4 → ¬ i = j → σ'.1 (fl i) 5 = σ.1 (fl i) 5) (h1 : ¬ σ.1 (fl j) 5 = 2) (h2 : σ'.1 (fl j) 5 = 2) : on4 σ' = on4 σ + 1 := by
  unfold on4 on1
  rcases (by omega : j = 0 ∨ j = 1 ∨ j = 2 ∨ j = 3) with rfl | rfl | rfl | rfl
  · simp only [h 1 (by omega) (by omega), h 2 (by omega) (by omega), h 3 (by omega) (by omega), h1, h2, if_true, if_false]; omega
  · simp only [h 0 (by omega) (by omega), h 2 (by omega) (by omega), h 3 (by omega) (by omega), h1, h2, if_true, if_false]; omega
  · simp only [h 0 (by omega) (by omega), h 1 (by omega) (by omega), h 3 (by omega) (by omega), h1, h2, if_true, if_false]; omega
  · simp only [h 0 (by omega) (by omega), h 1 (by omega) (by omega), h 2 (by omega) (by omega), h1, h2, if_true, if_false]
/-- one more landing of j -/
def cUp (c : Nat → Nat) (j : Nat) : Nat → Nat := fun i => if i = j then c j + 1 else c i
theorem cUp_sum {c : Nat → Nat} {j L : Nat} (hj : j < 4) (h : L = c 0 + c 1 + c 2 + c 3) : L + 1 = cUp c j 0 + cUp c j 1 + cUp c j 2 + cUp c j 3 := by
  unfold cUp
  rcases (by omega : j = 0 ∨ j = 1 ∨ j = 2 ∨ j = 3) with rfl | rfl | rfl | rfl <;> simp <;> omega
theorem cUp_ne {c : Nat → Nat} {i j : Nat} (h : ¬ i = j) : cUp c j i = c i := if_neg h
theorem cUp_eq {c : Nat → Nat} {j : Nat} : cUp c j j = c j + 1 := if_pos rfl
/-- the count at a landing -/
theorem nu_cnt {g n s e t L j : Nat} {c : Nat → Nat} {σ : Sg} (N : Nu g n s e t L c σ) (hj : j < n) (hn : n ≤ 4) (ht : t < 600) (hd : σ.1 (fl j) 5 = 0 ∨ σ.1 (fl j) 5 = 1) (hc : σ.1 (fl j) 9 = nI t) : 4 * c j ≤ t ∧ L < 600 := by
  obtain ⟨-, -, hA, ⟨c1, c2, c3, c4⟩, -⟩ := N
  have h : 4 * c j ≤ t := by
    rcases hd with h | h
    · rw [c2 j hj h]; omega
    · obtain ⟨u, f, hu, hf, -, -, q, q2⟩ := hA j hj h
      rw [hc] at q
      have := (nI_eq (by omega) (by omega)).mp q
      omega
  refine ⟨h, ?_⟩
  have k0 := c1 0
  have k1 := c1 1
  have k2 := c1 2
  have k3 := c1 3
  rcases (by omega : j = 0 ∨ j = 1 ∨ j = 2 ∨ j = 3) with rfl | rfl | rfl | rfl <;> omega
/-- behind a landing on the mat -/
theorem nu_on {g n s e t L j : Nat} {c : Nat → Nat} {σ σ' : Sg} {p : Int32} (N : Nu g n s e t L c σ) (hs : 1 ≤ s ∧ s ≤ 9) (hgd : isGd g = true) (hsg : σ.1 g 0 = nI s) (hj : j < n) (hn : n ≤ 4) (ht : t < 600) (hcj : 4 * c j ≤ t) (hd : σ.1 (fl j) 5 = 0 ∨ σ.1 (fl j) 5 = 1)
    (hp : ∃ P, p = nI P ∧ P ≤ 98901) (hpl : -(e : Int) ≤ (σ.1 (fl j) 6).toInt ∧ (σ.1 (fl j) 6).toInt ≤ e)
    (h1 : ∀ i, i < 4 → ¬ i = j → ∀ b, ¬ b = 13 → ¬ b = 14 → σ'.1 (fl i) b = σ.1 (fl i) b) (h2 : ∀ b, ¬ b = 5 → ¬ b = 8 → ¬ b = 13 → ¬ b = 14 → σ'.1 (fl j) b = σ.1 (fl j) b) (h3 : σ'.1 (fl j) 5 = 2) (h4 : σ'.1 (fl j) 8 = nI t) (h5 : ∀ b, σ'.1 g b = σ.1 g b)
    (hm : (σ.1 17 6 = 1 ∧ σ'.1 17 6 = 0 ∧ σ'.1 17 7 = nI t ∧ σ'.2.2 17 8 = fl j ∧ σ'.1 17 9 = σ.1 17 9 + p) ∨ (σ.1 17 6 = 0 ∧ σ'.1 17 6 = 0 ∧ σ'.1 17 7 = σ.1 17 7 ∧ nI t - σ.1 17 7 < σ.1 g 0 ∧ σ'.2.2 17 8 = fl j ∧ σ'.1 17 9 = σ.1 17 9 + p) ∨ (σ.1 17 6 = 0 ∧ σ'.1 17 6 = 0 ∧ σ'.1 17 7 = σ.1 17 7 ∧ σ'.1 17 9 = σ.1 17 9 ∧ σ'.2.2 17 8 = σ.2.2 17 8)) :
    Nu g n s e t (L + 1) (cUp c j) σ' := by
  obtain ⟨hG, hF, hA, ⟨c1, c2, c3, c4⟩, hM⟩ := N
  have hj4 : j < 4 := by omega
  have hj2 : ¬ σ.1 (fl j) 5 = 2 := by rcases hd with h | h <;> rw [h] <;> decide
  refine ⟨?_, ?_, ?_, ⟨?_, ?_, ?_, cUp_sum hj4 c4⟩, ?_⟩
  · unfold NuG; rw [h5, h5, h5]; exact hG
  · intro i hi
    by_cases q : i = j
    · subst q
      obtain ⟨a1, a2, a3, a4, a5, a6, a7⟩ := hF i hi
      rw [h2 1 (by omega) (by omega) (by omega) (by omega), h2 2 (by omega) (by omega) (by omega) (by omega), h2 4 (by omega) (by omega) (by omega) (by omega), h2 7 (by omega) (by omega) (by omega) (by omega), h2 6 (by omega) (by omega) (by omega) (by omega), h4]
      exact ⟨a1, a2, a3, a4, ⟨t, by omega, rfl⟩, a6, fun _ => hpl⟩
    · have k := h1 i (by omega) q
      rw [k 1 (by omega) (by omega), k 2 (by omega) (by omega), k 4 (by omega) (by omega), k 7 (by omega) (by omega), k 8 (by omega) (by omega), k 6 (by omega) (by omega), k 5 (by omega) (by omega)]
      exact hF i hi
  · intro i hi h
    by_cases q : i = j
    · subst q; rw [h3] at h; exact absurd h (by decide)
    · have k := h1 i (by omega) q
      rw [k 5 (by omega) (by omega)] at h
      rw [k 7 (by omega) (by omega), k 8 (by omega) (by omega), k 9 (by omega) (by omega), cUp_ne q]
      exact hA i hi h
  · intro i
    by_cases q : i = j
    · subst q; rw [cUp_eq]; omega
    · rw [cUp_ne q]; exact c1 i
  · intro i hi h
    by_cases q : i = j
    · subst q; rw [h3] at h; exact absurd h (by decide)
    · rw [h1 i (by omega) q 5 (by omega) (by omega)] at h
      rw [cUp_ne q]; exact c2 i hi h
  · intro i hi h
    by_cases q : i = j
    · subst q; rw [cUp_eq]; exact ⟨t, by omega, h4, by omega⟩
    · rw [h1 i (by omega) q 5 (by omega) (by omega)] at h
      rw [cUp_ne q, h1 i (by omega) q 8 (by omega) (by omega)]; exact c3 i hi h
  · have hon : on4 σ' = on4 σ + 1 := on4_up hj4 (fun i hi q => h1 i hi q 5 (by omega) (by omega)) hj2 h3
    obtain ⟨P, rfl, hP⟩ := hp
    rcases hm with ⟨m1, m2, m3, m4, m5⟩ | ⟨m1, m2, m3, m4, m5, m6⟩ | ⟨m1, m2, m3, m4, m5⟩
    · refine Or.inr ⟨m2, t, j, t, P, m3, by omega, by omega, hj, m4, h3, h4, by omega, by omega, by omega, ?_, by omega⟩
      rcases hM with ⟨-, q⟩ | ⟨q, -⟩
      · rw [m5, q, Int32.zero_add]
      · rw [m1] at q; exact absurd q (by decide)
    · rcases hM with ⟨q, -⟩ | ⟨-, b, i, u, S, q1, q2, q3, q4, q5, q6, q7, q8, q9, q10, q11, q12⟩
      · rw [m1] at q; exact absurd q (by decide)
      · refine Or.inr ⟨m2, b, j, t, S + P, m3.trans q1, q2, q3, hj, m5, h3, h4, q2, ?_, by omega, by rw [m6, q11, nI_add], by omega⟩
        rw [q1, hsg, nI_sub q2, nI_ltI (by omega) (by omega)] at m4
        omega
    · rcases hM with ⟨q, -⟩ | ⟨-, b, i, u, S, q1, q2, q3, q4, q5, q6, q7, q8, q9, q10, q11, q12⟩
      · rw [m1] at q; exact absurd q (by decide)
      · have q : ¬ i = j := fun z => hj2 (z ▸ q6)
        exact Or.inr ⟨m2, b, i, u, S, m3.trans q1, q2, q3, q4, m5.trans q5, by rw [h1 i (by omega) q 5 (by omega) (by omega)]; exact q6, by rw [h1 i (by omega) q 8 (by omega) (by omega)]; exact q7, q8, q9, q10, m4.trans q11, by omega⟩
/-- behind a landing beyond the edge -/
theorem nu_out {g n s e t L j : Nat} {c : Nat → Nat} {σ σ' : Sg} (N : Nu g n s e t L c σ) (hj : j < n) (hn : n ≤ 4) (ht : t < 600) (hcj : 4 * c j ≤ t) (hd : σ.1 (fl j) 5 = 0 ∨ σ.1 (fl j) 5 = 1)
    (h1 : ∀ i, i < 4 → ¬ i = j → ∀ b, ¬ b = 13 → ¬ b = 14 → σ'.1 (fl i) b = σ.1 (fl i) b) (h2 : ∀ b, ¬ b = 5 → ¬ b = 13 → ¬ b = 14 → σ'.1 (fl j) b = σ.1 (fl j) b) (h3 : σ'.1 (fl j) 5 = 3) (h5 : ∀ b, σ'.1 g b = σ.1 g b)
    (hm : σ'.1 17 6 = σ.1 17 6 ∧ σ'.1 17 7 = σ.1 17 7 ∧ σ'.2.2 17 8 = σ.2.2 17 8 ∧ σ'.1 17 9 = σ.1 17 9) : Nu g n s e t (L + 1) (cUp c j) σ' := by
  obtain ⟨hG, hF, hA, ⟨c1, c2, c3, c4⟩, hM⟩ := N
  have hj4 : j < 4 := by omega
  have hj2 : ¬ σ.1 (fl j) 5 = 2 := by rcases hd with h | h <;> rw [h] <;> decide
  refine ⟨?_, ?_, ?_, ⟨?_, ?_, ?_, cUp_sum hj4 c4⟩, ?_⟩
  · unfold NuG; rw [h5, h5, h5]; exact hG
  · intro i hi
    by_cases q : i = j
    · subst q
      obtain ⟨a1, a2, a3, a4, a5, a6, a7⟩ := hF i hi
      rw [h2 1 (by omega) (by omega) (by omega), h2 2 (by omega) (by omega) (by omega), h2 4 (by omega) (by omega) (by omega), h2 7 (by omega) (by omega) (by omega), h2 6 (by omega) (by omega) (by omega), h2 8 (by omega) (by omega) (by omega), h3]
      exact ⟨a1, a2, a3, a4, a5, a6, fun z => absurd z (by decide)⟩
    · have k := h1 i (by omega) q
      rw [k 1 (by omega) (by omega), k 2 (by omega) (by omega), k 4 (by omega) (by omega), k 7 (by omega) (by omega), k 8 (by omega) (by omega), k 6 (by omega) (by omega), k 5 (by omega) (by omega)]
      exact hF i hi
  · intro i hi h
    by_cases q : i = j
    · subst q; rw [h3] at h; exact absurd h (by decide)
    · have k := h1 i (by omega) q
      rw [k 5 (by omega) (by omega)] at h
      rw [k 7 (by omega) (by omega), k 8 (by omega) (by omega), k 9 (by omega) (by omega), cUp_ne q]
      exact hA i hi h
  · intro i
    by_cases q : i = j
    · subst q; rw [cUp_eq]; omega
    · rw [cUp_ne q]; exact c1 i
  · intro i hi h
    by_cases q : i = j
    · subst q; rw [h3] at h; exact absurd h (by decide)
    · rw [h1 i (by omega) q 5 (by omega) (by omega)] at h
      rw [cUp_ne q]; exact c2 i hi h
  · intro i hi h
    by_cases q : i = j
    · subst q; rw [h3] at h; exact absurd h (by decide)
    · rw [h1 i (by omega) q 5 (by omega) (by omega)] at h
      rw [cUp_ne q, h1 i (by omega) q 8 (by omega) (by omega)]; exact c3 i hi h
  · obtain ⟨m1, m2, m3, m4⟩ := hm
    have hon : on4 σ' = on4 σ := on4_same (fun i hi => by
      by_cases q : i = j
      · subst q; rw [h3]; exact ⟨fun z => absurd z (by decide), fun z => absurd z hj2⟩
      · rw [h1 i hi q 5 (by omega) (by omega)])
    unfold NuM
    rw [m1, m2, m3, m4, hon]
    rcases hM with q | ⟨q0, b, i, u, S, q1, q2, q3, q4, q5, q6, q7, q8⟩
    · exact Or.inl q
    · have q : ¬ i = j := fun z => hj2 (z ▸ q6)
      exact Or.inr ⟨q0, b, i, u, S, q1, q2, q3, q4, q5, by rw [h1 i (by omega) q 5 (by omega) (by omega)]; exact q6, by rw [h1 i (by omega) q 8 (by omega) (by omega)]; exact q7, q8⟩
