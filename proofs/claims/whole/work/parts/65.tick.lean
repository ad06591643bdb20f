-- ===== one tick =====
theorem Nu.next {g n s e t L : Nat} {c : Nat → Nat} {σ : Sg} (N : Nu g n s e t L c σ) (h : σ.1 17 6 = 0 → ∃ b, b ≤ 600 ∧ σ.1 17 7 = nI b ∧ t + 1 ≤ b + 2 * s) (ht : t < 600) (hs : s ≤ 9) : Nu g n s e (t + 1) L c σ := by
  obtain ⟨hG, hF, hA, ⟨c1, c2, c3, c4⟩, hM⟩ := N
  refine ⟨hG, hF, hA, ⟨c1, c2, ?_, c4⟩, ?_⟩
  · intro j hj hd
    obtain ⟨u, u1, u2⟩ := c3 j hj hd
    exact ⟨u, by omega, u2⟩
  · rcases hM with q | ⟨q0, b, i, u, S, q1, q2, q3, q4, q5, q6, q7, q8, q9, q10, q11⟩
    · exact Or.inl q
    · obtain ⟨b', w0, w1, w2⟩ := h q0
      have : b = b' := (nI_eq (by omega) (by omega)).mp (q1.symm.trans w1)
      exact Or.inr ⟨q0, b, i, u, S, q1, by omega, by omega, q4, q5, q6, q7, q8, q9, by omega, q11⟩
-- heights
theorem high_rel {g n s e t t' L j : Nat} {c : Nat → Nat} {σ τ : Sg} (R : Re g n s L σ τ) (N : Nu g n s e t' L c σ) (hj : j < n) (ht : t < 600) : ∃ v, f_X1_heightIn (fl j) (nI t) σ = some (v, σ) ∧ f_X11_high (nI j) (nI t) τ = some (v, τ) := by
  have hn4 : n ≤ 4 := R.1.1.2.2.1
  have hj4 : j < 4 := by omega
  have i4 := inb_nI hj4 (show 4 < 2 ^ 31 by omega)
  have cj := nI_clamp (show j < 2 ^ 31 by omega)
  obtain ⟨f1, f2, f3, -⟩ := R.2.2.1 j hj
  have fo : ∀ (h : Int32) (υ : Sg), f_X1_flightOf h υ = some (2 + h / 2, υ) := fun h υ => rfl
  rw [f_X1_heightIn, ex_gd (isFl_l hj4), ex_dI, f_X11_high, ex_gd i4, ex_dI, cj]
  rcases R.2.1 j hj4 with ⟨d1, d2⟩ | ⟨-, d1, d2, d3⟩
  · rw [d1, d2, ex_bf (by decide), ex_dI, ex_cl (fo _ _), ex_dI, d1, ex_bf (by decide), ex_rt, ex_bf (by decide), ex_gd i4, ex_dI, d2, ex_bf (by decide), ex_rt]
    exact ⟨0, rfl, rfl⟩
  · rw [d2]
    by_cases z : σ.1 (fl j) 5 = 0
    · have := R.2.2.2.2.1.2 j hj4 z
      rw [ex_bt z, ex_bt z, ex_dI, ex_rt, ex_gd i4, ex_dI, ex_rt, f2, this]
      exact ⟨_, rfl, rfl⟩
    · rw [ex_bf z, ex_bf z, ex_dI, ex_cl (fo _ _), ex_dI, ex_gd i4, ex_dI, d2]
      by_cases y : σ.1 (fl j) 5 = 1
      · obtain ⟨u, f, a1, a2, a3, a4, a5, a6⟩ := N.2.2.1 j hj y
        have hf2 : f / 2 ≤ 499 := by omega
        have e2 : (2 : Int32) + nI f / 2 = nI (2 + f / 2) := by
          rw [show nI f / 2 = nI (f / 2) from nI_div (b := 2) (by omega) (by omega) (by omega), nI_addL (x := 2) (k := 2) rfl]
        have e3 : nI (u + 2 + f / 2) - nI u = nI (2 + f / 2) := by rw [nI_sub (by omega)]; congr 1; omega
        have hm : (2 + f / 2) * (2 + f / 2) ≤ 501 * 501 := Nat.mul_le_mul (by omega) (by omega)
        have hm0 : 0 < (2 + f / 2) * (2 + f / 2) := Nat.mul_pos (by omega) (by omega)
        have e4 : ¬ nI (2 + f / 2) * nI (2 + f / 2) = 0 := by rw [nI_mul]; exact nI_ne0 hm0 (by omega)
        have e5 : (1 : Int32) ≤ nI (2 + f / 2) := (nI_leL (x := 1) (k := 1) rfl (by omega) (by omega)).mpr (by omega)
        rw [ex_bt y, ex_bt y, a4, e2, ex_bt e5, ex_dI, ex_dI, a3, a4, ex_gd e4, ex_rt, ex_gd i4, ex_dI, ex_gd i4, ex_dI, ex_gd i4, ex_dI, ex_gd i4, ex_dI, d3, f3, f2, a5, a3, a4, e3, ex_gd e4, ex_rt]
        exact ⟨_, rfl, rfl⟩
      · rw [ex_bf y, ex_bf y, ex_rt, ex_rt]
        exact ⟨0, rfl, rfl⟩
/-- the film of a tick -/
theorem film_rel {g n s e t t' L : Nat} {c : Nat → Nat} {k7 : Int32 → Sg → Option (Unit × Sg)} {σ : Sg} (ht : t < 600) : ∀ (d i fm : Nat) (τ : Sg), i + d = 4 → Re g n s L σ τ → Nu g n s e t' L c σ →
    ∃ τ', f_X11_runs_b296 k7 (fm + d + 1) (nI t) (nI i) τ = k7 (nI (t + 1)) τ' ∧ Oc 84 τ τ' ∧ (∀ j, i ≤ j → j < n → ∃ v, f_X1_heightIn (fl j) (nI t) σ = some (v, σ) ∧ τ'.1 84 (600 * j + t) = v) ∧ (∀ b, (∀ j, i ≤ j → j < n → ¬ b = 600 * j + t) → τ'.1 84 b = τ.1 84 b) := by
  intro d
  induction d with
  | zero =>
    intro i fm τ h1 R N
    have hn4 : n ≤ 4 := R.1.1.2.2.1
    refine ⟨τ, ?_, Oc.rf, fun j h2 h3 => by omega, fun b _ => rfl⟩
    rw [f_X11_runs_b296, ex_dI, R.1.1.2.2.2.1, ex_bt (nI_le (by omega) (by omega)), f_X11_runs_b328, nI_1]
  | succ d ih =>
    intro i fm τ h1 R N
    have hn4 : n ≤ 4 := R.1.1.2.2.1
    by_cases hin : i < n
    · obtain ⟨v, v1, v2⟩ := high_rel (t := t) R N hin ht
      have e6 : 600 * nI i + nI t = nI (600 * i + t) := by rw [nI_mulL (x := 600) (k := 600) rfl, nI_add]
      have R1 : Re g n s L σ (sI τ 84 (600 * i + t) v) := by
        obtain ⟨hC, hD, hF, hK, hZ, hL, hS, hT⟩ := R
        refine ⟨?_, ?_, ?_, ?_, hZ, ?_, ?_, ?_⟩
        · simpa [ReC, sI_gt] using hC
        · simpa [ReD, sI_gt] using hD
        · simpa [ReF, sI_gt] using hF
        · simpa [ReK, sI_gt] using hK
        · simpa [ReL, sI_gt] using hL
        · simpa [ReS, sI_gt] using hS
        · simpa [ReT, sI_gt] using hT
      obtain ⟨τ', w1, w2, w3, w4⟩ := ih (i + 1) fm (sI τ 84 (600 * i + t) v) (by omega) R1 N
      refine ⟨τ', ?_, Oc.w.tr w2, ?_, ?_⟩
      · rw [show fm + (d + 1) + 1 = (fm + d + 1) + 1 by omega, f_X11_runs_b296, ex_dI, R.1.1.2.2.2.1, ex_bf (nI_ge hin (by omega)), ex_cl v2, e6, ex_gd (inb_nI (show 600 * i + t < 2400 by omega) (by omega)), ex_pI, nI_clamp (show 600 * i + t < 2 ^ 31 by omega), nI_1]
        exact w1
      · intro j h2 h3
        by_cases z : j = i
        · subst z
          refine ⟨v, v1, ?_⟩
          rw [w4 _ (fun k k1 k2 => by omega), sI_eq]
        · exact w3 j (by omega) h3
      · intro b hb
        rw [w4 b (fun j k1 k2 => hb j (by omega) k2), sI_nf (hb i (by omega) hin)]
    · refine ⟨τ, ?_, Oc.rf, fun j h2 h3 => by omega, fun b _ => rfl⟩
      rw [f_X11_runs_b296, ex_dI, R.1.1.2.2.2.1, ex_bt (nI_le (by omega) (by omega)), f_X11_runs_b328, nI_1]
theorem Re.film {g n s L : Nat} {σ τ τ' : Sg} (R : Re g n s L σ τ) (k : Oc 84 τ τ') : Re g n s L σ τ' := by
  obtain ⟨hC, hD, hF, hK, hZ, hL, hS, hT⟩ := R
  have t56 : ∀ b, τ'.1 56 b = τ.1 56 b := fun b => k.2 _ _ (by omega)
  have tt : ∀ a b, ¬ a = 84 → τ'.1 a b = τ.1 a b := fun a b h => k.2 _ _ h
  refine ⟨?_, ?_, ?_, ?_, hZ, ?_, ?_, ?_⟩
  · simp only [ReC, t56, tt 58 _ (by omega)]; exact hC
  · simp only [ReD, tt 73 _ (by omega), tt 75 _ (by omega)]; exact hD
  · simp only [ReF, tt 74 _ (by omega), tt 76 _ (by omega), tt 77 _ (by omega), tt 78 _ (by omega), tt 79 _ (by omega), tt 80 _ (by omega), tt 81 _ (by omega), tt 82 _ (by omega)]; exact hF
  · simp only [ReK, tt 83 _ (by omega)]; exact hK
  · simp only [ReL, t56, tt 85 _ (by omega)]; exact hL
  · simp only [ReS, t56]; exact hS
  · simp only [ReT, t56]; exact hT
theorem Oc.off84 {τ τ' : Sg} (k : Oc 84 τ τ') : off gs_mrun τ τ' := by
  intro i b h
  have hi : ¬ i = 84 := by rintro rfl; cases h
  refine ⟨k.2 _ _ hi, by rw [k.1], by rw [k.1]⟩
-- ===== when something is due =====
def Due (n s t : Nat) (σ : Sg) : Prop := nI t < σ.1 17 5 → (∀ j, j < n → σ.1 (fl j) 5 = 0 ∨ σ.1 (fl j) 5 = 1 → σ.1 17 5 ≤ σ.1 (fl j) 9) ∧ (σ.1 17 6 = 0 → ∃ b, b ≤ 600 ∧ σ.1 17 7 = nI b ∧ σ.1 17 5 ≤ nI (b + 2 * s)) ∧ (σ.1 17 6 = 1 → ∀ j, j < n → σ.1 (fl j) 5 = 2 → ¬ σ.1 (fl j) 2 ≤ 0 → σ.1 17 5 ≤ σ.1 (fl j) 8 + nI (2 * s))
theorem i_le_trans {a b c : Int32} (h : a ≤ b) (k : b ≤ c) : a ≤ c := by rw [Int32.le_iff_toInt_le] at *; omega
theorem min_le {a b : Int32} : (if a < b then a else b) ≤ a ∧ (if a < b then a else b) ≤ b := by
  by_cases h : a < b
  · rw [if_pos h]; rw [Int32.lt_iff_toInt_lt] at h; simp only [Int32.le_iff_toInt_le]; omega
  · rw [if_neg h]; rw [Int32.lt_iff_toInt_lt] at h; simp only [Int32.le_iff_toInt_le]; omega
theorem due_loop {g n s L fu : Nat} {σ τ : Sg} (R : Re g n s L σ τ) : ∀ (d i : Nat) (x : Int32), i + d = 4 → ∃ y, f_X4_nextDue_b19 (fu + d + 1) x (nI i) σ = some (y, σ) ∧ y ≤ x ∧ ∀ j, i ≤ j → j < 4 → (σ.1 (fl j) 5 = 0 ∨ σ.1 (fl j) 5 = 1 → y ≤ σ.1 (fl j) 9) ∧ (σ.1 17 6 = 1 → σ.1 (fl j) 5 = 2 → ¬ σ.1 (fl j) 2 ≤ 0 → y ≤ σ.1 (fl j) 8 + nI (2 * s)) := by
  intro d
  induction d with
  | zero =>
    intro i x h
    have : i = 4 := by omega
    subst this
    refine ⟨x, ?_, Int32.le_refl x, fun j h1 h2 => by omega⟩
    rw [f_X4_nextDue_b19, ex_bt (show (4 : Int32) ≤ nI 4 by decide), ex_rt]
  | succ d ih =>
    intro i x h
    have hi : i < 4 := by omega
    have a : ¬ (4 : Int32) ≤ nI i := fun h => by have := (nI_leL (x := 4) (k := 4) rfl (by omega) (by omega)).mp h; omega
    have go : ∀ x', (x' ≤ x) → ((σ.1 (fl i) 5 = 0 ∨ σ.1 (fl i) 5 = 1 → x' ≤ σ.1 (fl i) 9) ∧ (σ.1 17 6 = 1 → σ.1 (fl i) 5 = 2 → ¬ σ.1 (fl i) 2 ≤ 0 → x' ≤ σ.1 (fl i) 8 + nI (2 * s))) → f_X4_nextDue_b19 (fu + (d + 1) + 1) x (nI i) σ = f_X4_nextDue_b78 (f_X4_nextDue_b19 (fu + d + 1)) x' (nI i) σ → ∃ y, f_X4_nextDue_b19 (fu + (d + 1) + 1) x (nI i) σ = some (y, σ) ∧ y ≤ x ∧ ∀ j, i ≤ j → j < 4 → (σ.1 (fl j) 5 = 0 ∨ σ.1 (fl j) 5 = 1 → y ≤ σ.1 (fl j) 9) ∧ (σ.1 17 6 = 1 → σ.1 (fl j) 5 = 2 → ¬ σ.1 (fl j) 2 ≤ 0 → y ≤ σ.1 (fl j) 8 + nI (2 * s)) := by
      intro x' h1 h2 h3
      obtain ⟨y, y1, y2, y3⟩ := ih (i + 1) x' (by omega)
      refine ⟨y, ?_, i_le_trans y2 h1, fun j k1 k2 => ?_⟩
      · rw [h3, f_X4_nextDue_b78, nI_1]; exact y1
      · by_cases z : j = i
        · subst z
          exact ⟨fun q => i_le_trans y2 (h2.1 q), fun q1 q2 q3 => i_le_trans y2 (h2.2 q1 q2 q3)⟩
        · exact y3 j (by omega) k2
    have e0 : f_X4_nextDue_b19 (fu + (d + 1) + 1) x (nI i) σ = (br ((if σ.1 (fl i) 5 = 0 ∨ σ.1 (fl i) 5 = 1 then (1 : Int32) else 0) = 0) (dI 17 6 (fun v5 => br (v5 = 0) (f_X4_nextDue_b78 (f_X4_nextDue_b19 (fu + d + 1)) x (nI i)) (cl (f_X4_canPush (fl i)) (fun r7 => br (r7 = 0) (f_X4_nextDue_b78 (f_X4_nextDue_b19 (fu + d + 1)) x (nI i)) (cl (f_X4_restEnds (fl i)) (fun r9 => lt (if r9 < x then r9 else x : Int32) (fun w10 => f_X4_nextDue_b78 (f_X4_nextDue_b19 (fu + d + 1)) w10 (nI i)))))))) (dI (fl i) 9 (fun v11 => lt (if v11 < x then v11 else x : Int32) (fun w12 => f_X4_nextDue_b78 (f_X4_nextDue_b19 (fu + d + 1)) w12 (nI i))))) σ := by
      rw [show fu + (d + 1) + 1 = (fu + d + 1) + 1 by omega, f_X4_nextDue_b19, ex_bf a, ex_gd (inb_nI hi (by omega)), ex_lt, nI_clamp (show i < 2 ^ 31 by omega), fl_at, ex_gd (isFl_l hi), ex_cl (coming_eq hi)]
    by_cases q : σ.1 (fl i) 5 = 0 ∨ σ.1 (fl i) 5 = 1
    · have q2 : ¬ σ.1 (fl i) 5 = 2 := by rcases q with q | q <;> rw [q] <;> decide
      refine go (if σ.1 (fl i) 9 < x then σ.1 (fl i) 9 else x) min_le.2 ⟨fun _ => min_le.1, fun _ z => absurd z q2⟩ ?_
      rw [e0, if_pos q, ex_bf l1_0, ex_dI, ex_lt]
    · rw [if_neg q] at e0
      by_cases s0 : σ.1 17 6 = 0
      · refine go x (Int32.le_refl x) ⟨fun z => absurd z q, fun z => by rw [s0] at z; exact absurd z (by decide)⟩ ?_
        rw [e0, ex_bt rfl, ex_dI, ex_bt s0]
      · by_cases p : σ.1 (fl i) 5 = 2 ∧ ¬ σ.1 (fl i) 2 ≤ 0
        · have cp : f_X4_canPush (fl i) σ = some (1, σ) := by rw [canPush_eq hi, if_pos p.1, if_neg p.2]
          refine go (if σ.1 (fl i) 8 + nI (2 * s) < x then σ.1 (fl i) 8 + nI (2 * s) else x) min_le.2 ⟨fun z => absurd z q, fun _ _ _ => min_le.1⟩ ?_
          rw [e0, ex_bt rfl, ex_dI, ex_bf s0, ex_cl cp, ex_bf l1_0, ex_cl (restEnds_eq R hi), ex_lt]
        · have cp : f_X4_canPush (fl i) σ = some (0, σ) := by
            rw [canPush_eq hi]
            by_cases z : σ.1 (fl i) 5 = 2
            · have : σ.1 (fl i) 2 ≤ 0 := by
                by_cases y : σ.1 (fl i) 2 ≤ 0
                · exact y
                · exact absurd ⟨z, y⟩ p
              rw [if_pos z, if_pos this]
            · rw [if_neg z]
          refine go x (Int32.le_refl x) ⟨fun z => absurd z q, fun _ z1 z2 => absurd ⟨z1, z2⟩ p⟩ ?_
          rw [e0, ex_bt rfl, ex_dI, ex_bf s0, ex_cl cp, ex_bt rfl]
theorem nextDue_eq {g n s L t : Nat} {σ τ : Sg} (R : Re g n s L σ τ) : ∃ y, f_X4_nextDue σ = some (y, σ) ∧ Due n s t (sI σ 17 5 y) := by
  have hn4 : n ≤ 4 := R.1.1.2.2.1
  have e1 : ∀ b y, ¬ b = 5 → (sI σ 17 5 y).1 17 b = σ.1 17 b := fun b y h => sI_nf h
  have e2 : ∀ j b y, (sI σ 17 5 y).1 (fl j) b = σ.1 (fl j) b := fun j b y => sI_ne (of_eq_false fl_17)
  rcases R.2.2.2.2.2.2.2 with ⟨q1, q2⟩ | ⟨q1, b1, i1, hb1, hi1, q2, q3, q4, q5⟩
  · obtain ⟨y, y1, y2, y3⟩ := due_loop (fu := 8187) R 4 0 1000000 rfl
    refine ⟨y, ?_, fun _ => ⟨?_, ?_, ?_⟩⟩
    · rw [f_X4_nextDue, ex_dI, ex_bf (by rw [q1]; decide), f_X4_nextDue_b16]
      exact y1
    · intro j hj hd
      rw [sI_eq]
      simp only [e2] at hd ⊢
      exact (y3 j (by omega) (by omega)).1 hd
    · intro z
      rw [e1 6 y (by omega), q1] at z; exact absurd z (by decide)
    · intro _ j hj h1 h2
      rw [sI_eq]
      simp only [e2] at h1 h2 ⊢
      exact (y3 j (by omega) (by omega)).2 q1 h1 h2
  · obtain ⟨y, y1, y2, y3⟩ := due_loop (fu := 8187) R 4 0 (nI (b1 + 2 * s)) rfl
    refine ⟨y, ?_, fun _ => ⟨?_, ?_, ?_⟩⟩
    · rw [f_X4_nextDue, ex_dI, ex_bt q1, ex_cl (riseEnds_eq R q2), f_X4_nextDue_b16]
      exact y1
    · intro j hj hd
      rw [sI_eq]
      simp only [e2] at hd ⊢
      exact (y3 j (by omega) (by omega)).1 hd
    · intro _
      rw [sI_eq]
      exact ⟨b1, hb1, by rw [e1 7 y (by omega)]; exact q2, y2⟩
    · intro z
      rw [e1 6 y (by omega), q1] at z; exact absurd z (by decide)
