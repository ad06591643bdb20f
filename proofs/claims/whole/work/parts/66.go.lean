-- ===== a run, tick by tick =====
def Iv (g n s e t : Nat) (σ τ : Sg) : Prop := ∃ L c, Re g n s L σ τ ∧ Nu g n s e t L c σ ∧ Ru g σ τ ∧ Due n s t σ
theorem re_due {g n s L : Nat} {σ τ : Sg} (R : Re g n s L σ τ) (v : Int32) : Re g n s L (sI σ 17 5 v) τ := by
  obtain ⟨hC, hD, hF, hK, hZ, hL, hS, hT⟩ := R
  have hg := gd_17 hC.1.1
  refine ⟨?_, ?_, ?_, ?_, ?_, ?_, ?_, ?_⟩
  · simpa [ReC, sI_gt, sI_2, fl_17, fk_17, hg] using hC
  · simpa [ReD, sI_gt, fl_17] using hD
  · simpa [ReF, sI_gt, fl_17] using hF
  · simpa [ReK, sI_gt, fk_17] using hK
  · simpa [ReZ, sI_gt, fl_17] using hZ
  · simpa [ReL, sI_gt] using hL
  · simpa [ReS, sI_gt] using hS
  · simpa [ReT, sI_gt, sI_2] using hT
theorem nu_due {g n s e t L : Nat} {c : Nat → Nat} {σ : Sg} (hg : isGd g = true) (N : Nu g n s e t L c σ) (v : Int32) : Nu g n s e t L c (sI σ 17 5 v) := by
  obtain ⟨hG, hF, hA, ⟨c1, c2, c3, c4⟩, hM⟩ := N
  have ag : ∀ b, (sI σ 17 5 v).1 g b = σ.1 g b := fun b => sI_ne (of_eq_false (gd_17 hg))
  have af : ∀ j b, (sI σ 17 5 v).1 (fl j) b = σ.1 (fl j) b := fun j b => sI_ne (of_eq_false fl_17)
  have a6 : ∀ b, ¬ b = 5 → (sI σ 17 5 v).1 17 b = σ.1 17 b := fun b h => sI_nf h
  have ho : on4 (sI σ 17 5 v) = on4 σ := on4_same (fun i hi => by rw [af])
  refine ⟨?_, ?_, ?_, ⟨c1, ?_, ?_, c4⟩, ?_⟩
  · simp only [NuG, ag]; exact hG
  · simp only [NuF, af]; exact hF
  · simp only [NuA, af]; exact hA
  · simp only [af]; exact c2
  · simp only [af]; exact c3
  · simp only [NuM, a6 6 (by omega), a6 7 (by omega), a6 9 (by omega), af, ho, sI_2]; exact hM
theorem landC_skip {fu : Nat} {σ : Sg} {t : Int32} (h : ∀ j, j < 4 → σ.1 (fl j) 5 = 0 ∨ σ.1 (fl j) 5 = 1 → ¬ σ.1 (fl j) 9 = t) : ∀ d i, i + d = 4 → f_X4_landAll_b2 (fu + d + 1) t (nI i) σ = some ((), σ) := by
  intro d
  induction d with
  | zero =>
    intro i h1
    have : i = 4 := by omega
    subst this
    rw [f_X4_landAll_b2, ex_bt (show (4 : Int32) ≤ nI 4 by decide), ex_rt]
  | succ d ih =>
    intro i h1
    have hi : i < 4 := by omega
    have a : ¬ (4 : Int32) ≤ nI i := fun h => by have := (nI_leL (x := 4) (k := 4) rfl (by omega) (by omega)).mp h; omega
    have nx : f_X4_landAll_b47 (f_X4_landAll_b2 (fu + d + 1)) t (nI i) σ = some ((), σ) := by
      rw [f_X4_landAll_b47, nI_1]; exact ih (i + 1) (by omega)
    rw [show fu + (d + 1) + 1 = (fu + d + 1) + 1 by omega, f_X4_landAll_b2, ex_bf a, ex_gd (inb_nI hi (by omega)), ex_lt, nI_clamp (show i < 2 ^ 31 by omega), fl_at, ex_gd (isFl_l hi), ex_cl (coming_eq hi)]
    by_cases q : σ.1 (fl i) 5 = 0 ∨ σ.1 (fl i) 5 = 1
    · rw [if_pos q, ex_bf l1_0, ex_gd (inb_nI hi (by omega)), ex_lt, ex_gd (isFl_l hi), ex_dI, ex_bf (h i hi q)]
      exact nx
    · rw [if_neg q, ex_bt rfl]
      exact nx
theorem othC_skip {g n s L fu : Nat} {σ τ : Sg} {t : Int32} (R : Re g n s L σ τ) (h : ∀ j, j < 4 → σ.1 (fl j) 5 = 2 → ¬ σ.1 (fl j) 2 ≤ 0 → t < σ.1 (fl j) 8 + nI (2 * s)) : ∀ d i, i + d = 4 → f_X4_sendOthers_b10 (fu + d + 1) t (nI i) σ = some ((), σ) := by
  intro d
  induction d with
  | zero =>
    intro i h1
    have : i = 4 := by omega
    subst this
    rw [f_X4_sendOthers_b10, ex_bt (show (4 : Int32) ≤ nI 4 by decide), ex_rt]
  | succ d ih =>
    intro i h1
    have hi : i < 4 := by omega
    have a : ¬ (4 : Int32) ≤ nI i := fun h => by have := (nI_leL (x := 4) (k := 4) rfl (by omega) (by omega)).mp h; omega
    by_cases q : σ.1 (fl i) 5 = 2 ∧ ¬ σ.1 (fl i) 2 ≤ 0
    · have cp : f_X4_canPush (fl i) σ = some (1, σ) := by rw [canPush_eq hi, if_pos q.1, if_neg q.2]
      rw [show fu + (d + 1) + 1 = (fu + d + 1) + 1 by omega, f_X4_sendOthers_b10, ex_bf a, ex_gd (inb_nI hi (by omega)), ex_lt, nI_clamp (show i < 2 ^ 31 by omega), fl_at, ex_gd (isFl_l hi), ex_cl (restEnds_eq R hi), ex_bt (h i hi q.1 q.2), f_X4_sendOthers_b40, ex_gd (isFl_l hi), ex_cl cp, ex_bf l1_0, ex_bt rfl, f_X4_sendOthers_b77, nI_1]
      exact ih (i + 1) (by omega)
    · rw [show fu + (d + 1) + 1 = (fu + d + 1) + 1 by omega, oth_no R hi (by
        by_cases z : σ.1 (fl i) 5 = 2
        · right
          by_cases y : σ.1 (fl i) 2 ≤ 0
          · exact y
          · exact absurd ⟨z, y⟩ q
        · exact Or.inl z)]
      exact ih (i + 1) (by omega)
theorem i_lt_le {a b c : Int32} (h : a < b) (k : b ≤ c) : a < c := by rw [Int32.lt_iff_toInt_lt] at *; rw [Int32.le_iff_toInt_le] at k; omega
theorem i_ne {a c : Int32} (h : a < c) : ¬ c = a := by rintro rfl; rw [Int32.lt_iff_toInt_lt] at h; omega
theorem tick_rel {g n s e t : Nat} {σ τ : Sg} (k7 : Int32 → Sg → Option (Unit × Sg)) (I : Iv g n s e t σ τ) (ht : t < 600) : ∃ σ' τ',
    (∀ fu T, t < T → T ≤ 600 → f_X4_go_b2 (fu + 1) (nI T) (nI t) σ = f_X4_go_b2 fu (nI T) (nI (t + 1)) σ') ∧
    f_X11_runs_b17 k7 FU (nI t) 0 τ = k7 (nI (t + 1)) τ' ∧ Iv g n s e (t + 1) σ' τ' ∧ off gs_mrun τ τ' ∧
    (∀ j, j < n → ∃ v, f_X1_heightIn (fl j) (nI t) σ' = some (v, σ') ∧ τ'.1 84 (600 * j + t) = v) ∧ (∀ b, (∀ j, j < n → ¬ b = 600 * j + t) → τ'.1 84 b = τ.1 84 b) := by
  obtain ⟨L, c, R, N, U, D⟩ := I
  have hn4 : n ≤ 4 := R.1.1.2.2.1
  have hgd := R.1.1.1
  have hss : 1 ≤ s ∧ s ≤ 9 := ⟨R.1.1.2.2.2.2.1, R.1.1.2.2.2.2.2.1⟩
  obtain ⟨L1, c1, σ1, τ1, a1, a2, R1, N1, o1⟩ := lands_rel (k7 := k7) ht 4 0 8187 8187 L c σ τ rfl R N
  have a1 : f_X4_landAll (nI t) σ = some ((), σ1) := a1
  have U1 := U.off hgd (fr_X4_landAll _ _ _ a1) o1
  obtain ⟨σ2, τ2, b1, b2, R2, N2, o2, h2⟩ := endRise_rel (k7 := k7) R1 N1 U1 ht
  have U2 := U1.off hgd (fr_X4_endRise _ _ _ b1) o2
  obtain ⟨σ3, τ3, d1, d2, R3, N3, o3, h3⟩ := sendOthers_rel (k7 := k7) ht R2 N2 U2
  have U3 := U2.off hgd (fr_X4_sendOthers _ _ _ d1) o3
  have o03 : off gs_mrunF τ τ3 := off_trans o1 (off_trans o2 o3)
  have eM : f_X11_runs_b17 k7 FU (nI t) 0 τ = f_X11_runs_b294 k7 (nI t) τ3 := by
    rw [← d2, ← b2, ← a2]; rfl
  have N3' : Nu g n s e (t + 1) L1 c1 σ3 := N3.next (fun z => by
    have := h3 z
    subst this
    exact h2 z) ht hss.2
  by_cases q : nI t < σ.1 17 5
  · -- nothing is due
    obtain ⟨q1, q2, q3⟩ := D q
    have e1 : σ1 = σ := by
      have := landC_skip (fu := 8187) (σ := σ) (t := nI t) (fun j hj hd => by
        by_cases z : j < n
        · exact i_ne (i_lt_le q (q1 j z hd))
        · rcases R.2.1 j hj with ⟨h4, -⟩ | ⟨h4, -⟩
          · rw [h4] at hd; exact absurd hd (by decide)
          · omega) 4 0 rfl
      have h9 : f_X4_landAll (nI t) σ = some ((), σ) := this
      rw [a1] at h9
      cases h9
      rfl
    subst e1
    have e2 : σ2 = σ1 := by
      have h9 : f_X4_endRise (nI t) σ1 = some ((), σ1) := by
        rcases R.2.2.2.2.2.2.2 with ⟨z1, z2⟩ | ⟨z1, -⟩
        · rw [f_X4_endRise, ex_dI, ex_bf (by rw [z1]; decide), ex_rt]
        · obtain ⟨b, hb, w1, w2⟩ := q2 z1
          rw [f_X4_endRise, ex_dI, ex_bt z1, ex_cl (riseEnds_eq R1 w1), ex_bf (Int32.not_le.mpr (i_lt_le q w2)), ex_rt]
      rw [b1] at h9
      cases h9
      rfl
    subst e2
    have e3 : σ3 = σ2 := by
      have h9 : f_X4_sendOthers (nI t) σ2 = some ((), σ2) := by
        rcases R.2.2.2.2.2.2.2 with ⟨z1, z2⟩ | ⟨z1, -⟩
        · rw [f_X4_sendOthers, ex_dI, ex_bf (by rw [z1]; decide)]
          exact othC_skip (fu := 8187) R (fun j hj hd hl => by
            by_cases z : j < n
            · exact i_lt_le q (q3 z1 j z hd hl)
            · rcases R.2.1 j hj with ⟨h4, -⟩ | ⟨h4, -⟩
              · rw [h4] at hd; exact absurd hd (by decide)
              · omega) 4 0 rfl
        · rw [f_X4_sendOthers, ex_dI, ex_bt z1, ex_rt]
      rw [d1] at h9
      cases h9
      rfl
    subst e3
    obtain ⟨τ4, f1, f2, f3, f4⟩ := film_rel (k7 := k7) ht 4 0 8187 τ3 rfl R3 N3
    have O4 := off_trans (off_mono su_mrunF_mrun o03) f2.off84
    refine ⟨σ3, τ4, fun fu T h1 h2 => ?_, ?_, ⟨L1, c1, R3.film f2, N3', ?_, ?_⟩, O4, fun j hj => f3 j (by omega) hj, fun b hb => ?_⟩
    · rw [f_X4_go_b2, ex_bf (nI_ge h1 (by omega)), ex_dI, ex_bt q, f_X4_go_b38, nI_1]
    · rw [eM, f_X11_runs_b294]; exact f1
    · obtain ⟨m, h1, h2, h3, h4, h5⟩ := U3
      refine ⟨m, h1, h2, by rw [f2.2 _ _ (by omega)]; exact h3, fun r hr => ?_, by rw [f2.2 _ _ (by omega)]; exact h5⟩
      obtain ⟨a, k, ts, b1, b2, b3, b4, b5, b6, b7, b8⟩ := h4 r hr
      exact ⟨a, k, ts, b1, b2, b3, b4, by rw [f2.2 _ _ (by omega)]; exact b5, b6, MC.of (fun b => f2.2 _ _ (by omega)) _ _ b7, b8⟩
    · intro z
      exact D q
    · rw [f4 b (fun j _ hj => hb j hj), (o03 84 b rfl).1]
  · obtain ⟨y, y1, y2⟩ := nextDue_eq (t := t + 1) R3
    obtain ⟨τ4, f1, f2, f3, f4⟩ := film_rel (k7 := k7) ht 4 0 8187 τ3 rfl (re_due R3 y) (nu_due hgd N3 y)
    have O4 := off_trans (off_mono su_mrunF_mrun o03) f2.off84
    refine ⟨sI σ3 17 5 y, τ4, fun fu T h1 h2 => ?_, ?_, ⟨L1, c1, (re_due R3 y).film f2, nu_due hgd N3' y, ?_, y2⟩, O4, fun j hj => f3 j (by omega) hj, fun b hb => ?_⟩
    · rw [f_X4_go_b2, ex_bf (nI_ge h1 (by omega)), ex_dI, ex_bf q, ex_cl a1, ex_cl b1, ex_cl d1, ex_cl y1, ex_pI, f_X4_go_b38, nI_1]
    · rw [eM, f_X11_runs_b294]; exact f1
    · have hg := or3 hgd
      have s3 : ∀ a b, ¬ a = 17 → (sI σ3 17 5 y).1 a b = σ3.1 a b := fun a b h => sI_ne h
      obtain ⟨m, h1, h2, h3, h4, h5⟩ := U3
      refine ⟨m, h1, by rw [s3 _ _ (by omega)]; exact h2, by rw [f2.2 _ _ (by omega)]; exact h3, fun r hr => ?_, by rw [f2.2 _ _ (by omega)]; exact h5⟩
      obtain ⟨a, k, ts, b1, b2, b3, b4, b5, b6, b7, b8⟩ := h4 r hr
      exact ⟨a, k, ts, by rw [s3 _ _ (by omega)]; exact b1, by rw [s3 _ _ (by omega)]; exact b2, b3, CC.of (fun b => s3 _ _ (by omega)) _ _ b4, by rw [f2.2 _ _ (by omega)]; exact b5, b6, MC.of (fun b => f2.2 _ _ (by omega)) _ _ b7, b8⟩
    · rw [f4 b (fun j _ hj => hb j hj), (o03 84 b rfl).1]
/-- the class's states of a run -/
def Chain (t N : Nat) (S : Nat → Sg) : Prop := ∀ k, t ≤ k → k < N → ∀ fu T, k < T → T ≤ 600 → f_X4_go_b2 (fu + 1) (nI T) (nI k) (S k) = f_X4_go_b2 fu (nI T) (nI (k + 1)) (S (k + 1))
theorem run_rel {g n s e N : Nat} (hN : N ≤ 600) : ∀ (d t fu : Nat) (σ τ : Sg), t + d = N → Iv g n s e t σ τ → τ.1 56 47 = nI N → ∃ (S : Nat → Sg) (τ' : Sg), S t = σ ∧ Chain t N S ∧ f_X11_runs_b7 (fu + d + 1) (nI t) τ = some ((), τ') ∧ Iv g n s e N (S N) τ' ∧
    (∀ k, t ≤ k → k < N → ∀ j, j < n → ∃ v, f_X1_heightIn (fl j) (nI k) (S (k + 1)) = some (v, S (k + 1)) ∧ τ'.1 84 (600 * j + k) = v) ∧ (∀ b, (∀ k j, t ≤ k → k < N → j < n → ¬ b = 600 * j + k) → τ'.1 84 b = τ.1 84 b) ∧ (∀ k, t ≤ k → k ≤ N → ∀ j, j < 4 → (S k).1 (fl j) 0 = nI j) := by
  intro d
  induction d with
  | zero =>
    intro t fu σ τ h1 I h47
    have : t = N := by omega
    subst this
    refine ⟨fun _ => σ, τ, rfl, fun k h2 h3 => by omega, ?_, I, fun k h2 h3 => by omega, fun _ _ => rfl, fun k _ _ => by obtain ⟨L, c, R, -⟩ := I; exact R.1.2.2.1⟩
    rw [f_X11_runs_b7, ex_dI, h47, ex_bt (Int32.le_refl _), ex_rt]
  | succ d ih =>
    intro t fu σ τ h1 I h47
    have hn4 : n ≤ 4 := by obtain ⟨L, c, R, -⟩ := I; exact R.1.1.2.2.1
    obtain ⟨σ', τ1, a1, a2, I1, o1, a3, a4⟩ := tick_rel (f_X11_runs_b7 (fu + d + 1)) I (by omega)
    obtain ⟨S, τ', b1, b2, b3, b4, b5, b6, b7⟩ := ih (t + 1) fu σ' τ1 (by omega) I1 (by rw [(o1 56 47 rfl).1]; exact h47)
    refine ⟨fun k => if k = t then σ else S k, τ', by simp only [if_true], ?_, ?_, by simp only [if_neg (show ¬ N = t by omega)]; exact b4, ?_, ?_, ?_⟩
    · intro k h2 h3 fu' T h4 h5
      by_cases z : k = t
      · subst z
        simp only [if_true, if_neg (show ¬ k + 1 = k by omega), b1]
        exact a1 fu' T h4 h5
      · simp only [if_neg z, if_neg (show ¬ k + 1 = t by omega)]
        exact b2 k (by omega) h3 fu' T h4 h5
    · rw [show fu + (d + 1) + 1 = (fu + d + 1) + 1 by omega, f_X11_runs_b7, ex_dI, h47, ex_bf (nI_ge (by omega) (by omega)), a2]
      exact b3
    · intro k h2 h3 j hj
      simp only [if_neg (show ¬ k + 1 = t by omega)]
      by_cases z : k = t
      · subst z
        obtain ⟨v, v1, v2⟩ := a3 j hj
        refine ⟨v, by rw [b1]; exact v1, ?_⟩
        rw [b6 _ (fun k' j' k1 k2 k3 => by omega)]
        exact v2
      · exact b5 k (by omega) h3 j hj
    · intro b hb
      rw [b6 b (fun k j k1 k2 k3 => hb k j (by omega) k2 k3), a4 b (fun j hj => hb t j (by omega) (by omega) hj)]
    · intro k h2 h3
      by_cases z : k = t
      · subst z
        simp only [if_true]
        obtain ⟨L, c, R, -⟩ := I
        exact R.1.2.2.1
      · simp only [if_neg z]
        exact b7 k (by omega) h3
theorem chain_go {t N T : Nat} {S : Nat → Sg} (hC : Chain t N S) (hT : T ≤ N) (hN : N ≤ 600) (fu : Nat) : ∀ d k, t ≤ k → k + d = T → f_X4_go_b2 (fu + d + 1) (nI T) (nI k) (S k) = some ((), S T) := by
  intro d
  induction d with
  | zero =>
    intro k h1 h2
    have : k = T := by omega
    subst this
    rw [f_X4_go_b2, ex_bt (Int32.le_refl _), ex_rt]
  | succ d ih =>
    intro k h1 h2
    rw [show fu + (d + 1) + 1 = (fu + d + 1) + 1 by omega, hC k h1 (by omega) (fu + d + 1) T (by omega) (by omega)]
    exact ih (k + 1) (by omega) (by omega)
theorem go_to {N T : Nat} {S : Nat → Sg} (hC : Chain 0 N S) (hT : T ≤ N) (hN : N ≤ 600) : f_X4_go 0 (nI T) (S 0) = some ((), S T) := by
  have := chain_go hC hT hN (8191 - T) T 0 (by omega) (by omega)
  rw [show 8191 - T + T + 1 = FU by rw [Nat.sub_add_cancel (by omega)]; rfl] at this
  exact this
theorem go_one {N t : Nat} {S : Nat → Sg} (hC : Chain 0 N S) (hT : t < N) (hN : N ≤ 600) : f_X4_go (nI t) (nI (t + 1)) (S t) = some ((), S (t + 1)) := by
  have := chain_go (T := t + 1) hC (by omega) hN 8190 1 t (by omega) rfl
  exact this
