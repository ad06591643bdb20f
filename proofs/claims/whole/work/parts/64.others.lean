-- ===== the others =====
theorem canPush_eq {j : Nat} {σ : Sg} (hj : j < 4) : f_X4_canPush (fl j) σ = some (if σ.1 (fl j) 5 = 2 then (if σ.1 (fl j) 2 ≤ 0 then 0 else 1) else 0, σ) := by
  rw [f_X4_canPush, ex_gd (isFl_l hj), ex_dI]
  by_cases h : σ.1 (fl j) 5 = 2
  · rw [ex_bt h, if_pos h, ex_dI]
    by_cases k : σ.1 (fl j) 2 ≤ 0
    · rw [ex_bt k, if_pos k, ex_rt]
    · rw [ex_bf k, if_neg k, ex_rt]
  · rw [ex_bf h, if_neg h, ex_rt]
theorem restEnds_eq {g n s L j : Nat} {σ τ : Sg} (R : Re g n s L σ τ) (hj : j < 4) : f_X4_restEnds (fl j) σ = some (σ.1 (fl j) 8 + nI (2 * s), σ) := by
  have hgd := R.1.1.1
  have hg : σ.2.2 17 3 = g := R.1.1.2.1
  have hs0 : σ.1 g 0 = nI s := R.1.1.2.2.2.2.2.2.1
  rw [f_X4_restEnds, ex_gd (isFl_l hj), ex_dI, ex_dR, hg, ex_gd hgd, ex_dI, ex_rt, hs0, nI_mulL (x := 2) (k := 2) rfl]
/-- an other that can't push -/
theorem oth_no {g n s L i fu : Nat} {σ τ : Sg} {t : Int32} (R : Re g n s L σ τ) (hi : i < 4) (h : ¬ σ.1 (fl i) 5 = 2 ∨ σ.1 (fl i) 2 ≤ 0) : f_X4_sendOthers_b10 (fu + 1) t (nI i) σ = f_X4_sendOthers_b10 fu t (nI (i + 1)) σ := by
  have a : ¬ (4 : Int32) ≤ nI i := fun h => by have := (nI_leL (x := 4) (k := 4) rfl (by omega) (by omega)).mp h; omega
  have cp : f_X4_canPush (fl i) σ = some (0, σ) := by
    rw [canPush_eq hi]
    rcases h with h | h
    · rw [if_neg h]
    · rw [if_pos h, ite_self]
  have b : ∀ x : Int32, f_X4_sendOthers_b40 (f_X4_sendOthers_b10 fu) t (nI i) (fl i) x σ = f_X4_sendOthers_b10 fu t (nI (i + 1)) σ := fun x => by
    rw [f_X4_sendOthers_b40, ex_gd (isFl_l hi), ex_cl cp, ex_bt rfl, f_X4_sendOthers_b77, nI_1]
  rw [f_X4_sendOthers_b10, ex_bf a, ex_gd (inb_nI hi (by omega)), ex_lt, nI_clamp (show i < 2 ^ 31 by omega), fl_at, ex_gd (isFl_l hi), ex_cl (restEnds_eq R hi)]
  by_cases z : t < σ.1 (fl i) 8 + nI (2 * s)
  · rw [ex_bt z, b]
  · rw [ex_bf z, b]
theorem oth_end {g n s L fu : Nat} {σ τ : Sg} {t : Int32} (R : Re g n s L σ τ) : ∀ d i, i + d = 4 → n ≤ i → f_X4_sendOthers_b10 (fu + d + 1) t (nI i) σ = some ((), σ) := by
  intro d
  induction d with
  | zero =>
    intro i h1 h2
    have : i = 4 := by omega
    subst this
    rw [f_X4_sendOthers_b10, ex_bt (show (4 : Int32) ≤ nI 4 by decide), ex_rt]
  | succ d ih =>
    intro i h1 h2
    have h4 : ¬ σ.1 (fl i) 5 = 2 := by
      rcases R.2.1 i (by omega) with ⟨h4, -⟩ | ⟨h4, -⟩
      · rw [h4]; decide
      · omega
    rw [show fu + (d + 1) + 1 = (fu + d + 1) + 1 by omega, oth_no R (by omega) (Or.inl h4)]
    exact ih (i + 1) (by omega) (by omega)
theorem others_rel {g n s e t L : Nat} {c : Nat → Nat} {k7 : Int32 → Sg → Option (Unit × Sg)} (ht : t < 600) : ∀ (d i fu fm : Nat) (σ τ : Sg), i + d = 4 → Re g n s L σ τ → Nu g n s e t L c σ → Ru g σ τ → σ.1 17 6 = 1 →
    ∃ σ' τ', f_X4_sendOthers_b10 (fu + d + 1) (nI t) (nI i) σ = some ((), σ') ∧ f_X11_runs_b208 k7 (fm + d + 1) (nI t) (nI i) τ = f_X11_runs_b294 k7 (nI t) τ' ∧ Re g n s L σ' τ' ∧ Nu g n s e t L c σ' ∧ off gs_mrunF τ τ' ∧ σ'.1 17 6 = 1 := by
  intro d
  induction d with
  | zero =>
    intro i fu fm σ τ h1 R N U h6
    have hn4 : n ≤ 4 := R.1.1.2.2.1
    refine ⟨σ, τ, oth_end R 0 i h1 (by omega), ?_, R, N, off_rfl, h6⟩
    have : i = 4 := by omega
    subst this
    rw [f_X11_runs_b208, ex_dI, R.1.1.2.2.2.1, ex_bt (nI_le hn4 (by omega))]
  | succ d ih =>
    intro i fu fm σ τ h1 R N U h6
    have hn4 : n ≤ 4 := R.1.1.2.2.1
    have hi : i < 4 := by omega
    have hgd := R.1.1.1
    have hs1 : τ.1 56 1 = nI s := R.1.1.2.2.2.2.2.2.2
    have hss : 1 ≤ s ∧ s ≤ 9 := ⟨R.1.1.2.2.2.2.1, R.1.1.2.2.2.2.2.1⟩
    have hneg : τ.1 56 65 = -1 := by
      rcases R.2.2.2.2.2.2.2 with ⟨-, q2⟩ | ⟨q1, -⟩
      · exact q2
      · rw [h6] at q1; exact absurd q1 (by decide)
    by_cases hin : i < n
    · have a2 : ¬ nI n ≤ nI i := nI_ge hin (by omega)
      have h0 : τ.1 56 6 = nI n := R.1.1.2.2.2.1
      have i4 := inb_nI hi (show 4 < 2 ^ 31 by omega)
      have ci := nI_clamp (show i < 2 ^ 31 by omega)
      obtain ⟨-, ⟨l, l1, l2⟩, -⟩ := N.2.1 i hin
      have hl6 : τ.1 58 (6 * i + 1) = nI l := (R.1.2.2.2 i hin).2.1.trans l2
      have nx : ∀ υ : Sg, f_X11_runs_b288 k7 (f_X11_runs_b208 k7 (fm + d + 1)) (nI t) (nI i) υ = f_X11_runs_b208 k7 (fm + d + 1) (nI t) (nI (i + 1)) υ := fun υ => by rw [f_X11_runs_b288, nI_1]
      have hd : (τ.1 73 i = 2) ↔ σ.1 (fl i) 5 = 2 := by
        rcases R.2.1 i hi with ⟨h4, h5⟩ | ⟨-, -, h5, -⟩
        · rw [h4, h5]; decide
        · rw [h5]
      rw [show fu + (d + 1) + 1 = (fu + d + 1) + 1 by omega, show fm + (d + 1) + 1 = (fm + d + 1) + 1 by omega, f_X11_runs_b208, ex_dI, h0, ex_bf a2, ex_dI, ex_bt hneg, nI_l6 (x := 1) (k := 1) rfl, ex_gd (inb_nI (show 6 * i + 1 < 24 by omega) (by omega)), ex_dI, nI_clamp (show 6 * i + 1 < 2 ^ 31 by omega), hl6, ex_gd i4, ex_dI, ci]
      by_cases q : σ.1 (fl i) 5 = 2
      · obtain ⟨u, u1, u2, u3⟩ := N.2.2.2.1.2.2.1 i hin q
        have f3 : τ.1 77 i = nI u := (R.2.2.1 i hin).2.2.1.trans u2
        rw [ex_bt (hd.mpr q), ex_gd i4, ex_dI, ex_dI, f3, hs1, nI_sub u1, nI_mulL (x := 2) (k := 2) rfl]
        by_cases z : t - u < 2 * s
        · -- not yet
          rw [ex_bt ((nI_ltI (by omega) (by omega)).mpr z), nx]
          have eC : f_X4_sendOthers_b10 (fu + d + 1 + 1) (nI t) (nI i) σ = f_X4_sendOthers_b10 (fu + d + 1) (nI t) (nI (i + 1)) σ := by
            by_cases y : σ.1 (fl i) 2 ≤ 0
            · exact oth_no R hi (Or.inr y)
            · have a : ¬ (4 : Int32) ≤ nI i := fun h => by have := (nI_leL (x := 4) (k := 4) rfl (by omega) (by omega)).mp h; omega
              have cp : f_X4_canPush (fl i) σ = some (1, σ) := by rw [canPush_eq hi, if_pos q, if_neg y]
              rw [f_X4_sendOthers_b10, ex_bf a, ex_gd i4, ex_lt, ci, fl_at, ex_gd (isFl_l hi), ex_cl (restEnds_eq R hi), u2, nI_add, ex_bt ((nI_ltI (by omega) (by omega)).mpr (by omega)), f_X4_sendOthers_b40, ex_gd (isFl_l hi), ex_cl cp, ex_bf l1_0, ex_bt rfl, f_X4_sendOthers_b77, nI_1]
          rw [eC]
          exact ih (i + 1) fu fm σ τ (by omega) R N U h6
        · rw [ex_bf (fun y => z ((nI_ltI (by omega) (by omega)).mp y))]
          by_cases y : l = 0
          · subst y
            rw [ex_bt (show nI 0 ≤ 0 by decide), nx, oth_no R hi (Or.inr (by rw [l2]; decide))]
            exact ih (i + 1) fu fm σ τ (by omega) R N U h6
          · have y1 : ¬ nI l ≤ 0 := nI_nle (by omega) (by omega)
            have a : ¬ (4 : Int32) ≤ nI i := fun h => by have := (nI_leL (x := 4) (k := 4) rfl (by omega) (by omega)).mp h; omega
            have cp : f_X4_canPush (fl i) σ = some (1, σ) := by rw [canPush_eq hi, if_pos q, l2, if_neg y1]
            obtain ⟨v, σ3, τ3, v1, v2, v3, v4, v5⟩ := mayGo_rel (h := nI l) (t := nI t) R U hin
            have R3 := R.om v4 v5
            have N3 := N.om hgd hn4 v4
            obtain ⟨x17, xg, x28, x29, xfl, xfk⟩ := Om.facts hgd v4
            have U3 := U.off hgd (fr_X4_mayGo _ _ _ _ _ v1) (fr_X11_mayGo _ _ _ _ _ v2)
            have eC : f_X4_sendOthers_b10 (fu + d + 1 + 1) (nI t) (nI i) σ = (br (v = 0) (f_X4_sendOthers_b77 (f_X4_sendOthers_b10 (fu + d + 1)) (nI t) (nI i)) (dI (fl i) 2 (fun v7 => cl (f_X4_send (fl i) v7 (nI t)) (fun _ => f_X4_sendOthers_b77 (f_X4_sendOthers_b10 (fu + d + 1)) (nI t) (nI i))))) σ3 := by
              rw [f_X4_sendOthers_b10, ex_bf a, ex_gd i4, ex_lt, ci, fl_at, ex_gd (isFl_l hi), ex_cl (restEnds_eq R hi), u2, nI_add, ex_bf (fun y => z (by have := (nI_ltI (by omega) (by omega)).mp y; omega)), f_X4_sendOthers_b40, ex_gd (isFl_l hi), ex_cl cp, ex_bf l1_0, ex_bf l1_0, ex_dI, l2, ex_cl v1]
            rw [eC, ex_bf y1, ex_cl v2]
            by_cases hv : v = 0
            · rw [ex_bt hv, ex_bt hv, f_X4_sendOthers_b77, nI_1, nx]
              obtain ⟨σ', τ', w1, w2, w3, w4, w5, w6⟩ := ih (i + 1) fu fm σ3 τ3 (by omega) R3 N3 U3 (by rw [x17]; exact h6)
              exact ⟨σ', τ', w1, w2, w3, w4, off_trans (fr_X11_mayGo _ _ _ _ _ v2) w5, w6⟩
            · obtain ⟨σ5, τ5, y3, y4, R5, N5, y5, -⟩ := send_rel (hh := l) R3 N3 (by rw [x17]; exact h6) hin (by rw [xfl i _ hi]; exact q) (by omega) ht ⟨u, by rw [xfl i _ hi]; exact u2, by omega⟩
              have U5 := U3.off hgd (fr_X4_send _ _ _ _ _ y3) (fr_X11_goesUp _ _ _ _ _ y4)
              rw [ex_bf hv, ex_bf hv, ex_dI, xfl i _ hi, l2, ex_cl y3, ex_cl y4, f_X4_sendOthers_b77, nI_1, nx]
              obtain ⟨σ', τ', w1, w2, w3, w4, w5, w6⟩ := ih (i + 1) fu fm σ5 τ5 (by omega) R5 N5 U5 (by rw [y5, x17]; exact h6)
              exact ⟨σ', τ', w1, w2, w3, w4, off_trans (fr_X11_mayGo _ _ _ _ _ v2) (off_trans (fr_X11_goesUp _ _ _ _ _ y4) w5), w6⟩
      · rw [ex_bf (fun z => q (hd.mp z)), nx, oth_no R hi (Or.inl q)]
        exact ih (i + 1) fu fm σ τ (by omega) R N U h6
    · refine ⟨σ, τ, oth_end R (d + 1) i h1 (by omega), ?_, R, N, off_rfl, h6⟩
      rw [f_X11_runs_b208, ex_dI, R.1.1.2.2.2.1, ex_bt (nI_le (by omega) (by omega))]
/-- all of it, also while the mat is not still -/
theorem sendOthers_rel {g n s e t L : Nat} {c : Nat → Nat} {k7 : Int32 → Sg → Option (Unit × Sg)} {σ τ : Sg} (ht : t < 600) (R : Re g n s L σ τ) (N : Nu g n s e t L c σ) (U : Ru g σ τ) : ∃ σ' τ', f_X4_sendOthers (nI t) σ = some ((), σ') ∧ f_X11_runs_b206 k7 (nI t) τ = f_X11_runs_b294 k7 (nI t) τ' ∧ Re g n s L σ' τ' ∧ Nu g n s e t L c σ' ∧ off gs_mrunF τ τ' ∧ (σ'.1 17 6 = 0 → σ' = σ) := by
  rcases R.2.2.2.2.2.2.2 with ⟨q1, q2⟩ | ⟨q1, b1, i1, hb1, hi1, q2, q3, q4, q5⟩
  · obtain ⟨σ', τ', w1, w2, w3, w4, w5, w6⟩ := others_rel (k7 := k7) ht 4 0 8187 8187 σ τ rfl R N U q1
    refine ⟨σ', τ', ?_, ?_, w3, w4, w5, fun z => by rw [w6] at z; exact absurd z (by decide)⟩
    · rw [f_X4_sendOthers, ex_dI, ex_bf (by rw [q1]; decide)]
      exact w1
    · rw [f_X11_runs_b206]
      exact w2
  · refine ⟨σ, τ, ?_, ?_, R, N, off_rfl, fun _ => rfl⟩
    · rw [f_X4_sendOthers, ex_dI, ex_bt q1, ex_rt]
    · have hne : ¬ τ.1 56 65 = -1 := by rw [q3]; exact neg1_ne hb1
      rw [f_X11_runs_b206, show FU = 8191 + 1 from rfl, f_X11_runs_b208, ex_dI]
      by_cases z : τ.1 56 6 ≤ 0
      · rw [ex_bt z]
      · rw [ex_bf z, ex_dI, ex_bf hne]
