-- ===== the picture: image, restore =====
theorem JB.cong {e n : Nat} {J J' : Nat → Int32} (h : JB e n J) (hn : n ≤ 4) (hJ : ∀ b, b < 24 → J' b = J b) : JB e n J' := by
  intro j hj
  rw [hJ _ (by omega), hJ _ (by omega), hJ _ (by omega), hJ _ (by omega), hJ _ (by omega), hJ _ (by omega)]
  exact h j hj
theorem copy_eq {q r : Nat} {σ : Sg} (hq : (q = 8 ∧ r = 2) ∨ (q = 2 ∧ r = 8)) : ∃ σ', f_X7_copy q r σ = some ((), σ') ∧ (σ'.1 q 1 = σ.1 r 1 ∧ σ'.1 q 2 = σ.1 r 2 ∧ σ'.1 q 3 = σ.1 r 3 ∧ σ'.1 q 7 = σ.1 r 7 ∧ σ'.1 q 9 = σ.1 r 9) ∧ (∀ b, b < 24 → σ'.1 (q + 1) b = σ.1 (r + 1) b) ∧ (∀ b, b < 40 → σ'.1 (q + 2) b = σ.1 (r + 2) b ∧ σ'.1 (q + 3) b = σ.1 (r + 3) b ∧ σ'.1 (q + 4) b = σ.1 (r + 4) b) ∧ (∀ b, b < 20 → σ'.1 (q + 5) b = σ.1 (r + 5) b) ∧ (∀ a b, ¬ (q ≤ a ∧ a ≤ q + 5) → σ'.1 a b = σ.1 a b) ∧ σ'.2 = σ.2 := by
  rcases hq with ⟨rfl, rfl⟩ | ⟨rfl, rfl⟩
  all_goals
    rw [f_X7_copy, ex_gd (by decide), ex_gd (by decide), ex_wI, ex_dI, ex_pI, ex_dI, ex_pI, ex_dI, ex_pI, ex_wI, ex_wI, ex_wI, ex_dI, ex_pI, ex_wI, ex_dI, ex_pI, ex_rt]
    refine ⟨_, rfl, ⟨?_, ?_, ?_, ?_, ?_⟩, fun b hb => ?_, fun b hb => ⟨?_, ?_, ?_⟩, fun b hb => ?_, fun a b h => ?_, rfl⟩
    · simp [sI_gt, rI_gt]
    · simp [sI_gt, rI_gt]
    · simp [sI_gt, rI_gt]
    · simp [sI_gt, rI_gt]
    · simp [sI_gt, rI_gt]
    · simp [sI_gt, rI_gt, va_cpy, hb]
    · simp [sI_gt, rI_gt, va_cpy, hb]
    · simp [sI_gt, rI_gt, va_cpy, hb]
    · simp [sI_gt, rI_gt, va_cpy, hb]
    · simp [sI_gt, rI_gt, va_cpy, hb]
    · simp only [sI_gt, rI_gt]
      repeat rw [if_neg (by omega)]
theorem Sc.copy {q r n m e fr ft fa ff cj ca cp fr' ft' fa' ff' cj' ca' cp' : Nat} {σ σ' τ τ' : Sg} (h : Sc r n m e fr ft fa ff cj ca cp σ τ) (hn : n ≤ 4) (c0 : σ'.1 q 1 = σ.1 r 1 ∧ σ'.1 q 2 = σ.1 r 2 ∧ σ'.1 q 3 = σ.1 r 3 ∧ σ'.1 q 7 = σ.1 r 7 ∧ σ'.1 q 9 = σ.1 r 9) (c1 : ∀ b, b < 24 → σ'.1 (q + 1) b = σ.1 (r + 1) b) (c2 : ∀ b, b < 40 → σ'.1 (q + 2) b = σ.1 (r + 2) b ∧ σ'.1 (q + 3) b = σ.1 (r + 3) b ∧ σ'.1 (q + 4) b = σ.1 (r + 4) b) (c5 : ∀ b, b < 20 → σ'.1 (q + 5) b = σ.1 (r + 5) b) (t1 : τ'.1 56 fr' = τ.1 56 fr) (t2 : τ'.1 56 ft' = τ.1 56 ft) (t3 : τ'.1 56 fa' = τ.1 56 fa) (t4 : τ'.1 56 ff' = τ.1 56 ff) (t5 : ∀ b, b < 24 → τ'.1 cj' b = τ.1 cj b) (t6 : ∀ b, b < 80 → τ'.1 ca' b = τ.1 ca b) (t7 : ∀ b, b < 20 → τ'.1 cp' b = τ.1 cp b) : Sc q n m e fr' ft' fa' ff' cj' ca' cp' σ' τ' := by
  obtain ⟨s1, s2, s3, s4, ⟨N, n1, n2, n3, n4⟩, ⟨a, a1, a2, a3, a4⟩, ⟨p, p1, p2, p3, p4⟩⟩ := h
  refine ⟨c0.1.trans s1, fun j hj k hk => ?_, s3.cong hn c1, by rw [t1, c0.2.1]; exact s4, ⟨N, n1, n2, c0.2.2.1.trans n3, t2.trans n4⟩, ⟨a, a1, c0.2.2.2.1.trans a2, t3.trans a3, fun i hi => ?_⟩, ⟨p, p1, c0.2.2.2.2.trans p2, t4.trans p3, fun i hi => ?_⟩⟩
  · rw [t5 _ (by omega), c1 _ (by omega)]; exact s2 j hj k hk
  · obtain ⟨d1, d2, d3⟩ := c2 i (by omega)
    rw [d1, d2, d3, t6 _ (by omega), t6 _ (by omega)]; exact a4 i hi
  · rw [t7 _ (by omega), c5 _ (by omega)]; exact p4 i hi
theorem copies_58_92_loop : ∀ (d i fu : Nat) (τ : Sg), i + d = 24 → ∃ τ', f_X11_copies_58_92_b2 (fu + d + 1) (nI i) τ = some ((), τ') ∧ (∀ b, τ'.1 92 b = if i ≤ b ∧ b < 24 then τ.1 58 b else τ.1 92 b) ∧ (∀ a b, ¬ a = 92 → τ'.1 a b = τ.1 a b) ∧ τ'.2 = τ.2 := by
  intro d
  induction d with
  | zero =>
    intro i fu τ h
    have : i = 24 := by omega
    subst this
    refine ⟨τ, by rw [f_X11_copies_58_92_b2, ex_bt (by decide), ex_rt], fun b => ?_, fun _ _ _ => rfl, rfl⟩
    rw [if_neg (by omega)]
  | succ d ih =>
    intro i fu τ h
    have ge : ¬ (24 : Int32) ≤ nI i := fun q => by have := (nI_leL (x := 24) (k := 24) rfl (by omega) (by omega)).mp q; omega
    have inb := inb_nI (show i < 24 by omega) (by omega)
    have ci := nI_clamp (show i < 2 ^ 31 by omega)
    obtain ⟨τ', a1, a2, a3, a4⟩ := ih (i + 1) fu (sI τ 92 i (τ.1 58 i)) (by omega)
    refine ⟨τ', ?_, fun b => ?_, fun a b z => by rw [a3 a b z, sI_ne z], a4⟩
    · rw [show fu + (d + 1) + 1 = (fu + d + 1) + 1 by omega, f_X11_copies_58_92_b2, ex_bf ge, ex_gd inb, ex_dI, ci, ex_gd inb, ex_pI, nI_1]
      exact a1
    · rw [a2 b, sI_ne (by omega)]
      by_cases z : i + 1 ≤ b ∧ b < 24
      · rw [if_pos z, if_pos (by omega)]
      · rw [if_neg z]
        by_cases y : b = i
        · subst y
          rw [sI_eq, if_pos (by omega)]
        · rw [sI_nf y, if_neg (by omega)]
theorem copies_58_92_eq (τ : Sg) : ∃ τ', f_X11_copies_58_92 τ = some ((), τ') ∧ (∀ b, b < 24 → τ'.1 92 b = τ.1 58 b) ∧ (∀ a b, ¬ a = 92 → τ'.1 a b = τ.1 a b) ∧ τ'.2 = τ.2 := by
  obtain ⟨τ', a1, a2, a3, a4⟩ := copies_58_92_loop 24 0 (8191 - 24) τ (by omega)
  exact ⟨τ', a1, fun b hb => by rw [a2 b, if_pos (by omega)], a3, a4⟩
theorem copies_71_93_loop : ∀ (d i fu : Nat) (τ : Sg), i + d = 80 → ∃ τ', f_X11_copies_71_93_b2 (fu + d + 1) (nI i) τ = some ((), τ') ∧ (∀ b, τ'.1 93 b = if i ≤ b ∧ b < 80 then τ.1 71 b else τ.1 93 b) ∧ (∀ a b, ¬ a = 93 → τ'.1 a b = τ.1 a b) ∧ τ'.2 = τ.2 := by
  intro d
  induction d with
  | zero =>
    intro i fu τ h
    have : i = 80 := by omega
    subst this
    refine ⟨τ, by rw [f_X11_copies_71_93_b2, ex_bt (by decide), ex_rt], fun b => ?_, fun _ _ _ => rfl, rfl⟩
    rw [if_neg (by omega)]
  | succ d ih =>
    intro i fu τ h
    have ge : ¬ (80 : Int32) ≤ nI i := fun q => by have := (nI_leL (x := 80) (k := 80) rfl (by omega) (by omega)).mp q; omega
    have inb := inb_nI (show i < 80 by omega) (by omega)
    have ci := nI_clamp (show i < 2 ^ 31 by omega)
    obtain ⟨τ', a1, a2, a3, a4⟩ := ih (i + 1) fu (sI τ 93 i (τ.1 71 i)) (by omega)
    refine ⟨τ', ?_, fun b => ?_, fun a b z => by rw [a3 a b z, sI_ne z], a4⟩
    · rw [show fu + (d + 1) + 1 = (fu + d + 1) + 1 by omega, f_X11_copies_71_93_b2, ex_bf ge, ex_gd inb, ex_dI, ci, ex_gd inb, ex_pI, nI_1]
      exact a1
    · rw [a2 b, sI_ne (by omega)]
      by_cases z : i + 1 ≤ b ∧ b < 80
      · rw [if_pos z, if_pos (by omega)]
      · rw [if_neg z]
        by_cases y : b = i
        · subst y
          rw [sI_eq, if_pos (by omega)]
        · rw [sI_nf y, if_neg (by omega)]
theorem copies_71_93_eq (τ : Sg) : ∃ τ', f_X11_copies_71_93 τ = some ((), τ') ∧ (∀ b, b < 80 → τ'.1 93 b = τ.1 71 b) ∧ (∀ a b, ¬ a = 93 → τ'.1 a b = τ.1 a b) ∧ τ'.2 = τ.2 := by
  obtain ⟨τ', a1, a2, a3, a4⟩ := copies_71_93_loop 80 0 (8191 - 80) τ (by omega)
  exact ⟨τ', a1, fun b hb => by rw [a2 b, if_pos (by omega)], a3, a4⟩
theorem copies_90_94_loop : ∀ (d i fu : Nat) (τ : Sg), i + d = 20 → ∃ τ', f_X11_copies_90_94_b2 (fu + d + 1) (nI i) τ = some ((), τ') ∧ (∀ b, τ'.1 94 b = if i ≤ b ∧ b < 20 then τ.1 90 b else τ.1 94 b) ∧ (∀ a b, ¬ a = 94 → τ'.1 a b = τ.1 a b) ∧ τ'.2 = τ.2 := by
  intro d
  induction d with
  | zero =>
    intro i fu τ h
    have : i = 20 := by omega
    subst this
    refine ⟨τ, by rw [f_X11_copies_90_94_b2, ex_bt (by decide), ex_rt], fun b => ?_, fun _ _ _ => rfl, rfl⟩
    rw [if_neg (by omega)]
  | succ d ih =>
    intro i fu τ h
    have ge : ¬ (20 : Int32) ≤ nI i := fun q => by have := (nI_leL (x := 20) (k := 20) rfl (by omega) (by omega)).mp q; omega
    have inb := inb_nI (show i < 20 by omega) (by omega)
    have ci := nI_clamp (show i < 2 ^ 31 by omega)
    obtain ⟨τ', a1, a2, a3, a4⟩ := ih (i + 1) fu (sI τ 94 i (τ.1 90 i)) (by omega)
    refine ⟨τ', ?_, fun b => ?_, fun a b z => by rw [a3 a b z, sI_ne z], a4⟩
    · rw [show fu + (d + 1) + 1 = (fu + d + 1) + 1 by omega, f_X11_copies_90_94_b2, ex_bf ge, ex_gd inb, ex_dI, ci, ex_gd inb, ex_pI, nI_1]
      exact a1
    · rw [a2 b, sI_ne (by omega)]
      by_cases z : i + 1 ≤ b ∧ b < 20
      · rw [if_pos z, if_pos (by omega)]
      · rw [if_neg z]
        by_cases y : b = i
        · subst y
          rw [sI_eq, if_pos (by omega)]
        · rw [sI_nf y, if_neg (by omega)]
theorem copies_90_94_eq (τ : Sg) : ∃ τ', f_X11_copies_90_94 τ = some ((), τ') ∧ (∀ b, b < 20 → τ'.1 94 b = τ.1 90 b) ∧ (∀ a b, ¬ a = 94 → τ'.1 a b = τ.1 a b) ∧ τ'.2 = τ.2 := by
  obtain ⟨τ', a1, a2, a3, a4⟩ := copies_90_94_loop 20 0 (8191 - 20) τ (by omega)
  exact ⟨τ', a1, fun b hb => by rw [a2 b, if_pos (by omega)], a3, a4⟩
theorem copies_92_58_loop : ∀ (d i fu : Nat) (τ : Sg), i + d = 24 → ∃ τ', f_X11_copies_92_58_b2 (fu + d + 1) (nI i) τ = some ((), τ') ∧ (∀ b, τ'.1 58 b = if i ≤ b ∧ b < 24 then τ.1 92 b else τ.1 58 b) ∧ (∀ a b, ¬ a = 58 → τ'.1 a b = τ.1 a b) ∧ τ'.2 = τ.2 := by
  intro d
  induction d with
  | zero =>
    intro i fu τ h
    have : i = 24 := by omega
    subst this
    refine ⟨τ, by rw [f_X11_copies_92_58_b2, ex_bt (by decide), ex_rt], fun b => ?_, fun _ _ _ => rfl, rfl⟩
    rw [if_neg (by omega)]
  | succ d ih =>
    intro i fu τ h
    have ge : ¬ (24 : Int32) ≤ nI i := fun q => by have := (nI_leL (x := 24) (k := 24) rfl (by omega) (by omega)).mp q; omega
    have inb := inb_nI (show i < 24 by omega) (by omega)
    have ci := nI_clamp (show i < 2 ^ 31 by omega)
    obtain ⟨τ', a1, a2, a3, a4⟩ := ih (i + 1) fu (sI τ 58 i (τ.1 92 i)) (by omega)
    refine ⟨τ', ?_, fun b => ?_, fun a b z => by rw [a3 a b z, sI_ne z], a4⟩
    · rw [show fu + (d + 1) + 1 = (fu + d + 1) + 1 by omega, f_X11_copies_92_58_b2, ex_bf ge, ex_gd inb, ex_dI, ci, ex_gd inb, ex_pI, nI_1]
      exact a1
    · rw [a2 b, sI_ne (by omega)]
      by_cases z : i + 1 ≤ b ∧ b < 24
      · rw [if_pos z, if_pos (by omega)]
      · rw [if_neg z]
        by_cases y : b = i
        · subst y
          rw [sI_eq, if_pos (by omega)]
        · rw [sI_nf y, if_neg (by omega)]
theorem copies_92_58_eq (τ : Sg) : ∃ τ', f_X11_copies_92_58 τ = some ((), τ') ∧ (∀ b, b < 24 → τ'.1 58 b = τ.1 92 b) ∧ (∀ a b, ¬ a = 58 → τ'.1 a b = τ.1 a b) ∧ τ'.2 = τ.2 := by
  obtain ⟨τ', a1, a2, a3, a4⟩ := copies_92_58_loop 24 0 (8191 - 24) τ (by omega)
  exact ⟨τ', a1, fun b hb => by rw [a2 b, if_pos (by omega)], a3, a4⟩
theorem copies_93_71_loop : ∀ (d i fu : Nat) (τ : Sg), i + d = 80 → ∃ τ', f_X11_copies_93_71_b2 (fu + d + 1) (nI i) τ = some ((), τ') ∧ (∀ b, τ'.1 71 b = if i ≤ b ∧ b < 80 then τ.1 93 b else τ.1 71 b) ∧ (∀ a b, ¬ a = 71 → τ'.1 a b = τ.1 a b) ∧ τ'.2 = τ.2 := by
  intro d
  induction d with
  | zero =>
    intro i fu τ h
    have : i = 80 := by omega
    subst this
    refine ⟨τ, by rw [f_X11_copies_93_71_b2, ex_bt (by decide), ex_rt], fun b => ?_, fun _ _ _ => rfl, rfl⟩
    rw [if_neg (by omega)]
  | succ d ih =>
    intro i fu τ h
    have ge : ¬ (80 : Int32) ≤ nI i := fun q => by have := (nI_leL (x := 80) (k := 80) rfl (by omega) (by omega)).mp q; omega
    have inb := inb_nI (show i < 80 by omega) (by omega)
    have ci := nI_clamp (show i < 2 ^ 31 by omega)
    obtain ⟨τ', a1, a2, a3, a4⟩ := ih (i + 1) fu (sI τ 71 i (τ.1 93 i)) (by omega)
    refine ⟨τ', ?_, fun b => ?_, fun a b z => by rw [a3 a b z, sI_ne z], a4⟩
    · rw [show fu + (d + 1) + 1 = (fu + d + 1) + 1 by omega, f_X11_copies_93_71_b2, ex_bf ge, ex_gd inb, ex_dI, ci, ex_gd inb, ex_pI, nI_1]
      exact a1
    · rw [a2 b, sI_ne (by omega)]
      by_cases z : i + 1 ≤ b ∧ b < 80
      · rw [if_pos z, if_pos (by omega)]
      · rw [if_neg z]
        by_cases y : b = i
        · subst y
          rw [sI_eq, if_pos (by omega)]
        · rw [sI_nf y, if_neg (by omega)]
theorem copies_93_71_eq (τ : Sg) : ∃ τ', f_X11_copies_93_71 τ = some ((), τ') ∧ (∀ b, b < 80 → τ'.1 71 b = τ.1 93 b) ∧ (∀ a b, ¬ a = 71 → τ'.1 a b = τ.1 a b) ∧ τ'.2 = τ.2 := by
  obtain ⟨τ', a1, a2, a3, a4⟩ := copies_93_71_loop 80 0 (8191 - 80) τ (by omega)
  exact ⟨τ', a1, fun b hb => by rw [a2 b, if_pos (by omega)], a3, a4⟩
theorem copies_94_90_loop : ∀ (d i fu : Nat) (τ : Sg), i + d = 20 → ∃ τ', f_X11_copies_94_90_b2 (fu + d + 1) (nI i) τ = some ((), τ') ∧ (∀ b, τ'.1 90 b = if i ≤ b ∧ b < 20 then τ.1 94 b else τ.1 90 b) ∧ (∀ a b, ¬ a = 90 → τ'.1 a b = τ.1 a b) ∧ τ'.2 = τ.2 := by
  intro d
  induction d with
  | zero =>
    intro i fu τ h
    have : i = 20 := by omega
    subst this
    refine ⟨τ, by rw [f_X11_copies_94_90_b2, ex_bt (by decide), ex_rt], fun b => ?_, fun _ _ _ => rfl, rfl⟩
    rw [if_neg (by omega)]
  | succ d ih =>
    intro i fu τ h
    have ge : ¬ (20 : Int32) ≤ nI i := fun q => by have := (nI_leL (x := 20) (k := 20) rfl (by omega) (by omega)).mp q; omega
    have inb := inb_nI (show i < 20 by omega) (by omega)
    have ci := nI_clamp (show i < 2 ^ 31 by omega)
    obtain ⟨τ', a1, a2, a3, a4⟩ := ih (i + 1) fu (sI τ 90 i (τ.1 94 i)) (by omega)
    refine ⟨τ', ?_, fun b => ?_, fun a b z => by rw [a3 a b z, sI_ne z], a4⟩
    · rw [show fu + (d + 1) + 1 = (fu + d + 1) + 1 by omega, f_X11_copies_94_90_b2, ex_bf ge, ex_gd inb, ex_dI, ci, ex_gd inb, ex_pI, nI_1]
      exact a1
    · rw [a2 b, sI_ne (by omega)]
      by_cases z : i + 1 ≤ b ∧ b < 20
      · rw [if_pos z, if_pos (by omega)]
      · rw [if_neg z]
        by_cases y : b = i
        · subst y
          rw [sI_eq, if_pos (by omega)]
        · rw [sI_nf y, if_neg (by omega)]
theorem copies_94_90_eq (τ : Sg) : ∃ τ', f_X11_copies_94_90 τ = some ((), τ') ∧ (∀ b, b < 20 → τ'.1 90 b = τ.1 94 b) ∧ (∀ a b, ¬ a = 90 → τ'.1 a b = τ.1 a b) ∧ τ'.2 = τ.2 := by
  obtain ⟨τ', a1, a2, a3, a4⟩ := copies_94_90_loop 20 0 (8191 - 20) τ (by omega)
  exact ⟨τ', a1, fun b hb => by rw [a2 b, if_pos (by omega)], a3, a4⟩
theorem ok_image {g n s e m : Nat} {σ τ : Sg} (J : Jr g n s e m σ τ) : OkV f_X10_image f_X11_image σ τ := by
  obtain ⟨jG, jR, jS, jP, jT, jF, jM, jO, jU, jL⟩ := id J
  obtain ⟨σ1, c1, c2, c3, c4, c5, c6, c7⟩ := copy_eq (q := 8) (r := 2) (σ := σ) (Or.inl ⟨rfl, rfl⟩)
  generalize hT : sI (sI (sI (sI (sI (sI τ 56 0 0) 56 83 1) 56 84 (τ.1 56 46)) 56 85 (τ.1 56 47)) 56 86 (τ.1 56 48)) 56 87 (τ.1 56 80) = T
  have T0 : ∀ a b, ¬ (a = 56 ∧ (b = 0 ∨ b = 83 ∨ b = 84 ∨ b = 85 ∨ b = 86 ∨ b = 87)) → T.1 a b = τ.1 a b := fun a b h => by
    rw [← hT, sI_gt, if_neg (by omega), sI_gt, if_neg (by omega), sI_gt, if_neg (by omega), sI_gt, if_neg (by omega), sI_gt, if_neg (by omega), sI_gt, if_neg (by omega)]
  obtain ⟨T1, d1, d2, d3, -⟩ := copies_58_92_eq T
  obtain ⟨T2, e1, e2, e3, -⟩ := copies_71_93_eq T1
  obtain ⟨T3, f1, f2, f3, -⟩ := copies_90_94_eq T2
  have t : ∀ a b, ¬ a = 92 → ¬ a = 93 → ¬ a = 94 → T3.1 a b = T.1 a b := fun a b h1 h2 h3 => by rw [f3 a b h3, e3 a b h2, d3 a b h1]
  have eM : f_X11_image τ = some ((), T3) := by
    rw [f_X11_image, ex_pI, ex_pI, ex_dI, ex_pI, ex_dI, ex_pI, ex_dI, ex_pI, ex_dI, ex_pI]
    rw [show (sI (sI τ 56 0 0) 56 83 1).1 56 46 = τ.1 56 46 by rw [sI_nf (by omega), sI_nf (by omega)]]
    rw [show (sI (sI (sI τ 56 0 0) 56 83 1) 56 84 (τ.1 56 46)).1 56 47 = τ.1 56 47 by rw [sI_nf (by omega), sI_nf (by omega), sI_nf (by omega)]]
    rw [show (sI (sI (sI (sI τ 56 0 0) 56 83 1) 56 84 (τ.1 56 46)) 56 85 (τ.1 56 47)).1 56 48 = τ.1 56 48 by rw [sI_nf (by omega), sI_nf (by omega), sI_nf (by omega), sI_nf (by omega)]]
    rw [show (sI (sI (sI (sI (sI τ 56 0 0) 56 83 1) 56 84 (τ.1 56 46)) 56 85 (τ.1 56 47)) 56 86 (τ.1 56 48)).1 56 80 = τ.1 56 80 by rw [sI_nf (by omega), sI_nf (by omega), sI_nf (by omega), sI_nf (by omega), sI_nf (by omega)]]
    rw [hT, ex_cl d1, ex_cl e1, ex_cl f1, ex_rt]
  have h83 : T3.1 56 83 = 1 := by rw [t _ _ (by omega) (by omega) (by omega), ← hT, sI_nf (by omega), sI_nf (by omega), sI_nf (by omega), sI_nf (by omega), sI_eq]
  have h84 : T3.1 56 84 = τ.1 56 46 := by rw [t _ _ (by omega) (by omega) (by omega), ← hT, sI_nf (by omega), sI_nf (by omega), sI_nf (by omega), sI_eq]
  have h85 : T3.1 56 85 = τ.1 56 47 := by rw [t _ _ (by omega) (by omega) (by omega), ← hT, sI_nf (by omega), sI_nf (by omega), sI_eq]
  have h86 : T3.1 56 86 = τ.1 56 48 := by rw [t _ _ (by omega) (by omega) (by omega), ← hT, sI_nf (by omega), sI_eq]
  have h87 : T3.1 56 87 = τ.1 56 80 := by rw [t _ _ (by omega) (by omega) (by omega), ← hT, sI_eq]
  have h92 : ∀ b, b < 24 → T3.1 92 b = τ.1 58 b := fun b hb => by rw [f3 _ _ (by omega), e3 _ _ (by omega), d2 b hb, T0 _ _ (by omega)]
  have h93 : ∀ b, b < 80 → T3.1 93 b = τ.1 71 b := fun b hb => by rw [f3 _ _ (by omega), e2 b hb, d3 _ _ (by omega), T0 _ _ (by omega)]
  have h94 : ∀ b, b < 20 → T3.1 94 b = τ.1 90 b := fun b hb => by rw [f2 b hb, e3 _ _ (by omega), d3 _ _ (by omega), T0 _ _ (by omega)]
  have tt : ∀ a b, ¬ a = 92 → ¬ a = 93 → ¬ a = 94 → ¬ (a = 56 ∧ (b = 0 ∨ b = 83 ∨ b = 84 ∨ b = 85 ∨ b = 86 ∨ b = 87)) → T3.1 a b = τ.1 a b := fun a b h1 h2 h3 h4 => by rw [t a b h1 h2 h3, T0 a b h4]
  have cc : ∀ a b, ¬ (8 ≤ a ∧ a ≤ 13) → ¬ (a = 0 ∧ b = 9) → (sI σ1 0 9 1).1 a b = σ.1 a b := fun a b h1 h2 => by rw [sI_gt, if_neg h2, c6 a b (by omega)]
  refine ⟨(), sI σ1 0 9 1, T3, by rw [f_X10_image, ex_cl c1, ex_pI, ex_rt], eM, g, n, s, e, m, J.put (fun a b ha => cc a b (by omega) (by omega)) c7 (fun j hj => by rw [cc _ _ (fun q => by unfold fl at q; omega) (fun q => by unfold fl at q; omega)]; exact jM j hj) (fun b _ _ => tt _ _ (by omega) (by omega) (by omega) (by omega)) (fun a b ha => tt _ _ (by omega) (by omega) (by omega) (by omega)) (jS.of (fun a b h1 h2 => cc a b (by omega) (by omega)) (tt _ _ (by omega) (by omega) (by omega) (by omega)) (tt _ _ (by omega) (by omega) (by omega) (by omega)) (tt _ _ (by omega) (by omega) (by omega) (by omega)) (tt _ _ (by omega) (by omega) (by omega) (by omega)) (fun _ => tt _ _ (by omega) (by omega) (by omega) (by omega)) (fun _ => tt _ _ (by omega) (by omega) (by omega) (by omega)) (fun _ => tt _ _ (by omega) (by omega) (by omega) (by omega))) ⟨by rw [h83, sI_eq], Or.inr ⟨sI_eq, ?_⟩⟩ ?_ ?_⟩
  · have w : ∀ a b, 8 ≤ a → (sI σ1 0 9 1).1 a b = σ1.1 a b := fun a b ha => sI_ne (by omega)
    refine jS.copy jG.2.1 ?_ (fun b hb => (w _ _ (by omega)).trans (c3 b hb)) (fun b hb => ?_) (fun b hb => (w _ _ (by omega)).trans (c5 b hb)) h84 h85 h86 h87 h92 h93 h94
    · rw [w _ _ (by omega), w _ _ (by omega), w _ _ (by omega), w _ _ (by omega), w _ _ (by omega)]; exact c2
    · rw [w _ _ (by omega), w _ _ (by omega), w _ _ (by omega)]; exact c4 b hb
  · obtain ⟨l, l1, l2, l3, l4⟩ := jT
    refine ⟨l, l1, by rw [cc _ _ (by omega) (by omega)]; exact l2, by rw [tt _ _ (by omega) (by omega) (by omega) (by omega)]; exact l3, fun i hi => ?_⟩
    rw [cc _ _ (by omega) (by omega), tt _ _ (by omega) (by omega) (by omega) (by omega)]; exact l4 i hi
  · obtain ⟨q0, q1, q2, q3⟩ := jF
    exact ⟨by rw [cc _ _ (by omega) (by omega), tt _ _ (by omega) (by omega) (by omega) (by omega)]; exact q0, by rw [cc _ _ (by omega) (by omega), tt _ _ (by omega) (by omega) (by omega) (by omega)]; exact q1, by rw [cc _ _ (by omega) (by omega), tt _ _ (by omega) (by omega) (by omega) (by omega)]; exact q2, by rw [cc _ _ (by omega) (by omega), tt _ _ (by omega) (by omega) (by omega) (by omega)]; exact q3⟩
theorem ok_restore {g n s e m : Nat} {σ τ : Sg} (J : Jr g n s e m σ τ) : OkV f_X10_restore f_X11_restore σ τ := by
  obtain ⟨J0, t0⟩ := thr0 J
  generalize hZ : sI τ 56 0 0 = Z at *
  obtain ⟨jG, jR, jS, ⟨jP1, jP2⟩, jT, jF, jM, jO, jU, jL⟩ := id J0
  rcases jP2 with z | ⟨z, w⟩
  · exact ⟨0, σ, Z, by rw [f_X10_restore, ex_dI, ex_bt z, ex_rt], by rw [f_X11_restore, ex_pI, hZ, ex_dI, ex_bt (jP1.trans z), ex_rt], g, n, s, e, m, J0⟩
  · obtain ⟨σ1, c1, c2, c3, c4, c5, c6, c7⟩ := copy_eq (q := 2) (r := 8) (σ := σ) (Or.inr ⟨rfl, rfl⟩)
    generalize hT : sI (sI (sI (sI Z 56 46 (Z.1 56 84)) 56 47 (Z.1 56 85)) 56 48 (Z.1 56 86)) 56 80 (Z.1 56 87) = T
    have T0 : ∀ a b, ¬ (a = 56 ∧ (b = 46 ∨ b = 47 ∨ b = 48 ∨ b = 80)) → T.1 a b = Z.1 a b := fun a b h => by
      rw [← hT, sI_gt, if_neg (by omega), sI_gt, if_neg (by omega), sI_gt, if_neg (by omega), sI_gt, if_neg (by omega)]
    obtain ⟨T1, d1, d2, d3, -⟩ := copies_92_58_eq T
    obtain ⟨T2, e1, e2, e3, -⟩ := copies_93_71_eq T1
    obtain ⟨T3, f1, f2, f3, -⟩ := copies_94_90_eq T2
    have t : ∀ a b, ¬ a = 58 → ¬ a = 71 → ¬ a = 90 → T3.1 a b = T.1 a b := fun a b h1 h2 h3 => by rw [f3 a b h3, e3 a b h2, d3 a b h1]
    have eM : f_X11_restore τ = some (1, T3) := by
      rw [f_X11_restore, ex_pI, hZ, ex_dI, ex_bf (by rw [jP1, z]; decide), ex_dI, ex_pI, ex_dI, ex_pI, ex_dI, ex_pI, ex_dI, ex_pI]
      rw [show (sI Z 56 46 (Z.1 56 84)).1 56 85 = Z.1 56 85 by rw [sI_nf (by omega)]]
      rw [show (sI (sI Z 56 46 (Z.1 56 84)) 56 47 (Z.1 56 85)).1 56 86 = Z.1 56 86 by rw [sI_nf (by omega), sI_nf (by omega)]]
      rw [show (sI (sI (sI Z 56 46 (Z.1 56 84)) 56 47 (Z.1 56 85)) 56 48 (Z.1 56 86)).1 56 87 = Z.1 56 87 by rw [sI_nf (by omega), sI_nf (by omega), sI_nf (by omega)]]
      rw [hT, ex_cl d1, ex_cl e1, ex_cl f1, ex_rt]
    have h46 : T3.1 56 46 = Z.1 56 84 := by rw [t _ _ (by omega) (by omega) (by omega), ← hT, sI_nf (by omega), sI_nf (by omega), sI_nf (by omega), sI_eq]
    have h47 : T3.1 56 47 = Z.1 56 85 := by rw [t _ _ (by omega) (by omega) (by omega), ← hT, sI_nf (by omega), sI_nf (by omega), sI_eq]
    have h48 : T3.1 56 48 = Z.1 56 86 := by rw [t _ _ (by omega) (by omega) (by omega), ← hT, sI_nf (by omega), sI_eq]
    have h80 : T3.1 56 80 = Z.1 56 87 := by rw [t _ _ (by omega) (by omega) (by omega), ← hT, sI_eq]
    have h58 : ∀ b, b < 24 → T3.1 58 b = Z.1 92 b := fun b hb => by rw [f3 _ _ (by omega), e3 _ _ (by omega), d2 b hb, T0 _ _ (by omega)]
    have h71 : ∀ b, b < 80 → T3.1 71 b = Z.1 93 b := fun b hb => by rw [f3 _ _ (by omega), e2 b hb, d3 _ _ (by omega), T0 _ _ (by omega)]
    have h90 : ∀ b, b < 20 → T3.1 90 b = Z.1 94 b := fun b hb => by rw [f2 b hb, e3 _ _ (by omega), d3 _ _ (by omega), T0 _ _ (by omega)]
    refine ⟨1, σ1, T3, by rw [f_X10_restore, ex_dI, ex_bf (by rw [z]; decide), ex_cl c1, ex_rt], eM, g, n, s, e, m, J0.scene (fun a b h => c6 a b h) c7 (fun a b h1 h2 h3 h4 => by rw [t a b h1 h2 h3, T0 a b h4]) (w.copy jG.2.1 c2 c3 c4 c5 h46 h47 h48 h80 h58 h71 h90)⟩
