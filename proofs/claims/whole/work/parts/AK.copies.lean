-- ===== garden: copies =====
theorem copies_64_57_loop : ∀ (d i fu : Nat) (τ : Sg), i + d = 3 → ∃ τ', f_X11_copies_64_57_b2 (fu + d + 1) (nI i) τ = some ((), τ') ∧ (∀ b, τ'.1 57 b = if i ≤ b ∧ b < 3 then τ.1 64 b else τ.1 57 b) ∧ (∀ a b, ¬ a = 57 → τ'.1 a b = τ.1 a b) ∧ τ'.2 = τ.2 := by
  intro d
  induction d with
  | zero =>
    intro i fu τ h
    have : i = 3 := by omega
    subst this
    refine ⟨τ, by rw [f_X11_copies_64_57_b2, ex_bt (by decide), ex_rt], fun b => ?_, fun _ _ _ => rfl, rfl⟩
    rw [if_neg (by omega)]
  | succ d ih =>
    intro i fu τ h
    have ge : ¬ (3 : Int32) ≤ nI i := fun q => by have := (nI_leL (x := 3) (k := 3) rfl (by omega) (by omega)).mp q; omega
    have inb := inb_nI (show i < 3 by omega) (by omega)
    have ci := nI_clamp (show i < 2 ^ 31 by omega)
    obtain ⟨τ', a1, a2, a3, a4⟩ := ih (i + 1) fu (sI τ 57 i (τ.1 64 i)) (by omega)
    refine ⟨τ', ?_, fun b => ?_, fun a b z => by rw [a3 a b z, sI_ne z], a4⟩
    · rw [show fu + (d + 1) + 1 = (fu + d + 1) + 1 by omega, f_X11_copies_64_57_b2, ex_bf ge, ex_gd inb, ex_dI, ci, ex_gd inb, ex_pI, nI_1]
      exact a1
    · rw [a2 b, sI_ne (by omega)]
      by_cases z : i + 1 ≤ b ∧ b < 3
      · rw [if_pos z, if_pos (by omega)]
      · rw [if_neg z]
        by_cases y : b = i
        · subst y
          rw [sI_eq, if_pos (by omega)]
        · rw [sI_nf y, if_neg (by omega)]
theorem copies_64_57_eq (τ : Sg) : ∃ τ', f_X11_copies_64_57 τ = some ((), τ') ∧ (∀ b, b < 3 → τ'.1 57 b = τ.1 64 b) ∧ (∀ a b, ¬ a = 57 → τ'.1 a b = τ.1 a b) ∧ τ'.2 = τ.2 := by
  obtain ⟨τ', a1, a2, a3, a4⟩ := copies_64_57_loop 3 0 (8191 - 3) τ (by omega)
  exact ⟨τ', a1, fun b hb => by rw [a2 b, if_pos (by omega)], a3, a4⟩
theorem copies_65_58_loop : ∀ (d i fu : Nat) (τ : Sg), i + d = 24 → ∃ τ', f_X11_copies_65_58_b2 (fu + d + 1) (nI i) τ = some ((), τ') ∧ (∀ b, τ'.1 58 b = if i ≤ b ∧ b < 24 then τ.1 65 b else τ.1 58 b) ∧ (∀ a b, ¬ a = 58 → τ'.1 a b = τ.1 a b) ∧ τ'.2 = τ.2 := by
  intro d
  induction d with
  | zero =>
    intro i fu τ h
    have : i = 24 := by omega
    subst this
    refine ⟨τ, by rw [f_X11_copies_65_58_b2, ex_bt (by decide), ex_rt], fun b => ?_, fun _ _ _ => rfl, rfl⟩
    rw [if_neg (by omega)]
  | succ d ih =>
    intro i fu τ h
    have ge : ¬ (24 : Int32) ≤ nI i := fun q => by have := (nI_leL (x := 24) (k := 24) rfl (by omega) (by omega)).mp q; omega
    have inb := inb_nI (show i < 24 by omega) (by omega)
    have ci := nI_clamp (show i < 2 ^ 31 by omega)
    obtain ⟨τ', a1, a2, a3, a4⟩ := ih (i + 1) fu (sI τ 58 i (τ.1 65 i)) (by omega)
    refine ⟨τ', ?_, fun b => ?_, fun a b z => by rw [a3 a b z, sI_ne z], a4⟩
    · rw [show fu + (d + 1) + 1 = (fu + d + 1) + 1 by omega, f_X11_copies_65_58_b2, ex_bf ge, ex_gd inb, ex_dI, ci, ex_gd inb, ex_pI, nI_1]
      exact a1
    · rw [a2 b, sI_ne (by omega)]
      by_cases z : i + 1 ≤ b ∧ b < 24
      · rw [if_pos z, if_pos (by omega)]
      · rw [if_neg z]
        by_cases y : b = i
        · subst y
          rw [sI_eq, if_pos (by omega)]
        · rw [sI_nf y, if_neg (by omega)]
theorem copies_65_58_eq (τ : Sg) : ∃ τ', f_X11_copies_65_58 τ = some ((), τ') ∧ (∀ b, b < 24 → τ'.1 58 b = τ.1 65 b) ∧ (∀ a b, ¬ a = 58 → τ'.1 a b = τ.1 a b) ∧ τ'.2 = τ.2 := by
  obtain ⟨τ', a1, a2, a3, a4⟩ := copies_65_58_loop 24 0 (8191 - 24) τ (by omega)
  exact ⟨τ', a1, fun b hb => by rw [a2 b, if_pos (by omega)], a3, a4⟩
theorem copies_66_59_loop : ∀ (d i fu : Nat) (τ : Sg), i + d = 4 → ∃ τ', f_X11_copies_66_59_b2 (fu + d + 1) (nI i) τ = some ((), τ') ∧ (∀ b, τ'.1 59 b = if i ≤ b ∧ b < 4 then τ.1 66 b else τ.1 59 b) ∧ (∀ a b, ¬ a = 59 → τ'.1 a b = τ.1 a b) ∧ τ'.2 = τ.2 := by
  intro d
  induction d with
  | zero =>
    intro i fu τ h
    have : i = 4 := by omega
    subst this
    refine ⟨τ, by rw [f_X11_copies_66_59_b2, ex_bt (by decide), ex_rt], fun b => ?_, fun _ _ _ => rfl, rfl⟩
    rw [if_neg (by omega)]
  | succ d ih =>
    intro i fu τ h
    have ge : ¬ (4 : Int32) ≤ nI i := fun q => by have := (nI_leL (x := 4) (k := 4) rfl (by omega) (by omega)).mp q; omega
    have inb := inb_nI (show i < 4 by omega) (by omega)
    have ci := nI_clamp (show i < 2 ^ 31 by omega)
    obtain ⟨τ', a1, a2, a3, a4⟩ := ih (i + 1) fu (sI τ 59 i (τ.1 66 i)) (by omega)
    refine ⟨τ', ?_, fun b => ?_, fun a b z => by rw [a3 a b z, sI_ne z], a4⟩
    · rw [show fu + (d + 1) + 1 = (fu + d + 1) + 1 by omega, f_X11_copies_66_59_b2, ex_bf ge, ex_gd inb, ex_dI, ci, ex_gd inb, ex_pI, nI_1]
      exact a1
    · rw [a2 b, sI_ne (by omega)]
      by_cases z : i + 1 ≤ b ∧ b < 4
      · rw [if_pos z, if_pos (by omega)]
      · rw [if_neg z]
        by_cases y : b = i
        · subst y
          rw [sI_eq, if_pos (by omega)]
        · rw [sI_nf y, if_neg (by omega)]
theorem copies_66_59_eq (τ : Sg) : ∃ τ', f_X11_copies_66_59 τ = some ((), τ') ∧ (∀ b, b < 4 → τ'.1 59 b = τ.1 66 b) ∧ (∀ a b, ¬ a = 59 → τ'.1 a b = τ.1 a b) ∧ τ'.2 = τ.2 := by
  obtain ⟨τ', a1, a2, a3, a4⟩ := copies_66_59_loop 4 0 (8191 - 4) τ (by omega)
  exact ⟨τ', a1, fun b hb => by rw [a2 b, if_pos (by omega)], a3, a4⟩
theorem copies_67_60_loop : ∀ (d i fu : Nat) (τ : Sg), i + d = 8 → ∃ τ', f_X11_copies_67_60_b2 (fu + d + 1) (nI i) τ = some ((), τ') ∧ (∀ b, τ'.1 60 b = if i ≤ b ∧ b < 8 then τ.1 67 b else τ.1 60 b) ∧ (∀ a b, ¬ a = 60 → τ'.1 a b = τ.1 a b) ∧ τ'.2 = τ.2 := by
  intro d
  induction d with
  | zero =>
    intro i fu τ h
    have : i = 8 := by omega
    subst this
    refine ⟨τ, by rw [f_X11_copies_67_60_b2, ex_bt (by decide), ex_rt], fun b => ?_, fun _ _ _ => rfl, rfl⟩
    rw [if_neg (by omega)]
  | succ d ih =>
    intro i fu τ h
    have ge : ¬ (8 : Int32) ≤ nI i := fun q => by have := (nI_leL (x := 8) (k := 8) rfl (by omega) (by omega)).mp q; omega
    have inb := inb_nI (show i < 8 by omega) (by omega)
    have ci := nI_clamp (show i < 2 ^ 31 by omega)
    obtain ⟨τ', a1, a2, a3, a4⟩ := ih (i + 1) fu (sI τ 60 i (τ.1 67 i)) (by omega)
    refine ⟨τ', ?_, fun b => ?_, fun a b z => by rw [a3 a b z, sI_ne z], a4⟩
    · rw [show fu + (d + 1) + 1 = (fu + d + 1) + 1 by omega, f_X11_copies_67_60_b2, ex_bf ge, ex_gd inb, ex_dI, ci, ex_gd inb, ex_pI, nI_1]
      exact a1
    · rw [a2 b, sI_ne (by omega)]
      by_cases z : i + 1 ≤ b ∧ b < 8
      · rw [if_pos z, if_pos (by omega)]
      · rw [if_neg z]
        by_cases y : b = i
        · subst y
          rw [sI_eq, if_pos (by omega)]
        · rw [sI_nf y, if_neg (by omega)]
theorem copies_67_60_eq (τ : Sg) : ∃ τ', f_X11_copies_67_60 τ = some ((), τ') ∧ (∀ b, b < 8 → τ'.1 60 b = τ.1 67 b) ∧ (∀ a b, ¬ a = 60 → τ'.1 a b = τ.1 a b) ∧ τ'.2 = τ.2 := by
  obtain ⟨τ', a1, a2, a3, a4⟩ := copies_67_60_loop 8 0 (8191 - 8) τ (by omega)
  exact ⟨τ', a1, fun b hb => by rw [a2 b, if_pos (by omega)], a3, a4⟩
theorem copies_68_61_loop : ∀ (d i fu : Nat) (τ : Sg), i + d = 1600 → ∃ τ', f_X11_copies_68_61_b2 (fu + d + 1) (nI i) τ = some ((), τ') ∧ (∀ b, τ'.1 61 b = if i ≤ b ∧ b < 1600 then τ.1 68 b else τ.1 61 b) ∧ (∀ a b, ¬ a = 61 → τ'.1 a b = τ.1 a b) ∧ τ'.2 = τ.2 := by
  intro d
  induction d with
  | zero =>
    intro i fu τ h
    have : i = 1600 := by omega
    subst this
    refine ⟨τ, by rw [f_X11_copies_68_61_b2, ex_bt (by decide), ex_rt], fun b => ?_, fun _ _ _ => rfl, rfl⟩
    rw [if_neg (by omega)]
  | succ d ih =>
    intro i fu τ h
    have ge : ¬ (1600 : Int32) ≤ nI i := fun q => by have := (nI_leL (x := 1600) (k := 1600) rfl (by omega) (by omega)).mp q; omega
    have inb := inb_nI (show i < 1600 by omega) (by omega)
    have ci := nI_clamp (show i < 2 ^ 31 by omega)
    obtain ⟨τ', a1, a2, a3, a4⟩ := ih (i + 1) fu (sI τ 61 i (τ.1 68 i)) (by omega)
    refine ⟨τ', ?_, fun b => ?_, fun a b z => by rw [a3 a b z, sI_ne z], a4⟩
    · rw [show fu + (d + 1) + 1 = (fu + d + 1) + 1 by omega, f_X11_copies_68_61_b2, ex_bf ge, ex_gd inb, ex_dI, ci, ex_gd inb, ex_pI, nI_1]
      exact a1
    · rw [a2 b, sI_ne (by omega)]
      by_cases z : i + 1 ≤ b ∧ b < 1600
      · rw [if_pos z, if_pos (by omega)]
      · rw [if_neg z]
        by_cases y : b = i
        · subst y
          rw [sI_eq, if_pos (by omega)]
        · rw [sI_nf y, if_neg (by omega)]
theorem copies_68_61_eq (τ : Sg) : ∃ τ', f_X11_copies_68_61 τ = some ((), τ') ∧ (∀ b, b < 1600 → τ'.1 61 b = τ.1 68 b) ∧ (∀ a b, ¬ a = 61 → τ'.1 a b = τ.1 a b) ∧ τ'.2 = τ.2 := by
  obtain ⟨τ', a1, a2, a3, a4⟩ := copies_68_61_loop 1600 0 (8191 - 1600) τ (by omega)
  exact ⟨τ', a1, fun b hb => by rw [a2 b, if_pos (by omega)], a3, a4⟩
theorem MC.cp {τ τ' : Sg} {c c' : Nat} : ∀ (l : List Nat) (k : Nat), (∀ b, k ≤ b → b ≤ k + mlen l → τ'.1 c' b = τ.1 c b) → MC τ c k l → MC τ' c' k l
  | [], k, h, q => (h k (Nat.le_refl _) (Nat.le_refl _)).trans q
  | q :: r, k, h, ⟨h1, h2, h3⟩ => by
    rw [mlen] at h
    refine ⟨fun z => ?_, fun z y => ?_, fun z => ?_⟩
    · rw [if_pos z] at h
      exact ⟨(h k (Nat.le_refl _) (by omega)).trans (h1 z).1, MC.cp r _ (fun b b1 b2 => h b (by omega) (by omega)) (h1 z).2⟩
    · rw [if_neg (by omega)] at h
      exact ⟨(h k (Nat.le_refl _) (by omega)).trans (h2 z y).1, (h (k + 1) (by omega) (by omega)).trans (h2 z y).2.1, MC.cp r _ (fun b b1 b2 => h b (by omega) (by omega)) (h2 z y).2.2⟩
    · rw [if_neg (by omega)] at h
      exact ⟨(h k (Nat.le_refl _) (by omega)).trans (h3 z).1, (h (k + 1) (by omega) (by omega)).trans (h3 z).2.1, MC.cp r _ (fun b b1 b2 => h b (by omega) (by omega)) (h3 z).2.2⟩
/-- the reference takes what it has read -/
theorem take_eq {τ : Sg} (h0 : τ.1 56 16 = 0) : ∃ τ', f_X11_garden_b155 τ = some (0, τ') ∧ (τ'.1 56 1 = τ.1 56 27 ∧ τ'.1 56 2 = τ.1 56 28 ∧ τ'.1 56 3 = τ.1 56 29 ∧ τ'.1 56 4 = τ.1 56 30 ∧ τ'.1 56 5 = τ.1 56 31 ∧ τ'.1 56 6 = τ.1 56 32 ∧ τ'.1 56 7 = τ.1 56 33 ∧ τ'.1 56 8 = τ.1 56 34) ∧ ((∀ b, b < 3 → τ'.1 57 b = τ.1 64 b) ∧ (∀ b, b < 24 → τ'.1 58 b = τ.1 65 b) ∧ (∀ b, b < 4 → τ'.1 59 b = τ.1 66 b) ∧ (∀ b, b < 8 → τ'.1 60 b = τ.1 67 b) ∧ (∀ b, b < 1600 → τ'.1 61 b = τ.1 68 b)) ∧ (τ'.1 56 46 = -1 ∧ τ'.1 56 47 = 200 ∧ τ'.1 56 48 = 0 ∧ τ'.1 56 80 = 0 ∧ τ'.1 56 83 = 0) ∧ (∀ a b, ¬ (57 ≤ a ∧ a ≤ 61) → ¬ (a = 56 ∧ ((1 ≤ b ∧ b ≤ 8) ∨ b = 46 ∨ b = 47 ∨ b = 48 ∨ b = 80 ∨ b = 83)) → τ'.1 a b = τ.1 a b) := by
  rw [f_X11_garden_b155, ex_cl (good1 h0), ex_bf l1_0]
  have w : ∀ (T : Sg) (c k : Nat) (v : Int32) (d : Int32 → Sg → Option (Int32 × Sg)), T.1 56 c = v → dI 56 c (fun x => pI 56 k x (d x)) T = d v (sI T 56 k v) := fun T c k v d h => by rw [ex_dI, ex_pI, h]
  generalize hT1 : sI τ 56 1 (τ.1 56 27) = T1
  have e1 : ∀ a b, ¬ (a = 56 ∧ b = 1) → T1.1 a b = τ.1 a b := fun a b h => by rw [← hT1, sI_gt, if_neg h]
  generalize hT2 : sI T1 56 2 (τ.1 56 28) = T2
  have e2 : ∀ a b, ¬ (a = 56 ∧ (1 ≤ b ∧ b ≤ 2)) → T2.1 a b = τ.1 a b := fun a b h => by rw [← hT2, sI_gt, if_neg (by omega), e1 _ _ (by omega)]
  generalize hT3 : sI T2 56 3 (τ.1 56 29) = T3
  have e3 : ∀ a b, ¬ (a = 56 ∧ (1 ≤ b ∧ b ≤ 3)) → T3.1 a b = τ.1 a b := fun a b h => by rw [← hT3, sI_gt, if_neg (by omega), e2 _ _ (by omega)]
  generalize hT4 : sI T3 56 4 (τ.1 56 30) = T4
  have e4 : ∀ a b, ¬ (a = 56 ∧ (1 ≤ b ∧ b ≤ 4)) → T4.1 a b = τ.1 a b := fun a b h => by rw [← hT4, sI_gt, if_neg (by omega), e3 _ _ (by omega)]
  generalize hT5 : sI T4 56 5 (τ.1 56 31) = T5
  have e5 : ∀ a b, ¬ (a = 56 ∧ (1 ≤ b ∧ b ≤ 5)) → T5.1 a b = τ.1 a b := fun a b h => by rw [← hT5, sI_gt, if_neg (by omega), e4 _ _ (by omega)]
  generalize hT6 : sI T5 56 6 (τ.1 56 32) = T6
  have e6 : ∀ a b, ¬ (a = 56 ∧ (1 ≤ b ∧ b ≤ 6)) → T6.1 a b = τ.1 a b := fun a b h => by rw [← hT6, sI_gt, if_neg (by omega), e5 _ _ (by omega)]
  generalize hT7 : sI T6 56 7 (τ.1 56 33) = T7
  have e7 : ∀ a b, ¬ (a = 56 ∧ (1 ≤ b ∧ b ≤ 7)) → T7.1 a b = τ.1 a b := fun a b h => by rw [← hT7, sI_gt, if_neg (by omega), e6 _ _ (by omega)]
  generalize hT8 : sI T7 56 8 (τ.1 56 34) = T8
  have e8 : ∀ a b, ¬ (a = 56 ∧ (1 ≤ b ∧ b ≤ 8)) → T8.1 a b = τ.1 a b := fun a b h => by rw [← hT8, sI_gt, if_neg (by omega), e7 _ _ (by omega)]
  obtain ⟨U1, a1, a2, a3, -⟩ := copies_64_57_eq T8
  obtain ⟨U2, b1, b2, b3, -⟩ := copies_65_58_eq U1
  obtain ⟨U3, c1, c2, c3, -⟩ := copies_66_59_eq U2
  obtain ⟨U4, d1, d2, d3, -⟩ := copies_67_60_eq U3
  obtain ⟨U5, f1, f2, f3, -⟩ := copies_68_61_eq U4
  have u : ∀ a b, ¬ (57 ≤ a ∧ a ≤ 61) → U5.1 a b = T8.1 a b := fun a b h => by rw [f3 _ _ (by omega), d3 _ _ (by omega), c3 _ _ (by omega), b3 _ _ (by omega), a3 _ _ (by omega)]
  rw [w τ 27 1 _ _ rfl, hT1, w T1 28 2 _ _ (e1 _ _ (by omega)), hT2, w T2 29 3 _ _ (e2 _ _ (by omega)), hT3, w T3 30 4 _ _ (e3 _ _ (by omega)), hT4, w T4 31 5 _ _ (e4 _ _ (by omega)), hT5, w T5 32 6 _ _ (e5 _ _ (by omega)), hT6, w T6 33 7 _ _ (e6 _ _ (by omega)), hT7, w T7 34 8 _ _ (e7 _ _ (by omega)), hT8, ex_cl a1, ex_cl b1, ex_cl c1, ex_cl d1, ex_cl f1, ex_pI, ex_pI, ex_pI, ex_pI, ex_pI, ex_rt]
  generalize hV : sI (sI (sI (sI (sI U5 56 46 (-1)) 56 47 200) 56 48 0) 56 80 0) 56 83 0 = V
  have v : ∀ a b, ¬ (a = 56 ∧ (b = 46 ∨ b = 47 ∨ b = 48 ∨ b = 80 ∨ b = 83)) → V.1 a b = U5.1 a b := fun a b h => by
    rw [← hV, sI_gt, if_neg (by omega), sI_gt, if_neg (by omega), sI_gt, if_neg (by omega), sI_gt, if_neg (by omega), sI_gt, if_neg (by omega)]
  refine ⟨V, rfl, ⟨?_, ?_, ?_, ?_, ?_, ?_, ?_, ?_⟩, ⟨fun b hb => ?_, fun b hb => ?_, fun b hb => ?_, fun b hb => ?_, fun b hb => ?_⟩, ⟨?_, ?_, ?_, ?_, ?_⟩, fun a b h1 h2 => ?_⟩
  · rw [v _ _ (by omega), u _ _ (by omega), ← hT8, sI_nf (by omega), ← hT7, sI_nf (by omega), ← hT6, sI_nf (by omega), ← hT5, sI_nf (by omega), ← hT4, sI_nf (by omega), ← hT3, sI_nf (by omega), ← hT2, sI_nf (by omega), ← hT1, sI_eq]
  · rw [v _ _ (by omega), u _ _ (by omega), ← hT8, sI_nf (by omega), ← hT7, sI_nf (by omega), ← hT6, sI_nf (by omega), ← hT5, sI_nf (by omega), ← hT4, sI_nf (by omega), ← hT3, sI_nf (by omega), ← hT2, sI_eq]
  · rw [v _ _ (by omega), u _ _ (by omega), ← hT8, sI_nf (by omega), ← hT7, sI_nf (by omega), ← hT6, sI_nf (by omega), ← hT5, sI_nf (by omega), ← hT4, sI_nf (by omega), ← hT3, sI_eq]
  · rw [v _ _ (by omega), u _ _ (by omega), ← hT8, sI_nf (by omega), ← hT7, sI_nf (by omega), ← hT6, sI_nf (by omega), ← hT5, sI_nf (by omega), ← hT4, sI_eq]
  · rw [v _ _ (by omega), u _ _ (by omega), ← hT8, sI_nf (by omega), ← hT7, sI_nf (by omega), ← hT6, sI_nf (by omega), ← hT5, sI_eq]
  · rw [v _ _ (by omega), u _ _ (by omega), ← hT8, sI_nf (by omega), ← hT7, sI_nf (by omega), ← hT6, sI_eq]
  · rw [v _ _ (by omega), u _ _ (by omega), ← hT8, sI_nf (by omega), ← hT7, sI_eq]
  · rw [v _ _ (by omega), u _ _ (by omega), ← hT8, sI_eq]
  · rw [v _ _ (by omega), f3 _ _ (by omega), d3 _ _ (by omega), c3 _ _ (by omega), b3 _ _ (by omega), a2 b hb, e8 _ _ (by omega)]
  · rw [v _ _ (by omega), f3 _ _ (by omega), d3 _ _ (by omega), c3 _ _ (by omega), b2 b hb, a3 _ _ (by omega), e8 _ _ (by omega)]
  · rw [v _ _ (by omega), f3 _ _ (by omega), d3 _ _ (by omega), c2 b hb, b3 _ _ (by omega), a3 _ _ (by omega), e8 _ _ (by omega)]
  · rw [v _ _ (by omega), f3 _ _ (by omega), d2 b hb, c3 _ _ (by omega), b3 _ _ (by omega), a3 _ _ (by omega), e8 _ _ (by omega)]
  · rw [v _ _ (by omega), f2 b hb, d3 _ _ (by omega), c3 _ _ (by omega), b3 _ _ (by omega), a3 _ _ (by omega), e8 _ _ (by omega)]
  · rw [← hV, sI_nf (by omega), sI_nf (by omega), sI_nf (by omega), sI_nf (by omega), sI_eq]
  · rw [← hV, sI_nf (by omega), sI_nf (by omega), sI_nf (by omega), sI_eq]
  · rw [← hV, sI_nf (by omega), sI_nf (by omega), sI_eq]
  · rw [← hV, sI_nf (by omega), sI_eq]
  · rw [← hV, sI_eq]
  · rw [v _ _ (by omega), u _ _ (by omega), e8 _ _ (by omega)]
