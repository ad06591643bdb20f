-- ===== the egg: both rows are sorted alike =====
/-- the first i of both rows, greatest first -/
def So (i : Nat) (P : Nat → Nat) (σ τ : Sg) : Prop := (∀ j, j < i → σ.1 34 j = nI (P j) ∧ τ.1 91 j = nI (P j) ∧ 1 ≤ P j ∧ P j ≤ 99) ∧ ∀ j, j + 1 < i → P (j + 1) ≤ P j
def EgK (σ τ σ' τ' : Sg) : Prop := (∀ a b, ¬ a = 34 → σ'.1 a b = σ.1 a b) ∧ σ'.2 = σ.2 ∧ (∀ a b, ¬ a = 91 → τ'.1 a b = τ.1 a b) ∧ τ'.2 = τ.2
theorem EgK.trans {σ τ σ1 τ1 σ2 τ2 : Sg} (h : EgK σ τ σ1 τ1) (k : EgK σ1 τ1 σ2 τ2) : EgK σ τ σ2 τ2 :=
  ⟨fun a b z => (k.1 a b z).trans (h.1 a b z), k.2.1.trans h.2.1, fun a b z => (k.2.2.1 a b z).trans (h.2.2.1 a b z), k.2.2.2.trans h.2.2.2⟩
theorem sort_in {g i v : Nat} {P : Nat → Nat} {x1 x2 : Int32} {k2 : Nat → Int32 → Int32 → Sg → Option (Unit × Sg)} {k37 : Int32 → Int32 → Sg → Option (Int64 × Sg)} (hg : isGd g = true) (hi : i < 8) (hv : 1 ≤ v ∧ v ≤ 99) (hP : ∀ j, j < i → 1 ≤ P j ∧ P j ≤ 99) (hS : ∀ j, j + 1 < i → P (j + 1) ≤ P j) : ∀ (a fu fm : Nat) (σ τ : Sg), a ≤ i → τ.1 60 i = nI v → (∀ j, j < a → σ.1 34 j = nI (P j) ∧ τ.1 91 j = nI (P j)) → (∀ j, a < j → j ≤ i → σ.1 34 j = nI (P (j - 1)) ∧ τ.1 91 j = nI (P (j - 1))) → (∀ j, a ≤ j → j < i → P j < v) → ∃ P' σ' τ', f_X0_sort_b24 k2 (fu + a + 1) g x2 (nI i) (nI v) (nI a) σ = k2 g x2 (nI (i + 1)) σ' ∧ f_X11_egg_b47 k37 (fm + a + 1) x1 (nI i) (nI a) τ = k37 x1 (nI (i + 1)) τ' ∧ So (i + 1) P' σ' τ' ∧ EgK σ τ σ' τ' := by
  intro a
  -- where it is laid down
  have lay : ∀ (a : Nat) (σ τ : Sg), a ≤ i → τ.1 60 i = nI v → (∀ j, j < a → σ.1 34 j = nI (P j) ∧ τ.1 91 j = nI (P j)) → (∀ j, a < j → j ≤ i → σ.1 34 j = nI (P (j - 1)) ∧ τ.1 91 j = nI (P (j - 1))) → (∀ j, a ≤ j → j < i → P j < v) → (a = 0 ∨ v ≤ P (a - 1)) → ∃ P' σ' τ', f_X0_sort_b65 k2 g x2 (nI i) (nI v) (nI a) σ = k2 g x2 (nI (i + 1)) σ' ∧ f_X11_egg_b88 k37 x1 (nI i) (nI a) τ = k37 x1 (nI (i + 1)) τ' ∧ So (i + 1) P' σ' τ' ∧ EgK σ τ σ' τ' := by
    intro a σ τ ha h60 h1 h2 h3 h4
    have ia := inb_nI (show a < 8 by omega) (by omega)
    have ca := nI_clamp (show a < 2 ^ 31 by omega)
    refine ⟨fun j => if j < a then P j else if j = a then v else P (j - 1), sI σ 34 a (nI v), sI τ 91 a (nI v), ?_, ?_, ⟨fun j hj => ?_, fun j hj => ?_⟩, fun x y z => sI_ne z, rfl, fun x y z => sI_ne z, rfl⟩
    · rw [f_X0_sort_b65, ex_gd hg, ex_gd ia, ex_pI, ca, nI_1]
    · rw [f_X11_egg_b88, ex_gd (inb_nI hi (by omega)), ex_dI, nI_clamp (show i < 2 ^ 31 by omega), h60, ex_gd ia, ex_pI, ca, nI_1]
    · show (sI σ 34 a (nI v)).1 34 j = nI (if j < a then P j else if j = a then v else P (j - 1)) ∧ (sI τ 91 a (nI v)).1 91 j = nI (if j < a then P j else if j = a then v else P (j - 1)) ∧ 1 ≤ (if j < a then P j else if j = a then v else P (j - 1)) ∧ (if j < a then P j else if j = a then v else P (j - 1)) ≤ 99
      by_cases z1 : j < a
      · rw [if_pos z1, sI_nf (by omega), sI_nf (by omega)]
        exact ⟨(h1 j z1).1, (h1 j z1).2, hP j (by omega)⟩
      · rw [if_neg z1]
        by_cases z2 : j = a
        · subst z2
          rw [if_pos rfl, sI_eq, sI_eq]
          exact ⟨rfl, rfl, hv⟩
        · rw [if_neg z2, sI_nf z2, sI_nf z2]
          obtain ⟨q1, q2⟩ := h2 j (by omega) (by omega)
          exact ⟨q1, q2, hP (j - 1) (by omega)⟩
    · show (if j + 1 < a then P (j + 1) else if j + 1 = a then v else P (j + 1 - 1)) ≤ (if j < a then P j else if j = a then v else P (j - 1))
      by_cases z1 : j + 1 < a
      · rw [if_pos z1, if_pos (by omega)]
        exact hS j (by omega)
      · rw [if_neg z1]
        by_cases z2 : j + 1 = a
        · rw [if_pos z2, if_pos (by omega)]
          rcases h4 with h | h
          · omega
          · rw [show j = a - 1 by omega]; exact h
        · rw [if_neg z2, if_neg (by omega), Nat.add_sub_cancel]
          by_cases z3 : j = a
          · rw [if_pos z3, z3]
            exact Nat.le_of_lt (h3 a (by omega) (by omega))
          · rw [if_neg z3]
            have := hS (j - 1) (by omega)
            rw [show j - 1 + 1 = j by omega] at this
            exact this
  induction a with
  | zero =>
    intro fu fm σ τ ha h60 h1 h2 h3
    obtain ⟨P', σ', τ', c1, c2, c3⟩ := lay 0 σ τ ha h60 h1 h2 h3 (Or.inl rfl)
    refine ⟨P', σ', τ', ?_, ?_, c3⟩
    · rw [f_X0_sort_b24, ex_gd hg, ex_bt (show nI 0 ≤ 0 by decide)]; exact c1
    · rw [f_X11_egg_b47, ex_bt (show nI 0 ≤ 0 by decide)]; exact c2
  | succ a ih =>
    intro fu fm σ τ ha h60 h1 h2 h3
    have p1 : ¬ nI (a + 1) ≤ 0 := fun z => by have := (nI_leR (x := 0) (k := 0) rfl (by omega) (by omega)).mp z; omega
    have ia := inb_nI (show a < 8 by omega) (by omega)
    have ca := nI_clamp (show a < 2 ^ 31 by omega)
    have ia1 := inb_nI (show a + 1 < 8 by omega) (by omega)
    have ca1 := nI_clamp (show a + 1 < 2 ^ 31 by omega)
    obtain ⟨r1, r2⟩ := h1 a (by omega)
    have pb := hP a (by omega)
    by_cases z : v ≤ P a
    · obtain ⟨P', σ', τ', c1, c2, c3⟩ := lay (a + 1) σ τ ha h60 h1 h2 h3 (Or.inr (by rw [Nat.add_sub_cancel]; exact z))
      have le := nI_le z (by omega)
      refine ⟨P', σ', τ', ?_, ?_, c3⟩
      · rw [show fu + (a + 1) + 1 = (fu + a + 1) + 1 by omega, f_X0_sort_b24, ex_gd hg, ex_bf p1, nI_s1 (by omega), Nat.add_sub_cancel, ex_gd ia, ex_dI, ca, r1, ex_bt le]
        exact c1
      · rw [show fm + (a + 1) + 1 = (fm + a + 1) + 1 by omega, f_X11_egg_b47, ex_bf p1, nI_s1 (by omega), Nat.add_sub_cancel, ex_gd ia, ex_dI, ca, r2, ex_gd (inb_nI hi (by omega)), ex_dI, nI_clamp (show i < 2 ^ 31 by omega), h60, ex_bt le]
        exact c2
    · have nle : ¬ nI v ≤ nI (P a) := nI_ge (by omega) (by omega)
      obtain ⟨P', σ', τ', c1, c2, c3, c4⟩ := ih fu fm (sI σ 34 (a + 1) (nI (P a))) (sI τ 91 (a + 1) (nI (P a))) (by omega) (by rw [sI_ne (by omega)]; exact h60) (fun j hj => by rw [sI_nf (by omega), sI_nf (by omega)]; exact h1 j (by omega)) (fun j j1 j2 => by
        by_cases y : j = a + 1
        · subst y
          rw [sI_eq, sI_eq, Nat.add_sub_cancel]
          exact ⟨rfl, rfl⟩
        · rw [sI_nf y, sI_nf y]
          exact h2 j (by omega) j2) (fun j j1 j2 => by
        by_cases y : j = a
        · subst y; omega
        · exact h3 j (by omega) j2)
      refine ⟨P', σ', τ', ?_, ?_, c3, EgK.trans ⟨fun x y w => sI_ne w, rfl, fun x y w => sI_ne w, rfl⟩ c4⟩
      · rw [show fu + (a + 1) + 1 = (fu + a + 1) + 1 by omega, f_X0_sort_b24, ex_gd hg, ex_bf p1, nI_s1 (by omega), Nat.add_sub_cancel, ex_gd ia, ex_dI, ca, r1, ex_bf nle, ex_gd ia, ex_dI, r1, ex_gd ia1, ex_pI, ca1, nI_m1]
        exact c1
      · rw [show fm + (a + 1) + 1 = (fm + a + 1) + 1 by omega, f_X11_egg_b47, ex_bf p1, nI_s1 (by omega), Nat.add_sub_cancel, ex_gd ia, ex_dI, ca, r2, ex_gd (inb_nI hi (by omega)), ex_dI, nI_clamp (show i < 2 ^ 31 by omega), h60, ex_bf nle, ex_gd ia, ex_dI, r2, ex_gd ia1, ex_pI, ca1, nI_m1]
        exact c2
theorem sort_out {g p : Nat} {x1 : Int32} {F : Nat → Nat} (hg : isGd g = true) (hp : p ≤ 8) : ∀ (d i fu fm : Nat) (P : Nat → Nat) (σ τ : Sg), i + d = p → τ.1 56 8 = nI p → (∀ j, j < p → 1 ≤ F j ∧ F j ≤ 99 ∧ σ.1 (g + 2) j = nI (F j) ∧ τ.1 60 j = nI (F j)) → So i P σ τ → ∃ P' σ' τ', f_X0_sort_b2 (fu + d + 1) g (nI p) (nI i) σ = some ((), σ') ∧ f_X11_egg_b37 (fm + d + 1) x1 (nI i) τ = f_X11_egg_b106 x1 τ' ∧ So p P' σ' τ' ∧ EgK σ τ σ' τ' := by
  intro d
  induction d with
  | zero =>
    intro i fu fm P σ τ hi h8 hF hS
    have : i = p := by omega
    subst this
    exact ⟨P, σ, τ, by rw [f_X0_sort_b2, ex_gd hg, ex_bt (Int32.le_refl _), ex_rt], by rw [f_X11_egg_b37, ex_dI, h8, ex_bt (Int32.le_refl _)], hS, fun _ _ _ => rfl, rfl, fun _ _ _ => rfl, rfl⟩
  | succ d ih =>
    intro i fu fm P σ τ hi h8 hF hS
    have i8 : i < 8 := by omega
    have ge : ¬ nI p ≤ nI i := nI_ge (by omega) (by omega)
    have ge8 : ¬ (8 : Int32) ≤ nI i := fun z => by have := (nI_leL (x := 8) (k := 8) rfl (by omega) (by omega)).mp z; omega
    obtain ⟨f1, f2, f3, f4⟩ := hF i (by omega)
    have hg3 := or3 hg
    have gne : ¬ g + 2 = 34 := by rcases hg3 with rfl | rfl | rfl <;> omega
    obtain ⟨P1, σ1, τ1, a1, a2, a3, a4⟩ := sort_in (x1 := x1) (x2 := nI p) (k2 := f_X0_sort_b2 (fu + d + 1)) (k37 := f_X11_egg_b37 (fm + d + 1)) (P := P) hg i8 ⟨f1, f2⟩ (fun j hj => (hS.1 j hj).2.2) hS.2 i (8191 - i) (8191 - i) σ τ (Nat.le_refl _) f4 (fun j hj => ⟨(hS.1 j hj).1, (hS.1 j hj).2.1⟩) (fun j j1 j2 => absurd j1 (by omega)) (fun j j1 j2 => absurd j2 (by omega))
    rw [show 8191 - i + i + 1 = FU by rw [Nat.sub_add_cancel (by omega)]; rfl] at a1 a2
    obtain ⟨P', σ', τ', c1, c2, c3, c4⟩ := ih (i + 1) fu fm P1 σ1 τ1 (by omega) (by rw [a4.2.2.1 _ _ (by omega)]; exact h8) (fun j hj => by rw [a4.1 _ _ gne, a4.2.2.1 _ _ (by omega)]; exact hF j hj) a3
    refine ⟨P', σ', τ', ?_, ?_, c3, a4.trans c4⟩
    · rw [show fu + (d + 1) + 1 = (fu + d + 1) + 1 by omega, f_X0_sort_b2, ex_gd hg, ex_bf ge, ex_bf ge8, ex_gd (inb_nI i8 (by omega)), ex_dI, nI_clamp (show i < 2 ^ 31 by omega), f3]
      exact a1.trans c1
    · rw [show fm + (d + 1) + 1 = (fm + d + 1) + 1 by omega, f_X11_egg_b37, ex_dI, h8, ex_bf ge]
      exact a2.trans c2
