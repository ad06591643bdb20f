-- ===== a rule holds =====
theorem b218_eq {k43 : Nat → Int32 → Int32 → Int32 → Sg → Option (Int32 × Sg)} {g a : Nat} {r m : Int32} {σ : Sg} (hg : isGd g = true) : f_X6_holds_b218 k43 (g + 3) r m (nI a) σ = k43 (g + 3) r m (nI (a + 1)) σ := by
  rw [f_X6_holds_b218, ex_gd (isRu_g hg), nI_1]
theorem b177_eq {k43 : Nat → Int32 → Int32 → Int32 → Sg → Option (Int32 × Sg)} {g d a : Nat} {r m x : Int32} {σ : Sg} (hg : isGd g = true) (hd : d < 40) : f_X6_holds_b177 k43 (g + 3) r m (nI a) x (nI d) σ = k43 (g + 3) r m (nI (a + 1)) (sI σ (g + 6) d x) := by
  rw [f_X6_holds_b177, ex_gd (isRu_g hg), ex_gd (inb_nI hd (by omega)), ex_pI, nI_clamp (show d < 2 ^ 31 by omega), b218_eq hg]
theorem b181_eq {k43 : Nat → Int32 → Int32 → Int32 → Sg → Option (Int32 × Sg)} {g d a : Nat} {r x v : Int32} {σ : Sg} (hg : isGd g = true) (hd : d + 1 < 40) (hv : f_X6_join x (σ.1 (g + 6) d) (σ.1 (g + 6) (d + 1)) σ = some (v, σ)) : f_X6_holds_b181 k43 (g + 3) r (nI (d + 2)) (nI a) x σ = k43 (g + 3) r (nI (d + 1)) (nI (a + 1)) (sI σ (g + 6) d v) := by
  have b3 : ¬ nI (d + 2) < 2 := fun z => by have := (nI_ltR (x := 2) (k := 2) rfl (by omega) (by omega)).mp z; omega
  have s2 : nI (d + 2) - 2 = nI d := nI_sub (a := d + 2) (b := 2) (by omega)
  have s1 : nI (d + 2) - 1 = nI (d + 1) := nI_pred (d + 1)
  have t1 : nI (d + 2) + (-1) = nI (d + 1) := by rw [← s1]; exact (Int32.sub_eq_add_neg _ _).symm
  rw [f_X6_holds_b181, ex_gd (isRu_g hg), ex_bf b3, s2, s1, t1, ex_gd (inb_nI (show d < 40 by omega) (by omega)), ex_dI, ex_gd (inb_nI hd (by omega)), ex_dI, nI_clamp (show d < 2 ^ 31 by omega), nI_clamp (show d + 1 < 2 ^ 31 by omega), ex_cl hv, ex_gd (inb_nI (show d < 40 by omega) (by omega)), ex_pI, b218_eq hg]
theorem b90_val {k43 : Nat → Int32 → Int32 → Int32 → Sg → Option (Int32 × Sg)} {g w : Nat} {r d a x : Int32} {σ : Sg} (hg : isGd g = true) (hx : x < 0) (hw : w < 8) : f_X6_holds_b90 k43 (g + 3) r d a x (nI w) σ = f_X6_holds_b115 k43 (g + 3) r d a (σ.1 27 w) σ := by
  have b5 : ¬ (8 : Int32) ≤ nI w := fun z => by have := (nI_leL (x := 8) (k := 8) rfl (by omega) (by omega)).mp z; omega
  rw [f_X6_holds_b90, ex_gd (isRu_g hg), ex_bt hx, ex_bf b5, ex_gd (inb_nI hw (by omega)), ex_dI, nI_clamp (show w < 2 ^ 31 by omega)]
theorem b90_num {k43 : Nat → Int32 → Int32 → Int32 → Sg → Option (Int32 × Sg)} {g : Nat} {r d a x y : Int32} {σ : Sg} (hg : isGd g = true) (hx : ¬ x < 0) : f_X6_holds_b90 k43 (g + 3) r d a x y σ = f_X6_holds_b115 k43 (g + 3) r d a x σ := by
  rw [f_X6_holds_b90, ex_gd (isRu_g hg), ex_bf hx]
theorem holds_rel {g r j : Nat} {h t : Int32} {V : Nat → Int32} (hg : isGd g = true) (hr : r < 4) : ∀ (ts : List Nat) (d a k fu fm : Nat) (σ τ : Sg), CC σ (g + 4) a ts → MC τ 61 k ts → wfT d ts → d ≤ 40 → σ.1 (g + 5) r = nI (a + ts.length) → a + ts.length ≤ 600 → k + 2 * ts.length < 1600 → (∀ i, i < d → τ.1 72 i = σ.1 (g + 6) i) → (∀ w, w < 8 → σ.1 27 w = V w) → (∀ τ', Oc 72 τ τ' → ∀ w, w < 8 → f_X11_valueOf (nI w) (nI j) h t τ' = some (V w, τ')) →
    ∃ v σ' τ', f_X6_holds_b43 (fu + ts.length + 1) (g + 3) (nI r) (nI d) (nI a) σ = some (v, σ') ∧ f_X11_mayGo_b24 (fm + ts.length + 1) (nI j) h t (nI d) (nI k) τ = some (v, τ') ∧ (v = 0 ∨ v = 1) ∧ Oc (g + 6) σ σ' ∧ Oc 72 τ τ' := by
  intro ts
  have hru := isRu_g hg
  have hg6 : ∀ a : Nat, a = 27 ∨ a = g + 4 ∨ a = g + 5 → ¬ a = g + 6 := by
    intro a ha
    rcases or3 hg with rfl | rfl | rfl <;> omega
  induction ts with
  | nil =>
    intro d a k fu fm σ τ hC hM hw hd he ha hk hp hV hv
    have : d = 1 := hw
    subst this
    have hk : k < 1600 := by simp only [List.length_nil] at hk; omega
    have p0 := hp 0 (by omega)
    have e1 := holdsC_end (fu := fu + 0) hg hr (show σ.1 (g + 5) r = nI a from he)
    have e2 := mayM_end (fu := fm + 0) (j := nI j) (h := h) (t := t) (m := nI 1) hk (show τ.1 61 k = 0 from hM)
    rw [p0] at e2
    rw [List.length_nil, e1, e2]
    by_cases q : σ.1 (g + 6) 0 = 0
    · rw [if_pos q, if_pos q]
      exact ⟨0, σ, τ, rfl, rfl, Or.inl rfl, Oc.rf, Oc.rf⟩
    · rw [if_neg q, if_neg q]
      exact ⟨1, σ, τ, rfl, rfl, Or.inr rfl, Oc.rf, Oc.rf⟩
  | cons q ts ih =>
    intro d a k fu fm σ τ hC hM hw hd he ha hk hp hV hv
    rw [List.length_cons] at he ha hk ⊢
    obtain ⟨c1, c2⟩ := hC
    have go : ∀ (d' k' : Nat) (o : Nat) (w : Int32), MC τ 61 k' ts → wfT d' ts → d' ≤ 40 → k' + 2 * ts.length < 1600 → o + 1 = d' → o ≤ d → ∃ v σ' τ', f_X6_holds_b43 (fu + ts.length + 1) (g + 3) (nI r) (nI d') (nI (a + 1)) (sI σ (g + 6) o w) = some (v, σ') ∧ f_X11_mayGo_b24 (fm + ts.length + 1) (nI j) h t (nI d') (nI k') (sI τ 72 o w) = some (v, τ') ∧ (v = 0 ∨ v = 1) ∧ Oc (g + 6) σ σ' ∧ Oc 72 τ τ' := by
      intro d' k' o w m2 hw' h1 h2 h3 h4
      obtain ⟨v, σ', τ', a1, a2, a3, a4, a5⟩ := ih d' (a + 1) k' fu fm (sI σ (g + 6) o w) (sI τ 72 o w) (CC.oc Oc.w (hg6 _ (by omega)) _ _ c2) (MC.oc Oc.w (by omega) _ _ m2) hw' h1 (by rw [sI_ne (hg6 _ (by omega)), he]; congr 1; omega) (by omega) h2 (fun i hi => by
        by_cases z : i = o
        · subst z; rw [sI_eq, sI_eq]
        · rw [sI_nf z, sI_nf z]; exact hp i (by omega)) (fun w hw => by rw [sI_ne (hg6 _ (by omega))]; exact hV w hw) (fun τ' ho => hv τ' (Oc.w.tr ho))
      exact ⟨v, σ', τ', a1, a2, a3, Oc.w.tr a4, Oc.w.tr a5⟩
    rw [show fu + (ts.length + 1) + 1 = (fu + ts.length + 1) + 1 by omega, show fm + (ts.length + 1) + 1 = (fm + ts.length + 1) + 1 by omega, holdsC_step (d := d) (fu := fu + ts.length + 1) hg hr c1 he ha]
    rcases hw with ⟨q1, q2, hw⟩ | ⟨q1, q2, hw⟩
    · obtain ⟨m1, m2⟩ := hM.1 q1
      obtain ⟨b1, b2, -, -, -⟩ := op_facts q1 q2
      rcases hw with ⟨q3, q4, hw⟩ | ⟨q3, q4, hw⟩
      · -- not
        subst q3
        obtain ⟨d, rfl⟩ : ∃ d', d = d' + 1 := ⟨d - 1, by omega⟩
        have b3 : ¬ nI (d + 1) < 1 := fun z => by have := (nI_ltR (x := 1) (k := 1) rfl (by omega) (by omega)).mp z; omega
        have p0 := hp d (by omega)
        rw [mayM_not (by omega) (by omega) m1, p0]
        rw [ex_bf b1, ex_bt b2, ex_bt (show clsT 3 = -3 by decide), ex_bf b3, nI_pred, ex_gd (inb_nI (show d < 40 by omega) (by omega)), ex_dI, nI_clamp (show d < 2 ^ 31 by omega), show g + 3 + 3 = g + 6 from rfl]
        by_cases z : σ.1 (g + 6) d = 0
        · rw [ex_bt z, if_pos z, b177_eq hg (by omega)]
          exact go (d + 1) (k + 1) d 1 m2 hw hd (by omega) rfl (by omega)
        · rw [ex_bf z, if_neg z, b177_eq hg (by omega)]
          exact go (d + 1) (k + 1) d 0 m2 hw hd (by omega) rfl (by omega)
      · -- two are joined
        obtain ⟨d, rfl⟩ : ∃ d', d = d' + 2 := ⟨d - 2, by omega⟩
        obtain ⟨b4, -⟩ := op_facts3 q1 q2 q3
        have hw' : wfT (d + 1) ts := by rw [show d + 2 - 1 = d + 1 by omega] at hw; exact hw
        obtain ⟨v, j1, j2⟩ := join_works q2 q1 q3 (σ.1 (g + 6) d) (σ.1 (g + 6) (d + 1)) σ τ
        rw [mayM_join (v := v) (by omega) (by omega) q1 q2 q3 m1 (by rw [hp d (by omega), hp (d + 1) (by omega)]; exact j2)]
        rw [ex_bf b1, ex_bt b2, ex_bf b4, b181_eq hg (by omega) j1]
        exact go (d + 1) (k + 1) d v m2 hw' (by omega) (by omega) rfl (by omega)
    · rcases q1 with ⟨q1, q3⟩ | ⟨q1, q3⟩
      · obtain ⟨m0, m1, m2⟩ := hM.2.1 q1 q3
        obtain ⟨w, rfl⟩ : ∃ w, q = 10 + w := ⟨q - 10, by omega⟩
        have hw8 : w < 8 := by omega
        obtain ⟨b1, b2, b3⟩ := val_facts hw8
        have b4 : clsT (10 + w) < 0 := Int32.not_le.mp b1
        rw [Nat.add_sub_cancel_left] at m1
        rw [mayM_val (w := w) (v := V w) (by omega) (by omega) m0 m1 (hv τ Oc.rf w hw8)]
        obtain ⟨v, σ', τ', a1, a2, a3⟩ := go (d + 1) (k + 2) d (V w) m2 hw (by omega) (by omega) rfl (by omega)
        refine ⟨v, σ', τ', ?_, a2, a3⟩
        refine Eq.trans ?_ ((pushC (k43 := f_X6_holds_b43 (fu + ts.length + 1)) hg q2).trans a1)
        rw [ex_bf b1, ex_bf b2, b3, b90_val hg b4 hw8, hV w hw8]
      · obtain ⟨m0, m1, m2⟩ := hM.2.2 (by omega)
        obtain ⟨w, rfl⟩ : ∃ w, q = 20 + w := ⟨q - 20, by omega⟩
        have e0 : clsT (20 + w) = nI w := by rw [clsT, if_neg (by omega), Nat.add_sub_cancel_left]
        have b1 : 0 ≤ nI w := nI_pos' (by omega)
        have b4 : ¬ nI w < 0 := nI_pos (by omega)
        rw [Nat.add_sub_cancel_left] at m1
        rw [mayM_num (v := nI w) (by omega) (by omega) m0 m1]
        obtain ⟨v, σ', τ', a1, a2, a3⟩ := go (d + 1) (k + 2) d (nI w) m2 hw (by omega) (by omega) rfl (by omega)
        refine ⟨v, σ', τ', ?_, a2, a3⟩
        refine Eq.trans ?_ ((pushC (k43 := f_X6_holds_b43 (fu + ts.length + 1)) hg q2).trans a1)
        rw [e0]
        rw [ex_bt b1, b90_num hg b4]
