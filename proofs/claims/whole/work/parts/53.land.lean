-- ===== a landing =====
theorem sI_comm {σ : Sg} {a b c d : Nat} {v w : Int32} (h : ¬ (a = c ∧ b = d)) : sI (sI σ a b v) c d w = sI (sI σ c d w) a b v := by
  refine Prod.ext (funext fun x => funext fun y => ?_) rfl
  simp only [sI_gt]
  by_cases h1 : x = a ∧ y = b
  · by_cases h2 : x = c ∧ y = d
    · exact absurd ⟨h1.1.symm.trans h2.1, h1.2.symm.trans h2.2⟩ h
    · rw [if_neg h2, if_pos h1, if_pos h1]
  · rw [if_neg h1, if_neg h1]
theorem sI_ne {σ : Sg} {i k a b : Nat} {v : Int32} (h : ¬ a = i) : (sI σ i k v).1 a b = σ.1 a b := by rw [sI_gt, if_neg (fun q => h q.1)]
theorem sI_nf {σ : Sg} {i k a b : Nat} {v : Int32} (h : ¬ b = k) : (sI σ i k v).1 a b = σ.1 a b := by rw [sI_gt, if_neg (fun q => h q.2)]
theorem sI_eq {σ : Sg} {i k : Nat} {v : Int32} : (sI σ i k v).1 i k = v := by rw [sI_gt, if_pos ⟨rfl, rfl⟩]
theorem nI_l6 {x : Int32} {k : Nat} (h : x = nI k) (j : Nat) : 6 * nI j + x = nI (6 * j + k) := by rw [h, nI_mulL (x := 6) (k := 6) rfl, nI_add]
section EqR
variable {α β γ : Type} {R : α → Sg → β → Sg → Prop} {P : α → Sg → Prop} {σ σ' τ τ' : Sg}
theorem wl_eq {f : Sg → Option (γ × Sg)} {v : γ} {d : γ → Sg → Option (α × Sg)} {e : Sg → Option (β × Sg)} (h : f σ = some (v, σ')) : ww (cl f d) e R σ τ ↔ ww (d v) e R σ' τ := by
  rw [wl_cl]
  exact ⟨fun ⟨r, q, p⟩ => by rw [h] at q; cases q; exact p, fun p => ⟨_, h, p⟩⟩
theorem wr_eq {f : Sg → Option (γ × Sg)} {v : γ} {d : γ → Sg → Option (β × Sg)} {e : Sg → Option (α × Sg)} (h : f τ = some (v, τ')) : ww e (cl f d) R σ τ ↔ ww e (d v) R σ τ' := by
  rw [wr_cl]
  exact ⟨fun ⟨r, q, p⟩ => by rw [h] at q; cases q; exact p, fun p => ⟨_, h, p⟩⟩
theorem wp_eq {f : Sg → Option (γ × Sg)} {v : γ} {d : γ → Sg → Option (α × Sg)} (h : f σ = some (v, σ')) : wp (cl f d) P σ ↔ wp (d v) P σ' := by
  rw [wp_cl]
  exact ⟨fun ⟨r, q, p⟩ => by rw [h] at q; cases q; exact p, fun p => ⟨_, h, p⟩⟩
end EqR
theorem addKind_eq {j k : Nat} {σ : Sg} {x : Int32} (hx : x = nI k) (hj : j < 4) (hk : k < 6) : f_X1_addKind (fl j) x σ = some ((), sI σ (fk j) k (σ.1 (fk j) k + 1)) := by
  subst hx
  have a : ¬ nI k < 0 := nI_pos (by omega)
  have b : ¬ (6 : Int32) ≤ nI k := fun h => by have := (nI_leL (x := 6) (k := 6) rfl (by omega) (by omega)).mp h; omega
  simp only [f_X1_addKind, gd, br, dI, pI, rt, isFl_l hj, if_true, if_neg a, if_neg b, inb_nI hk (by omega), fl_1, nI_clamp (show k < 2 ^ 31 by omega)]
def hC1 (t : Int32) (σ : Sg) : Sg := if σ.1 17 14 = -1 then sI σ 17 14 t else σ
def hC2 (m t : Int32) (σ : Sg) : Sg := if σ.1 17 14 = t then sI σ 17 15 (σ.1 17 15 ||| ((1 : Int32) <<< (m &&& 31))) else σ
def hC (j : Nat) (t : Int32) (σ : Sg) : Sg := hC2 (σ.1 (fl j) 0) t (hC1 t (sI σ (fl j) 13 (σ.1 (fl j) 13 + 1)))
theorem hC1_g {t : Int32} {σ : Sg} {a b : Nat} (h : ¬ (a = 17 ∧ b = 14)) : (hC1 t σ).1 a b = σ.1 a b := by
  unfold hC1
  by_cases e : σ.1 17 14 = -1
  · rw [if_pos e, sI_gt, if_neg h]
  · rw [if_neg e]
theorem hC_g {j : Nat} {t : Int32} {σ : Sg} {a b : Nat} (h : ¬ (a = 17 ∧ b = 14)) (h' : ¬ (a = 17 ∧ b = 15)) (h2 : ¬ (a = fl j ∧ b = 13)) : (hC j t σ).1 a b = σ.1 a b := by
  unfold hC hC2
  by_cases e : (hC1 t (sI σ (fl j) 13 (σ.1 (fl j) 13 + 1))).1 17 14 = t
  · rw [if_pos e, sI_gt, if_neg h', hC1_g h, sI_gt, if_neg h2]
  · rw [if_neg e, hC1_g h, sI_gt, if_neg h2]
theorem hC1_2 {t : Int32} {σ : Sg} : (hC1 t σ).2 = σ.2 := by
  unfold hC1
  by_cases e : σ.1 17 14 = -1
  · rw [if_pos e]; rfl
  · rw [if_neg e]
theorem hC_2 {j : Nat} {t : Int32} {σ : Sg} : (hC j t σ).2 = σ.2 := by
  unfold hC hC2
  by_cases e : (hC1 t (sI σ (fl j) 13 (σ.1 (fl j) 13 + 1))).1 17 14 = t
  · rw [if_pos e, sI_2, hC1_2, sI_2]
  · rw [if_neg e, hC1_2, sI_2]
theorem hurtC_eq {j : Nat} {t : Int32} {σ : Sg} (hj : j < 4) : f_X4_hurt (fl j) t σ = some ((), hC j t σ) := by
  have a : (hC1 t (sI σ (fl j) 13 (σ.1 (fl j) 13 + 1))).1 (fl j) 0 = σ.1 (fl j) 0 := by
    rw [hC1_g (by rw [fl_17]; exact fun h => h.1), sI_gt, if_neg (by omega)]
  have b23 : ∀ υ : Sg, f_X4_hurt_b23 (fl j) t υ = some ((), hC2 (υ.1 (fl j) 0) t υ) := by
    intro υ
    unfold f_X4_hurt_b23 hC2
    by_cases e : υ.1 17 14 = t
    · simp only [gd, dI, br, pI, rt, isFl_l hj, if_true, if_pos e]
    · simp only [gd, dI, br, pI, rt, isFl_l hj, if_true, if_neg e]
  unfold f_X4_hurt
  simp only [gd, dI, pI, isFl_l hj, if_true]
  rw [hC, ← a, ← b23]
  unfold br hC1
  by_cases e : (sI σ (fl j) 13 (σ.1 (fl j) 13 + 1)).1 17 14 = -1
  · rw [if_pos e, if_pos e]; rfl
  · rw [if_neg e, if_neg e]
theorem hC_k {i j k : Nat} {t v : Int32} {σ : Sg} (hi : i < 4) (hj : j < 4) : hC j t (sI σ (fk i) k v) = sI (hC j t σ) (fk i) k v := by
  have e1 : ∀ υ : Sg, hC1 t (sI υ (fk i) k v) = sI (hC1 t υ) (fk i) k v := by
    intro υ
    unfold hC1
    rw [sI_ne (of_eq_false e17_fk)]
    by_cases e : υ.1 17 14 = -1
    · rw [if_pos e, if_pos e, sI_comm (by rw [fk_17]; exact fun h => h.1)]
    · rw [if_neg e, if_neg e]
  have e2 : ∀ (υ : Sg) (m : Int32), hC2 m t (sI υ (fk i) k v) = sI (hC2 m t υ) (fk i) k v := by
    intro υ m
    unfold hC2
    rw [sI_ne (of_eq_false e17_fk), sI_ne (of_eq_false e17_fk)]
    by_cases e : υ.1 17 14 = t
    · rw [if_pos e, if_pos e, sI_comm (by rw [fk_17]; exact fun h => h.1)]
    · rw [if_neg e, if_neg e]
  unfold hC
  rw [sI_ne (of_eq_false fl_fk), sI_ne (of_eq_false fl_fk), sI_comm (by rw [fk_fl]; exact fun h => h.1), e1, e2]
theorem re_hurt {g n s L j : Nat} {σ τ : Sg} {t : Int32} (R : Re g n s L σ τ) (hj : j < n) : ∃ τ', f_X11_hurts (nI j) t τ = some ((), τ') ∧ Re g n s L (hC j t σ) τ' := by
  have hj4 : j < 4 := by have := R.1.1.2.2.1; omega
  obtain ⟨r, q, e1, e2, h⟩ := hurt_rel (t := t) R hj
  rw [hurtC_eq hj4] at e1
  cases e1
  exact ⟨q.2, e2, h⟩
-- away or there
theorem re_d {g n s L j : Nat} {σ τ : Sg} (R : Re g n s L σ τ) (hj : j < n) (h4 : ¬ σ.1 (fl j) 5 = 4) (v : Int32) (hv : v = 1 ∨ v = 2 ∨ v = 3) : Re g n s L (sI σ (fl j) 5 v) (sI τ 73 j v) := by
  obtain ⟨hC, hD, hF, hK, hZ, hL, hS, hT⟩ := R
  have hn4 : n ≤ 4 := hC.1.2.2.1
  have hj4 : j < 4 := by omega
  have hg1 := gd_fl hC.1.1 hj4
  have hg2 := gd_fk hC.1.1 hj4
  refine ⟨?_, ?_, ?_, ?_, ?_, ?_, ?_, ?_⟩
  · simpa [ReC, sI_gt, sI_2, fl_eq, fk_eq, fl_fk, fk_fl, e17_fl, e17_fk, e28_fl, e29_fk, e29_fl hj4, e28_fk hj4, hg1, hg2] using hC
  · intro i hi
    by_cases e : i = j
    · subst e
      have h := hD i hi
      rcases h with h | ⟨-, -, -, h⟩
      · exact absurd h.1 h4
      · refine Or.inr ⟨hj, ?_, ?_, ?_⟩
        · simp only [sI_gt, and_self, if_true]; rcases hv with rfl | rfl | rfl <;> simp
        · simp [sI_gt]
        · simpa [sI_gt] using h
    · have h := hD i hi
      simpa [sI_gt, fl_eq, e] using h
  · simpa [ReF, sI_gt] using hF
  · simpa [ReK, sI_gt, fk_fl] using hK
  · refine ⟨fun i h1 h2 => ?_, fun i h1 h2 => ?_⟩
    · simpa [sI_gt] using hZ.1 i h1 h2
    · by_cases e : i = j
      · subst e
        simp only [sI_gt, and_self, if_true] at h2
        rcases hv with rfl | rfl | rfl <;> exact absurd h2 (by decide)
      · have h := hZ.2 i h1
        simp only [sI_gt, fl_eq, e, false_and, if_false] at h2 ⊢
        exact h h2
  · simpa [ReL, sI_gt, e28_fl, e29_fl hj4] using hL
  · simpa [ReS, sI_gt, e17_fl] using hS
  · simpa [ReT, sI_gt, sI_2, e17_fl] using hT
theorem sI_R {σ : Sg} {a b c d : Nat} {v : Int32} {w : Nat} : sI (sR σ c d w) a b v = sR (sI σ a b v) c d w := rfl
/-- the mat begins to sink -/
theorem re_begin {g n s L j b : Nat} {σ τ : Sg} {t : Int32} (R : Re g n s L σ τ) (hj : j < n) (ht : t = nI b) (hb : b ≤ 600) : Re g n s L (sR (sI (sI σ 17 6 0) 17 7 t) 17 8 (fl j)) (sI (sI τ 56 65 t) 56 67 (nI j)) := by
  obtain ⟨hC, hD, hF, hK, hZ, hL, hS, hT⟩ := R
  have hg := gd_17 hC.1.1
  refine ⟨?_, ?_, ?_, ?_, ?_, ?_, ?_, ?_⟩
  · simpa [ReC, sI_gt, sI_2, sR_1, sR_gt, fl_17, fk_17, hg] using hC
  · simpa [ReD, sI_gt, sR_1, fl_17] using hD
  · simpa [ReF, sI_gt, sR_1, fl_17] using hF
  · simpa [ReK, sI_gt, sR_1, fk_17] using hK
  · simpa [ReZ, sI_gt, sR_1, fl_17] using hZ
  · simpa [ReL, sI_gt, sR_1] using hL
  · simpa [ReS, sI_gt, sR_1] using hS
  · exact Or.inr ⟨by simp [sI_gt, sR_1], b, j, hb, hj, by simp [sI_gt, sR_1, ht], by simp [sI_gt, ht], by simp [sR_gt], by simp [sI_gt]⟩
/-- another one takes it -/
theorem re_taker {g n s L j : Nat} {σ τ : Sg} (R : Re g n s L σ τ) (hj : j < n) (h0 : σ.1 17 6 = 0) : Re g n s L (sR σ 17 8 (fl j)) (sI τ 56 67 (nI j)) := by
  obtain ⟨hC, hD, hF, hK, hZ, hL, hS, hT⟩ := R
  have hg := gd_17 hC.1.1
  refine ⟨?_, ?_, ?_, ?_, ?_, ?_, ?_, ?_⟩
  · simpa [ReC, sI_gt, sI_2, sR_1, sR_gt] using hC
  · simpa [ReD, sI_gt, sR_1] using hD
  · simpa [ReF, sI_gt, sR_1] using hF
  · simpa [ReK, sI_gt, sR_1] using hK
  · simpa [ReZ, sI_gt, sR_1] using hZ
  · simpa [ReL, sI_gt, sR_1] using hL
  · simpa [ReS, sI_gt, sR_1] using hS
  · rcases hT with ⟨h1, -⟩ | ⟨h1, b, i, hb, hi, h2, h3, h4, h5⟩
    · rw [h0] at h1; exact absurd h1 (by decide)
    · exact Or.inr ⟨by simpa [sR_1] using h1, b, j, hb, hj, by simpa [sR_1] using h2, by simpa [sI_gt] using h3, by simp [sR_gt], by simp [sI_gt]⟩
-- rows of landings
def row5 (c : Nat) (o : Nat) (v0 v1 v2 v3 v4 : Int32) (σ : Sg) : Sg := sI (sI (sI (sI (sI σ c o v0) c (o + 1) v1) c (o + 2) v2) c (o + 3) v3) c (o + 4) v4
theorem row5_g {c o : Nat} {v0 v1 v2 v3 v4 : Int32} {σ : Sg} {a b : Nat} (h : ¬ a = c ∨ b < o ∨ o + 5 ≤ b) : (row5 c o v0 v1 v2 v3 v4 σ).1 a b = σ.1 a b := by
  unfold row5
  simp only [sI_gt]
  rw [if_neg (by omega), if_neg (by omega), if_neg (by omega), if_neg (by omega), if_neg (by omega)]
theorem row5_e {c c' o : Nat} {v0 v1 v2 v3 v4 : Int32} {σ τ : Sg} {b : Nat} (h1 : o ≤ b) (h2 : b < o + 5) : (row5 c' o v0 v1 v2 v3 v4 τ).1 c' b = (row5 c o v0 v1 v2 v3 v4 σ).1 c b := by
  rcases (by omega : b = o ∨ b = o + 1 ∨ b = o + 2 ∨ b = o + 3 ∨ b = o + 4) with rfl | rfl | rfl | rfl | rfl <;> simp [row5, sI_gt]
theorem re_row {g n s L : Nat} {σ τ : Sg} {v0 v1 v2 v3 v4 : Int32} (R : Re g n s L σ τ) : Re g n s (L + 1) (sI (row5 29 (5 * L) v0 v1 v2 v3 v4 σ) 28 1 (nI (L + 1))) (sI (row5 85 (5 * L) v0 v1 v2 v3 v4 τ) 56 64 (nI (L + 1))) := by
  obtain ⟨hC, hD, hF, hK, hZ, hL, hS, hT⟩ := R
  have hn4 : n ≤ 4 := hC.1.2.2.1
  have hg := gd_29 hC.1.1
  have hg' := gd_28 hC.1.1
  have r1 : ∀ a b, ¬ a = 29 → (row5 29 (5 * L) v0 v1 v2 v3 v4 σ).1 a b = σ.1 a b := fun a b h => row5_g (Or.inl h)
  have r2 : ∀ a b, ¬ a = 85 → (row5 85 (5 * L) v0 v1 v2 v3 v4 τ).1 a b = τ.1 a b := fun a b h => row5_g (Or.inl h)
  have r3 : (row5 29 (5 * L) v0 v1 v2 v3 v4 σ).2 = σ.2 := rfl
  have f1 : ∀ j, j < 4 → ∀ b, (row5 29 (5 * L) v0 v1 v2 v3 v4 σ).1 (fl j) b = σ.1 (fl j) b := fun j h b => r1 _ _ (by rw [fl_29 h]; exact id)
  have f2 : ∀ j b, (row5 29 (5 * L) v0 v1 v2 v3 v4 σ).1 (fk j) b = σ.1 (fk j) b := fun j b => r1 _ _ (by rw [fk_29]; exact id)
  have f3 : ∀ b, (row5 29 (5 * L) v0 v1 v2 v3 v4 σ).1 g b = σ.1 g b := fun b => r1 _ _ (by rw [hg]; exact id)
  refine ⟨⟨?_, ?_, ?_, ?_⟩, ?_, ?_, ?_, ⟨?_, ?_⟩, ⟨?_, ?_, ?_⟩, ?_, ?_⟩
  · simpa [sI_gt, sI_2, r1, r2, r3, f3, hg'] using hC.1
  · simpa [sI_gt, sI_2, r1, r2, r3, f3, hg'] using hC.2.1
  · intro j hj
    simpa [sI_gt, fl_28, f1 j hj] using hC.2.2.1 j hj
  · intro j hj
    simpa [sI_gt, fl_28, f1 j (by omega), r2] using hC.2.2.2 j hj
  · intro j hj
    simpa [sI_gt, fl_28, f1 j hj, r2] using hD j hj
  · intro j hj
    simpa [sI_gt, fl_28, f1 j (by omega), r2] using hF j hj
  · intro j hj k hk
    simpa [sI_gt, fk_28 (show j < 4 by omega), f2, r2] using hK j hj k hk
  · intro j h1 h2
    simpa [sI_gt, fl_28, f1 j h2] using hZ.1 j h1 h2
  · intro j h1
    simpa [sI_gt, fl_28, f1 j h1] using hZ.2 j h1
  · simp [sI_gt]
  · simp [sI_gt]
  · intro i hi
    rw [sI_gt, if_neg (by omega), sI_gt, if_neg (by omega)]
    by_cases h : i < 5 * L
    · rw [row5_g (Or.inr (Or.inl h)), row5_g (Or.inr (Or.inl h))]
      exact hL.2.2 i h
    · exact row5_e (by omega) (by omega)
  · simpa [ReS, sI_gt, r1, r2] using hS
  · simpa [ReT, sI_gt, sI_2, r1, r2, r3] using hT
