-- ===== the ticks of the landings =====
def Lk (σ : Sg) : Prop := ∃ L, L ≤ 600 ∧ σ.1 28 1 = nI L ∧ ∀ i, i < L → ∃ t, t ≤ 600 ∧ σ.1 29 (5 * i) = nI t
def Pt {α : Type} (d : Sg → Option (α × Sg)) : Prop := ∀ σ r, Lk σ → d σ = some r → Lk r.2
section PtRules
variable {α β : Type} {i k : Nat}
theorem pt_rt {v : α} : Pt (rt v) := fun σ r h e => by cases e; exact h
theorem pt_none : Pt (α := α) (fun _ => none) := fun σ r _ e => by cases e
theorem pt_dI {d : Int32 → Sg → Option (α × Sg)} (h : ∀ v, Pt (d v)) : Pt (dI i k d) := fun σ r p e => h _ σ r p e
theorem pt_dL {d : Int64 → Sg → Option (α × Sg)} (h : ∀ v, Pt (d v)) : Pt (dL i k d) := fun σ r p e => h _ σ r p e
theorem pt_dR {d : Nat → Sg → Option (α × Sg)} (h : ∀ v, Pt (d v)) : Pt (dR i k d) := fun σ r p e => h _ σ r p e
theorem pt_pI {v : Int32} {d : Sg → Option (α × Sg)} (h1 : ¬ i = 28) (h2 : ¬ i = 29) (h : Pt d) : Pt (pI i k v d) := fun σ r p e => h _ r (by
  obtain ⟨L, a, b, c⟩ := p
  refine ⟨L, a, ?_, fun j hj => ?_⟩
  · rw [sI_gt, if_neg (fun z => h1 z.1.symm)]; exact b
  · rw [sI_gt, if_neg (fun z => h2 z.1.symm)]; exact c j hj) e
theorem pt_pL {v : Int64} {d : Sg → Option (α × Sg)} (h : Pt d) : Pt (pL i k v d) := fun σ r p e => h (sL σ i k v) r p e
theorem pt_pR {v : Nat} {d : Sg → Option (α × Sg)} (h : Pt d) : Pt (pR i k v d) := fun σ r p e => h (sR σ i k v) r p e
theorem pt_gd {c : Prop} [Decidable c] {d : Sg → Option (α × Sg)} (h : c → Pt d) : Pt (gd c d) := fun σ r p e => by
  by_cases q : c
  · rw [gd, if_pos q] at e; exact h q σ r p e
  · rw [gd, if_neg q] at e; cases e
theorem pt_br {c : Prop} [Decidable c] {d1 d2 : Sg → Option (α × Sg)} (h1 : Pt d1) (h2 : Pt d2) : Pt (br c d1 d2) := fun σ r p e => by
  by_cases q : c
  · rw [br, if_pos q] at e; exact h1 σ r p e
  · rw [br, if_neg q] at e; exact h2 σ r p e
theorem pt_brf {c : Prop} [Decidable c] {d1 d2 : Sg → Option (α × Sg)} (h1 : Pt d1) (h2 : ¬ c → Pt d2) : Pt (br c d1 d2) := fun σ r p e => by
  by_cases q : c
  · rw [br, if_pos q] at e; exact h1 σ r p e
  · rw [br, if_neg q] at e; exact h2 q σ r p e
theorem pt_lt {v : β} {d : β → Sg → Option (α × Sg)} (h : ∀ v, Pt (d v)) : Pt (lt v d) := h v
theorem pt_cl {f : Sg → Option (β × Sg)} {d : β → Sg → Option (α × Sg)} (hf : Pt f) (h : ∀ v, Pt (d v)) : Pt (cl f d) := fun σ r p e => by
  cases q : f σ with
  | none => rw [cl, q] at e; cases e
  | some r0 => rw [cl, q] at e; exact h _ _ r (hf σ r0 p q) e
end PtRules
theorem tk_fl0 {q : Nat} (h : isFl q = true) : ¬ q = 28 ∧ ¬ q = 29 := by
  rcases or4 h with rfl | rfl | rfl | rfl <;> decide
theorem tk_fl1 {q : Nat} (h : isFl q = true) : ¬ q + 1 = 28 ∧ ¬ q + 1 = 29 := by
  rcases or4 h with rfl | rfl | rfl | rfl <;> decide
theorem tk_ru {q : Nat} (h : isRu q = true) : ¬ q + 3 = 28 ∧ ¬ q + 3 = 29 := by
  rcases or3 h with rfl | rfl | rfl <;> decide
theorem tk_X1_isComing_b15 : Pt (f_X1_isComing_b15) := by
  unfold f_X1_isComing_b15
  exact pt_rt
theorem tk_X1_isComing (q0 : Nat) : Pt (f_X1_isComing q0) := by
  unfold f_X1_isComing
  exact pt_gd (fun g1 => pt_dI (fun v1 => pt_br (tk_X1_isComing_b15) (pt_dI (fun v3 => pt_br (tk_X1_isComing_b15) (pt_rt)))))
theorem tk_X1_addKind (q0 : Nat) (x1 : Int32) : Pt (f_X1_addKind q0 x1) := by
  unfold f_X1_addKind
  exact pt_gd (fun g1 => pt_br (pt_rt) (pt_br (pt_rt) (pt_gd (fun g2 => pt_dI (fun v3 => pt_gd (fun g3 => pt_pI (tk_fl1 g1).1 (tk_fl1 g1).2 (pt_rt)))))))
theorem tk_X1_flightOf (x0 : Int32) : Pt (f_X1_flightOf x0) := by
  unfold f_X1_flightOf
  exact pt_rt
theorem tk_X1_rise (q0 : Nat) (x1 : Int32) (x2 : Int32) (x3 : Int32) : Pt (f_X1_rise q0 x1 x2 x3) := by
  unfold f_X1_rise
  exact pt_gd (fun g1 => pt_dI (fun v1 => pt_pI (tk_fl0 g1).1 (tk_fl0 g1).2 (pt_dI (fun v2 => pt_lt (fun w3 => pt_pI (tk_fl0 g1).1 (tk_fl0 g1).2 (pt_dI (fun v4 => pt_pI (tk_fl0 g1).1 (tk_fl0 g1).2 (pt_pI (tk_fl0 g1).1 (tk_fl0 g1).2 (pt_pI (tk_fl0 g1).1 (tk_fl0 g1).2 (pt_pI (tk_fl0 g1).1 (tk_fl0 g1).2 (pt_cl (tk_X1_flightOf _) (fun r5 => pt_pI (tk_fl0 g1).1 (tk_fl0 g1).2 (pt_pI (tk_fl0 g1).1 (tk_fl0 g1).2 (pt_rt))))))))))))))
theorem tk_X2_isBeyond_b17 : Pt (f_X2_isBeyond_b17) := by
  unfold f_X2_isBeyond_b17
  exact pt_rt
theorem tk_X2_isBeyond (q0 : Nat) (x1 : Int32) : Pt (f_X2_isBeyond q0 x1) := by
  unfold f_X2_isBeyond
  exact pt_gd (fun g1 => pt_dI (fun v1 => pt_br (tk_X2_isBeyond_b17) (pt_dI (fun v3 => pt_br (pt_rt) (tk_X2_isBeyond_b17)))))
theorem tk_X2_comesTo (q0 : Nat) (x1 : Int32) (x2 : Int32) (x3 : Int32) : Pt (f_X2_comesTo q0 x1 x2 x3) := by
  unfold f_X2_comesTo
  exact pt_gd (fun g1 => pt_dI (fun v1 => pt_lt (fun w2 => pt_br (pt_lt (fun w4 => pt_rt)) (pt_lt (fun w5 => pt_rt)))))
theorem tk_X4_hurt_b23 (q1 : Nat) (x2 : Int32) : Pt (f_X4_hurt_b23 q1 x2) := by
  unfold f_X4_hurt_b23
  exact pt_gd (fun g1 => pt_dI (fun v1 => pt_br (pt_dI (fun v3 => pt_dI (fun v4 => pt_pI (by decide) (by decide) (pt_rt)))) (pt_rt)))
theorem tk_X4_hurt (q1 : Nat) (x2 : Int32) : Pt (f_X4_hurt q1 x2) := by
  unfold f_X4_hurt
  exact pt_gd (fun g1 => pt_dI (fun v1 => pt_pI (tk_fl0 g1).1 (tk_fl0 g1).2 (pt_dI (fun v2 => pt_br (pt_pI (by decide) (by decide) (tk_X4_hurt_b23 _ _)) (tk_X4_hurt_b23 _ _)))))
theorem tk_X4_knock_b71 (k5 : Nat → Int32 → Int32 → Int32 → Sg → Option (Unit × Sg)) (q1 : Nat) (x2 : Int32) (x3 : Int32) (x4 : Int32) (hk5 : ∀ a0 a1 a2 a3, Pt (k5 a0 a1 a2 a3)) : Pt (f_X4_knock_b71 k5 q1 x2 x3 x4) := by
  unfold f_X4_knock_b71
  exact pt_gd (fun g1 => hk5 _ _ _ _)
theorem tk_X4_knock_b77 (q1 : Nat) (x2 : Int32) (x3 : Int32) : Pt (f_X4_knock_b77 q1 x2 x3) := by
  unfold f_X4_knock_b77
  exact pt_gd (fun g1 => pt_br (pt_rt) (pt_cl (tk_X1_addKind _ _) (fun _ => pt_cl (tk_X4_hurt _ _) (fun _ => pt_rt))))
theorem tk_X4_knock_b5 : ∀ (fu : Nat) (q1 : Nat) (x2 : Int32) (x3 : Int32) (x4 : Int32), Pt (f_X4_knock_b5 fu q1 x2 x3 x4) := by
  intro fu
  induction fu with
  | zero => intro _ _ _ _; exact pt_none
  | succ fu ih => intro q1 x2 x3 x4; rw [f_X4_knock_b5]; exact pt_gd (fun g1 => pt_br (tk_X4_knock_b77 _ _ _) (pt_gd (fun g2 => pt_lt (fun u2 => pt_gd (fun g3 => pt_dI (fun v3 => pt_br (pt_dI (fun v5 => pt_dI (fun v6 => pt_lt (fun w7 => pt_dR (fun u8 => pt_gd (fun g4 => pt_dI (fun v9 => pt_br (tk_X4_knock_b71 _ _ _ _ _ ih) (pt_cl (tk_X1_addKind _ _) (fun _ => pt_cl (tk_X4_hurt _ _) (fun _ => tk_X4_knock_b71 _ _ _ _ _ ih)))))))))) (tk_X4_knock_b71 _ _ _ _ _ ih)))))))
theorem tk_X4_knock (q1 : Nat) (x2 : Int32) : Pt (f_X4_knock q1 x2) := by
  unfold f_X4_knock
  exact pt_gd (fun g1 => tk_X4_knock_b5 _ _ _ _ _)
theorem tk_X4_press_b79 (q1 : Nat) (x2 : Int32) (x4 : Int32) : Pt (f_X4_press_b79 q1 x2 x4) := by
  unfold f_X4_press_b79
  exact pt_gd (fun g1 => pt_pR (pt_dI (fun v1 => pt_pI (by decide) (by decide) (pt_dI (fun v2 => pt_pI (by decide) (by decide) (pt_rt))))))
theorem tk_X4_press_b45 (q1 : Nat) (x2 : Int32) (x3 : Int32) : Pt (f_X4_press_b45 q1 x2 x3) := by
  unfold f_X4_press_b45
  exact pt_gd (fun g1 => pt_dI (fun v1 => pt_br (pt_dR (fun u3 => pt_gd (fun g2 => pt_cl (tk_X1_addKind _ _) (fun _ => tk_X4_press_b79 _ _ _)))) (pt_pI (by decide) (by decide) (pt_pI (by decide) (by decide) (tk_X4_press_b79 _ _ _)))))
theorem tk_X4_press (q1 : Nat) (x2 : Int32) (x3 : Int32) : Pt (f_X4_press q1 x2 x3) := by
  unfold f_X4_press
  exact pt_gd (fun g1 => pt_dI (fun v1 => pt_br (pt_dI (fun v3 => pt_dR (fun u4 => pt_gd (fun g2 => pt_dI (fun v5 => pt_br (tk_X4_press_b45 _ _ _) (pt_dI (fun v7 => pt_pI (tk_fl0 g1).1 (tk_fl0 g1).2 (pt_dI (fun v8 => pt_pI (by decide) (by decide) (pt_rt)))))))))) (tk_X4_press_b45 _ _ _)))
theorem tk_X4_riseEnds : Pt (f_X4_riseEnds) := by
  unfold f_X4_riseEnds
  exact pt_dI (fun v1 => pt_dR (fun u2 => pt_gd (fun g1 => pt_dI (fun v3 => pt_rt))))
theorem tk_X4_countOthers_b90 (k10 : Nat → Int32 → Int32 → Int32 → Int32 → Sg → Option (Unit × Sg)) (q1 : Nat) (x2 : Int32) (x3 : Int32) (x4 : Int32) (x5 : Int32) (hk10 : ∀ a0 a1 a2 a3 a4, Pt (k10 a0 a1 a2 a3 a4)) : Pt (f_X4_countOthers_b90 k10 q1 x2 x3 x4 x5) := by
  unfold f_X4_countOthers_b90
  exact pt_gd (fun g1 => hk10 _ _ _ _ _)
theorem tk_X4_countOthers_b87 (k10 : Nat → Int32 → Int32 → Int32 → Int32 → Sg → Option (Unit × Sg)) (q1 : Nat) (x2 : Int32) (x3 : Int32) (x5 : Int32) (xs0 : Int32) (xs1 : Int32) (hk10 : ∀ a0 a1 a2 a3 a4, Pt (k10 a0 a1 a2 a3 a4)) : Pt (f_X4_countOthers_b87 k10 q1 x2 x3 x5 xs0 xs1) := by
  unfold f_X4_countOthers_b87
  exact pt_gd (fun g1 => tk_X4_countOthers_b90 _ _ _ _ _ _ hk10)
theorem tk_X4_countOthers_b96 (x2 : Int32) (x3 : Int32) (x4 : Int32) : Pt (f_X4_countOthers_b96 x2 x3 x4) := by
  unfold f_X4_countOthers_b96
  exact pt_pI (by decide) (by decide) (pt_pI (by decide) (by decide) (pt_pI (by decide) (by decide) (pt_rt)))
theorem tk_X4_countOthers_b10 : ∀ (fu : Nat) (q1 : Nat) (x2 : Int32) (x3 : Int32) (x4 : Int32) (x5 : Int32), Pt (f_X4_countOthers_b10 fu q1 x2 x3 x4 x5) := by
  intro fu
  induction fu with
  | zero => intro _ _ _ _ _; exact pt_none
  | succ fu ih => intro q1 x2 x3 x4 x5; rw [f_X4_countOthers_b10]; exact pt_gd (fun g1 => pt_br (tk_X4_countOthers_b96 _ _ _) (pt_gd (fun g2 => pt_lt (fun u2 => pt_gd (fun g3 => pt_dI (fun v3 => pt_br (tk_X4_countOthers_b90 _ _ _ _ _ _ ih) (pt_dI (fun v5 => pt_br (tk_X4_countOthers_b90 _ _ _ _ _ _ ih) (pt_dI (fun v7 => pt_br (pt_dI (fun v9 => pt_dI (fun v10 => pt_br (tk_X4_countOthers_b87 _ _ _ _ _ _ _ ih) (tk_X4_countOthers_b87 _ _ _ _ _ _ _ ih)))) (tk_X4_countOthers_b90 _ _ _ _ _ _ ih)))))))))))
theorem tk_X4_countOthers (q1 : Nat) : Pt (f_X4_countOthers q1) := by
  unfold f_X4_countOthers
  exact pt_gd (fun g1 => tk_X4_countOthers_b10 _ _ _ _ _ _)
theorem tk_X6_join_b56 : Pt (f_X6_join_b56) := by
  unfold f_X6_join_b56
  exact pt_rt
theorem tk_X6_join (x0 : Int32) (x1 : Int32) (x2 : Int32) : Pt (f_X6_join x0 x1 x2) := by
  unfold f_X6_join
  exact pt_br (pt_rt) (pt_br (pt_rt) (pt_br (pt_rt) (pt_br (pt_br (pt_rt) (pt_rt)) (pt_br (pt_br (pt_rt) (pt_rt)) (pt_br (pt_br (pt_rt) (pt_gd (fun g1 => pt_rt))) (pt_br (pt_br (pt_rt) (pt_br (pt_rt) (pt_rt))) (pt_br (pt_br (pt_br (pt_rt) (tk_X6_join_b56)) (tk_X6_join_b56)) (pt_br (pt_rt) (pt_gd (fun g2 => pt_rt))))))))))
theorem tk_X6_holds_b218 (k43 : Nat → Int32 → Int32 → Int32 → Sg → Option (Int32 × Sg)) (q0 : Nat) (x1 : Int32) (x3 : Int32) (x4 : Int32) (hk43 : ∀ a0 a1 a2 a3, Pt (k43 a0 a1 a2 a3)) : Pt (f_X6_holds_b218 k43 q0 x1 x3 x4) := by
  unfold f_X6_holds_b218
  exact pt_gd (fun g1 => hk43 _ _ _ _)
theorem tk_X6_holds_b115 (k43 : Nat → Int32 → Int32 → Int32 → Sg → Option (Int32 × Sg)) (q0 : Nat) (x1 : Int32) (x3 : Int32) (x4 : Int32) (xs0 : Int32) (hk43 : ∀ a0 a1 a2 a3, Pt (k43 a0 a1 a2 a3)) : Pt (f_X6_holds_b115 k43 q0 x1 x3 x4 xs0) := by
  unfold f_X6_holds_b115
  exact pt_gd (fun g1 => pt_lt (fun w1 => pt_gd (fun g2 => pt_pI (tk_ru g1).1 (tk_ru g1).2 (tk_X6_holds_b218 _ _ _ _ _ hk43))))
theorem tk_X6_holds_b90 (k43 : Nat → Int32 → Int32 → Int32 → Sg → Option (Int32 × Sg)) (q0 : Nat) (x1 : Int32) (x3 : Int32) (x4 : Int32) (x5 : Int32) (x6 : Int32) (hk43 : ∀ a0 a1 a2 a3, Pt (k43 a0 a1 a2 a3)) : Pt (f_X6_holds_b90 k43 q0 x1 x3 x4 x5 x6) := by
  unfold f_X6_holds_b90
  exact pt_gd (fun g1 => pt_br (pt_br (tk_X6_holds_b115 _ _ _ _ _ _ hk43) (pt_gd (fun g2 => pt_dI (fun v3 => tk_X6_holds_b115 _ _ _ _ _ _ hk43)))) (tk_X6_holds_b115 _ _ _ _ _ _ hk43))
theorem tk_X6_holds_b177 (k43 : Nat → Int32 → Int32 → Int32 → Sg → Option (Int32 × Sg)) (q0 : Nat) (x1 : Int32) (x3 : Int32) (x4 : Int32) (xs0 : Int32) (xs1 : Int32) (hk43 : ∀ a0 a1 a2 a3, Pt (k43 a0 a1 a2 a3)) : Pt (f_X6_holds_b177 k43 q0 x1 x3 x4 xs0 xs1) := by
  unfold f_X6_holds_b177
  exact pt_gd (fun g1 => pt_gd (fun g2 => pt_pI (tk_ru g1).1 (tk_ru g1).2 (tk_X6_holds_b218 _ _ _ _ _ hk43)))
theorem tk_X6_holds_b181 (k43 : Nat → Int32 → Int32 → Int32 → Sg → Option (Int32 × Sg)) (q0 : Nat) (x1 : Int32) (x3 : Int32) (x4 : Int32) (x5 : Int32) (hk43 : ∀ a0 a1 a2 a3, Pt (k43 a0 a1 a2 a3)) : Pt (f_X6_holds_b181 k43 q0 x1 x3 x4 x5) := by
  unfold f_X6_holds_b181
  exact pt_gd (fun g1 => pt_br (tk_X6_holds_b218 _ _ _ _ _ hk43) (pt_gd (fun g2 => pt_dI (fun v2 => pt_gd (fun g3 => pt_dI (fun v3 => pt_cl (tk_X6_join _ _ _) (fun r4 => pt_gd (fun g4 => pt_pI (tk_ru g1).1 (tk_ru g1).2 (tk_X6_holds_b218 _ _ _ _ _ hk43)))))))))
theorem tk_X6_holds_b224 (q0 : Nat) (x3 : Int32) : Pt (f_X6_holds_b224 q0 x3) := by
  unfold f_X6_holds_b224
  exact pt_gd (fun g1 => pt_br (pt_rt) (pt_gd (fun g2 => pt_dI (fun v2 => pt_br (pt_rt) (pt_rt)))))
theorem tk_X6_holds_b43 : ∀ (fu : Nat) (q0 : Nat) (x1 : Int32) (x3 : Int32) (x4 : Int32), Pt (f_X6_holds_b43 fu q0 x1 x3 x4) := by
  intro fu
  induction fu with
  | zero => intro _ _ _ _; exact pt_none
  | succ fu ih => intro q0 x1 x3 x4; rw [f_X6_holds_b43]; exact pt_gd (fun g1 => pt_gd (fun g2 => pt_dI (fun v1 => pt_br (tk_X6_holds_b224 _ _) (pt_br (tk_X6_holds_b224 _ _) (pt_gd (fun g3 => pt_dI (fun v4 => pt_br (tk_X6_holds_b90 _ _ _ _ _ _ _ ih) (pt_br (pt_br (pt_br (tk_X6_holds_b181 _ _ _ _ _ _ ih) (pt_gd (fun g4 => pt_dI (fun v9 => pt_br (tk_X6_holds_b177 _ _ _ _ _ _ _ ih) (tk_X6_holds_b177 _ _ _ _ _ _ _ ih))))) (tk_X6_holds_b181 _ _ _ _ _ _ ih)) (tk_X6_holds_b90 _ _ _ _ _ _ _ ih)))))))))
theorem tk_X6_holds_b41 (q0 : Nat) (x1 : Int32) (x3 : Int32) (xs0 : Int32) : Pt (f_X6_holds_b41 q0 x1 x3 xs0) := by
  unfold f_X6_holds_b41
  exact pt_gd (fun g1 => tk_X6_holds_b43 _ _ _ _ _)
theorem tk_X6_holds (q0 : Nat) (x1 : Int32) : Pt (f_X6_holds q0 x1) := by
  unfold f_X6_holds
  exact pt_gd (fun g1 => pt_br (pt_rt) (pt_dI (fun v2 => pt_br (pt_rt) (pt_br (pt_br (tk_X6_holds_b41 _ _ _ _) (pt_gd (fun g2 => pt_dI (fun v6 => tk_X6_holds_b41 _ _ _ _)))) (pt_rt)))))
theorem tk_X4_mayGo (q1 : Nat) (x2 : Int32) (x3 : Int32) : Pt (f_X4_mayGo q1 x2 x3) := by
  unfold f_X4_mayGo
  exact pt_gd (fun g1 => pt_dI (fun v1 => pt_br (pt_rt) (pt_dI (fun v3 => pt_pI (by decide) (by decide) (pt_dI (fun v4 => pt_pI (by decide) (by decide) (pt_pI (by decide) (by decide) (pt_dI (fun v5 => pt_pI (by decide) (by decide) (pt_pI (by decide) (by decide) (pt_cl (tk_X4_countOthers _) (fun _ => pt_dR (fun u6 => pt_gd (fun g2 => pt_dI (fun v7 => pt_cl (tk_X6_holds _ _) (fun r8 => pt_gd (fun g3 => pt_rt)))))))))))))))))
theorem tk_X4_send (q1 : Nat) (x2 : Int32) (x3 : Int32) : Pt (f_X4_send q1 x2 x3) := by
  unfold f_X4_send
  exact pt_gd (fun g1 => pt_dR (fun u1 => pt_gd (fun g2 => pt_dI (fun v2 => pt_dI (fun v3 => pt_cl (tk_X2_comesTo _ _ _ _) (fun r4 => pt_cl (tk_X1_rise _ _ _ _) (fun _ => pt_rt)))))))
theorem tk_X4_endRise_b52 (x1 : Int32) (q2 : Nat) (xs0 : Int32) : Pt (f_X4_endRise_b52 x1 q2 xs0) := by
  unfold f_X4_endRise_b52
  exact pt_gd (fun g1 => pt_dI (fun v1 => pt_lt (fun w2 => pt_pI (by decide) (by decide) (pt_pI (by decide) (by decide) (pt_dI (fun v3 => pt_pI (by decide) (by decide) (pt_cl (tk_X4_mayGo _ _ _) (fun r4 => pt_br (pt_rt) (pt_dI (fun v6 => pt_dI (fun v7 => pt_pI (by decide) (by decide) (pt_cl (tk_X4_send _ _ _) (fun _ => pt_rt)))))))))))))
theorem tk_X4_endRise (x1 : Int32) : Pt (f_X4_endRise x1) := by
  unfold f_X4_endRise
  exact pt_dI (fun v1 => pt_br (pt_cl (tk_X4_riseEnds) (fun r3 => pt_br (pt_dR (fun u5 => pt_gd (fun g1 => pt_dI (fun v6 => pt_br (tk_X4_endRise_b52 _ _ _) (pt_dI (fun v8 => pt_dR (fun u9 => pt_gd (fun g2 => pt_dI (fun v10 => pt_dI (fun v11 => pt_gd (fun g3 => tk_X4_endRise_b52 _ _ _))))))))))) (pt_rt))) (pt_rt))
theorem tk_X4_restEnds (q1 : Nat) : Pt (f_X4_restEnds q1) := by
  unfold f_X4_restEnds
  exact pt_gd (fun g1 => pt_dI (fun v1 => pt_dR (fun u2 => pt_gd (fun g2 => pt_dI (fun v3 => pt_rt)))))
theorem tk_X4_canPush (q0 : Nat) : Pt (f_X4_canPush q0) := by
  unfold f_X4_canPush
  exact pt_gd (fun g1 => pt_dI (fun v1 => pt_br (pt_dI (fun v3 => pt_br (pt_rt) (pt_rt))) (pt_rt)))
theorem tk_X4_sendOthers_b77 (k10 : Int32 → Int32 → Sg → Option (Unit × Sg)) (x1 : Int32) (x2 : Int32) (hk10 : ∀ a0 a1, Pt (k10 a0 a1)) : Pt (f_X4_sendOthers_b77 k10 x1 x2) := by
  unfold f_X4_sendOthers_b77
  exact hk10 _ _
theorem tk_X4_sendOthers_b40 (k10 : Int32 → Int32 → Sg → Option (Unit × Sg)) (x1 : Int32) (x2 : Int32) (q3 : Nat) (xs0 : Int32) (hk10 : ∀ a0 a1, Pt (k10 a0 a1)) : Pt (f_X4_sendOthers_b40 k10 x1 x2 q3 xs0) := by
  unfold f_X4_sendOthers_b40
  exact pt_gd (fun g1 => pt_cl (tk_X4_canPush _) (fun r1 => pt_br (tk_X4_sendOthers_b77 _ _ _ hk10) (pt_br (tk_X4_sendOthers_b77 _ _ _ hk10) (pt_dI (fun v4 => pt_cl (tk_X4_mayGo _ _ _) (fun r5 => pt_br (tk_X4_sendOthers_b77 _ _ _ hk10) (pt_dI (fun v7 => pt_cl (tk_X4_send _ _ _) (fun _ => tk_X4_sendOthers_b77 _ _ _ hk10)))))))))
theorem tk_X4_sendOthers_b10 : ∀ (fu : Nat) (x1 : Int32) (x2 : Int32), Pt (f_X4_sendOthers_b10 fu x1 x2) := by
  intro fu
  induction fu with
  | zero => intro _ _; exact pt_none
  | succ fu ih => intro x1 x2; rw [f_X4_sendOthers_b10]; exact pt_br (pt_rt) (pt_gd (fun g1 => pt_lt (fun u2 => pt_gd (fun g2 => pt_cl (tk_X4_restEnds _) (fun r3 => pt_br (tk_X4_sendOthers_b40 _ _ _ _ _ ih) (tk_X4_sendOthers_b40 _ _ _ _ _ ih))))))
theorem tk_X4_sendOthers (x1 : Int32) : Pt (f_X4_sendOthers x1) := by
  unfold f_X4_sendOthers
  exact pt_dI (fun v1 => pt_br (pt_rt) (tk_X4_sendOthers_b10 _ _ _))
theorem tk_X4_nextDue_b78 (k19 : Int32 → Int32 → Sg → Option (Int32 × Sg)) (x1 : Int32) (x2 : Int32) (hk19 : ∀ a0 a1, Pt (k19 a0 a1)) : Pt (f_X4_nextDue_b78 k19 x1 x2) := by
  unfold f_X4_nextDue_b78
  exact hk19 _ _
theorem tk_X4_nextDue_b19 : ∀ (fu : Nat) (x1 : Int32) (x2 : Int32), Pt (f_X4_nextDue_b19 fu x1 x2) := by
  intro fu
  induction fu with
  | zero => intro _ _; exact pt_none
  | succ fu ih => intro x1 x2; rw [f_X4_nextDue_b19]; exact pt_br (pt_rt) (pt_gd (fun g1 => pt_lt (fun u2 => pt_gd (fun g2 => pt_cl (tk_X1_isComing _) (fun r3 => pt_br (pt_dI (fun v5 => pt_br (tk_X4_nextDue_b78 _ _ _ ih) (pt_cl (tk_X4_canPush _) (fun r7 => pt_br (tk_X4_nextDue_b78 _ _ _ ih) (pt_cl (tk_X4_restEnds _) (fun r9 => pt_lt (fun w10 => tk_X4_nextDue_b78 _ _ _ ih))))))) (pt_dI (fun v11 => pt_lt (fun w12 => tk_X4_nextDue_b78 _ _ _ ih))))))))
theorem tk_X4_nextDue_b16 (xs0 : Int32) : Pt (f_X4_nextDue_b16 xs0) := by
  unfold f_X4_nextDue_b16
  exact tk_X4_nextDue_b19 _ _ _
theorem tk_X4_nextDue : Pt (f_X4_nextDue) := by
  unfold f_X4_nextDue
  exact pt_dI (fun v1 => pt_br (pt_cl (tk_X4_riseEnds) (fun r3 => tk_X4_nextDue_b16 _)) (tk_X4_nextDue_b16 _))
theorem tk_X3_add {x1 : Int32} (h : ∃ t, t ≤ 600 ∧ x1 = nI t) (x2 x3 x4 x5 : Int32) : Pt (f_X3_add x1 x2 x3 x4 x5) := by
  intro σ r p e
  obtain ⟨L, a, b, c⟩ := id p
  by_cases z : L < 600
  · rw [add_eq b z] at e
    cases e
    refine ⟨L + 1, by omega, sI_eq, fun i hi => ?_⟩
    show ∃ t, t ≤ 600 ∧ (sI (row5 29 (5 * L) x1 x2 x3 x4 x5 σ) 28 1 (nI (L + 1))).1 29 (5 * i) = nI t
    rw [sI_ne (by decide)]
    obtain ⟨t, t1, t2⟩ := h
    by_cases y : i = L
    · subst y
      refine ⟨t, t1, ?_⟩
      unfold row5
      rw [sI_nf (by omega), sI_nf (by omega), sI_nf (by omega), sI_nf (by omega), sI_eq]
      exact t2
    · obtain ⟨t', y1, y2⟩ := c i (by omega)
      refine ⟨t', y1, ?_⟩
      unfold row5
      rw [sI_nf (by omega), sI_nf (by omega), sI_nf (by omega), sI_nf (by omega), sI_nf (by omega)]
      exact y2
  · have hL : L = 600 := by omega
    subst hL
    rw [f_X3_add, ex_dI, b, ex_bf (by decide), ex_bf (by decide), ex_rt] at e
    cases e
    exact p
theorem tk_X4_land_b66 (q1 : Nat) {x2 : Int32} (h : ∃ t, t ≤ 600 ∧ x2 = nI t) (x3 x4 : Int32) : Pt (f_X4_land_b66 q1 x2 x3 x4) := by
  unfold f_X4_land_b66
  exact pt_gd (fun g1 => pt_cl (tk_X1_addKind _ _) (fun _ => pt_dI (fun v1 => pt_dI (fun v2 => pt_cl (tk_X3_add h _ _ _ _) (fun _ => pt_rt)))))
theorem tk_X4_land (q1 : Nat) {x2 : Int32} (h : ∃ t, t ≤ 600 ∧ x2 = nI t) : Pt (f_X4_land q1 x2) := by
  unfold f_X4_land
  exact pt_gd (fun g1 => pt_dI (fun v1 => pt_dI (fun v2 => pt_dR (fun u3 => pt_gd (fun g2 => pt_dI (fun v4 => pt_cl (tk_X2_isBeyond _ _) (fun r5 => pt_br (pt_cl (tk_X4_knock _ _) (fun _ => pt_pI (tk_fl0 g1).1 (tk_fl0 g1).2 (pt_pI (tk_fl0 g1).1 (tk_fl0 g1).2 (pt_cl (tk_X4_press _ _ _) (fun r7 => tk_X4_land_b66 _ h _ _))))) (pt_pI (tk_fl0 g1).1 (tk_fl0 g1).2 (pt_cl (tk_X4_hurt _ _) (fun _ => tk_X4_land_b66 _ h _ _))))))))))
theorem tk_X4_landAll_b2 {x1 : Int32} (h : ∃ t, t ≤ 600 ∧ x1 = nI t) : ∀ (fu : Nat) (x2 : Int32), Pt (f_X4_landAll_b2 fu x1 x2) := by
  intro fu
  induction fu with
  | zero => intro _; exact pt_none
  | succ fu ih =>
    intro x2
    have k : Pt (f_X4_landAll_b47 (f_X4_landAll_b2 fu) x1 x2) := ih _
    rw [f_X4_landAll_b2]
    exact pt_br (pt_rt) (pt_gd (fun g1 => pt_lt (fun u2 => pt_gd (fun g2 => pt_cl (tk_X1_isComing _) (fun r3 => pt_br k (pt_gd (fun g3 => pt_lt (fun u5 => pt_gd (fun g4 => pt_dI (fun v6 => pt_br (pt_gd (fun g5 => pt_lt (fun u8 => pt_gd (fun g6 => pt_cl (tk_X4_land _ h) (fun _ => k))))) k))))))))))
theorem tk_X4_go_b2 {T : Nat} (hT : T ≤ 600) : ∀ (fu : Nat) (t : Nat), t ≤ 600 → Pt (f_X4_go_b2 fu (nI T) (nI t)) := by
  intro fu
  induction fu with
  | zero => intro _ _; exact pt_none
  | succ fu ih =>
    intro t ht
    rw [f_X4_go_b2]
    refine pt_brf pt_rt (fun hc => ?_)
    have htT : t < T := by
      rcases Nat.lt_or_ge t T with q | q
      · exact q
      · exact absurd (nI_le q (by omega)) hc
    have k : Pt (f_X4_go_b38 (f_X4_go_b2 fu) (nI T) (nI t)) := by
      rw [f_X4_go_b38, nI_1]
      exact ih (t + 1) (by omega)
    exact pt_dI (fun v2 => pt_br k (pt_cl (f := f_X4_landAll (nI t)) (tk_X4_landAll_b2 ⟨t, ht, rfl⟩ _ _) (fun _ => pt_cl (tk_X4_endRise _) (fun _ => pt_cl (tk_X4_sendOthers _) (fun _ => pt_cl (tk_X4_nextDue) (fun r4 => pt_pI (by decide) (by decide) k))))))
theorem Jr.ticks {g n s e m N : Nat} {σ τ : Sg} {S : Nat → Sg} (J : Jr g n s e m σ τ) (h1 : f_X10_prepare σ = some ((), S 0)) (h2 : Chain 0 N S) (hN : N ≤ 600) : Lk (S N) := by
  obtain ⟨σ1, a1, a2, a3⟩ := J.prep
  rw [h1] at a1
  cases a1
  have z : Lk (S 0) := ⟨0, by omega, a2.2.2.2.1, fun i hi => absurd hi (by omega)⟩
  exact tk_X4_go_b2 hN _ 0 (by omega) _ _ z (go_to h2 (Nat.le_refl N) hN)
