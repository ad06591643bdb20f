-- ===== who is there stays there =====
def Pv {α : Type} (j : Nat) (d : Sg → Option (α × Sg)) : Prop := ∀ σ r, ¬ σ.1 (fl j) 5 = 4 → d σ = some r → ¬ r.2.1 (fl j) 5 = 4
section PvRules
variable {α β : Type} {j i k : Nat}
theorem pv_rt {v : α} : Pv j (rt v) := fun σ r h e => by cases e; exact h
theorem pv_none : Pv (α := α) j (fun _ => none) := fun σ r _ e => by cases e
theorem pv_dI {d : Int32 → Sg → Option (α × Sg)} (h : ∀ v, Pv j (d v)) : Pv j (dI i k d) := fun σ r p e => h _ σ r p e
theorem pv_dL {d : Int64 → Sg → Option (α × Sg)} (h : ∀ v, Pv j (d v)) : Pv j (dL i k d) := fun σ r p e => h _ σ r p e
theorem pv_dR {d : Nat → Sg → Option (α × Sg)} (h : ∀ v, Pv j (d v)) : Pv j (dR i k d) := fun σ r p e => h _ σ r p e
theorem pv_pI {v : Int32} {d : Sg → Option (α × Sg)} (hi : i = fl j → k = 5 → ¬ v = 4) (h : Pv j d) : Pv j (pI i k v d) := fun σ r p e => h _ r (by
  rw [sI_gt]
  by_cases z : fl j = i ∧ 5 = k
  · rw [if_pos z]; exact hi z.1.symm z.2.symm
  · rw [if_neg z]; exact p) e
theorem pv_pL {v : Int64} {d : Sg → Option (α × Sg)} (h : Pv j d) : Pv j (pL i k v d) := fun σ r p e => h (sL σ i k v) r p e
theorem pv_pR {v : Nat} {d : Sg → Option (α × Sg)} (h : Pv j d) : Pv j (pR i k v d) := fun σ r p e => h (sR σ i k v) r p e
theorem pv_gd {c : Prop} [Decidable c] {d : Sg → Option (α × Sg)} (h : c → Pv j d) : Pv j (gd c d) := fun σ r p e => by
  by_cases q : c
  · rw [gd, if_pos q] at e; exact h q σ r p e
  · rw [gd, if_neg q] at e; cases e
theorem pv_br {c : Prop} [Decidable c] {d1 d2 : Sg → Option (α × Sg)} (h1 : Pv j d1) (h2 : Pv j d2) : Pv j (br c d1 d2) := fun σ r p e => by
  by_cases q : c
  · rw [br, if_pos q] at e; exact h1 σ r p e
  · rw [br, if_neg q] at e; exact h2 σ r p e
theorem pv_lt {v : β} {d : β → Sg → Option (α × Sg)} (h : ∀ v, Pv j (d v)) : Pv j (lt v d) := h v
theorem pv_cl {f : Sg → Option (β × Sg)} {d : β → Sg → Option (α × Sg)} (hf : Pv j f) (h : ∀ v, Pv j (d v)) : Pv j (cl f d) := fun σ r p e => by
  cases q : f σ with
  | none => rw [cl, q] at e; cases e
  | some r0 => rw [cl, q] at e; exact h _ _ r (hf σ r0 p q) e
end PvRules
theorem aw_fk {q j : Nat} (h : isFl q = true) (e : q + 1 = fl j) {P : Prop} : P := by
  rcases or4 h with rfl | rfl | rfl | rfl <;> unfold fl at e <;> omega
theorem aw_ru {q j : Nat} (h : isRu q = true) (hj : j < 4) (e : q + 3 = fl j) {P : Prop} : P := by
  rcases or3 h with rfl | rfl | rfl <;> unfold fl at e <;> omega
theorem aw_X1_isComing_b15 {j : Nat} (hj : j < 4) : Pv j (f_X1_isComing_b15) := by
  unfold f_X1_isComing_b15
  exact pv_rt
theorem aw_X1_isComing {j : Nat} (hj : j < 4) (q0 : Nat) : Pv j (f_X1_isComing q0) := by
  unfold f_X1_isComing
  exact pv_gd (fun g1 => pv_dI (fun v1 => pv_br (aw_X1_isComing_b15 hj) (pv_dI (fun v3 => pv_br (aw_X1_isComing_b15 hj) (pv_rt)))))
theorem aw_X1_addKind {j : Nat} (hj : j < 4) (q0 : Nat) (x1 : Int32) : Pv j (f_X1_addKind q0 x1) := by
  unfold f_X1_addKind
  exact pv_gd (fun g1 => pv_br (pv_rt) (pv_br (pv_rt) (pv_gd (fun g2 => pv_dI (fun v3 => pv_gd (fun g3 => pv_pI (fun h1 _ => aw_fk g1 h1) (pv_rt)))))))
theorem aw_X1_flightOf {j : Nat} (hj : j < 4) (x0 : Int32) : Pv j (f_X1_flightOf x0) := by
  unfold f_X1_flightOf
  exact pv_rt
theorem aw_X1_rise {j : Nat} (hj : j < 4) (q0 : Nat) (x1 : Int32) (x2 : Int32) (x3 : Int32) : Pv j (f_X1_rise q0 x1 x2 x3) := by
  unfold f_X1_rise
  exact pv_gd (fun g1 => pv_dI (fun v1 => pv_pI (fun _ h2 => absurd h2 (by decide)) (pv_dI (fun v2 => pv_lt (fun w3 => pv_pI (fun _ h2 => absurd h2 (by decide)) (pv_dI (fun v4 => pv_pI (fun _ h2 => absurd h2 (by decide)) (pv_pI (fun _ _ => by decide) (pv_pI (fun _ h2 => absurd h2 (by decide)) (pv_pI (fun _ h2 => absurd h2 (by decide)) (pv_cl (aw_X1_flightOf hj _) (fun r5 => pv_pI (fun _ h2 => absurd h2 (by decide)) (pv_pI (fun _ h2 => absurd h2 (by decide)) (pv_rt))))))))))))))
theorem aw_X2_isBeyond_b17 {j : Nat} (hj : j < 4) : Pv j (f_X2_isBeyond_b17) := by
  unfold f_X2_isBeyond_b17
  exact pv_rt
theorem aw_X2_isBeyond {j : Nat} (hj : j < 4) (q0 : Nat) (x1 : Int32) : Pv j (f_X2_isBeyond q0 x1) := by
  unfold f_X2_isBeyond
  exact pv_gd (fun g1 => pv_dI (fun v1 => pv_br (aw_X2_isBeyond_b17 hj) (pv_dI (fun v3 => pv_br (pv_rt) (aw_X2_isBeyond_b17 hj)))))
theorem aw_X2_comesTo {j : Nat} (hj : j < 4) (q0 : Nat) (x1 : Int32) (x2 : Int32) (x3 : Int32) : Pv j (f_X2_comesTo q0 x1 x2 x3) := by
  unfold f_X2_comesTo
  exact pv_gd (fun g1 => pv_dI (fun v1 => pv_lt (fun w2 => pv_br (pv_lt (fun w4 => pv_rt)) (pv_lt (fun w5 => pv_rt)))))
theorem aw_X3_add {j : Nat} (hj : j < 4) (x1 : Int32) (x2 : Int32) (x3 : Int32) (x4 : Int32) (x5 : Int32) : Pv j (f_X3_add x1 x2 x3 x4 x5) := by
  unfold f_X3_add
  exact pv_dI (fun v1 => pv_br (pv_rt) (pv_br (pv_gd (fun g1 => pv_pI (fun h1 _ => by unfold fl at h1; omega) (pv_gd (fun g2 => pv_pI (fun h1 _ => by unfold fl at h1; omega) (pv_gd (fun g3 => pv_pI (fun h1 _ => by unfold fl at h1; omega) (pv_gd (fun g4 => pv_pI (fun h1 _ => by unfold fl at h1; omega) (pv_gd (fun g5 => pv_pI (fun h1 _ => by unfold fl at h1; omega) (pv_dI (fun v4 => pv_pI (fun h1 _ => by unfold fl at h1; omega) (pv_rt))))))))))))) (pv_rt)))
theorem aw_X4_hurt_b23 {j : Nat} (hj : j < 4) (q1 : Nat) (x2 : Int32) : Pv j (f_X4_hurt_b23 q1 x2) := by
  unfold f_X4_hurt_b23
  exact pv_gd (fun g1 => pv_dI (fun v1 => pv_br (pv_dI (fun v3 => pv_dI (fun v4 => pv_pI (fun h1 _ => by unfold fl at h1; omega) (pv_rt)))) (pv_rt)))
theorem aw_X4_hurt {j : Nat} (hj : j < 4) (q1 : Nat) (x2 : Int32) : Pv j (f_X4_hurt q1 x2) := by
  unfold f_X4_hurt
  exact pv_gd (fun g1 => pv_dI (fun v1 => pv_pI (fun _ h2 => absurd h2 (by decide)) (pv_dI (fun v2 => pv_br (pv_pI (fun h1 _ => by unfold fl at h1; omega) (aw_X4_hurt_b23 hj _ _)) (aw_X4_hurt_b23 hj _ _)))))
theorem aw_X4_knock_b71 {j : Nat} (hj : j < 4) (k5 : Nat → Int32 → Int32 → Int32 → Sg → Option (Unit × Sg)) (q1 : Nat) (x2 : Int32) (x3 : Int32) (x4 : Int32) (hk5 : ∀ a0 a1 a2 a3, Pv j (k5 a0 a1 a2 a3)) : Pv j (f_X4_knock_b71 k5 q1 x2 x3 x4) := by
  unfold f_X4_knock_b71
  exact pv_gd (fun g1 => hk5 _ _ _ _)
theorem aw_X4_knock_b77 {j : Nat} (hj : j < 4) (q1 : Nat) (x2 : Int32) (x3 : Int32) : Pv j (f_X4_knock_b77 q1 x2 x3) := by
  unfold f_X4_knock_b77
  exact pv_gd (fun g1 => pv_br (pv_rt) (pv_cl (aw_X1_addKind hj _ _) (fun _ => pv_cl (aw_X4_hurt hj _ _) (fun _ => pv_rt))))
theorem aw_X4_knock_b5 {j : Nat} (hj : j < 4) : ∀ (fu : Nat) (q1 : Nat) (x2 : Int32) (x3 : Int32) (x4 : Int32), Pv j (f_X4_knock_b5 fu q1 x2 x3 x4) := by
  intro fu
  induction fu with
  | zero => intro _ _ _ _; exact pv_none
  | succ fu ih => intro q1 x2 x3 x4; rw [f_X4_knock_b5]; exact pv_gd (fun g1 => pv_br (aw_X4_knock_b77 hj _ _ _) (pv_gd (fun g2 => pv_lt (fun u2 => pv_gd (fun g3 => pv_dI (fun v3 => pv_br (pv_dI (fun v5 => pv_dI (fun v6 => pv_lt (fun w7 => pv_dR (fun u8 => pv_gd (fun g4 => pv_dI (fun v9 => pv_br (aw_X4_knock_b71 hj _ _ _ _ _ ih) (pv_cl (aw_X1_addKind hj _ _) (fun _ => pv_cl (aw_X4_hurt hj _ _) (fun _ => aw_X4_knock_b71 hj _ _ _ _ _ ih)))))))))) (aw_X4_knock_b71 hj _ _ _ _ _ ih)))))))
theorem aw_X4_knock {j : Nat} (hj : j < 4) (q1 : Nat) (x2 : Int32) : Pv j (f_X4_knock q1 x2) := by
  unfold f_X4_knock
  exact pv_gd (fun g1 => aw_X4_knock_b5 hj _ _ _ _ _)
theorem aw_X4_press_b79 {j : Nat} (hj : j < 4) (q1 : Nat) (x2 : Int32) (x4 : Int32) : Pv j (f_X4_press_b79 q1 x2 x4) := by
  unfold f_X4_press_b79
  exact pv_gd (fun g1 => pv_pR (pv_dI (fun v1 => pv_pI (fun h1 _ => by unfold fl at h1; omega) (pv_dI (fun v2 => pv_pI (fun h1 _ => by unfold fl at h1; omega) (pv_rt))))))
theorem aw_X4_press_b45 {j : Nat} (hj : j < 4) (q1 : Nat) (x2 : Int32) (x3 : Int32) : Pv j (f_X4_press_b45 q1 x2 x3) := by
  unfold f_X4_press_b45
  exact pv_gd (fun g1 => pv_dI (fun v1 => pv_br (pv_dR (fun u3 => pv_gd (fun g2 => pv_cl (aw_X1_addKind hj _ _) (fun _ => aw_X4_press_b79 hj _ _ _)))) (pv_pI (fun h1 _ => by unfold fl at h1; omega) (pv_pI (fun h1 _ => by unfold fl at h1; omega) (aw_X4_press_b79 hj _ _ _)))))
theorem aw_X4_press {j : Nat} (hj : j < 4) (q1 : Nat) (x2 : Int32) (x3 : Int32) : Pv j (f_X4_press q1 x2 x3) := by
  unfold f_X4_press
  exact pv_gd (fun g1 => pv_dI (fun v1 => pv_br (pv_dI (fun v3 => pv_dR (fun u4 => pv_gd (fun g2 => pv_dI (fun v5 => pv_br (aw_X4_press_b45 hj _ _ _) (pv_dI (fun v7 => pv_pI (fun _ h2 => absurd h2 (by decide)) (pv_dI (fun v8 => pv_pI (fun h1 _ => by unfold fl at h1; omega) (pv_rt)))))))))) (aw_X4_press_b45 hj _ _ _)))
theorem aw_X4_land_b66 {j : Nat} (hj : j < 4) (q1 : Nat) (x2 : Int32) (x3 : Int32) (x4 : Int32) : Pv j (f_X4_land_b66 q1 x2 x3 x4) := by
  unfold f_X4_land_b66
  exact pv_gd (fun g1 => pv_cl (aw_X1_addKind hj _ _) (fun _ => pv_dI (fun v1 => pv_dI (fun v2 => pv_cl (aw_X3_add hj _ _ _ _ _) (fun _ => pv_rt)))))
theorem aw_X4_land {j : Nat} (hj : j < 4) (q1 : Nat) (x2 : Int32) : Pv j (f_X4_land q1 x2) := by
  unfold f_X4_land
  exact pv_gd (fun g1 => pv_dI (fun v1 => pv_dI (fun v2 => pv_dR (fun u3 => pv_gd (fun g2 => pv_dI (fun v4 => pv_cl (aw_X2_isBeyond hj _ _) (fun r5 => pv_br (pv_cl (aw_X4_knock hj _ _) (fun _ => pv_pI (fun _ _ => by decide) (pv_pI (fun _ h2 => absurd h2 (by decide)) (pv_cl (aw_X4_press hj _ _ _) (fun r7 => aw_X4_land_b66 hj _ _ _ _))))) (pv_pI (fun _ _ => by decide) (pv_cl (aw_X4_hurt hj _ _) (fun _ => aw_X4_land_b66 hj _ _ _ _))))))))))
theorem aw_X4_landAll_b47 {j : Nat} (hj : j < 4) (k2 : Int32 → Int32 → Sg → Option (Unit × Sg)) (x1 : Int32) (x2 : Int32) (hk2 : ∀ a0 a1, Pv j (k2 a0 a1)) : Pv j (f_X4_landAll_b47 k2 x1 x2) := by
  unfold f_X4_landAll_b47
  exact hk2 _ _
theorem aw_X4_landAll_b2 {j : Nat} (hj : j < 4) : ∀ (fu : Nat) (x1 : Int32) (x2 : Int32), Pv j (f_X4_landAll_b2 fu x1 x2) := by
  intro fu
  induction fu with
  | zero => intro _ _; exact pv_none
  | succ fu ih => intro x1 x2; rw [f_X4_landAll_b2]; exact pv_br (pv_rt) (pv_gd (fun g1 => pv_lt (fun u2 => pv_gd (fun g2 => pv_cl (aw_X1_isComing hj _) (fun r3 => pv_br (aw_X4_landAll_b47 hj _ _ _ ih) (pv_gd (fun g3 => pv_lt (fun u5 => pv_gd (fun g4 => pv_dI (fun v6 => pv_br (pv_gd (fun g5 => pv_lt (fun u8 => pv_gd (fun g6 => pv_cl (aw_X4_land hj _ _) (fun _ => aw_X4_landAll_b47 hj _ _ _ ih))))) (aw_X4_landAll_b47 hj _ _ _ ih)))))))))))
theorem aw_X4_landAll {j : Nat} (hj : j < 4) (x1 : Int32) : Pv j (f_X4_landAll x1) := by
  unfold f_X4_landAll
  exact aw_X4_landAll_b2 hj _ _ _
theorem aw_X4_riseEnds {j : Nat} (hj : j < 4) : Pv j (f_X4_riseEnds) := by
  unfold f_X4_riseEnds
  exact pv_dI (fun v1 => pv_dR (fun u2 => pv_gd (fun g1 => pv_dI (fun v3 => pv_rt))))
theorem aw_X4_countOthers_b90 {j : Nat} (hj : j < 4) (k10 : Nat → Int32 → Int32 → Int32 → Int32 → Sg → Option (Unit × Sg)) (q1 : Nat) (x2 : Int32) (x3 : Int32) (x4 : Int32) (x5 : Int32) (hk10 : ∀ a0 a1 a2 a3 a4, Pv j (k10 a0 a1 a2 a3 a4)) : Pv j (f_X4_countOthers_b90 k10 q1 x2 x3 x4 x5) := by
  unfold f_X4_countOthers_b90
  exact pv_gd (fun g1 => hk10 _ _ _ _ _)
theorem aw_X4_countOthers_b87 {j : Nat} (hj : j < 4) (k10 : Nat → Int32 → Int32 → Int32 → Int32 → Sg → Option (Unit × Sg)) (q1 : Nat) (x2 : Int32) (x3 : Int32) (x5 : Int32) (xs0 : Int32) (xs1 : Int32) (hk10 : ∀ a0 a1 a2 a3 a4, Pv j (k10 a0 a1 a2 a3 a4)) : Pv j (f_X4_countOthers_b87 k10 q1 x2 x3 x5 xs0 xs1) := by
  unfold f_X4_countOthers_b87
  exact pv_gd (fun g1 => aw_X4_countOthers_b90 hj _ _ _ _ _ _ hk10)
theorem aw_X4_countOthers_b96 {j : Nat} (hj : j < 4) (x2 : Int32) (x3 : Int32) (x4 : Int32) : Pv j (f_X4_countOthers_b96 x2 x3 x4) := by
  unfold f_X4_countOthers_b96
  exact pv_pI (fun h1 _ => by unfold fl at h1; omega) (pv_pI (fun h1 _ => by unfold fl at h1; omega) (pv_pI (fun h1 _ => by unfold fl at h1; omega) (pv_rt)))
theorem aw_X4_countOthers_b10 {j : Nat} (hj : j < 4) : ∀ (fu : Nat) (q1 : Nat) (x2 : Int32) (x3 : Int32) (x4 : Int32) (x5 : Int32), Pv j (f_X4_countOthers_b10 fu q1 x2 x3 x4 x5) := by
  intro fu
  induction fu with
  | zero => intro _ _ _ _ _; exact pv_none
  | succ fu ih => intro q1 x2 x3 x4 x5; rw [f_X4_countOthers_b10]; exact pv_gd (fun g1 => pv_br (aw_X4_countOthers_b96 hj _ _ _) (pv_gd (fun g2 => pv_lt (fun u2 => pv_gd (fun g3 => pv_dI (fun v3 => pv_br (aw_X4_countOthers_b90 hj _ _ _ _ _ _ ih) (pv_dI (fun v5 => pv_br (aw_X4_countOthers_b90 hj _ _ _ _ _ _ ih) (pv_dI (fun v7 => pv_br (pv_dI (fun v9 => pv_dI (fun v10 => pv_br (aw_X4_countOthers_b87 hj _ _ _ _ _ _ _ ih) (aw_X4_countOthers_b87 hj _ _ _ _ _ _ _ ih)))) (aw_X4_countOthers_b90 hj _ _ _ _ _ _ ih)))))))))))
theorem aw_X4_countOthers {j : Nat} (hj : j < 4) (q1 : Nat) : Pv j (f_X4_countOthers q1) := by
  unfold f_X4_countOthers
  exact pv_gd (fun g1 => aw_X4_countOthers_b10 hj _ _ _ _ _ _)
theorem aw_X6_join_b56 {j : Nat} (hj : j < 4) : Pv j (f_X6_join_b56) := by
  unfold f_X6_join_b56
  exact pv_rt
theorem aw_X6_join {j : Nat} (hj : j < 4) (x0 : Int32) (x1 : Int32) (x2 : Int32) : Pv j (f_X6_join x0 x1 x2) := by
  unfold f_X6_join
  exact pv_br (pv_rt) (pv_br (pv_rt) (pv_br (pv_rt) (pv_br (pv_br (pv_rt) (pv_rt)) (pv_br (pv_br (pv_rt) (pv_rt)) (pv_br (pv_br (pv_rt) (pv_gd (fun g1 => pv_rt))) (pv_br (pv_br (pv_rt) (pv_br (pv_rt) (pv_rt))) (pv_br (pv_br (pv_br (pv_rt) (aw_X6_join_b56 hj)) (aw_X6_join_b56 hj)) (pv_br (pv_rt) (pv_gd (fun g2 => pv_rt))))))))))
theorem aw_X6_holds_b218 {j : Nat} (hj : j < 4) (k43 : Nat → Int32 → Int32 → Int32 → Sg → Option (Int32 × Sg)) (q0 : Nat) (x1 : Int32) (x3 : Int32) (x4 : Int32) (hk43 : ∀ a0 a1 a2 a3, Pv j (k43 a0 a1 a2 a3)) : Pv j (f_X6_holds_b218 k43 q0 x1 x3 x4) := by
  unfold f_X6_holds_b218
  exact pv_gd (fun g1 => hk43 _ _ _ _)
theorem aw_X6_holds_b115 {j : Nat} (hj : j < 4) (k43 : Nat → Int32 → Int32 → Int32 → Sg → Option (Int32 × Sg)) (q0 : Nat) (x1 : Int32) (x3 : Int32) (x4 : Int32) (xs0 : Int32) (hk43 : ∀ a0 a1 a2 a3, Pv j (k43 a0 a1 a2 a3)) : Pv j (f_X6_holds_b115 k43 q0 x1 x3 x4 xs0) := by
  unfold f_X6_holds_b115
  exact pv_gd (fun g1 => pv_lt (fun w1 => pv_gd (fun g2 => pv_pI (fun h1 _ => aw_ru g1 hj h1) (aw_X6_holds_b218 hj _ _ _ _ _ hk43))))
theorem aw_X6_holds_b90 {j : Nat} (hj : j < 4) (k43 : Nat → Int32 → Int32 → Int32 → Sg → Option (Int32 × Sg)) (q0 : Nat) (x1 : Int32) (x3 : Int32) (x4 : Int32) (x5 : Int32) (x6 : Int32) (hk43 : ∀ a0 a1 a2 a3, Pv j (k43 a0 a1 a2 a3)) : Pv j (f_X6_holds_b90 k43 q0 x1 x3 x4 x5 x6) := by
  unfold f_X6_holds_b90
  exact pv_gd (fun g1 => pv_br (pv_br (aw_X6_holds_b115 hj _ _ _ _ _ _ hk43) (pv_gd (fun g2 => pv_dI (fun v3 => aw_X6_holds_b115 hj _ _ _ _ _ _ hk43)))) (aw_X6_holds_b115 hj _ _ _ _ _ _ hk43))
theorem aw_X6_holds_b177 {j : Nat} (hj : j < 4) (k43 : Nat → Int32 → Int32 → Int32 → Sg → Option (Int32 × Sg)) (q0 : Nat) (x1 : Int32) (x3 : Int32) (x4 : Int32) (xs0 : Int32) (xs1 : Int32) (hk43 : ∀ a0 a1 a2 a3, Pv j (k43 a0 a1 a2 a3)) : Pv j (f_X6_holds_b177 k43 q0 x1 x3 x4 xs0 xs1) := by
  unfold f_X6_holds_b177
  exact pv_gd (fun g1 => pv_gd (fun g2 => pv_pI (fun h1 _ => aw_ru g1 hj h1) (aw_X6_holds_b218 hj _ _ _ _ _ hk43)))
theorem aw_X6_holds_b181 {j : Nat} (hj : j < 4) (k43 : Nat → Int32 → Int32 → Int32 → Sg → Option (Int32 × Sg)) (q0 : Nat) (x1 : Int32) (x3 : Int32) (x4 : Int32) (x5 : Int32) (hk43 : ∀ a0 a1 a2 a3, Pv j (k43 a0 a1 a2 a3)) : Pv j (f_X6_holds_b181 k43 q0 x1 x3 x4 x5) := by
  unfold f_X6_holds_b181
  exact pv_gd (fun g1 => pv_br (aw_X6_holds_b218 hj _ _ _ _ _ hk43) (pv_gd (fun g2 => pv_dI (fun v2 => pv_gd (fun g3 => pv_dI (fun v3 => pv_cl (aw_X6_join hj _ _ _) (fun r4 => pv_gd (fun g4 => pv_pI (fun h1 _ => aw_ru g1 hj h1) (aw_X6_holds_b218 hj _ _ _ _ _ hk43)))))))))
theorem aw_X6_holds_b224 {j : Nat} (hj : j < 4) (q0 : Nat) (x3 : Int32) : Pv j (f_X6_holds_b224 q0 x3) := by
  unfold f_X6_holds_b224
  exact pv_gd (fun g1 => pv_br (pv_rt) (pv_gd (fun g2 => pv_dI (fun v2 => pv_br (pv_rt) (pv_rt)))))
theorem aw_X6_holds_b43 {j : Nat} (hj : j < 4) : ∀ (fu : Nat) (q0 : Nat) (x1 : Int32) (x3 : Int32) (x4 : Int32), Pv j (f_X6_holds_b43 fu q0 x1 x3 x4) := by
  intro fu
  induction fu with
  | zero => intro _ _ _ _; exact pv_none
  | succ fu ih => intro q0 x1 x3 x4; rw [f_X6_holds_b43]; exact pv_gd (fun g1 => pv_gd (fun g2 => pv_dI (fun v1 => pv_br (aw_X6_holds_b224 hj _ _) (pv_br (aw_X6_holds_b224 hj _ _) (pv_gd (fun g3 => pv_dI (fun v4 => pv_br (aw_X6_holds_b90 hj _ _ _ _ _ _ _ ih) (pv_br (pv_br (pv_br (aw_X6_holds_b181 hj _ _ _ _ _ _ ih) (pv_gd (fun g4 => pv_dI (fun v9 => pv_br (aw_X6_holds_b177 hj _ _ _ _ _ _ _ ih) (aw_X6_holds_b177 hj _ _ _ _ _ _ _ ih))))) (aw_X6_holds_b181 hj _ _ _ _ _ _ ih)) (aw_X6_holds_b90 hj _ _ _ _ _ _ _ ih)))))))))
theorem aw_X6_holds_b41 {j : Nat} (hj : j < 4) (q0 : Nat) (x1 : Int32) (x3 : Int32) (xs0 : Int32) : Pv j (f_X6_holds_b41 q0 x1 x3 xs0) := by
  unfold f_X6_holds_b41
  exact pv_gd (fun g1 => aw_X6_holds_b43 hj _ _ _ _ _)
theorem aw_X6_holds {j : Nat} (hj : j < 4) (q0 : Nat) (x1 : Int32) : Pv j (f_X6_holds q0 x1) := by
  unfold f_X6_holds
  exact pv_gd (fun g1 => pv_br (pv_rt) (pv_dI (fun v2 => pv_br (pv_rt) (pv_br (pv_br (aw_X6_holds_b41 hj _ _ _ _) (pv_gd (fun g2 => pv_dI (fun v6 => aw_X6_holds_b41 hj _ _ _ _)))) (pv_rt)))))
theorem aw_X4_mayGo {j : Nat} (hj : j < 4) (q1 : Nat) (x2 : Int32) (x3 : Int32) : Pv j (f_X4_mayGo q1 x2 x3) := by
  unfold f_X4_mayGo
  exact pv_gd (fun g1 => pv_dI (fun v1 => pv_br (pv_rt) (pv_dI (fun v3 => pv_pI (fun h1 _ => by unfold fl at h1; omega) (pv_dI (fun v4 => pv_pI (fun h1 _ => by unfold fl at h1; omega) (pv_pI (fun h1 _ => by unfold fl at h1; omega) (pv_dI (fun v5 => pv_pI (fun h1 _ => by unfold fl at h1; omega) (pv_pI (fun h1 _ => by unfold fl at h1; omega) (pv_cl (aw_X4_countOthers hj _) (fun _ => pv_dR (fun u6 => pv_gd (fun g2 => pv_dI (fun v7 => pv_cl (aw_X6_holds hj _ _) (fun r8 => pv_gd (fun g3 => pv_rt)))))))))))))))))
theorem aw_X4_send {j : Nat} (hj : j < 4) (q1 : Nat) (x2 : Int32) (x3 : Int32) : Pv j (f_X4_send q1 x2 x3) := by
  unfold f_X4_send
  exact pv_gd (fun g1 => pv_dR (fun u1 => pv_gd (fun g2 => pv_dI (fun v2 => pv_dI (fun v3 => pv_cl (aw_X2_comesTo hj _ _ _ _) (fun r4 => pv_cl (aw_X1_rise hj _ _ _ _) (fun _ => pv_rt)))))))
theorem aw_X4_endRise_b52 {j : Nat} (hj : j < 4) (x1 : Int32) (q2 : Nat) (xs0 : Int32) : Pv j (f_X4_endRise_b52 x1 q2 xs0) := by
  unfold f_X4_endRise_b52
  exact pv_gd (fun g1 => pv_dI (fun v1 => pv_lt (fun w2 => pv_pI (fun h1 _ => by unfold fl at h1; omega) (pv_pI (fun h1 _ => by unfold fl at h1; omega) (pv_dI (fun v3 => pv_pI (fun h1 _ => by unfold fl at h1; omega) (pv_cl (aw_X4_mayGo hj _ _ _) (fun r4 => pv_br (pv_rt) (pv_dI (fun v6 => pv_dI (fun v7 => pv_pI (fun h1 _ => by unfold fl at h1; omega) (pv_cl (aw_X4_send hj _ _ _) (fun _ => pv_rt)))))))))))))
theorem aw_X4_endRise {j : Nat} (hj : j < 4) (x1 : Int32) : Pv j (f_X4_endRise x1) := by
  unfold f_X4_endRise
  exact pv_dI (fun v1 => pv_br (pv_cl (aw_X4_riseEnds hj) (fun r3 => pv_br (pv_dR (fun u5 => pv_gd (fun g1 => pv_dI (fun v6 => pv_br (aw_X4_endRise_b52 hj _ _ _) (pv_dI (fun v8 => pv_dR (fun u9 => pv_gd (fun g2 => pv_dI (fun v10 => pv_dI (fun v11 => pv_gd (fun g3 => aw_X4_endRise_b52 hj _ _ _))))))))))) (pv_rt))) (pv_rt))
theorem aw_X4_restEnds {j : Nat} (hj : j < 4) (q1 : Nat) : Pv j (f_X4_restEnds q1) := by
  unfold f_X4_restEnds
  exact pv_gd (fun g1 => pv_dI (fun v1 => pv_dR (fun u2 => pv_gd (fun g2 => pv_dI (fun v3 => pv_rt)))))
theorem aw_X4_canPush {j : Nat} (hj : j < 4) (q0 : Nat) : Pv j (f_X4_canPush q0) := by
  unfold f_X4_canPush
  exact pv_gd (fun g1 => pv_dI (fun v1 => pv_br (pv_dI (fun v3 => pv_br (pv_rt) (pv_rt))) (pv_rt)))
theorem aw_X4_sendOthers_b77 {j : Nat} (hj : j < 4) (k10 : Int32 → Int32 → Sg → Option (Unit × Sg)) (x1 : Int32) (x2 : Int32) (hk10 : ∀ a0 a1, Pv j (k10 a0 a1)) : Pv j (f_X4_sendOthers_b77 k10 x1 x2) := by
  unfold f_X4_sendOthers_b77
  exact hk10 _ _
theorem aw_X4_sendOthers_b40 {j : Nat} (hj : j < 4) (k10 : Int32 → Int32 → Sg → Option (Unit × Sg)) (x1 : Int32) (x2 : Int32) (q3 : Nat) (xs0 : Int32) (hk10 : ∀ a0 a1, Pv j (k10 a0 a1)) : Pv j (f_X4_sendOthers_b40 k10 x1 x2 q3 xs0) := by
  unfold f_X4_sendOthers_b40
  exact pv_gd (fun g1 => pv_cl (aw_X4_canPush hj _) (fun r1 => pv_br (aw_X4_sendOthers_b77 hj _ _ _ hk10) (pv_br (aw_X4_sendOthers_b77 hj _ _ _ hk10) (pv_dI (fun v4 => pv_cl (aw_X4_mayGo hj _ _ _) (fun r5 => pv_br (aw_X4_sendOthers_b77 hj _ _ _ hk10) (pv_dI (fun v7 => pv_cl (aw_X4_send hj _ _ _) (fun _ => aw_X4_sendOthers_b77 hj _ _ _ hk10)))))))))
theorem aw_X4_sendOthers_b10 {j : Nat} (hj : j < 4) : ∀ (fu : Nat) (x1 : Int32) (x2 : Int32), Pv j (f_X4_sendOthers_b10 fu x1 x2) := by
  intro fu
  induction fu with
  | zero => intro _ _; exact pv_none
  | succ fu ih => intro x1 x2; rw [f_X4_sendOthers_b10]; exact pv_br (pv_rt) (pv_gd (fun g1 => pv_lt (fun u2 => pv_gd (fun g2 => pv_cl (aw_X4_restEnds hj _) (fun r3 => pv_br (aw_X4_sendOthers_b40 hj _ _ _ _ _ ih) (aw_X4_sendOthers_b40 hj _ _ _ _ _ ih))))))
theorem aw_X4_sendOthers {j : Nat} (hj : j < 4) (x1 : Int32) : Pv j (f_X4_sendOthers x1) := by
  unfold f_X4_sendOthers
  exact pv_dI (fun v1 => pv_br (pv_rt) (aw_X4_sendOthers_b10 hj _ _ _))
theorem aw_X4_nextDue_b78 {j : Nat} (hj : j < 4) (k19 : Int32 → Int32 → Sg → Option (Int32 × Sg)) (x1 : Int32) (x2 : Int32) (hk19 : ∀ a0 a1, Pv j (k19 a0 a1)) : Pv j (f_X4_nextDue_b78 k19 x1 x2) := by
  unfold f_X4_nextDue_b78
  exact hk19 _ _
theorem aw_X4_nextDue_b19 {j : Nat} (hj : j < 4) : ∀ (fu : Nat) (x1 : Int32) (x2 : Int32), Pv j (f_X4_nextDue_b19 fu x1 x2) := by
  intro fu
  induction fu with
  | zero => intro _ _; exact pv_none
  | succ fu ih => intro x1 x2; rw [f_X4_nextDue_b19]; exact pv_br (pv_rt) (pv_gd (fun g1 => pv_lt (fun u2 => pv_gd (fun g2 => pv_cl (aw_X1_isComing hj _) (fun r3 => pv_br (pv_dI (fun v5 => pv_br (aw_X4_nextDue_b78 hj _ _ _ ih) (pv_cl (aw_X4_canPush hj _) (fun r7 => pv_br (aw_X4_nextDue_b78 hj _ _ _ ih) (pv_cl (aw_X4_restEnds hj _) (fun r9 => pv_lt (fun w10 => aw_X4_nextDue_b78 hj _ _ _ ih))))))) (pv_dI (fun v11 => pv_lt (fun w12 => aw_X4_nextDue_b78 hj _ _ _ ih))))))))
theorem aw_X4_nextDue_b16 {j : Nat} (hj : j < 4) (xs0 : Int32) : Pv j (f_X4_nextDue_b16 xs0) := by
  unfold f_X4_nextDue_b16
  exact aw_X4_nextDue_b19 hj _ _ _
theorem aw_X4_nextDue {j : Nat} (hj : j < 4) : Pv j (f_X4_nextDue) := by
  unfold f_X4_nextDue
  exact pv_dI (fun v1 => pv_br (pv_cl (aw_X4_riseEnds hj) (fun r3 => aw_X4_nextDue_b16 hj _)) (aw_X4_nextDue_b16 hj _))
theorem aw_X4_go_b38 {j : Nat} (hj : j < 4) (k2 : Int32 → Int32 → Sg → Option (Unit × Sg)) (x2 : Int32) (x3 : Int32) (hk2 : ∀ a0 a1, Pv j (k2 a0 a1)) : Pv j (f_X4_go_b38 k2 x2 x3) := by
  unfold f_X4_go_b38
  exact hk2 _ _
theorem aw_X4_go_b2 {j : Nat} (hj : j < 4) : ∀ (fu : Nat) (x2 : Int32) (x3 : Int32), Pv j (f_X4_go_b2 fu x2 x3) := by
  intro fu
  induction fu with
  | zero => intro _ _; exact pv_none
  | succ fu ih => intro x2 x3; rw [f_X4_go_b2]; exact pv_br (pv_rt) (pv_dI (fun v2 => pv_br (aw_X4_go_b38 hj _ _ _ ih) (pv_cl (aw_X4_landAll hj _) (fun _ => pv_cl (aw_X4_endRise hj _) (fun _ => pv_cl (aw_X4_sendOthers hj _) (fun _ => pv_cl (aw_X4_nextDue hj) (fun r4 => pv_pI (fun h1 _ => by unfold fl at h1; omega) (aw_X4_go_b38 hj _ _ _ ih))))))))
theorem aw_X4_go {j : Nat} (hj : j < 4) (x1 : Int32) (x2 : Int32) : Pv j (f_X4_go x1 x2) := by
  unfold f_X4_go
  exact aw_X4_go_b2 hj _ _ _
