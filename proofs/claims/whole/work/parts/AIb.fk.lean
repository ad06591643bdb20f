-- ===== a fault stays; without one its place stays =====
def FK {α : Type} (d : Sg → Option (α × Sg)) : Prop := ∀ σ r, d σ = some r → r.2.1 56 16 = 0 → σ.1 56 16 = 0 ∧ r.2.1 56 17 = σ.1 56 17
section FkRules
variable {α β : Type} {i k : Nat}
theorem fk_rt {v : α} : FK (rt v) := fun σ r h e => by cases h; exact ⟨e, rfl⟩
theorem fk_none : FK (α := α) (fun _ => none) := fun σ r h => by cases h
theorem fk_dI {d : Int32 → Sg → Option (α × Sg)} (h : ∀ v, FK (d v)) : FK (dI i k d) := fun σ r e => h _ σ r e
theorem fk_dL {d : Int64 → Sg → Option (α × Sg)} (h : ∀ v, FK (d v)) : FK (dL i k d) := fun σ r e => h _ σ r e
theorem fk_dR {d : Nat → Sg → Option (α × Sg)} (h : ∀ v, FK (d v)) : FK (dR i k d) := fun σ r e => h _ σ r e
theorem fk_pI {v : Int32} {d : Sg → Option (α × Sg)} (hi : ¬ (i = 56 ∧ (k = 16 ∨ k = 17))) (h : FK d) : FK (pI i k v d) := fun σ r e z => by
  have := h (sI σ i k v) r e z
  rw [sI_gt, if_neg (by omega), sI_gt, if_neg (by omega)] at this
  exact this
theorem fk_pL {v : Int64} {d : Sg → Option (α × Sg)} (h : FK d) : FK (pL i k v d) := fun σ r e z => h (sL σ i k v) r e z
theorem fk_pR {v : Nat} {d : Sg → Option (α × Sg)} (h : FK d) : FK (pR i k v d) := fun σ r e z => h (sR σ i k v) r e z
theorem fk_gd {c : Prop} [Decidable c] {d : Sg → Option (α × Sg)} (h : c → FK d) : FK (gd c d) := fun σ r e => by
  by_cases z : c
  · rw [gd, if_pos z] at e; exact h z σ r e
  · rw [gd, if_neg z] at e; cases e
theorem fk_br {c : Prop} [Decidable c] {d1 d2 : Sg → Option (α × Sg)} (h1 : FK d1) (h2 : FK d2) : FK (br c d1 d2) := fun σ r e => by
  by_cases z : c
  · rw [br, if_pos z] at e; exact h1 σ r e
  · rw [br, if_neg z] at e; exact h2 σ r e
theorem fk_lt {v : β} {d : β → Sg → Option (α × Sg)} (h : ∀ v, FK (d v)) : FK (lt v d) := h v
theorem fk_cl {f : Sg → Option (β × Sg)} {d : β → Sg → Option (α × Sg)} (hf : FK f) (h : ∀ v, FK (d v)) : FK (cl f d) := fun σ r e z => by
  cases q : f σ with
  | none => rw [cl, q] at e; cases e
  | some r0 =>
    rw [cl, q] at e
    have a := h _ _ r e z
    have b := hf σ r0 q a.1
    exact ⟨b.1, a.2.trans b.2⟩
theorem fk_none_ {d : Sg → Option (α × Sg)} (h : Fr gs_none d) : FK d := fun σ r e z => ⟨((h σ r e 56 16 rfl).1).symm.trans z, (h σ r e 56 17 rfl).1⟩
theorem fk_mtok_ {d : Sg → Option (α × Sg)} (h : Fr gs_mtok d) : FK d := fun σ r e z => ⟨((h σ r e 56 16 rfl).1).symm.trans z, (h σ r e 56 17 rfl).1⟩
end FkRules
theorem fk_X11_wrong (x1 : Int32) (nx1 : ¬ x1 = 0) : FK (f_X11_wrong x1) := fun σ r e z => by
  by_cases h : σ.1 56 16 = 0
  · rw [wrong1 h] at e
    cases e
    rw [sI_nf (by omega), sI_eq] at z
    exact absurd z nx1
  · rw [wrong0 h] at e
    cases e
    exact absurd z h
theorem fk_X11_need (x1 : Int32) : FK (f_X11_need x1) := by
  unfold f_X11_need
  exact fk_cl (fk_none_ (fr_X11_isGood)) (fun r1 => fk_br (fk_rt) (fk_br (fk_cl (fk_X11_wrong _ (by decide)) (fun _ => fk_rt)) (fk_cl (fk_mtok_ (fr_X11_goes)) (fun _ => fk_rt))))
theorem fk_X11_number_b54 : FK (f_X11_number_b54) := by
  unfold f_X11_number_b54
  exact fk_dI (fun v1 => fk_cl (fk_none_ (fr_X11_isGood)) (fun r2 => fk_br (fk_rt) (fk_cl (fk_mtok_ (fr_X11_goes)) (fun _ => fk_rt))))
theorem fk_X11_number_b49 : FK (f_X11_number_b49) := by
  unfold f_X11_number_b49
  exact fk_cl (fk_X11_wrong _ (by decide)) (fun _ => fk_X11_number_b54)
theorem fk_X11_number (x1 : Int32) (x2 : Int32) : FK (f_X11_number x1 x2) := by
  unfold f_X11_number
  exact fk_cl (fk_none_ (fr_X11_isGood)) (fun r1 => fk_br (fk_rt) (fk_dI (fun v3 => fk_br (fk_dI (fun v5 => fk_br (fk_X11_number_b49) (fk_dI (fun v7 => fk_br (fk_X11_number_b49) (fk_dI (fun v9 => fk_br (fk_X11_number_b54) (fk_X11_number_b49))))))) (fk_cl (fk_X11_wrong _ (by decide)) (fun _ => fk_X11_number_b54)))))
theorem fk_X11_signed_b30 (x1 : Int32) (x2 : Int32) : FK (f_X11_signed_b30 x1 x2) := by
  unfold f_X11_signed_b30
  exact fk_cl (fk_X11_number _ _) (fun r1 => fk_br (fk_rt) (fk_rt))
theorem fk_X11_signed_b21 (x1 : Int32) (xs0 : Int32) : FK (f_X11_signed_b21 x1 xs0) := by
  unfold f_X11_signed_b21
  exact fk_br (fk_X11_signed_b30 _ _) (fk_cl (fk_mtok_ (fr_X11_goes)) (fun _ => fk_X11_signed_b30 _ _))
theorem fk_X11_signed_b20 (x1 : Int32) : FK (f_X11_signed_b20 x1) := by
  unfold f_X11_signed_b20
  exact fk_X11_signed_b21 _ _
theorem fk_X11_signed (x1 : Int32) : FK (f_X11_signed x1) := by
  unfold f_X11_signed
  exact fk_cl (fk_none_ (fr_X11_isGood)) (fun r1 => fk_br (fk_X11_signed_b20 _) (fk_cl (fk_none_ (fr_X11_isSign _)) (fun r3 => fk_br (fk_X11_signed_b20 _) (fk_X11_signed_b21 _ _))))
theorem fk_X11_puts (x1 : Int32) : FK (f_X11_puts x1) := by
  unfold f_X11_puts
  exact fk_dI (fun v1 => fk_gd (fun _ => fk_pI (by omega) (fk_dI (fun v2 => fk_pI (by omega) (fk_rt)))))
theorem fk_X11_drops_b0 : ∀ (fu : Nat) (x1 : Int32), FK (f_X11_drops_b0 fu x1) := by
  intro fu
  induction fu with
  | zero => intro _; exact fk_none
  | succ fu ih => intro x1; rw [f_X11_drops_b0]; exact fk_dI (fun v1 => fk_br (fk_rt) (fk_dI (fun v3 => fk_gd (fun _ => fk_dI (fun v4 => fk_cl (fk_none_ (fr_X11_isOpen _)) (fun r5 => fk_br (fk_dI (fun v7 => fk_gd (fun _ => fk_dI (fun v8 => fk_cl (fk_none_ (fr_X11_strength _)) (fun r9 => fk_br (fk_rt) (fk_dI (fun v11 => fk_pI (by omega) (fk_dI (fun v12 => fk_gd (fun _ => fk_dI (fun v13 => fk_cl (fk_X11_puts _) (fun _ => ih _)))))))))))) (fk_rt)))))))
theorem fk_X11_drops (x1 : Int32) : FK (f_X11_drops x1) := by
  unfold f_X11_drops
  exact fk_X11_drops_b0 _ _
theorem fk_X11_waitsFor (x1 : Int32) : FK (f_X11_waitsFor x1) := by
  unfold f_X11_waitsFor
  exact fk_dI (fun v1 => fk_gd (fun _ => fk_pI (by omega) (fk_dI (fun v2 => fk_pI (by omega) (fk_rt)))))
theorem fk_X11_part_b91 : FK (f_X11_part_b91) := by
  unfold f_X11_part_b91
  exact fk_cl (fk_none_ (fr_X11_isGood)) (fun r1 => fk_br (fk_rt) (fk_cl (fk_mtok_ (fr_X11_goes)) (fun _ => fk_rt)))
theorem fk_X11_part_b29 : FK (f_X11_part_b29) := by
  unfold f_X11_part_b29
  exact fk_cl (fk_X11_puts _) (fun _ => fk_dI (fun v1 => fk_cl (fk_X11_puts _) (fun _ => fk_X11_part_b91)))
theorem fk_X11_part_b73 (x1 : Int32) : FK (f_X11_part_b73 x1) := by
  unfold f_X11_part_b73
  exact fk_cl (fk_X11_puts _) (fun _ => fk_cl (fk_X11_puts _) (fun _ => fk_X11_part_b91))
theorem fk_X11_part_b68 (x1 : Int32) : FK (f_X11_part_b68 x1) := by
  unfold f_X11_part_b68
  exact fk_cl (fk_X11_wrong _ (by decide)) (fun _ => fk_X11_part_b73 _)
theorem fk_X11_part : FK (f_X11_part) := by
  unfold f_X11_part
  exact fk_cl (fk_none_ (fr_X11_isGood)) (fun r1 => fk_br (fk_rt) (fk_dI (fun v3 => fk_br (fk_dI (fun v5 => fk_br (fk_X11_part_b29) (fk_cl (fk_X11_wrong _ (by decide)) (fun _ => fk_X11_part_b29)))) (fk_dI (fun v7 => fk_br (fk_cl (fk_none_ (fr_X11_knownWord)) (fun r9 => fk_br (fk_X11_part_b68 _) (fk_br (fk_X11_part_b73 _) (fk_X11_part_b68 _)))) (fk_cl (fk_X11_wrong _ (by decide)) (fun _ => fk_X11_part_b91)))))))
theorem fk_X11_deeper_b61 (xs0 : Int32) (nxs0 : ¬ xs0 = 0) : FK (f_X11_deeper_b61 xs0) := by
  unfold f_X11_deeper_b61
  exact fk_cl (fk_X11_wrong _ nxs0) (fun _ => fk_rt)
theorem fk_X11_deeper_b56 : FK (f_X11_deeper_b56) := by
  unfold f_X11_deeper_b56
  exact fk_X11_deeper_b61 _ (by decide)
theorem fk_X11_deeper : FK (f_X11_deeper) := by
  unfold f_X11_deeper
  exact fk_dI (fun v1 => fk_br (fk_dI (fun v3 => fk_br (fk_X11_deeper_b56) (fk_dI (fun v5 => fk_br (fk_X11_deeper_b56) (fk_cl (fk_none_ (fr_X11_isSign _)) (fun r7 => fk_br (fk_X11_deeper_b61 _ (by decide)) (fk_X11_deeper_b56))))))) (fk_dI (fun v9 => fk_pI (by omega) (fk_dI (fun v10 => fk_gd (fun _ => fk_pI (by omega) (fk_rt)))))))
theorem fk_X11_operand_b50 (k4 : Int32 → Int32 → Sg → Option (Unit × Sg)) (k18 : Int32 → Int32 → Sg → Option (Unit × Sg)) (x2 : Int32) (x4 : Int32) (hk4 : ∀ a0 a1, FK (k4 a0 a1)) (hk18 : ∀ a0 a1, FK (k18 a0 a1)) : FK (f_X11_operand_b50 k4 k18 x2 x4) := by
  unfold f_X11_operand_b50
  exact fk_cl (fk_none_ (fr_X11_isGood)) (fun r1 => fk_br (hk18 _ _) (fk_cl (fk_X11_waitsFor _) (fun _ => fk_cl (fk_mtok_ (fr_X11_goes)) (fun _ => hk18 _ _))))
theorem fk_X11_operand_b96 (k4 : Int32 → Int32 → Sg → Option (Unit × Sg)) (x2 : Int32) (xs0 : Int32) (hk4 : ∀ a0 a1, FK (k4 a0 a1)) : FK (f_X11_operand_b96 k4 x2 xs0) := by
  unfold f_X11_operand_b96
  exact fk_br (hk4 _ _) (fk_cl (fk_X11_waitsFor _) (fun _ => fk_cl (fk_mtok_ (fr_X11_goes)) (fun _ => fk_cl (fk_X11_deeper) (fun _ => hk4 _ _))))
theorem fk_X11_operand_b95 (k4 : Int32 → Int32 → Sg → Option (Unit × Sg)) (x2 : Int32) (hk4 : ∀ a0 a1, FK (k4 a0 a1)) : FK (f_X11_operand_b95 k4 x2) := by
  unfold f_X11_operand_b95
  exact fk_X11_operand_b96 _ _ _ hk4
theorem fk_X11_operand_b75 (k4 : Int32 → Int32 → Sg → Option (Unit × Sg)) (x2 : Int32) (hk4 : ∀ a0 a1, FK (k4 a0 a1)) : FK (f_X11_operand_b75 k4 x2) := by
  unfold f_X11_operand_b75
  exact fk_cl (fk_none_ (fr_X11_isGood)) (fun r1 => fk_br (fk_X11_operand_b95 _ _ hk4) (fk_cl (fk_none_ (fr_X11_isSign _)) (fun r3 => fk_br (fk_X11_operand_b95 _ _ hk4) (fk_X11_operand_b96 _ _ _ hk4))))
theorem fk_X11_operand_b18 (k4 : Int32 → Int32 → Sg → Option (Unit × Sg)) (hk4 : ∀ a0 a1, FK (k4 a0 a1)) : ∀ (fu : Nat) (x2 : Int32) (x4 : Int32), FK (f_X11_operand_b18 k4 fu x2 x4) := by
  intro fu
  induction fu with
  | zero => intro _ _; exact fk_none
  | succ fu ih => intro x2 x4; rw [f_X11_operand_b18]; exact fk_cl (fk_none_ (fr_X11_isGood)) (fun r1 => fk_br (fk_X11_operand_b75 _ _ hk4) (fk_br (fk_X11_operand_b75 _ _ hk4) (fk_cl (fk_none_ (fr_X11_knownWord)) (fun r4 => fk_br (fk_br (fk_cl (fk_X11_wrong _ (by decide)) (fun _ => fk_X11_operand_b50 _ _ _ _ hk4 ih)) (fk_X11_operand_b50 _ _ _ _ hk4 ih)) (fk_X11_operand_b75 _ _ hk4)))))
theorem fk_X11_operand_b120 : FK (f_X11_operand_b120) := by
  unfold f_X11_operand_b120
  exact fk_cl (fk_X11_part) (fun _ => fk_rt)
theorem fk_X11_operand_b4 : ∀ (fu : Nat) (x2 : Int32) (x3 : Int32), FK (f_X11_operand_b4 fu x2 x3) := by
  intro fu
  induction fu with
  | zero => intro _ _; exact fk_none
  | succ fu ih => intro x2 x3; rw [f_X11_operand_b4]; exact fk_br (fk_X11_operand_b120) (fk_cl (fk_none_ (fr_X11_isGood)) (fun r2 => fk_br (fk_X11_operand_b120) (fk_X11_operand_b18 _ ih _ _ _)))
theorem fk_X11_operand (x1 : Int32) : FK (f_X11_operand x1) := by
  unfold f_X11_operand
  exact fk_X11_operand_b4 _ _ _
theorem fk_X11_closes : FK (f_X11_closes) := by
  unfold f_X11_closes
  exact fk_cl (fk_X11_drops _) (fun _ => fk_dI (fun v1 => fk_pI (by omega) (fk_dI (fun v2 => fk_pI (by omega) (fk_cl (fk_mtok_ (fr_X11_goes)) (fun _ => fk_rt))))))
theorem fk_X11_expression_b84 (k29 : Int32 → Sg → Option (Unit × Sg)) (x1 : Int32) (xs0 : Int32) (hk29 : ∀ a0, FK (k29 a0)) : FK (f_X11_expression_b84 k29 x1 xs0) := by
  unfold f_X11_expression_b84
  exact fk_cl (fk_X11_waitsFor _) (fun _ => fk_dI (fun v1 => fk_gd (fun _ => fk_pI (by omega) (fk_cl (fk_mtok_ (fr_X11_goes)) (fun _ => fk_cl (fk_X11_operand _) (fun _ => hk29 _))))))
theorem fk_X11_expression_b69 (k29 : Int32 → Sg → Option (Unit × Sg)) (x1 : Int32) (x2 : Int32) (xs0 : Int32) (hk29 : ∀ a0, FK (k29 a0)) : FK (f_X11_expression_b69 k29 x1 x2 xs0) := by
  unfold f_X11_expression_b69
  exact fk_cl (fk_X11_drops _) (fun _ => fk_br (fk_X11_expression_b84 _ _ _ hk29) (fk_X11_expression_b84 _ _ _ hk29))
theorem fk_X11_expression_b57 (k29 : Int32 → Sg → Option (Unit × Sg)) (x1 : Int32) (x2 : Int32) (hk29 : ∀ a0, FK (k29 a0)) : FK (f_X11_expression_b57 k29 x1 x2) := by
  unfold f_X11_expression_b57
  exact fk_br (fk_X11_expression_b69 _ _ _ _ hk29) (fk_X11_expression_b69 _ _ _ _ hk29)
theorem fk_X11_expression_b161 (k29 : Int32 → Sg → Option (Unit × Sg)) (x1 : Int32) (xs0 : Int32) (hk29 : ∀ a0, FK (k29 a0)) : FK (f_X11_expression_b161 k29 x1 xs0) := by
  unfold f_X11_expression_b161
  exact fk_cl (fk_X11_waitsFor _) (fun _ => fk_dI (fun v1 => fk_gd (fun _ => fk_pI (by omega) (fk_cl (fk_mtok_ (fr_X11_goes)) (fun _ => fk_cl (fk_X11_operand _) (fun _ => hk29 _))))))
theorem fk_X11_expression_b226 (k29 : Int32 → Sg → Option (Unit × Sg)) (x1 : Int32) (xs0 : Int32) (hk29 : ∀ a0, FK (k29 a0)) : FK (f_X11_expression_b226 k29 x1 xs0) := by
  unfold f_X11_expression_b226
  exact fk_cl (fk_X11_waitsFor _) (fun _ => fk_cl (fk_mtok_ (fr_X11_goes)) (fun _ => fk_cl (fk_X11_operand _) (fun _ => hk29 _)))
theorem fk_X11_expression_b204 (k29 : Int32 → Sg → Option (Unit × Sg)) (x1 : Int32) (hk29 : ∀ a0, FK (k29 a0)) : FK (f_X11_expression_b204 k29 x1) := by
  unfold f_X11_expression_b204
  exact fk_cl (fk_X11_drops _) (fun _ => fk_cl (fk_none_ (fr_X11_isSign _)) (fun r1 => fk_br (fk_X11_expression_b226 _ _ _ hk29) (fk_X11_expression_b226 _ _ _ hk29)))
theorem fk_X11_expression_b282 (k29 : Int32 → Sg → Option (Unit × Sg)) (x1 : Int32) (xs0 : Int32) (hk29 : ∀ a0, FK (k29 a0)) : FK (f_X11_expression_b282 k29 x1 xs0) := by
  unfold f_X11_expression_b282
  exact fk_cl (fk_X11_waitsFor _) (fun _ => fk_cl (fk_mtok_ (fr_X11_goes)) (fun _ => fk_cl (fk_X11_operand _) (fun _ => hk29 _)))
theorem fk_X11_expression_b259 (k29 : Int32 → Sg → Option (Unit × Sg)) (x1 : Int32) (hk29 : ∀ a0, FK (k29 a0)) : FK (f_X11_expression_b259 k29 x1) := by
  unfold f_X11_expression_b259
  exact fk_cl (fk_X11_drops _) (fun _ => fk_cl (fk_none_ (fr_X11_isSign _)) (fun r1 => fk_br (fk_X11_expression_b282 _ _ _ hk29) (fk_X11_expression_b282 _ _ _ hk29)))
theorem fk_X11_expression_b320 (k29 : Int32 → Sg → Option (Unit × Sg)) (hk29 : ∀ a0, FK (k29 a0)) : FK (f_X11_expression_b320 k29) := by
  unfold f_X11_expression_b320
  exact hk29 _
theorem fk_X11_expression_b186 (k29 : Int32 → Sg → Option (Unit × Sg)) (x1 : Int32) (hk29 : ∀ a0, FK (k29 a0)) : FK (f_X11_expression_b186 k29 x1) := by
  unfold f_X11_expression_b186
  exact fk_cl (fk_none_ (fr_X11_isSign _)) (fun r1 => fk_br (fk_cl (fk_none_ (fr_X11_isSign _)) (fun r3 => fk_br (fk_cl (fk_none_ (fr_X11_isSign _)) (fun r5 => fk_br (fk_cl (fk_none_ (fr_X11_isSign _)) (fun r7 => fk_br (fk_cl (fk_none_ (fr_X11_isSign _)) (fun r9 => fk_br (fk_X11_expression_b320 _ hk29) (fk_cl (fk_none_ (fr_X11_isOpened)) (fun r11 => fk_br (fk_X11_expression_b320 _ hk29) (fk_cl (fk_X11_closes) (fun _ => hk29 _)))))) (fk_X11_expression_b259 _ _ hk29))) (fk_X11_expression_b259 _ _ hk29))) (fk_X11_expression_b204 _ _ hk29))) (fk_X11_expression_b204 _ _ hk29))
theorem fk_X11_expression_b127 (k29 : Int32 → Sg → Option (Unit × Sg)) (x1 : Int32) (hk29 : ∀ a0, FK (k29 a0)) : FK (f_X11_expression_b127 k29 x1) := by
  unfold f_X11_expression_b127
  exact fk_dI (fun v1 => fk_gd (fun _ => fk_dI (fun v2 => fk_br (fk_cl (fk_X11_drops _) (fun _ => fk_cl (fk_none_ (fr_X11_isSign _)) (fun r4 => fk_br (fk_X11_expression_b161 _ _ _ hk29) (fk_X11_expression_b161 _ _ _ hk29)))) (fk_X11_expression_b186 _ _ hk29))))
theorem fk_X11_expression_b345 : FK (f_X11_expression_b345) := by
  unfold f_X11_expression_b345
  exact fk_cl (fk_X11_drops _) (fun _ => fk_cl (fk_X11_puts _) (fun _ => fk_rt))
theorem fk_X11_expression_b325 : FK (f_X11_expression_b325) := by
  unfold f_X11_expression_b325
  exact fk_cl (fk_none_ (fr_X11_isGood)) (fun r1 => fk_br (fk_X11_expression_b345) (fk_dI (fun v3 => fk_br (fk_X11_expression_b345) (fk_cl (fk_X11_wrong _ (by decide)) (fun _ => fk_X11_expression_b345)))))
theorem fk_X11_expression_b29 : ∀ (fu : Nat) (x1 : Int32), FK (f_X11_expression_b29 fu x1) := by
  intro fu
  induction fu with
  | zero => intro _; exact fk_none
  | succ fu ih => intro x1; rw [f_X11_expression_b29]; exact fk_br (fk_X11_expression_b325) (fk_cl (fk_none_ (fr_X11_isGood)) (fun r2 => fk_br (fk_X11_expression_b325) (fk_cl (fk_none_ (fr_X11_knownWord)) (fun r4 => fk_br (fk_X11_expression_b57 _ _ _ ih) (fk_br (fk_X11_expression_b57 _ _ _ ih) (fk_cl (fk_none_ (fr_X11_isSign _)) (fun r7 => fk_br (fk_cl (fk_none_ (fr_X11_isSign _)) (fun r9 => fk_br (fk_X11_expression_b186 _ _ ih) (fk_X11_expression_b127 _ _ ih))) (fk_X11_expression_b127 _ _ ih))))))))
theorem fk_X11_expression : FK (f_X11_expression) := by
  unfold f_X11_expression
  exact fk_cl (fk_none_ (fr_X11_isGood)) (fun r1 => fk_br (fk_rt) (fk_pI (by omega) (fk_pI (by omega) (fk_cl (fk_X11_deeper) (fun _ => fk_cl (fk_X11_operand _) (fun _ => fk_X11_expression_b29 _ _))))))
theorem fk_X11_begins_b40 : FK (f_X11_begins_b40) := by
  unfold f_X11_begins_b40
  exact fk_cl (fk_none_ (fr_X11_isGood)) (fun r1 => fk_gd (fun _ => fk_rt))
theorem fk_X11_begins_b17 (x1 : Int32) : FK (f_X11_begins_b17 x1) := by
  unfold f_X11_begins_b17
  exact fk_dI (fun v1 => fk_pI (by omega) (fk_cl (fk_none_ (fr_X11_isGood)) (fun r2 => fk_br (fk_X11_begins_b40) (fk_cl (fk_mtok_ (fr_X11_goes)) (fun _ => fk_X11_begins_b40)))))
theorem fk_X11_begins (x1 : Int32) : FK (f_X11_begins x1) := by
  unfold f_X11_begins
  exact fk_dI (fun v1 => fk_br (fk_cl (fk_X11_wrong _ (by decide)) (fun _ => fk_X11_begins_b17 _)) (fk_X11_begins_b17 _))
theorem fk_X11_readsJumper_b151 : FK (f_X11_readsJumper_b151) := by
  unfold f_X11_readsJumper_b151
  exact fk_cl (fk_none_ (fr_X11_isGood)) (fun r1 => fk_br (fk_rt) (fk_dI (fun v3 => fk_pI (by omega) (fk_rt))))
theorem fk_X11_readsJumper_b13 : FK (f_X11_readsJumper_b13) := by
  unfold f_X11_readsJumper_b13
  exact fk_cl (fk_none_ (fr_X11_isGood)) (fun r1 => fk_br (fk_rt) (fk_cl (fk_mtok_ (fr_X11_goes)) (fun _ => fk_dI (fun v3 => fk_cl (fk_X11_number _ _) (fun r4 => fk_gd (fun _ => fk_pI (by omega) (fk_cl (fk_X11_number _ _) (fun r5 => fk_gd (fun _ => fk_pI (by omega) (fk_dI (fun v6 => fk_cl (fk_X11_signed _) (fun r7 => fk_gd (fun _ => fk_pI (by omega) (fk_cl (fk_X11_number _ _) (fun r8 => fk_gd (fun _ => fk_pI (by omega) (fk_cl (fk_X11_number _ _) (fun r9 => fk_gd (fun _ => fk_pI (by omega) (fk_gd (fun _ => fk_pI (by omega) (fk_cl (fk_none_ (fr_X11_isGood)) (fun r10 => fk_br (fk_X11_readsJumper_b151) (fk_cl (fk_none_ (fr_X11_knownWord)) (fun r12 => fk_br (fk_cl (fk_mtok_ (fr_X11_goes)) (fun _ => fk_cl (fk_X11_number _ _) (fun r14 => fk_gd (fun _ => fk_pI (by omega) (fk_X11_readsJumper_b151))))) (fk_X11_readsJumper_b151))))))))))))))))))))))))))
theorem fk_X11_readsJumper : FK (f_X11_readsJumper) := by
  unfold f_X11_readsJumper
  exact fk_dI (fun v1 => fk_br (fk_cl (fk_X11_wrong _ (by decide)) (fun _ => fk_X11_readsJumper_b13)) (fk_X11_readsJumper_b13))
theorem fk_X11_readsEgg_b39 (k10 : Sg → Option (Unit × Sg)) (hk10 : FK k10) : FK (f_X11_readsEgg_b39 k10) := by
  unfold f_X11_readsEgg_b39
  exact fk_cl (fk_X11_number _ _) (fun r1 => fk_cl (fk_none_ (fr_X11_isGood)) (fun r2 => fk_br (fk_rt) (fk_dI (fun v4 => fk_gd (fun _ => fk_pI (by omega) (fk_dI (fun v5 => fk_pI (by omega) (hk10))))))))
theorem fk_X11_readsEgg_b10 : ∀ (fu : Nat), FK (f_X11_readsEgg_b10 fu) := by
  intro fu
  induction fu with
  | zero => exact fk_none
  | succ fu ih => rw [f_X11_readsEgg_b10]; exact fk_cl (fk_none_ (fr_X11_isGood)) (fun r1 => fk_br (fk_rt) (fk_dI (fun v3 => fk_br (fk_dI (fun v5 => fk_br (fk_cl (fk_X11_wrong _ (by decide)) (fun _ => fk_X11_readsEgg_b39 _ ih)) (fk_X11_readsEgg_b39 _ ih))) (fk_rt))))
theorem fk_X11_readsEgg : FK (f_X11_readsEgg) := by
  unfold f_X11_readsEgg
  exact fk_cl (fk_X11_begins _) (fun r1 => fk_br (fk_rt) (fk_X11_readsEgg_b10 _))
theorem fk_X11_line_b292 : FK (f_X11_line_b292) := by
  unfold f_X11_line_b292
  exact fk_cl (fk_none_ (fr_X11_isSign _)) (fun r1 => fk_cl (fk_X11_need _) (fun _ => fk_rt))
theorem fk_X11_line_b23 (x1 : Int32) : FK (f_X11_line_b23 x1) := by
  unfold f_X11_line_b23
  exact fk_cl (fk_X11_begins _) (fun r1 => fk_br (fk_rt) (fk_cl (fk_X11_number _ _) (fun r3 => fk_pI (by omega) (fk_cl (fk_X11_number _ _) (fun r4 => fk_pI (by omega) (fk_cl (fk_X11_number _ _) (fun r5 => fk_pI (by omega) (fk_X11_line_b292))))))))
theorem fk_X11_line_b191 (xs0 : Int32) (xs2 : Int32) : FK (f_X11_line_b191 xs0 xs2) := by
  unfold f_X11_line_b191
  exact fk_cl (fk_X11_number _ _) (fun r1 => fk_gd (fun _ => fk_pI (by omega) (fk_X11_line_b292)))
theorem fk_X11_line_b232 : FK (f_X11_line_b232) := by
  unfold f_X11_line_b232
  exact fk_cl (fk_none_ (fr_X11_isGood)) (fun r1 => fk_br (fk_rt) (fk_cl (fk_mtok_ (fr_X11_goes)) (fun _ => fk_dI (fun v3 => fk_dI (fun v4 => fk_gd (fun _ => fk_pI (by omega) (fk_dI (fun v5 => fk_pI (by omega) (fk_cl (fk_X11_expression) (fun _ => fk_X11_line_b292))))))))))
theorem fk_X11_line : FK (f_X11_line) := by
  unfold f_X11_line
  exact fk_cl (fk_none_ (fr_X11_knownWord)) (fun r1 => fk_br (fk_dI (fun v3 => fk_br (fk_X11_line_b23 _) (fk_cl (fk_X11_wrong _ (by decide)) (fun _ => fk_X11_line_b23 _)))) (fk_br (fk_cl (fk_X11_begins _) (fun r6 => fk_br (fk_X11_line_b292) (fk_cl (fk_X11_signed _) (fun r8 => fk_pI (by omega) (fk_X11_line_b292))))) (fk_br (fk_cl (fk_X11_begins _) (fun r10 => fk_br (fk_X11_line_b292) (fk_cl (fk_X11_number _ _) (fun r12 => fk_pI (by omega) (fk_X11_line_b292))))) (fk_br (fk_cl (fk_X11_begins _) (fun r14 => fk_br (fk_rt) (fk_cl (fk_X11_number _ _) (fun r16 => fk_pI (by omega) (fk_cl (fk_X11_number _ _) (fun r17 => fk_pI (by omega) (fk_dI (fun v18 => fk_dI (fun v19 => fk_br (fk_X11_line_b191 _ _) (fk_X11_line_b191 _ _)))))))))) (fk_br (fk_cl (fk_X11_readsJumper) (fun _ => fk_X11_line_b292)) (fk_br (fk_dI (fun v23 => fk_br (fk_cl (fk_X11_wrong _ (by decide)) (fun _ => fk_X11_line_b232)) (fk_X11_line_b232))) (fk_br (fk_cl (fk_X11_readsEgg) (fun _ => fk_X11_line_b292)) (fk_cl (fk_X11_wrong _ (by decide)) (fun _ => fk_X11_line_b292)))))))))
