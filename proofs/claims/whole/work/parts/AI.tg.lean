-- ===== the teller leaves the other gardens alone =====
def gs_tg (g i k : Nat) : Bool := (i == 14 && !(k == 1)) || (i == 15 || (Nat.ble g i && Nat.ble i (g + 6)))
theorem tg_in {g i k : Nat} (h1 : g ≤ i) (h2 : i ≤ g + 6) : gs_tg g i k = true := by
  simp only [gs_tg, Bool.or_eq_true, Bool.and_eq_true, Nat.ble_eq]; exact Or.inr (Or.inr ⟨h1, h2⟩)
def FG {α : Type} (g : Nat) (d : Sg → Option (α × Sg)) : Prop := isGd g = true → ∀ σ r, σ.2.2 14 1 = g → d σ = some r → off (gs_tg g) σ r.2
theorem tg_ref {g : Nat} {σ τ : Sg} (hg : isGd g = true) (h : off (gs_tg g) σ τ) : τ.2.2 14 1 = σ.2.2 14 1 := (h 14 1 (by rcases or3 hg with rfl | rfl | rfl <;> rfl)).2.2
section FgRules
variable {α β : Type} {g i k : Nat}
theorem fg_rt {v : α} : FG g (rt v) := fun _ σ r _ h => by cases h; exact off_rfl
theorem fg_none : FG (α := α) g (fun _ => none) := fun _ σ r _ h => by cases h
theorem fg_dI {d : Int32 → Sg → Option (α × Sg)} (h : ∀ v, FG g (d v)) : FG g (dI i k d) := fun hg σ r q e => h _ hg σ r q e
theorem fg_dL {d : Int64 → Sg → Option (α × Sg)} (h : ∀ v, FG g (d v)) : FG g (dL i k d) := fun hg σ r q e => h _ hg σ r q e
theorem fg_dR {d : Nat → Sg → Option (α × Sg)} (h : ∀ v, v = g → FG g (d v)) : FG g (dR 14 1 d) := fun hg σ r q e => h _ q hg σ r q e
theorem fg_pI {v : Int32} {d : Sg → Option (α × Sg)} (hi : gs_tg g i k = true) (h : FG g d) : FG g (pI i k v d) := fun hg σ r q e => off_trans (off_sI hi) (h hg (sI σ i k v) r q e)
theorem fg_gd {c : Prop} [Decidable c] {d : Sg → Option (α × Sg)} (h : c → FG g d) : FG g (gd c d) := fun hg σ r q e => by
  by_cases z : c
  · rw [gd, if_pos z] at e; exact h z hg σ r q e
  · rw [gd, if_neg z] at e; cases e
theorem fg_br {c : Prop} [Decidable c] {d1 d2 : Sg → Option (α × Sg)} (h1 : FG g d1) (h2 : FG g d2) : FG g (br c d1 d2) := fun hg σ r q e => by
  by_cases z : c
  · rw [br, if_pos z] at e; exact h1 hg σ r q e
  · rw [br, if_neg z] at e; exact h2 hg σ r q e
theorem fg_lt {v : β} {d : β → Sg → Option (α × Sg)} (h : ∀ v, FG g (d v)) : FG g (lt v d) := h v
theorem fg_cl {f : Sg → Option (β × Sg)} {d : β → Sg → Option (α × Sg)} (hf : FG g f) (h : ∀ v, FG g (d v)) : FG g (cl f d) := fun hg σ r q e => by
  cases z : f σ with
  | none => rw [cl, z] at e; cases e
  | some r0 =>
    rw [cl, z] at e
    have o := hf hg σ r0 q z
    exact off_trans o (h _ hg _ r ((tg_ref hg o).trans q) e)
theorem fg_none_ {d : Sg → Option (α × Sg)} (h : Fr gs_none d) : FG g d := fun _ σ r _ e => off_mono (fun i k z => by cases z) (h σ r e)
theorem fg_read {d : Sg → Option (α × Sg)} (h : Fr gs_read d) : FG g d := fun _ σ r _ e => off_mono (fun i k z => by
  simp only [gs_read, beq_iff_eq] at z
  subst z; rfl) (h σ r e)
end FgRules
theorem tg_X6_clear {g : Nat} (q0 : Nat) (eq0 : q0 = g + 3) : FG g (f_X6_clear q0) := by
  unfold f_X6_clear
  exact fg_gd (fun _ => fg_pI (tg_in (by omega) (by omega)) (fg_pI (tg_in (by omega) (by omega)) (fg_rt)))
theorem tg_X2_clear {g : Nat} (q0 : Nat) (eq0 : q0 = g + 0) : FG g (f_X2_clear q0) := by
  unfold f_X2_clear
  exact fg_gd (fun _ => fg_pI (tg_in (by omega) (by omega)) (fg_pI (tg_in (by omega) (by omega)) (fg_pI (tg_in (by omega) (by omega)) (fg_pI (tg_in (by omega) (by omega)) (fg_pI (tg_in (by omega) (by omega)) (fg_pI (tg_in (by omega) (by omega)) (fg_pI (tg_in (by omega) (by omega)) (fg_pI (tg_in (by omega) (by omega)) (fg_pI (tg_in (by omega) (by omega)) (fg_pI (tg_in (by omega) (by omega)) (fg_cl (tg_X6_clear _ (by omega)) (fun _ => fg_rt))))))))))))
theorem tg_X2_tellOfLast {g : Nat} (q0 : Nat) (x1 : Int32) (x2 : Int32) (eq0 : q0 = g + 0) : FG g (f_X2_tellOfLast q0 x1 x2) := by
  unfold f_X2_tellOfLast
  exact fg_gd (fun _ => fg_dI (fun v1 => fg_lt (fun w2 => fg_br (fg_rt) (fg_br (fg_rt) (fg_gd (fun _ => fg_pI (tg_in (by omega) (by omega)) (fg_rt)))))))
theorem tg_X2_addPush {g : Nat} (q0 : Nat) (x1 : Int32) (eq0 : q0 = g + 0) : FG g (f_X2_addPush q0 x1) := by
  unfold f_X2_addPush
  exact fg_gd (fun _ => fg_dI (fun v1 => fg_br (fg_rt) (fg_dI (fun v3 => fg_br (fg_rt) (fg_dI (fun v5 => fg_gd (fun _ => fg_pI (tg_in (by omega) (by omega)) (fg_dI (fun v6 => fg_pI (tg_in (by omega) (by omega)) (fg_rt))))))))))
theorem tg_X6_add {g : Nat} (q0 : Nat) (x1 : Int32) (eq0 : q0 = g + 3) : FG g (f_X6_add q0 x1) := by
  unfold f_X6_add
  exact fg_gd (fun _ => fg_dI (fun v1 => fg_br (fg_rt) (fg_dI (fun v3 => fg_br (fg_rt) (fg_dI (fun v5 => fg_gd (fun _ => fg_pI (tg_in (by omega) (by omega)) (fg_dI (fun v6 => fg_pI (tg_in (by omega) (by omega)) (fg_rt))))))))))
theorem tg_X6_endRule {g : Nat} (q0 : Nat) (eq0 : q0 = g + 3) : FG g (f_X6_endRule q0) := by
  unfold f_X6_endRule
  exact fg_gd (fun _ => fg_dI (fun v1 => fg_br (fg_rt) (fg_dI (fun v3 => fg_br (fg_rt) (fg_dI (fun v5 => fg_dI (fun v6 => fg_gd (fun _ => fg_pI (tg_in (by omega) (by omega)) (fg_dI (fun v7 => fg_pI (tg_in (by omega) (by omega)) (fg_rt)))))))))))
theorem tg_X8_fail {g : Nat} (x1 : Int32) : FG g (f_X8_fail x1) := by
  unfold f_X8_fail
  exact fg_pI rfl (fg_dI (fun v1 => fg_pI rfl (fg_rt)))
theorem tg_X8_passOnce {g : Nat} (x1 : Int32) : FG g (f_X8_passOnce x1) := by
  unfold f_X8_passOnce
  exact fg_dI (fun v1 => fg_br (fg_dI (fun v3 => fg_pI rfl (fg_cl (fg_read (fr_X5_next)) (fun _ => fg_rt)))) (fg_cl (tg_X8_fail _) (fun r4 => fg_gd (fun _ => fg_rt))))
theorem tg_X8_number_b41 {g : Nat} : FG g (f_X8_number_b41) := by
  unfold f_X8_number_b41
  exact fg_cl (tg_X8_fail _) (fun r1 => fg_gd (fun _ => fg_rt))
theorem tg_X8_number {g : Nat} (x1 : Int32) (x2 : Int32) : FG g (f_X8_number x1 x2) := by
  unfold f_X8_number
  exact fg_dI (fun v1 => fg_br (fg_dI (fun v3 => fg_br (tg_X8_number_b41) (fg_dI (fun v5 => fg_br (fg_dI (fun v7 => fg_pI rfl (fg_cl (fg_read (fr_X5_next)) (fun _ => fg_rt)))) (tg_X8_number_b41))))) (fg_cl (tg_X8_fail _) (fun r8 => fg_gd (fun _ => fg_rt))))
theorem tg_X8_tellMat {g : Nat} : FG g (f_X8_tellMat) := by
  unfold f_X8_tellMat
  exact fg_dR (fun u1 hu1 => fg_gd (fun _ => fg_dI (fun v2 => fg_br (fg_cl (tg_X8_passOnce _) (fun r4 => fg_br (fg_rt) (fg_cl (tg_X8_number _ _) (fun r6 => fg_br (fg_rt) (fg_dR (fun u8 hu8 => fg_gd (fun _ => fg_dI (fun v9 => fg_pI (tg_in (by omega) (by omega)) (fg_cl (tg_X8_number _ _) (fun r10 => fg_br (fg_rt) (fg_dR (fun u12 hu12 => fg_gd (fun _ => fg_dI (fun v13 => fg_pI (tg_in (by omega) (by omega)) (fg_cl (tg_X8_number _ _) (fun r14 => fg_br (fg_rt) (fg_dR (fun u16 hu16 => fg_gd (fun _ => fg_dI (fun v17 => fg_pI (tg_in (by omega) (by omega)) (fg_rt))))))))))))))))))))) (fg_cl (tg_X8_fail _) (fun r18 => fg_gd (fun _ => fg_rt))))))
theorem tg_X8_signed_b57 {g : Nat} (xs0 : Int32) : FG g (f_X8_signed_b57 xs0) := by
  unfold f_X8_signed_b57
  exact fg_pI rfl (fg_rt)
theorem tg_X8_signed_b29 {g : Nat} (x1 : Int32) (x2 : Int32) : FG g (f_X8_signed_b29 x1 x2) := by
  unfold f_X8_signed_b29
  exact fg_cl (tg_X8_number _ _) (fun r1 => fg_br (fg_rt) (fg_br (fg_dI (fun v4 => tg_X8_signed_b57 _)) (fg_dI (fun v5 => tg_X8_signed_b57 _))))
theorem tg_X8_signed_b17 {g : Nat} (x1 : Int32) (xs0 : Int32) : FG g (f_X8_signed_b17 x1 xs0) := by
  unfold f_X8_signed_b17
  exact fg_br (tg_X8_signed_b29 _ _) (fg_cl (fg_read (fr_X5_next)) (fun _ => tg_X8_signed_b29 _ _))
theorem tg_X8_signed {g : Nat} (x1 : Int32) : FG g (f_X8_signed x1) := by
  unfold f_X8_signed
  exact fg_dI (fun v1 => fg_br (tg_X8_signed_b17 _ _) (tg_X8_signed_b17 _ _))
theorem tg_X8_tellBroken {g : Nat} : FG g (f_X8_tellBroken) := by
  unfold f_X8_tellBroken
  exact fg_cl (tg_X8_passOnce _) (fun r1 => fg_br (fg_rt) (fg_cl (tg_X8_signed _) (fun r3 => fg_br (fg_rt) (fg_dR (fun u5 hu5 => fg_gd (fun _ => fg_dI (fun v6 => fg_pI (tg_in (by omega) (by omega)) (fg_rt))))))))
theorem tg_X8_tellNear {g : Nat} : FG g (f_X8_tellNear) := by
  unfold f_X8_tellNear
  exact fg_cl (tg_X8_passOnce _) (fun r1 => fg_br (fg_rt) (fg_cl (tg_X8_number _ _) (fun r3 => fg_br (fg_rt) (fg_dR (fun u5 hu5 => fg_gd (fun _ => fg_dI (fun v6 => fg_pI (tg_in (by omega) (by omega)) (fg_rt))))))))
theorem tg_X8_tellSlips_b78 {g : Nat} (xs0 : Int32) : FG g (f_X8_tellSlips_b78 xs0) := by
  unfold f_X8_tellSlips_b78
  exact fg_cl (tg_X8_number _ _) (fun r1 => fg_br (fg_rt) (fg_dR (fun u3 hu3 => fg_gd (fun _ => fg_dI (fun v4 => fg_pI (tg_in (by omega) (by omega)) (fg_rt))))))
theorem tg_X8_tellSlips {g : Nat} : FG g (f_X8_tellSlips) := by
  unfold f_X8_tellSlips
  exact fg_cl (tg_X8_passOnce _) (fun r1 => fg_br (fg_rt) (fg_cl (tg_X8_number _ _) (fun r3 => fg_br (fg_rt) (fg_dR (fun u5 hu5 => fg_gd (fun _ => fg_dI (fun v6 => fg_pI (tg_in (by omega) (by omega)) (fg_cl (tg_X8_number _ _) (fun r7 => fg_br (fg_rt) (fg_dR (fun u9 hu9 => fg_gd (fun _ => fg_dI (fun v10 => fg_pI (tg_in (by omega) (by omega)) (fg_dR (fun u11 hu11 => fg_gd (fun _ => fg_dI (fun v12 => fg_dR (fun u13 hu13 => fg_gd (fun _ => fg_dI (fun v14 => fg_br (tg_X8_tellSlips_b78 _) (tg_X8_tellSlips_b78 _)))))))))))))))))))))
theorem tg_X8_numberOfLast {g : Nat} (x1 : Int32) (x2 : Int32) (x3 : Int32) : FG g (f_X8_numberOfLast x1 x2 x3) := by
  unfold f_X8_numberOfLast
  exact fg_cl (tg_X8_number _ _) (fun r1 => fg_br (fg_rt) (fg_dR (fun u3 hu3 => fg_gd (fun _ => fg_dI (fun v4 => fg_cl (tg_X2_tellOfLast _ _ _ (by omega)) (fun _ => fg_rt))))))
theorem tg_X8_tellJumper {g : Nat} : FG g (f_X8_tellJumper) := by
  unfold f_X8_tellJumper
  exact fg_dR (fun u1 hu1 => fg_gd (fun _ => fg_dI (fun v2 => fg_br (fg_cl (fg_read (fr_X5_next)) (fun _ => fg_dR (fun u4 hu4 => fg_gd (fun _ => fg_dI (fun v5 => fg_pI (tg_in (by omega) (by omega)) (fg_cl (tg_X8_numberOfLast _ _ _) (fun r6 => fg_br (fg_rt) (fg_cl (tg_X8_numberOfLast _ _ _) (fun r8 => fg_br (fg_rt) (fg_dR (fun u10 hu10 => fg_gd (fun _ => fg_dI (fun v11 => fg_cl (tg_X8_signed _) (fun r12 => fg_br (fg_rt) (fg_dR (fun u14 hu14 => fg_gd (fun _ => fg_dI (fun v15 => fg_cl (tg_X2_tellOfLast _ _ _ (by omega)) (fun _ => fg_dR (fun u16 hu16 => fg_gd (fun _ => fg_cl (tg_X2_tellOfLast _ _ _ (by omega)) (fun _ => fg_cl (tg_X8_numberOfLast _ _ _) (fun r17 => fg_br (fg_rt) (fg_cl (tg_X8_numberOfLast _ _ _) (fun r19 => fg_br (fg_rt) (fg_cl (fg_none_ (fr_X5_isWord _)) (fun r21 => fg_br (fg_rt) (fg_cl (fg_read (fr_X5_next)) (fun _ => fg_cl (tg_X8_numberOfLast _ _ _) (fun r23 => fg_gd (fun _ => fg_rt))))))))))))))))))))))))))))))) (fg_cl (tg_X8_fail _) (fun r24 => fg_gd (fun _ => fg_rt))))))
theorem tg_X8_pass {g : Nat} (x1 : Int32) : FG g (f_X8_pass x1) := by
  unfold f_X8_pass
  exact fg_dI (fun v1 => fg_br (fg_cl (fg_read (fr_X5_next)) (fun _ => fg_rt)) (fg_cl (tg_X8_fail _) (fun r3 => fg_gd (fun _ => fg_rt))))
theorem tg_X8_part {g : Nat} (kE : Int32 → Sg → Option (Int32 × Sg)) (x1 : Int32) (hkE : ∀ a0, FG g (kE a0)) : FG g (f_X8_part kE x1) := by
  unfold f_X8_part
  exact fg_dI (fun v1 => fg_br (fg_cl (tg_X8_number _ _) (fun r3 => fg_br (fg_rt) (fg_dR (fun u5 hu5 => fg_gd (fun _ => fg_dI (fun v6 => fg_cl (tg_X6_add _ _ (by omega)) (fun _ => fg_rt))))))) (fg_dI (fun v7 => fg_br (fg_cl (fg_none_ (fr_X8_valueTold)) (fun r9 => fg_br (fg_cl (tg_X8_fail _) (fun r11 => fg_gd (fun _ => fg_rt))) (fg_dR (fun u12 hu12 => fg_gd (fun _ => fg_cl (tg_X6_add _ _ (by omega)) (fun _ => fg_cl (fg_read (fr_X5_next)) (fun _ => fg_rt))))))) (fg_cl (tg_X8_pass _) (fun r13 => fg_br (fg_rt) (fg_cl (hkE _) (fun r15 => fg_br (fg_rt) (fg_cl (tg_X8_pass _) (fun r17 => fg_br (fg_rt) (fg_rt))))))))))
theorem tg_X8_product_b88 {g : Nat} (kE : Int32 → Sg → Option (Int32 × Sg)) (k12 : Int32 → Int32 → Sg → Option (Int32 × Sg)) (x1 : Int32) (x2 : Int32) (xs0 : Int32) (qs1 : Nat) (hkE : ∀ a0, FG g (kE a0)) (hk12 : ∀ a0 a1, FG g (k12 a0 a1)) (eqs1 : qs1 = g + 3) : FG g (f_X8_product_b88 kE k12 x1 x2 xs0 qs1) := by
  unfold f_X8_product_b88
  exact fg_gd (fun _ => fg_cl (tg_X6_add _ _ (by omega)) (fun _ => hk12 _ _))
theorem tg_X8_product_b43 {g : Nat} (kE : Int32 → Sg → Option (Int32 × Sg)) (k12 : Int32 → Int32 → Sg → Option (Int32 × Sg)) (x1 : Int32) (x2 : Int32) (hkE : ∀ a0, FG g (kE a0)) (hk12 : ∀ a0 a1, FG g (k12 a0 a1)) : FG g (f_X8_product_b43 kE k12 x1 x2) := by
  unfold f_X8_product_b43
  exact fg_dI (fun v1 => fg_cl (fg_read (fr_X5_next)) (fun _ => fg_cl (tg_X8_part _ _ hkE) (fun r2 => fg_br (fg_rt) (fg_dR (fun u4 hu4 => fg_gd (fun _ => fg_br (tg_X8_product_b88 _ _ _ _ _ _ hkE hk12 (by omega)) (tg_X8_product_b88 _ _ _ _ _ _ hkE hk12 (by omega))))))))
theorem tg_X8_product_b12 {g : Nat} (kE : Int32 → Sg → Option (Int32 × Sg)) (hkE : ∀ a0, FG g (kE a0)) : ∀ (fu : Nat) (x1 : Int32) (x2 : Int32), FG g (f_X8_product_b12 kE fu x1 x2) := by
  intro fu
  induction fu with
  | zero => intro _ _; exact fg_none
  | succ fu ih => intro x1 x2; rw [f_X8_product_b12]; exact fg_br (fg_rt) (fg_dI (fun v2 => fg_br (tg_X8_product_b43 _ _ _ _ hkE ih) (fg_dI (fun v4 => fg_br (tg_X8_product_b43 _ _ _ _ hkE ih) (fg_rt)))))
theorem tg_X8_product {g : Nat} (kE : Int32 → Sg → Option (Int32 × Sg)) (x1 : Int32) (hkE : ∀ a0, FG g (kE a0)) : FG g (f_X8_product kE x1) := by
  unfold f_X8_product
  exact fg_cl (tg_X8_part _ _ hkE) (fun r1 => fg_br (fg_rt) (tg_X8_product_b12 _ hkE _ _ _))
theorem tg_X8_sum_b88 {g : Nat} (kE : Int32 → Sg → Option (Int32 × Sg)) (k12 : Int32 → Int32 → Sg → Option (Int32 × Sg)) (x1 : Int32) (x2 : Int32) (xs0 : Int32) (qs1 : Nat) (hkE : ∀ a0, FG g (kE a0)) (hk12 : ∀ a0 a1, FG g (k12 a0 a1)) (eqs1 : qs1 = g + 3) : FG g (f_X8_sum_b88 kE k12 x1 x2 xs0 qs1) := by
  unfold f_X8_sum_b88
  exact fg_gd (fun _ => fg_cl (tg_X6_add _ _ (by omega)) (fun _ => hk12 _ _))
theorem tg_X8_sum_b43 {g : Nat} (kE : Int32 → Sg → Option (Int32 × Sg)) (k12 : Int32 → Int32 → Sg → Option (Int32 × Sg)) (x1 : Int32) (x2 : Int32) (hkE : ∀ a0, FG g (kE a0)) (hk12 : ∀ a0 a1, FG g (k12 a0 a1)) : FG g (f_X8_sum_b43 kE k12 x1 x2) := by
  unfold f_X8_sum_b43
  exact fg_dI (fun v1 => fg_cl (fg_read (fr_X5_next)) (fun _ => fg_cl (tg_X8_product _ _ hkE) (fun r2 => fg_br (fg_rt) (fg_dR (fun u4 hu4 => fg_gd (fun _ => fg_br (tg_X8_sum_b88 _ _ _ _ _ _ hkE hk12 (by omega)) (tg_X8_sum_b88 _ _ _ _ _ _ hkE hk12 (by omega))))))))
theorem tg_X8_sum_b12 {g : Nat} (kE : Int32 → Sg → Option (Int32 × Sg)) (hkE : ∀ a0, FG g (kE a0)) : ∀ (fu : Nat) (x1 : Int32) (x2 : Int32), FG g (f_X8_sum_b12 kE fu x1 x2) := by
  intro fu
  induction fu with
  | zero => intro _ _; exact fg_none
  | succ fu ih => intro x1 x2; rw [f_X8_sum_b12]; exact fg_br (fg_rt) (fg_dI (fun v2 => fg_br (tg_X8_sum_b43 _ _ _ _ hkE ih) (fg_dI (fun v4 => fg_br (tg_X8_sum_b43 _ _ _ _ hkE ih) (fg_rt)))))
theorem tg_X8_sum {g : Nat} (kE : Int32 → Sg → Option (Int32 × Sg)) (x1 : Int32) (hkE : ∀ a0, FG g (kE a0)) : FG g (f_X8_sum kE x1) := by
  unfold f_X8_sum
  exact fg_cl (tg_X8_product _ _ hkE) (fun r1 => fg_br (fg_rt) (tg_X8_sum_b12 _ hkE _ _ _))
theorem tg_X8_test_b69 {g : Nat} (kE : Int32 → Sg → Option (Int32 × Sg)) (xs0 : Int32) (qs1 : Nat) (hkE : ∀ a0, FG g (kE a0)) (eqs1 : qs1 = g + 3) : FG g (f_X8_test_b69 kE xs0 qs1) := by
  unfold f_X8_test_b69
  exact fg_gd (fun _ => fg_cl (tg_X6_add _ _ (by omega)) (fun _ => fg_rt))
theorem tg_X8_test_b32 {g : Nat} (kE : Int32 → Sg → Option (Int32 × Sg)) (x1 : Int32) (x2 : Int32) (hkE : ∀ a0, FG g (kE a0)) : FG g (f_X8_test_b32 kE x1 x2) := by
  unfold f_X8_test_b32
  exact fg_cl (fg_read (fr_X5_next)) (fun _ => fg_cl (tg_X8_sum _ _ hkE) (fun r1 => fg_br (fg_rt) (fg_dR (fun u3 hu3 => fg_gd (fun _ => fg_br (tg_X8_test_b69 _ _ _ hkE (by omega)) (tg_X8_test_b69 _ _ _ hkE (by omega)))))))
theorem tg_X8_test {g : Nat} (kE : Int32 → Sg → Option (Int32 × Sg)) (x1 : Int32) (hkE : ∀ a0, FG g (kE a0)) : FG g (f_X8_test kE x1) := by
  unfold f_X8_test
  exact fg_cl (tg_X8_sum _ _ hkE) (fun r1 => fg_br (fg_rt) (fg_dI (fun v3 => fg_br (tg_X8_test_b32 _ _ _ hkE) (fg_br (tg_X8_test_b32 _ _ _ hkE) (fg_rt)))))
theorem tg_X8_denied_b28 {g : Nat} (kE : Int32 → Sg → Option (Int32 × Sg)) (hkE : ∀ a0, FG g (kE a0)) : FG g (f_X8_denied_b28 kE) := by
  unfold f_X8_denied_b28
  exact fg_cl (tg_X8_fail _) (fun r1 => fg_gd (fun _ => fg_rt))
theorem tg_X8_denied_b62 {g : Nat} (kE : Int32 → Sg → Option (Int32 × Sg)) (hkE : ∀ a0, FG g (kE a0)) : ∀ (fu : Nat) (x2 : Int32) (x3 : Int32), FG g (f_X8_denied_b62 kE fu x2 x3) := by
  intro fu
  induction fu with
  | zero => intro _ _; exact fg_none
  | succ fu ih => intro x2 x3; rw [f_X8_denied_b62]; exact fg_br (fg_rt) (fg_dR (fun u2 hu2 => fg_gd (fun _ => fg_cl (tg_X6_add _ _ (by omega)) (fun _ => ih _ _))))
theorem tg_X8_denied_b50 {g : Nat} (kE : Int32 → Sg → Option (Int32 × Sg)) (x1 : Int32) (x2 : Int32) (hkE : ∀ a0, FG g (kE a0)) : FG g (f_X8_denied_b50 kE x1 x2) := by
  unfold f_X8_denied_b50
  exact fg_cl (tg_X8_test _ _ hkE) (fun r1 => fg_br (fg_rt) (tg_X8_denied_b62 _ hkE _ _ _))
theorem tg_X8_denied_b4 {g : Nat} (kE : Int32 → Sg → Option (Int32 × Sg)) (hkE : ∀ a0, FG g (kE a0)) : ∀ (fu : Nat) (x1 : Int32) (x2 : Int32) (x3 : Int32), FG g (f_X8_denied_b4 kE fu x1 x2 x3) := by
  intro fu
  induction fu with
  | zero => intro _ _ _; exact fg_none
  | succ fu ih => intro x1 x2 x3; rw [f_X8_denied_b4]; exact fg_br (tg_X8_denied_b50 _ _ _ hkE) (fg_cl (fg_none_ (fr_X5_isWord _)) (fun r2 => fg_br (tg_X8_denied_b50 _ _ _ hkE) (fg_br (tg_X8_denied_b28 _ hkE) (fg_cl (fg_read (fr_X5_next)) (fun _ => ih _ _ _)))))
theorem tg_X8_denied {g : Nat} (kE : Int32 → Sg → Option (Int32 × Sg)) (x1 : Int32) (hkE : ∀ a0, FG g (kE a0)) : FG g (f_X8_denied kE x1) := by
  unfold f_X8_denied
  exact tg_X8_denied_b4 _ hkE _ _ _ _
theorem tg_X8_both_b12 {g : Nat} (kE : Int32 → Sg → Option (Int32 × Sg)) (hkE : ∀ a0, FG g (kE a0)) : ∀ (fu : Nat) (x1 : Int32) (x2 : Int32), FG g (f_X8_both_b12 kE fu x1 x2) := by
  intro fu
  induction fu with
  | zero => intro _ _; exact fg_none
  | succ fu ih => intro x1 x2; rw [f_X8_both_b12]; exact fg_br (fg_rt) (fg_cl (fg_none_ (fr_X5_isWord _)) (fun r2 => fg_br (fg_rt) (fg_cl (fg_read (fr_X5_next)) (fun _ => fg_cl (tg_X8_denied _ _ hkE) (fun r4 => fg_br (fg_rt) (fg_dR (fun u6 hu6 => fg_gd (fun _ => fg_cl (tg_X6_add _ _ (by omega)) (fun _ => ih _ _)))))))))
theorem tg_X8_both {g : Nat} (kE : Int32 → Sg → Option (Int32 × Sg)) (x1 : Int32) (hkE : ∀ a0, FG g (kE a0)) : FG g (f_X8_both kE x1) := by
  unfold f_X8_both
  exact fg_cl (tg_X8_denied _ _ hkE) (fun r1 => fg_br (fg_rt) (tg_X8_both_b12 _ hkE _ _ _))
theorem tg_X8_eitherB_b19 {g : Nat} (kE : Int32 → Sg → Option (Int32 × Sg)) (xs0 : Int32) (hkE : ∀ a0, FG g (kE a0)) : FG g (f_X8_eitherB_b19 kE xs0) := by
  unfold f_X8_eitherB_b19
  exact fg_cl (tg_X8_fail _) (fun r1 => fg_gd (fun _ => fg_rt))
theorem tg_X8_eitherB_b35 {g : Nat} (kE : Int32 → Sg → Option (Int32 × Sg)) (hkE : ∀ a0, FG g (kE a0)) : ∀ (fu : Nat) (x1 : Int32) (x2 : Int32), FG g (f_X8_eitherB_b35 kE fu x1 x2) := by
  intro fu
  induction fu with
  | zero => intro _ _; exact fg_none
  | succ fu ih => intro x1 x2; rw [f_X8_eitherB_b35]; exact fg_br (fg_rt) (fg_cl (fg_none_ (fr_X5_isWord _)) (fun r2 => fg_br (fg_rt) (fg_cl (fg_read (fr_X5_next)) (fun _ => fg_cl (tg_X8_both _ _ hkE) (fun r4 => fg_br (fg_rt) (fg_dR (fun u6 hu6 => fg_gd (fun _ => fg_cl (tg_X6_add _ _ (by omega)) (fun _ => ih _ _)))))))))
theorem tg_X8_eitherB {g : Nat} (kE : Int32 → Sg → Option (Int32 × Sg)) (x1 : Int32) (hkE : ∀ a0, FG g (kE a0)) : FG g (f_X8_eitherB kE x1) := by
  unfold f_X8_eitherB
  exact fg_br (fg_cl (tg_X8_both _ _ hkE) (fun r2 => fg_br (fg_rt) (tg_X8_eitherB_b35 _ hkE _ _ _))) (fg_cl (fg_none_ (fr_X8_mayBeginPart)) (fun r4 => fg_br (tg_X8_eitherB_b19 _ _ hkE) (tg_X8_eitherB_b19 _ _ hkE)))
theorem tg_X8_either {g : Nat} : ∀ (fu : Nat) (x1 : Int32), FG g (f_X8_either fu x1) := by
  intro fu
  induction fu with
  | zero => intro x1; exact fg_none
  | succ fu ih => intro x1; exact tg_X8_eitherB _ _ ih
theorem tg_X8_tellEgg_b45 {g : Nat} : FG g (f_X8_tellEgg_b45) := by
  unfold f_X8_tellEgg_b45
  exact fg_cl (tg_X8_fail _) (fun r1 => fg_gd (fun _ => fg_rt))
theorem tg_X8_tellEgg_b13 {g : Nat} : ∀ (fu : Nat) (x1 : Int32), FG g (f_X8_tellEgg_b13 fu x1) := by
  intro fu
  induction fu with
  | zero => intro _; exact fg_none
  | succ fu ih => intro x1; rw [f_X8_tellEgg_b13]; exact fg_br (fg_rt) (fg_dI (fun v2 => fg_br (fg_dR (fun u4 hu4 => fg_gd (fun _ => fg_dI (fun v5 => fg_br (fg_cl (tg_X8_number _ _) (fun r7 => fg_br (fg_rt) (fg_dR (fun u9 hu9 => fg_gd (fun _ => fg_dI (fun v10 => fg_cl (tg_X2_addPush _ _ (by omega)) (fun _ => ih _))))))) (tg_X8_tellEgg_b45))))) (fg_rt)))
theorem tg_X8_tellEgg {g : Nat} : FG g (f_X8_tellEgg) := by
  unfold f_X8_tellEgg
  exact fg_cl (tg_X8_passOnce _) (fun r1 => fg_br (fg_rt) (tg_X8_tellEgg_b13 _ _))
theorem tg_X8_tellRule {g : Nat} : FG g (f_X8_tellRule) := by
  unfold f_X8_tellRule
  exact fg_dR (fun u1 hu1 => fg_gd (fun _ => fg_dI (fun v2 => fg_br (fg_cl (fg_read (fr_X5_next)) (fun _ => fg_cl (tg_X8_either _ _) (fun r4 => fg_br (fg_rt) (fg_dR (fun u6 hu6 => fg_gd (fun _ => fg_cl (tg_X6_endRule _ (by omega)) (fun _ => fg_rt))))))) (fg_cl (tg_X8_fail _) (fun r7 => fg_gd (fun _ => fg_rt))))))
theorem tg_X8_tellLine {g : Nat} : FG g (f_X8_tellLine) := by
  unfold f_X8_tellLine
  exact fg_cl (fg_none_ (fr_X5_isWord _)) (fun r1 => fg_br (fg_cl (fg_none_ (fr_X5_isWord _)) (fun r3 => fg_br (fg_cl (fg_none_ (fr_X5_isWord _)) (fun r5 => fg_br (fg_cl (fg_none_ (fr_X5_isWord _)) (fun r7 => fg_br (fg_cl (fg_none_ (fr_X5_isWord _)) (fun r9 => fg_br (fg_cl (fg_none_ (fr_X5_isWord _)) (fun r11 => fg_br (fg_cl (fg_none_ (fr_X5_isWord _)) (fun r13 => fg_br (fg_cl (tg_X8_fail _) (fun r15 => fg_gd (fun _ => fg_rt))) (fg_cl (tg_X8_tellEgg) (fun r16 => fg_gd (fun _ => fg_rt))))) (fg_cl (tg_X8_tellRule) (fun r17 => fg_gd (fun _ => fg_rt))))) (fg_cl (tg_X8_tellJumper) (fun r18 => fg_gd (fun _ => fg_rt))))) (fg_cl (tg_X8_tellSlips) (fun r19 => fg_gd (fun _ => fg_rt))))) (fg_cl (tg_X8_tellNear) (fun r20 => fg_gd (fun _ => fg_rt))))) (fg_cl (tg_X8_tellBroken) (fun r21 => fg_gd (fun _ => fg_rt))))) (fg_cl (tg_X8_tellMat) (fun r22 => fg_gd (fun _ => fg_rt))))
theorem tg_X8_tell_b23 {g : Nat} : ∀ (fu : Nat) (x3 : Int32), FG g (f_X8_tell_b23 fu x3) := by
  intro fu
  induction fu with
  | zero => intro _; exact fg_none
  | succ fu ih => intro x3; rw [f_X8_tell_b23]; exact fg_br (fg_rt) (fg_dI (fun v2 => fg_br (fg_rt) (fg_cl (tg_X8_tellLine) (fun r4 => fg_br (fg_dI (fun v6 => fg_rt)) (fg_cl (tg_X8_pass _) (fun r7 => fg_br (fg_dI (fun v9 => fg_rt)) (ih _)))))))
theorem tg_X8_tell {g : Nat} (q1 : Nat) (x2 : Int32) : FG g (f_X8_tell q1 x2) := by
  unfold f_X8_tell
  exact fg_gd (fun _ => fg_dR (fun u1 hu1 => fg_gd (fun _ => fg_cl (tg_X2_clear _ (by omega)) (fun _ => fg_pI rfl (fg_cl (fg_read (fr_X5_begin _ _)) (fun _ => tg_X8_tell_b23 _ _))))))
