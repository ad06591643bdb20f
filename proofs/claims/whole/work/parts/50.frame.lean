-- ===== frames: what a denotation may write =====
def off (S : Nat → Nat → Bool) (σ τ : Sg) : Prop := ∀ i k, S i k = false → τ.1 i k = σ.1 i k ∧ τ.2.1 i k = σ.2.1 i k ∧ τ.2.2 i k = σ.2.2 i k
theorem off_rfl {S : Nat → Nat → Bool} {σ : Sg} : off S σ σ := fun _ _ _ => ⟨rfl, rfl, rfl⟩
theorem off_trans {S : Nat → Nat → Bool} {σ τ υ : Sg} (h : off S σ τ) (g : off S τ υ) : off S σ υ := fun i k e => ⟨(g i k e).1.trans (h i k e).1, (g i k e).2.1.trans (h i k e).2.1, (g i k e).2.2.trans (h i k e).2.2⟩
theorem off_mono {S S' : Nat → Nat → Bool} {σ τ : Sg} (hs : ∀ i k, S i k = true → S' i k = true) (h : off S σ τ) : off S' σ τ := fun i k e => h i k (by
  cases q : S i k with
  | false => rfl
  | true => rw [hs i k q] at e; cases e)
def Fr {α : Type} (S : Nat → Nat → Bool) (d : Sg → Option (α × Sg)) : Prop := ∀ σ r, d σ = some r → off S σ r.2
section FrRules
variable {α β : Type} {S : Nat → Nat → Bool} {i k : Nat}
theorem sI_gt (σ : Sg) (i k : Nat) (v : Int32) (a b : Nat) : (sI σ i k v).1 a b = if a = i ∧ b = k then v else σ.1 a b := by
  show (if a = i then upd (σ.1 i) k v else σ.1 a) b = _
  by_cases h : a = i
  · subst h; simp only [upd, true_and, if_true]
  · simp only [h, false_and, if_false]
theorem sL_gt (σ : Sg) (i k : Nat) (v : Int64) (a b : Nat) : (sL σ i k v).2.1 a b = if a = i ∧ b = k then v else σ.2.1 a b := by
  show (if a = i then vp_updL (σ.2.1 i) k v else σ.2.1 a) b = _
  by_cases h : a = i
  · subst h; simp only [vp_updL, true_and, if_true]
  · simp only [h, false_and, if_false]
theorem sR_gt (σ : Sg) (i k v : Nat) (a b : Nat) : (sR σ i k v).2.2 a b = if a = i ∧ b = k then v else σ.2.2 a b := by
  show (if a = i then va_up (σ.2.2 i) k v else σ.2.2 a) b = _
  by_cases h : a = i
  · subst h; simp only [va_up, true_and, if_true]
  · simp only [h, false_and, if_false]
theorem rI_gt (σ : Sg) (i : Nat) (f : Nat → Int32) (a b : Nat) : (rI σ i f).1 a b = if a = i then f b else σ.1 a b := by
  show (if a = i then f else σ.1 a) b = _
  by_cases h : a = i
  · simp only [h, if_true]
  · simp only [h, if_false]
theorem rL_gt (σ : Sg) (i : Nat) (f : Nat → Int64) (a b : Nat) : (rL σ i f).2.1 a b = if a = i then f b else σ.2.1 a b := by
  show (if a = i then f else σ.2.1 a) b = _
  by_cases h : a = i
  · simp only [h, if_true]
  · simp only [h, if_false]
theorem off_sI {σ : Sg} {v : Int32} (h : S i k = true) : off S σ (sI σ i k v) := by
  intro a b e
  refine ⟨?_, rfl, rfl⟩
  rw [sI_gt, if_neg]
  rintro ⟨rfl, rfl⟩
  rw [h] at e; cases e
theorem off_sL {σ : Sg} {v : Int64} (h : S i k = true) : off S σ (sL σ i k v) := by
  intro a b e
  refine ⟨rfl, ?_, rfl⟩
  rw [sL_gt, if_neg]
  rintro ⟨rfl, rfl⟩
  rw [h] at e; cases e
theorem off_sR {σ : Sg} {v : Nat} (h : S i k = true) : off S σ (sR σ i k v) := by
  intro a b e
  refine ⟨rfl, rfl, ?_⟩
  rw [sR_gt, if_neg]
  rintro ⟨rfl, rfl⟩
  rw [h] at e; cases e
theorem off_rI {σ : Sg} {f : Nat → Int32} (h : ∀ k, S i k = true) : off S σ (rI σ i f) := by
  intro a b e
  refine ⟨?_, rfl, rfl⟩
  rw [rI_gt, if_neg]
  rintro rfl
  rw [h] at e; cases e
theorem off_rL {σ : Sg} {f : Nat → Int64} (h : ∀ k, S i k = true) : off S σ (rL σ i f) := by
  intro a b e
  refine ⟨rfl, ?_, rfl⟩
  rw [rL_gt, if_neg]
  rintro rfl
  rw [h] at e; cases e
theorem fr_rt {v : α} : Fr S (rt v) := fun σ r h => by cases h; exact off_rfl
theorem fr_rtX {v : α} : Fr S (rtX v) := fun σ r h => by cases h; exact off_rfl
theorem fr_none : Fr (α := α) S (fun _ => none) := fun σ r h => by cases h
theorem fr_inr {b : Bool} : Fr (α := α ⊕ Bool) S (fun σ => some (.inr b, σ)) := fun σ r h => by cases h; exact off_rfl
theorem fr_dI {d : Int32 → Sg → Option (α × Sg)} (h : ∀ v, Fr S (d v)) : Fr S (dI i k d) := fun σ r e => h _ σ r e
theorem fr_dL {d : Int64 → Sg → Option (α × Sg)} (h : ∀ v, Fr S (d v)) : Fr S (dL i k d) := fun σ r e => h _ σ r e
theorem fr_dR {d : Nat → Sg → Option (α × Sg)} (h : ∀ v, Fr S (d v)) : Fr S (dR i k d) := fun σ r e => h _ σ r e
theorem fr_pI {v : Int32} {d : Sg → Option (α × Sg)} (hi : S i k = true) (h : Fr S d) : Fr S (pI i k v d) := fun σ r e => off_trans (off_sI hi) (h _ r e)
theorem fr_pL {v : Int64} {d : Sg → Option (α × Sg)} (hi : S i k = true) (h : Fr S d) : Fr S (pL i k v d) := fun σ r e => off_trans (off_sL hi) (h _ r e)
theorem fr_pR {v : Nat} {d : Sg → Option (α × Sg)} (hi : S i k = true) (h : Fr S d) : Fr S (pR i k v d) := fun σ r e => off_trans (off_sR hi) (h _ r e)
theorem fr_wI {f : Sg → Nat → Int32} {d : Sg → Option (α × Sg)} (hi : ∀ k, S i k = true) (h : Fr S d) : Fr S (wI i f d) := fun σ r e => off_trans (off_rI hi) (h _ r e)
theorem fr_wL {f : Sg → Nat → Int64} {d : Sg → Option (α × Sg)} (hi : ∀ k, S i k = true) (h : Fr S d) : Fr S (wL i f d) := fun σ r e => off_trans (off_rL hi) (h _ r e)
theorem fr_gd {c : Prop} [Decidable c] {d : Sg → Option (α × Sg)} (h : c → Fr S d) : Fr S (gd c d) := fun σ r e => by
  by_cases q : c
  · rw [gd, if_pos q] at e; exact h q σ r e
  · rw [gd, if_neg q] at e; cases e
theorem fr_br {c : Prop} [Decidable c] {d1 d2 : Sg → Option (α × Sg)} (h1 : Fr S d1) (h2 : Fr S d2) : Fr S (br c d1 d2) := fun σ r e => by
  by_cases q : c
  · rw [br, if_pos q] at e; exact h1 σ r e
  · rw [br, if_neg q] at e; exact h2 σ r e
theorem fr_lt {v : β} {d : β → Sg → Option (α × Sg)} (h : ∀ v, Fr S (d v)) : Fr S (lt v d) := h v
theorem fr_cl {f : Sg → Option (β × Sg)} {d : β → Sg → Option (α × Sg)} (hf : Fr S f) (h : ∀ v, Fr S (d v)) : Fr S (cl f d) := fun σ r e => by
  cases q : f σ with
  | none => rw [cl, q] at e; cases e
  | some r0 => rw [cl, q] at e; exact off_trans (hf σ r0 q) (h _ _ r e)
theorem fr_clX {f : Sg → Option ((β ⊕ Bool) × Sg)} {d : β → Sg → Option ((α ⊕ Bool) × Sg)} (hf : Fr S f) (h : ∀ v, Fr S (d v)) : Fr S (clX f d) := fun σ r e => by
  cases q : f σ with
  | none => rw [clX, q] at e; cases e
  | some r0 =>
    rw [clX, q] at e
    obtain ⟨a, b⟩ := r0
    cases a with
    | inl v => exact off_trans (hf σ _ q) (h _ _ r e)
    | inr v => cases e; exact hf σ _ q
theorem fr_mono {S' : Nat → Nat → Bool} {d : Sg → Option (α × Sg)} (hs : ∀ i k, S i k = true → S' i k = true) (h : Fr S d) : Fr S' d := fun σ r e => off_mono hs (h σ r e)
end FrRules
def gs_none (i k : Nat) : Bool := false
def gs_egg (i k : Nat) : Bool := i == 33 || i == 34
def gs_wan (i k : Nat) : Bool := Nat.ble 30 i && Nat.ble i 32
def gs_read (i k : Nat) : Bool := i == 15
def gs_play (i k : Nat) : Bool := (Nat.ble 17 i && Nat.ble i 29) || (i == 41 || (i == 48 || i == 55))
def gs_sc (i k : Nat) : Bool := Nat.ble 2 i && Nat.ble i 13
def gs_tell (i k : Nat) : Bool := (Nat.ble 14 i && Nat.ble i 15) || (Nat.ble 35 i && Nat.ble i 55)
def gs_tape (i k : Nat) : Bool := (i == 0 && k == 1) || i == 1
def gs_cls (i k : Nat) : Bool := Nat.ble i 55
def gs_mth (i k : Nat) : Bool := i == 56 && k == 0
def gs_mtok (i k : Nat) : Bool := i == 56 && (Nat.ble 20 k && Nat.ble k 26)
def gs_mread (i k : Nat) : Bool := (i == 56 && (Nat.ble 16 k && Nat.ble k 38)) || (Nat.ble 64 i && Nat.ble i 70)
def gs_mrunF (i k : Nat) : Bool := (i == 56 && (Nat.ble 64 k && Nat.ble k 73)) || ((Nat.ble 72 i && Nat.ble i 83) || i == 85)
def gs_mrun (i k : Nat) : Bool := (i == 56 && (Nat.ble 64 k && Nat.ble k 73)) || (Nat.ble 72 i && Nat.ble i 85)
def gs_mrunT (i k : Nat) : Bool := (i == 56 && (k == 0 || (Nat.ble 64 k && Nat.ble k 73))) || (Nat.ble 72 i && Nat.ble i 85)
def gs_mrunS (i k : Nat) : Bool := (i == 56 && (k == 0 || (Nat.ble 64 k && Nat.ble k 73))) || (Nat.ble 72 i && Nat.ble i 87)
def gs_mwan (i k : Nat) : Bool := (i == 56 && (Nat.ble 78 k && Nat.ble k 79)) || (Nat.ble 88 i && Nat.ble i 89)
def gs_mwanT (i k : Nat) : Bool := (i == 56 && (k == 0 || (Nat.ble 78 k && Nat.ble k 79))) || (Nat.ble 88 i && Nat.ble i 89)
def gs_meggT (i k : Nat) : Bool := (i == 56 && k == 0) || i == 91
def gs_mod (i k : Nat) : Bool := Nat.ble 56 i && Nat.ble i 94
theorem iFk0_play {q : Nat} (h : isFk q = true) {k : Nat} : gs_play (q) k = true := by
  rcases or4 h with rfl | rfl | rfl | rfl <;> rfl
theorem iFl0_play {q : Nat} (h : isFl q = true) {k : Nat} : gs_play (q) k = true := by
  rcases or4 h with rfl | rfl | rfl | rfl <;> rfl
theorem iFl1_play {q : Nat} (h : isFl q = true) {k : Nat} : gs_play (q + 1) k = true := by
  rcases or4 h with rfl | rfl | rfl | rfl <;> rfl
theorem iGd0_tell {q : Nat} (h : isGd q = true) {k : Nat} : gs_tell (q) k = true := by
  rcases or3 h with rfl | rfl | rfl <;> rfl
theorem iGd1_tell {q : Nat} (h : isGd q = true) {k : Nat} : gs_tell (q + 1) k = true := by
  rcases or3 h with rfl | rfl | rfl <;> rfl
theorem iGd2_tell {q : Nat} (h : isGd q = true) {k : Nat} : gs_tell (q + 2) k = true := by
  rcases or3 h with rfl | rfl | rfl <;> rfl
theorem iRu0_tell {q : Nat} (h : isRu q = true) {k : Nat} : gs_tell (q) k = true := by
  rcases or3 h with rfl | rfl | rfl <;> rfl
theorem iRu1_tell {q : Nat} (h : isRu q = true) {k : Nat} : gs_tell (q + 1) k = true := by
  rcases or3 h with rfl | rfl | rfl <;> rfl
theorem iRu2_tell {q : Nat} (h : isRu q = true) {k : Nat} : gs_tell (q + 2) k = true := by
  rcases or3 h with rfl | rfl | rfl <;> rfl
theorem iRu3_play {q : Nat} (h : isRu q = true) {k : Nat} : gs_play (q + 3) k = true := by
  rcases or3 h with rfl | rfl | rfl <;> rfl
theorem iSc0_sc {q : Nat} (h : isSc q = true) {k : Nat} : gs_sc (q) k = true := by
  rcases or2 h with rfl | rfl <;> rfl
theorem iSc1_sc {q : Nat} (h : isSc q = true) {k : Nat} : gs_sc (q + 1) k = true := by
  rcases or2 h with rfl | rfl <;> rfl
theorem iSc2_sc {q : Nat} (h : isSc q = true) {k : Nat} : gs_sc (q + 2) k = true := by
  rcases or2 h with rfl | rfl <;> rfl
theorem iSc3_sc {q : Nat} (h : isSc q = true) {k : Nat} : gs_sc (q + 3) k = true := by
  rcases or2 h with rfl | rfl <;> rfl
theorem iSc4_sc {q : Nat} (h : isSc q = true) {k : Nat} : gs_sc (q + 4) k = true := by
  rcases or2 h with rfl | rfl <;> rfl
theorem iSc5_sc {q : Nat} (h : isSc q = true) {k : Nat} : gs_sc (q + 5) k = true := by
  rcases or2 h with rfl | rfl <;> rfl
theorem su_mread_mod : ∀ i k, gs_mread i k = true → gs_mod i k = true := by
  intro i k h
  simp only [gs_mread, gs_mod, Bool.and_eq_true, Bool.or_eq_true, Nat.ble_eq, beq_iff_eq, Bool.false_eq_true] at h ⊢ <;> omega
theorem su_mrun_mod : ∀ i k, gs_mrun i k = true → gs_mod i k = true := by
  intro i k h
  simp only [gs_mrun, gs_mod, Bool.and_eq_true, Bool.or_eq_true, Nat.ble_eq, beq_iff_eq, Bool.false_eq_true] at h ⊢ <;> omega
theorem su_mrun_mrunS : ∀ i k, gs_mrun i k = true → gs_mrunS i k = true := by
  intro i k h
  simp only [gs_mrun, gs_mrunS, Bool.and_eq_true, Bool.or_eq_true, Nat.ble_eq, beq_iff_eq, Bool.false_eq_true] at h ⊢ <;> omega
theorem su_mrun_mrunT : ∀ i k, gs_mrun i k = true → gs_mrunT i k = true := by
  intro i k h
  simp only [gs_mrun, gs_mrunT, Bool.and_eq_true, Bool.or_eq_true, Nat.ble_eq, beq_iff_eq, Bool.false_eq_true] at h ⊢ <;> omega
theorem su_mrunF_mrun : ∀ i k, gs_mrunF i k = true → gs_mrun i k = true := by
  intro i k h
  simp only [gs_mrunF, gs_mrun, Bool.and_eq_true, Bool.or_eq_true, Nat.ble_eq, beq_iff_eq, Bool.false_eq_true] at h ⊢ <;> omega
theorem su_mth_meggT : ∀ i k, gs_mth i k = true → gs_meggT i k = true := by
  intro i k h
  simp only [gs_mth, gs_meggT, Bool.and_eq_true, Bool.or_eq_true, Nat.ble_eq, beq_iff_eq, Bool.false_eq_true] at h ⊢ <;> omega
theorem su_mth_mod : ∀ i k, gs_mth i k = true → gs_mod i k = true := by
  intro i k h
  simp only [gs_mth, gs_mod, Bool.and_eq_true, Bool.or_eq_true, Nat.ble_eq, beq_iff_eq, Bool.false_eq_true] at h ⊢ <;> omega
theorem su_mth_mrunS : ∀ i k, gs_mth i k = true → gs_mrunS i k = true := by
  intro i k h
  simp only [gs_mth, gs_mrunS, Bool.and_eq_true, Bool.or_eq_true, Nat.ble_eq, beq_iff_eq, Bool.false_eq_true] at h ⊢ <;> omega
theorem su_mth_mrunT : ∀ i k, gs_mth i k = true → gs_mrunT i k = true := by
  intro i k h
  simp only [gs_mth, gs_mrunT, Bool.and_eq_true, Bool.or_eq_true, Nat.ble_eq, beq_iff_eq, Bool.false_eq_true] at h ⊢ <;> omega
theorem su_mth_mwanT : ∀ i k, gs_mth i k = true → gs_mwanT i k = true := by
  intro i k h
  simp only [gs_mth, gs_mwanT, Bool.and_eq_true, Bool.or_eq_true, Nat.ble_eq, beq_iff_eq, Bool.false_eq_true] at h ⊢ <;> omega
theorem su_mtok_mod : ∀ i k, gs_mtok i k = true → gs_mod i k = true := by
  intro i k h
  simp only [gs_mtok, gs_mod, Bool.and_eq_true, Bool.or_eq_true, Nat.ble_eq, beq_iff_eq, Bool.false_eq_true] at h ⊢ <;> omega
theorem su_mtok_mread : ∀ i k, gs_mtok i k = true → gs_mread i k = true := by
  intro i k h
  simp only [gs_mtok, gs_mread, Bool.and_eq_true, Bool.or_eq_true, Nat.ble_eq, beq_iff_eq, Bool.false_eq_true] at h ⊢ <;> omega
theorem su_mwan_mwanT : ∀ i k, gs_mwan i k = true → gs_mwanT i k = true := by
  intro i k h
  simp only [gs_mwan, gs_mwanT, Bool.and_eq_true, Bool.or_eq_true, Nat.ble_eq, beq_iff_eq, Bool.false_eq_true] at h ⊢ <;> omega
theorem su_none_cls : ∀ i k, gs_none i k = true → gs_cls i k = true := by
  intro i k h
  simp only [gs_none, gs_cls, Bool.and_eq_true, Bool.or_eq_true, Nat.ble_eq, beq_iff_eq, Bool.false_eq_true] at h ⊢ <;> omega
theorem su_none_egg : ∀ i k, gs_none i k = true → gs_egg i k = true := by
  intro i k h
  simp only [gs_none, gs_egg, Bool.and_eq_true, Bool.or_eq_true, Nat.ble_eq, beq_iff_eq, Bool.false_eq_true] at h ⊢ <;> omega
theorem su_none_meggT : ∀ i k, gs_none i k = true → gs_meggT i k = true := by
  intro i k h
  simp only [gs_none, gs_meggT, Bool.and_eq_true, Bool.or_eq_true, Nat.ble_eq, beq_iff_eq, Bool.false_eq_true] at h ⊢ <;> omega
theorem su_none_mod : ∀ i k, gs_none i k = true → gs_mod i k = true := by
  intro i k h
  simp only [gs_none, gs_mod, Bool.and_eq_true, Bool.or_eq_true, Nat.ble_eq, beq_iff_eq, Bool.false_eq_true] at h ⊢ <;> omega
theorem su_none_mread : ∀ i k, gs_none i k = true → gs_mread i k = true := by
  intro i k h
  simp only [gs_none, gs_mread, Bool.and_eq_true, Bool.or_eq_true, Nat.ble_eq, beq_iff_eq, Bool.false_eq_true] at h ⊢ <;> omega
theorem su_none_mrun : ∀ i k, gs_none i k = true → gs_mrun i k = true := by
  intro i k h
  simp only [gs_none, gs_mrun, Bool.and_eq_true, Bool.or_eq_true, Nat.ble_eq, beq_iff_eq, Bool.false_eq_true] at h ⊢ <;> omega
theorem su_none_mrunF : ∀ i k, gs_none i k = true → gs_mrunF i k = true := by
  intro i k h
  simp only [gs_none, gs_mrunF, Bool.and_eq_true, Bool.or_eq_true, Nat.ble_eq, beq_iff_eq, Bool.false_eq_true] at h ⊢ <;> omega
theorem su_none_mrunS : ∀ i k, gs_none i k = true → gs_mrunS i k = true := by
  intro i k h
  simp only [gs_none, gs_mrunS, Bool.and_eq_true, Bool.or_eq_true, Nat.ble_eq, beq_iff_eq, Bool.false_eq_true] at h ⊢ <;> omega
theorem su_none_mrunT : ∀ i k, gs_none i k = true → gs_mrunT i k = true := by
  intro i k h
  simp only [gs_none, gs_mrunT, Bool.and_eq_true, Bool.or_eq_true, Nat.ble_eq, beq_iff_eq, Bool.false_eq_true] at h ⊢ <;> omega
theorem su_none_mth : ∀ i k, gs_none i k = true → gs_mth i k = true := by
  intro i k h
  simp only [gs_none, gs_mth, Bool.and_eq_true, Bool.or_eq_true, Nat.ble_eq, beq_iff_eq, Bool.false_eq_true] at h ⊢ <;> omega
theorem su_none_mtok : ∀ i k, gs_none i k = true → gs_mtok i k = true := by
  intro i k h
  simp only [gs_none, gs_mtok, Bool.and_eq_true, Bool.or_eq_true, Nat.ble_eq, beq_iff_eq, Bool.false_eq_true] at h ⊢ <;> omega
theorem su_none_mwan : ∀ i k, gs_none i k = true → gs_mwan i k = true := by
  intro i k h
  simp only [gs_none, gs_mwan, Bool.and_eq_true, Bool.or_eq_true, Nat.ble_eq, beq_iff_eq, Bool.false_eq_true] at h ⊢ <;> omega
theorem su_none_mwanT : ∀ i k, gs_none i k = true → gs_mwanT i k = true := by
  intro i k h
  simp only [gs_none, gs_mwanT, Bool.and_eq_true, Bool.or_eq_true, Nat.ble_eq, beq_iff_eq, Bool.false_eq_true] at h ⊢ <;> omega
theorem su_none_play : ∀ i k, gs_none i k = true → gs_play i k = true := by
  intro i k h
  simp only [gs_none, gs_play, Bool.and_eq_true, Bool.or_eq_true, Nat.ble_eq, beq_iff_eq, Bool.false_eq_true] at h ⊢ <;> omega
theorem su_none_read : ∀ i k, gs_none i k = true → gs_read i k = true := by
  intro i k h
  simp only [gs_none, gs_read, Bool.and_eq_true, Bool.or_eq_true, Nat.ble_eq, beq_iff_eq, Bool.false_eq_true] at h ⊢ <;> omega
theorem su_none_tell : ∀ i k, gs_none i k = true → gs_tell i k = true := by
  intro i k h
  simp only [gs_none, gs_tell, Bool.and_eq_true, Bool.or_eq_true, Nat.ble_eq, beq_iff_eq, Bool.false_eq_true] at h ⊢ <;> omega
theorem su_none_wan : ∀ i k, gs_none i k = true → gs_wan i k = true := by
  intro i k h
  simp only [gs_none, gs_wan, Bool.and_eq_true, Bool.or_eq_true, Nat.ble_eq, beq_iff_eq, Bool.false_eq_true] at h ⊢ <;> omega
theorem su_read_tell : ∀ i k, gs_read i k = true → gs_tell i k = true := by
  intro i k h
  simp only [gs_read, gs_tell, Bool.and_eq_true, Bool.or_eq_true, Nat.ble_eq, beq_iff_eq, Bool.false_eq_true] at h ⊢ <;> omega
theorem su_sc_cls : ∀ i k, gs_sc i k = true → gs_cls i k = true := by
  intro i k h
  simp only [gs_sc, gs_cls, Bool.and_eq_true, Bool.or_eq_true, Nat.ble_eq, beq_iff_eq, Bool.false_eq_true] at h ⊢ <;> omega
theorem su_tell_cls : ∀ i k, gs_tell i k = true → gs_cls i k = true := by
  intro i k h
  simp only [gs_tell, gs_cls, Bool.and_eq_true, Bool.or_eq_true, Nat.ble_eq, beq_iff_eq, Bool.false_eq_true] at h ⊢ <;> omega
theorem fr_X10_need (x : Int32) : Fr gs_none (f_X10_need x) := by
  unfold f_X10_need
  exact fr_br fr_inr fr_rtX
theorem fr_X10_demand (x : Int32) : Fr gs_none (f_X10_demand x) := by
  unfold f_X10_demand
  exact fr_br fr_inr fr_rtX
theorem fr_Slen (q : Nat) : Fr gs_none (f_Slen q) := by
  unfold f_Slen
  exact fr_gd (fun g1 => fr_rt)
theorem fr_SchAt (q : Nat) (x : Int32) : Fr gs_none (f_SchAt q x) := by
  unfold f_SchAt
  exact fr_gd (fun g1 => fr_gd (fun g2 => fr_rt))
theorem fr_Sidx (q : Nat) (x : Int32) : Fr gs_none (f_Sidx q x) := by
  unfold f_Sidx
  exact fr_gd (fun g1 => fr_rt)
theorem fr_X0_sort_b65 (k2 : Nat → Int32 → Int32 → Sg → Option (Unit × Sg)) (q1 : Nat) (x2 : Int32) (x3 : Int32) (x4 : Int32) (x5 : Int32) (hk2 : ∀ a0 a1 a2, Fr gs_egg (k2 a0 a1 a2)) : Fr gs_egg (f_X0_sort_b65 k2 q1 x2 x3 x4 x5) := by
  unfold f_X0_sort_b65
  exact fr_gd (fun g1 => fr_gd (fun g2 => fr_pI (rfl) (hk2 _ _ _)))
theorem fr_X0_sort_b24 (k2 : Nat → Int32 → Int32 → Sg → Option (Unit × Sg)) (hk2 : ∀ a0 a1 a2, Fr gs_egg (k2 a0 a1 a2)) : ∀ (fu : Nat) (q1 : Nat) (x2 : Int32) (x3 : Int32) (x4 : Int32) (x5 : Int32), Fr gs_egg (f_X0_sort_b24 k2 fu q1 x2 x3 x4 x5) := by
  intro fu
  induction fu with
  | zero => intro _ _ _ _ _; exact fr_none
  | succ fu ih => intro q1 x2 x3 x4 x5; rw [f_X0_sort_b24]; exact fr_gd (fun g1 => fr_br (fr_X0_sort_b65 _ _ _ _ _ _ hk2) (fr_gd (fun g2 => fr_dI (fun v2 => fr_br (fr_X0_sort_b65 _ _ _ _ _ _ hk2) (fr_gd (fun g3 => fr_dI (fun v4 => fr_gd (fun g4 => fr_pI (rfl) (ih _ _ _ _ _)))))))))
theorem fr_X0_sort_b2 : ∀ (fu : Nat) (q1 : Nat) (x2 : Int32) (x3 : Int32), Fr gs_egg (f_X0_sort_b2 fu q1 x2 x3) := by
  intro fu
  induction fu with
  | zero => intro _ _ _; exact fr_none
  | succ fu ih => intro q1 x2 x3; rw [f_X0_sort_b2]; exact fr_gd (fun g1 => fr_br (fr_rt) (fr_br (fr_rt) (fr_gd (fun g2 => fr_dI (fun v3 => fr_X0_sort_b24 _ ih _ _ _ _ _ _)))))
theorem fr_X0_sort (q1 : Nat) (x2 : Int32) : Fr gs_egg (f_X0_sort q1 x2) := by
  unfold f_X0_sort
  exact fr_gd (fun g1 => fr_X0_sort_b2 _ _ _ _)
theorem fr_X0_open_b149 (x3 : Int64) (x5 : Int64) : Fr gs_egg (f_X0_open_b149 x3 x5) := by
  unfold f_X0_open_b149
  exact fr_dI (fun v1 => fr_pL (rfl) (fr_pL (rfl) (fr_rt)))
theorem fr_X0_open_b77 : ∀ (fu : Nat) (x2 : Int32) (x3 : Int64) (x5 : Int64) (x7 : Int32), Fr gs_egg (f_X0_open_b77 fu x2 x3 x5 x7) := by
  intro fu
  induction fu with
  | zero => intro _ _ _ _; exact fr_none
  | succ fu ih => intro x2 x3 x5 x7; rw [f_X0_open_b77]; exact fr_br (fr_X0_open_b149 _ _) (fr_gd (fun g1 => fr_dI (fun v2 => fr_dI (fun v3 => fr_br (fr_X0_open_b149 _ _) (fr_gd (fun g2 => fr_dI (fun v5 => fr_lt (fun w6 => fr_gd (fun g3 => fr_dI (fun v7 => fr_lt (fun w8 => fr_dI (fun v9 => fr_pI (rfl) (ih _ _ _ _)))))))))))))
theorem fr_X0_open (q1 : Nat) : Fr gs_egg (f_X0_open q1) := by
  unfold f_X0_open
  exact fr_gd (fun g1 => fr_pL (rfl) (fr_pL (rfl) (fr_pI (rfl) (fr_dI (fun v1 => fr_lt (fun w2 => fr_br (fr_cl (fr_X0_sort _ _) (fun _ => fr_dI (fun v4 => fr_dI (fun v5 => fr_lt (fun w6 => fr_dI (fun v7 => fr_dI (fun v8 => fr_lt (fun w9 => fr_pI (rfl) (fr_X0_open_b77 _ _ _ _ _))))))))) (fr_rt)))))))
theorem fr_X7_told (q0 : Nat) (x1 : Int32) (x2 : Int32) : Fr gs_none (f_X7_told q0 x1 x2) := by
  unfold f_X7_told
  exact fr_gd (fun g1 => fr_br (fr_rt) (fr_br (fr_rt) (fr_gd (fun g2 => fr_dI (fun v3 => fr_rt)))))
theorem fr_X1_startIn (q0 : Nat) (x1 : Int32) : Fr gs_play (f_X1_startIn q0 x1) := by
  unfold f_X1_startIn
  exact fr_gd (fun g1 => fr_pI (iFl0_play g1) (fr_rt))
theorem fr_X1_dropFrom (q0 : Nat) (x1 : Int32) : Fr gs_play (f_X1_dropFrom q0 x1) := by
  unfold f_X1_dropFrom
  exact fr_gd (fun g1 => fr_pI (iFl0_play g1) (fr_pI (iFl0_play g1) (fr_rt)))
theorem fr_J7_fill_53178_b5 : ∀ (fu : Nat) (q0 : Nat) (x1 : Int32) (x2 : Int32) (x3 : Int32), Fr gs_play (f_J7_fill_53178_b5 fu q0 x1 x2 x3) := by
  intro fu
  induction fu with
  | zero => intro _ _ _ _; exact fr_none
  | succ fu ih => intro q0 x1 x2 x3; rw [f_J7_fill_53178_b5]; exact fr_gd (fun g1 => fr_br (fr_rt) (fr_gd (fun g2 => fr_pI (iFk0_play g1) (ih _ _ _ _))))
theorem fr_J7_fill_53178 (q0 : Nat) (x1 : Int32) : Fr gs_play (f_J7_fill_53178 q0 x1) := by
  unfold f_J7_fill_53178
  exact fr_gd (fun g1 => fr_J7_fill_53178_b5 _ _ _ _ _)
theorem fr_X1_begin_b27 (q0 : Nat) (q1 : Nat) (xs0 : Int32) (qs1 : Nat) : Fr gs_play (f_X1_begin_b27 q0 q1 xs0 qs1) := by
  unfold f_X1_begin_b27
  exact fr_gd (fun g1 => fr_gd (fun g2 => fr_gd (fun g3 => fr_pI (iFl0_play g3) (fr_dI (fun v1 => fr_cl (fr_mono su_none_play (fr_X7_told _ _ _)) (fun r2 => fr_pI (iFl0_play g1) (fr_dI (fun v3 => fr_cl (fr_mono su_none_play (fr_X7_told _ _ _)) (fun r4 => fr_pI (iFl0_play g1) (fr_dI (fun v5 => fr_cl (fr_mono su_none_play (fr_X7_told _ _ _)) (fun r6 => fr_pI (iFl0_play g1) (fr_dI (fun v7 => fr_cl (fr_mono su_none_play (fr_X7_told _ _ _)) (fun r8 => fr_pI (iFl0_play g1) (fr_dI (fun v9 => fr_cl (fr_mono su_none_play (fr_X7_told _ _ _)) (fun r10 => fr_cl (fr_X1_startIn _ _) (fun _ => fr_dI (fun v11 => fr_cl (fr_mono su_none_play (fr_X7_told _ _ _)) (fun r12 => fr_cl (fr_X1_dropFrom _ _) (fun _ => fr_pI (iFl0_play g1) (fr_pI (iFl0_play g1) (fr_pI (iFl0_play g1) (fr_pI (iFl0_play g1) (fr_pI (iFl0_play g1) (fr_pI (iFl0_play g1) (fr_cl (fr_J7_fill_53178 _ _) (fun _ => fr_rt)))))))))))))))))))))))))))))
theorem fr_X1_begin_b16 (q0 : Nat) (q1 : Nat) (xs0 : Int32) : Fr gs_play (f_X1_begin_b16 q0 q1 xs0) := by
  unfold f_X1_begin_b16
  exact fr_gd (fun g1 => fr_gd (fun g2 => fr_br (fr_X1_begin_b27 _ _ _ _) (fr_X1_begin_b27 _ _ _ _)))
theorem fr_X1_begin (q0 : Nat) (q1 : Nat) : Fr gs_play (f_X1_begin q0 q1) := by
  unfold f_X1_begin
  exact fr_gd (fun g1 => fr_gd (fun g2 => fr_dI (fun v1 => fr_dI (fun v2 => fr_br (fr_X1_begin_b16 _ _ _) (fr_X1_begin_b16 _ _ _)))))
theorem fr_X1_isComing_b15 : Fr gs_none (f_X1_isComing_b15) := by
  unfold f_X1_isComing_b15
  exact fr_rt
theorem fr_X1_isComing (q0 : Nat) : Fr gs_none (f_X1_isComing q0) := by
  unfold f_X1_isComing
  exact fr_gd (fun g1 => fr_dI (fun v1 => fr_br (fr_X1_isComing_b15) (fr_dI (fun v3 => fr_br (fr_X1_isComing_b15) (fr_rt)))))
theorem fr_X1_addKind (q0 : Nat) (x1 : Int32) : Fr gs_play (f_X1_addKind q0 x1) := by
  unfold f_X1_addKind
  exact fr_gd (fun g1 => fr_br (fr_rt) (fr_br (fr_rt) (fr_gd (fun g2 => fr_dI (fun v3 => fr_gd (fun g3 => fr_pI (iFl1_play g1) (fr_rt)))))))
theorem fr_X1_landed (q0 : Nat) (x1 : Int32) : Fr gs_none (f_X1_landed q0 x1) := by
  unfold f_X1_landed
  exact fr_gd (fun g1 => fr_br (fr_rt) (fr_br (fr_rt) (fr_gd (fun g2 => fr_dI (fun v3 => fr_rt)))))
theorem fr_X1_flightOf (x0 : Int32) : Fr gs_none (f_X1_flightOf x0) := by
  unfold f_X1_flightOf
  exact fr_rt
theorem fr_X1_rise (q0 : Nat) (x1 : Int32) (x2 : Int32) (x3 : Int32) : Fr gs_play (f_X1_rise q0 x1 x2 x3) := by
  unfold f_X1_rise
  exact fr_gd (fun g1 => fr_dI (fun v1 => fr_pI (iFl0_play g1) (fr_dI (fun v2 => fr_lt (fun w3 => fr_pI (iFl0_play g1) (fr_dI (fun v4 => fr_pI (iFl0_play g1) (fr_pI (iFl0_play g1) (fr_pI (iFl0_play g1) (fr_pI (iFl0_play g1) (fr_cl (fr_mono su_none_play (fr_X1_flightOf _)) (fun r5 => fr_pI (iFl0_play g1) (fr_pI (iFl0_play g1) (fr_rt))))))))))))))
theorem fr_X1_heightIn (q0 : Nat) (x1 : Int32) : Fr gs_none (f_X1_heightIn q0 x1) := by
  unfold f_X1_heightIn
  exact fr_gd (fun g1 => fr_dI (fun v1 => fr_br (fr_dI (fun v3 => fr_rt)) (fr_dI (fun v4 => fr_cl (fr_X1_flightOf _) (fun r5 => fr_dI (fun v6 => fr_br (fr_br (fr_dI (fun v9 => fr_dI (fun v10 => fr_gd (fun g2 => fr_rt)))) (fr_rt)) (fr_rt)))))))
theorem fr_X6_clear (q0 : Nat) : Fr gs_tell (f_X6_clear q0) := by
  unfold f_X6_clear
  exact fr_gd (fun g1 => fr_pI (iRu0_tell g1) (fr_pI (iRu0_tell g1) (fr_rt)))
theorem fr_X2_clear (q0 : Nat) : Fr gs_tell (f_X2_clear q0) := by
  unfold f_X2_clear
  exact fr_gd (fun g1 => fr_pI (iGd0_tell g1) (fr_pI (iGd0_tell g1) (fr_pI (iGd0_tell g1) (fr_pI (iGd0_tell g1) (fr_pI (iGd0_tell g1) (fr_pI (iGd0_tell g1) (fr_pI (iGd0_tell g1) (fr_pI (iGd0_tell g1) (fr_pI (iGd0_tell g1) (fr_pI (iGd0_tell g1) (fr_cl (fr_X6_clear _) (fun _ => fr_rt))))))))))))
theorem fr_X2_tellOfLast (q0 : Nat) (x1 : Int32) (x2 : Int32) : Fr gs_tell (f_X2_tellOfLast q0 x1 x2) := by
  unfold f_X2_tellOfLast
  exact fr_gd (fun g1 => fr_dI (fun v1 => fr_lt (fun w2 => fr_br (fr_rt) (fr_br (fr_rt) (fr_gd (fun g2 => fr_pI (iGd1_tell g1) (fr_rt)))))))
theorem fr_X2_addPush (q0 : Nat) (x1 : Int32) : Fr gs_tell (f_X2_addPush q0 x1) := by
  unfold f_X2_addPush
  exact fr_gd (fun g1 => fr_dI (fun v1 => fr_br (fr_rt) (fr_dI (fun v3 => fr_br (fr_rt) (fr_dI (fun v5 => fr_gd (fun g2 => fr_pI (iGd2_tell g1) (fr_dI (fun v6 => fr_pI (iGd0_tell g1) (fr_rt))))))))))
theorem fr_X2_isBeyond_b17 : Fr gs_none (f_X2_isBeyond_b17) := by
  unfold f_X2_isBeyond_b17
  exact fr_rt
theorem fr_X2_isBeyond (q0 : Nat) (x1 : Int32) : Fr gs_none (f_X2_isBeyond q0 x1) := by
  unfold f_X2_isBeyond
  exact fr_gd (fun g1 => fr_dI (fun v1 => fr_br (fr_X2_isBeyond_b17) (fr_dI (fun v3 => fr_br (fr_rt) (fr_X2_isBeyond_b17)))))
theorem fr_X2_comesTo (q0 : Nat) (x1 : Int32) (x2 : Int32) (x3 : Int32) : Fr gs_none (f_X2_comesTo q0 x1 x2 x3) := by
  unfold f_X2_comesTo
  exact fr_gd (fun g1 => fr_dI (fun v1 => fr_lt (fun w2 => fr_br (fr_lt (fun w4 => fr_rt)) (fr_lt (fun w5 => fr_rt)))))
theorem fr_X3_add (x1 : Int32) (x2 : Int32) (x3 : Int32) (x4 : Int32) (x5 : Int32) : Fr gs_play (f_X3_add x1 x2 x3 x4 x5) := by
  unfold f_X3_add
  exact fr_dI (fun v1 => fr_br (fr_rt) (fr_br (fr_gd (fun g1 => fr_pI (rfl) (fr_gd (fun g2 => fr_pI (rfl) (fr_gd (fun g3 => fr_pI (rfl) (fr_gd (fun g4 => fr_pI (rfl) (fr_gd (fun g5 => fr_pI (rfl) (fr_dI (fun v4 => fr_pI (rfl) (fr_rt))))))))))))) (fr_rt)))
theorem fr_X3_told (x1 : Int32) (x2 : Int32) : Fr gs_none (f_X3_told x1 x2) := by
  unfold f_X3_told
  exact fr_br (fr_rt) (fr_br (fr_rt) (fr_gd (fun g1 => fr_dI (fun v3 => fr_rt))))
theorem fr_X3_nextOf_b32 (k2 : Int32 → Int32 → Sg → Option (Int32 × Sg)) (x1 : Int32) (x3 : Int32) (hk2 : ∀ a0 a1, Fr gs_none (k2 a0 a1)) : Fr gs_none (f_X3_nextOf_b32 k2 x1 x3) := by
  unfold f_X3_nextOf_b32
  exact hk2 _ _
theorem fr_X3_nextOf_b2 : ∀ (fu : Nat) (x1 : Int32) (x3 : Int32), Fr gs_none (f_X3_nextOf_b2 fu x1 x3) := by
  intro fu
  induction fu with
  | zero => intro _ _; exact fr_none
  | succ fu ih => intro x1 x3; rw [f_X3_nextOf_b2]; exact fr_dI (fun v1 => fr_br (fr_dI (fun v3 => fr_rt)) (fr_cl (fr_X3_told _ _) (fun r4 => fr_br (fr_cl (fr_X3_told _ _) (fun r6 => fr_br (fr_X3_nextOf_b32 _ _ _ ih) (fr_rt))) (fr_X3_nextOf_b32 _ _ _ ih))))
theorem fr_X3_nextOf (x1 : Int32) (x2 : Int32) : Fr gs_none (f_X3_nextOf x1 x2) := by
  unfold f_X3_nextOf
  exact fr_X3_nextOf_b2 _ _ _
theorem fr_X3_pace_b128 (k33 : Int32 → Int32 → Int32 → Int32 → Int32 → Sg → Option (Unit × Sg)) (x1 : Int32) (x2 : Int32) (x3 : Int32) (x4 : Int32) (x5 : Int32) (hk33 : ∀ a0 a1 a2 a3 a4, Fr gs_play (k33 a0 a1 a2 a3 a4)) : Fr gs_play (f_X3_pace_b128 k33 x1 x2 x3 x4 x5) := by
  unfold f_X3_pace_b128
  exact fr_cl (fr_mono su_none_play (fr_X3_nextOf _ _)) (fun r1 => fr_cl (fr_mono su_none_play (fr_X3_nextOf _ _)) (fun r2 => hk33 _ _ _ _ _))
theorem fr_X3_pace_b96 (k33 : Int32 → Int32 → Int32 → Int32 → Int32 → Sg → Option (Unit × Sg)) (x1 : Int32) (x2 : Int32) (x3 : Int32) (x4 : Int32) (x5 : Int32) (xs0 : Int32) (hk33 : ∀ a0 a1 a2 a3 a4, Fr gs_play (k33 a0 a1 a2 a3 a4)) : Fr gs_play (f_X3_pace_b96 k33 x1 x2 x3 x4 x5 xs0) := by
  unfold f_X3_pace_b96
  exact fr_pI (rfl) (fr_dI (fun v1 => fr_br (fr_dI (fun v3 => fr_br (fr_pI (rfl) (fr_X3_pace_b128 _ _ _ _ _ _ hk33)) (fr_X3_pace_b128 _ _ _ _ _ _ hk33))) (fr_pI (rfl) (fr_X3_pace_b128 _ _ _ _ _ _ hk33))))
theorem fr_X3_pace_b33 : ∀ (fu : Nat) (x1 : Int32) (x2 : Int32) (x3 : Int32) (x4 : Int32) (x5 : Int32), Fr gs_play (f_X3_pace_b33 fu x1 x2 x3 x4 x5) := by
  intro fu
  induction fu with
  | zero => intro _ _ _ _ _; exact fr_none
  | succ fu ih => intro x1 x2 x3 x4 x5; rw [f_X3_pace_b33]; exact fr_br (fr_rt) (fr_dI (fun v2 => fr_br (fr_rt) (fr_dI (fun v4 => fr_br (fr_rt) (fr_cl (fr_mono su_none_play (fr_X3_told _ _)) (fun r6 => fr_cl (fr_mono su_none_play (fr_X3_told _ _)) (fun r7 => fr_lt (fun w8 => fr_pI (rfl) (fr_br (fr_dI (fun v10 => fr_X3_pace_b96 _ _ _ _ _ _ _ ih)) (fr_dI (fun v11 => fr_X3_pace_b96 _ _ _ _ _ _ _ ih)))))))))))
theorem fr_X3_pace (x1 : Int32) (x2 : Int32) : Fr gs_play (f_X3_pace x1 x2) := by
  unfold f_X3_pace
  exact fr_pI (rfl) (fr_pI (rfl) (fr_pI (rfl) (fr_cl (fr_mono su_none_play (fr_X3_nextOf _ _)) (fun r1 => fr_cl (fr_mono su_none_play (fr_X3_nextOf _ _)) (fun r2 => fr_X3_pace_b33 _ _ _ _ _ _)))))
theorem fr_X4_flyer (x1 : Int32) : Fr gs_none (f_X4_flyer x1) := by
  unfold f_X4_flyer
  exact fr_lt (fun w1 => fr_lt (fun w2 => fr_gd (fun g1 => fr_lt (fun u3 => fr_gd (fun g2 => fr_rt)))))
theorem fr_X4_begin_b40 : Fr gs_play (f_X4_begin_b40) := by
  unfold f_X4_begin_b40
  exact fr_pI (rfl) (fr_pI (rfl) (fr_pI (rfl) (fr_pI (rfl) (fr_gd (fun g1 => fr_lt (fun u1 => fr_gd (fun g2 => fr_pR (rfl) (fr_pI (rfl) (fr_pI (rfl) (fr_pI (rfl) (fr_pI (rfl) (fr_pI (rfl) (fr_pI (rfl) (fr_pI (rfl) (fr_rt)))))))))))))))
theorem fr_X4_begin_b15 : ∀ (fu : Nat) (q2 : Nat) (x3 : Int32), Fr gs_play (f_X4_begin_b15 fu q2 x3) := by
  intro fu
  induction fu with
  | zero => intro _ _; exact fr_none
  | succ fu ih => intro q2 x3; rw [f_X4_begin_b15]; exact fr_gd (fun g1 => fr_br (fr_X4_begin_b40) (fr_gd (fun g2 => fr_lt (fun u2 => fr_gd (fun g3 => fr_cl (fr_X1_begin _ _) (fun _ => ih _ _))))))
theorem fr_X4_begin (q1 : Nat) (q2 : Nat) : Fr gs_play (f_X4_begin q1 q2) := by
  unfold f_X4_begin
  exact fr_gd (fun g1 => fr_gd (fun g2 => fr_pR (rfl) (fr_dI (fun v1 => fr_pI (rfl) (fr_X4_begin_b15 _ _ _)))))
theorem fr_X4_keepOnly_b29 (k2 : Int32 → Int32 → Sg → Option (Unit × Sg)) (x1 : Int32) (x2 : Int32) (hk2 : ∀ a0 a1, Fr gs_play (k2 a0 a1)) : Fr gs_play (f_X4_keepOnly_b29 k2 x1 x2) := by
  unfold f_X4_keepOnly_b29
  exact hk2 _ _
theorem fr_X4_keepOnly_b2 : ∀ (fu : Nat) (x1 : Int32) (x2 : Int32), Fr gs_play (f_X4_keepOnly_b2 fu x1 x2) := by
  intro fu
  induction fu with
  | zero => intro _ _; exact fr_none
  | succ fu ih => intro x1 x2; rw [f_X4_keepOnly_b2]; exact fr_br (fr_rt) (fr_br (fr_gd (fun g1 => fr_lt (fun u3 => fr_gd (fun g2 => fr_pI (iFl0_play g2) (fr_X4_keepOnly_b29 _ _ _ ih))))) (fr_X4_keepOnly_b29 _ _ _ ih))
theorem fr_X4_keepOnly (x1 : Int32) : Fr gs_play (f_X4_keepOnly x1) := by
  unfold f_X4_keepOnly
  exact fr_X4_keepOnly_b2 _ _ _
theorem fr_X4_hurt_b23 (q1 : Nat) (x2 : Int32) : Fr gs_play (f_X4_hurt_b23 q1 x2) := by
  unfold f_X4_hurt_b23
  exact fr_gd (fun g1 => fr_dI (fun v1 => fr_br (fr_dI (fun v3 => fr_dI (fun v4 => fr_pI (rfl) (fr_rt)))) (fr_rt)))
theorem fr_X4_hurt (q1 : Nat) (x2 : Int32) : Fr gs_play (f_X4_hurt q1 x2) := by
  unfold f_X4_hurt
  exact fr_gd (fun g1 => fr_dI (fun v1 => fr_pI (iFl0_play g1) (fr_dI (fun v2 => fr_br (fr_pI (rfl) (fr_X4_hurt_b23 _ _)) (fr_X4_hurt_b23 _ _)))))
theorem fr_X4_knock_b71 (k5 : Nat → Int32 → Int32 → Int32 → Sg → Option (Unit × Sg)) (q1 : Nat) (x2 : Int32) (x3 : Int32) (x4 : Int32) (hk5 : ∀ a0 a1 a2 a3, Fr gs_play (k5 a0 a1 a2 a3)) : Fr gs_play (f_X4_knock_b71 k5 q1 x2 x3 x4) := by
  unfold f_X4_knock_b71
  exact fr_gd (fun g1 => hk5 _ _ _ _)
theorem fr_X4_knock_b77 (q1 : Nat) (x2 : Int32) (x3 : Int32) : Fr gs_play (f_X4_knock_b77 q1 x2 x3) := by
  unfold f_X4_knock_b77
  exact fr_gd (fun g1 => fr_br (fr_rt) (fr_cl (fr_X1_addKind _ _) (fun _ => fr_cl (fr_X4_hurt _ _) (fun _ => fr_rt))))
theorem fr_X4_knock_b5 : ∀ (fu : Nat) (q1 : Nat) (x2 : Int32) (x3 : Int32) (x4 : Int32), Fr gs_play (f_X4_knock_b5 fu q1 x2 x3 x4) := by
  intro fu
  induction fu with
  | zero => intro _ _ _ _; exact fr_none
  | succ fu ih => intro q1 x2 x3 x4; rw [f_X4_knock_b5]; exact fr_gd (fun g1 => fr_br (fr_X4_knock_b77 _ _ _) (fr_gd (fun g2 => fr_lt (fun u2 => fr_gd (fun g3 => fr_dI (fun v3 => fr_br (fr_dI (fun v5 => fr_dI (fun v6 => fr_lt (fun w7 => fr_dR (fun u8 => fr_gd (fun g4 => fr_dI (fun v9 => fr_br (fr_X4_knock_b71 _ _ _ _ _ ih) (fr_cl (fr_X1_addKind _ _) (fun _ => fr_cl (fr_X4_hurt _ _) (fun _ => fr_X4_knock_b71 _ _ _ _ _ ih)))))))))) (fr_X4_knock_b71 _ _ _ _ _ ih)))))))
theorem fr_X4_knock (q1 : Nat) (x2 : Int32) : Fr gs_play (f_X4_knock q1 x2) := by
  unfold f_X4_knock
  exact fr_gd (fun g1 => fr_X4_knock_b5 _ _ _ _ _)
theorem fr_X4_press_b79 (q1 : Nat) (x2 : Int32) (x4 : Int32) : Fr gs_play (f_X4_press_b79 q1 x2 x4) := by
  unfold f_X4_press_b79
  exact fr_gd (fun g1 => fr_pR (rfl) (fr_dI (fun v1 => fr_pI (rfl) (fr_dI (fun v2 => fr_pI (rfl) (fr_rt))))))
theorem fr_X4_press_b45 (q1 : Nat) (x2 : Int32) (x3 : Int32) : Fr gs_play (f_X4_press_b45 q1 x2 x3) := by
  unfold f_X4_press_b45
  exact fr_gd (fun g1 => fr_dI (fun v1 => fr_br (fr_dR (fun u3 => fr_gd (fun g2 => fr_cl (fr_X1_addKind _ _) (fun _ => fr_X4_press_b79 _ _ _)))) (fr_pI (rfl) (fr_pI (rfl) (fr_X4_press_b79 _ _ _)))))
theorem fr_X4_press (q1 : Nat) (x2 : Int32) (x3 : Int32) : Fr gs_play (f_X4_press q1 x2 x3) := by
  unfold f_X4_press
  exact fr_gd (fun g1 => fr_dI (fun v1 => fr_br (fr_dI (fun v3 => fr_dR (fun u4 => fr_gd (fun g2 => fr_dI (fun v5 => fr_br (fr_X4_press_b45 _ _ _) (fr_dI (fun v7 => fr_pI (iFl0_play g1) (fr_dI (fun v8 => fr_pI (rfl) (fr_rt)))))))))) (fr_X4_press_b45 _ _ _)))
theorem fr_X4_land_b66 (q1 : Nat) (x2 : Int32) (x3 : Int32) (x4 : Int32) : Fr gs_play (f_X4_land_b66 q1 x2 x3 x4) := by
  unfold f_X4_land_b66
  exact fr_gd (fun g1 => fr_cl (fr_X1_addKind _ _) (fun _ => fr_dI (fun v1 => fr_dI (fun v2 => fr_cl (fr_X3_add _ _ _ _ _) (fun _ => fr_rt)))))
theorem fr_X4_land (q1 : Nat) (x2 : Int32) : Fr gs_play (f_X4_land q1 x2) := by
  unfold f_X4_land
  exact fr_gd (fun g1 => fr_dI (fun v1 => fr_dI (fun v2 => fr_dR (fun u3 => fr_gd (fun g2 => fr_dI (fun v4 => fr_cl (fr_mono su_none_play (fr_X2_isBeyond _ _)) (fun r5 => fr_br (fr_cl (fr_X4_knock _ _) (fun _ => fr_pI (iFl0_play g1) (fr_pI (iFl0_play g1) (fr_cl (fr_X4_press _ _ _) (fun r7 => fr_X4_land_b66 _ _ _ _))))) (fr_pI (iFl0_play g1) (fr_cl (fr_X4_hurt _ _) (fun _ => fr_X4_land_b66 _ _ _ _))))))))))
theorem fr_X4_landAll_b47 (k2 : Int32 → Int32 → Sg → Option (Unit × Sg)) (x1 : Int32) (x2 : Int32) (hk2 : ∀ a0 a1, Fr gs_play (k2 a0 a1)) : Fr gs_play (f_X4_landAll_b47 k2 x1 x2) := by
  unfold f_X4_landAll_b47
  exact hk2 _ _
theorem fr_X4_landAll_b2 : ∀ (fu : Nat) (x1 : Int32) (x2 : Int32), Fr gs_play (f_X4_landAll_b2 fu x1 x2) := by
  intro fu
  induction fu with
  | zero => intro _ _; exact fr_none
  | succ fu ih => intro x1 x2; rw [f_X4_landAll_b2]; exact fr_br (fr_rt) (fr_gd (fun g1 => fr_lt (fun u2 => fr_gd (fun g2 => fr_cl (fr_mono su_none_play (fr_X1_isComing _)) (fun r3 => fr_br (fr_X4_landAll_b47 _ _ _ ih) (fr_gd (fun g3 => fr_lt (fun u5 => fr_gd (fun g4 => fr_dI (fun v6 => fr_br (fr_gd (fun g5 => fr_lt (fun u8 => fr_gd (fun g6 => fr_cl (fr_X4_land _ _) (fun _ => fr_X4_landAll_b47 _ _ _ ih))))) (fr_X4_landAll_b47 _ _ _ ih)))))))))))
theorem fr_X4_landAll (x1 : Int32) : Fr gs_play (f_X4_landAll x1) := by
  unfold f_X4_landAll
  exact fr_X4_landAll_b2 _ _ _
theorem fr_X4_riseEnds : Fr gs_none (f_X4_riseEnds) := by
  unfold f_X4_riseEnds
  exact fr_dI (fun v1 => fr_dR (fun u2 => fr_gd (fun g1 => fr_dI (fun v3 => fr_rt))))
theorem fr_X4_countOthers_b90 (k10 : Nat → Int32 → Int32 → Int32 → Int32 → Sg → Option (Unit × Sg)) (q1 : Nat) (x2 : Int32) (x3 : Int32) (x4 : Int32) (x5 : Int32) (hk10 : ∀ a0 a1 a2 a3 a4, Fr gs_play (k10 a0 a1 a2 a3 a4)) : Fr gs_play (f_X4_countOthers_b90 k10 q1 x2 x3 x4 x5) := by
  unfold f_X4_countOthers_b90
  exact fr_gd (fun g1 => hk10 _ _ _ _ _)
theorem fr_X4_countOthers_b87 (k10 : Nat → Int32 → Int32 → Int32 → Int32 → Sg → Option (Unit × Sg)) (q1 : Nat) (x2 : Int32) (x3 : Int32) (x5 : Int32) (xs0 : Int32) (xs1 : Int32) (hk10 : ∀ a0 a1 a2 a3 a4, Fr gs_play (k10 a0 a1 a2 a3 a4)) : Fr gs_play (f_X4_countOthers_b87 k10 q1 x2 x3 x5 xs0 xs1) := by
  unfold f_X4_countOthers_b87
  exact fr_gd (fun g1 => fr_X4_countOthers_b90 _ _ _ _ _ _ hk10)
theorem fr_X4_countOthers_b96 (x2 : Int32) (x3 : Int32) (x4 : Int32) : Fr gs_play (f_X4_countOthers_b96 x2 x3 x4) := by
  unfold f_X4_countOthers_b96
  exact fr_pI (rfl) (fr_pI (rfl) (fr_pI (rfl) (fr_rt)))
theorem fr_X4_countOthers_b10 : ∀ (fu : Nat) (q1 : Nat) (x2 : Int32) (x3 : Int32) (x4 : Int32) (x5 : Int32), Fr gs_play (f_X4_countOthers_b10 fu q1 x2 x3 x4 x5) := by
  intro fu
  induction fu with
  | zero => intro _ _ _ _ _; exact fr_none
  | succ fu ih => intro q1 x2 x3 x4 x5; rw [f_X4_countOthers_b10]; exact fr_gd (fun g1 => fr_br (fr_X4_countOthers_b96 _ _ _) (fr_gd (fun g2 => fr_lt (fun u2 => fr_gd (fun g3 => fr_dI (fun v3 => fr_br (fr_X4_countOthers_b90 _ _ _ _ _ _ ih) (fr_dI (fun v5 => fr_br (fr_X4_countOthers_b90 _ _ _ _ _ _ ih) (fr_dI (fun v7 => fr_br (fr_dI (fun v9 => fr_dI (fun v10 => fr_br (fr_X4_countOthers_b87 _ _ _ _ _ _ _ ih) (fr_X4_countOthers_b87 _ _ _ _ _ _ _ ih)))) (fr_X4_countOthers_b90 _ _ _ _ _ _ ih)))))))))))
theorem fr_X4_countOthers (q1 : Nat) : Fr gs_play (f_X4_countOthers q1) := by
  unfold f_X4_countOthers
  exact fr_gd (fun g1 => fr_X4_countOthers_b10 _ _ _ _ _ _)
theorem fr_X6_join_b56 : Fr gs_none (f_X6_join_b56) := by
  unfold f_X6_join_b56
  exact fr_rt
theorem fr_X6_join (x0 : Int32) (x1 : Int32) (x2 : Int32) : Fr gs_none (f_X6_join x0 x1 x2) := by
  unfold f_X6_join
  exact fr_br (fr_rt) (fr_br (fr_rt) (fr_br (fr_rt) (fr_br (fr_br (fr_rt) (fr_rt)) (fr_br (fr_br (fr_rt) (fr_rt)) (fr_br (fr_br (fr_rt) (fr_gd (fun g1 => fr_rt))) (fr_br (fr_br (fr_rt) (fr_br (fr_rt) (fr_rt))) (fr_br (fr_br (fr_br (fr_rt) (fr_X6_join_b56)) (fr_X6_join_b56)) (fr_br (fr_rt) (fr_gd (fun g2 => fr_rt))))))))))
theorem fr_X6_holds_b218 (k43 : Nat → Int32 → Int32 → Int32 → Sg → Option (Int32 × Sg)) (q0 : Nat) (x1 : Int32) (x3 : Int32) (x4 : Int32) (hk43 : ∀ a0 a1 a2 a3, Fr gs_play (k43 a0 a1 a2 a3)) : Fr gs_play (f_X6_holds_b218 k43 q0 x1 x3 x4) := by
  unfold f_X6_holds_b218
  exact fr_gd (fun g1 => hk43 _ _ _ _)
theorem fr_X6_holds_b115 (k43 : Nat → Int32 → Int32 → Int32 → Sg → Option (Int32 × Sg)) (q0 : Nat) (x1 : Int32) (x3 : Int32) (x4 : Int32) (xs0 : Int32) (hk43 : ∀ a0 a1 a2 a3, Fr gs_play (k43 a0 a1 a2 a3)) : Fr gs_play (f_X6_holds_b115 k43 q0 x1 x3 x4 xs0) := by
  unfold f_X6_holds_b115
  exact fr_gd (fun g1 => fr_lt (fun w1 => fr_gd (fun g2 => fr_pI (iRu3_play g1) (fr_X6_holds_b218 _ _ _ _ _ hk43))))
theorem fr_X6_holds_b90 (k43 : Nat → Int32 → Int32 → Int32 → Sg → Option (Int32 × Sg)) (q0 : Nat) (x1 : Int32) (x3 : Int32) (x4 : Int32) (x5 : Int32) (x6 : Int32) (hk43 : ∀ a0 a1 a2 a3, Fr gs_play (k43 a0 a1 a2 a3)) : Fr gs_play (f_X6_holds_b90 k43 q0 x1 x3 x4 x5 x6) := by
  unfold f_X6_holds_b90
  exact fr_gd (fun g1 => fr_br (fr_br (fr_X6_holds_b115 _ _ _ _ _ _ hk43) (fr_gd (fun g2 => fr_dI (fun v3 => fr_X6_holds_b115 _ _ _ _ _ _ hk43)))) (fr_X6_holds_b115 _ _ _ _ _ _ hk43))
theorem fr_X6_holds_b177 (k43 : Nat → Int32 → Int32 → Int32 → Sg → Option (Int32 × Sg)) (q0 : Nat) (x1 : Int32) (x3 : Int32) (x4 : Int32) (xs0 : Int32) (xs1 : Int32) (hk43 : ∀ a0 a1 a2 a3, Fr gs_play (k43 a0 a1 a2 a3)) : Fr gs_play (f_X6_holds_b177 k43 q0 x1 x3 x4 xs0 xs1) := by
  unfold f_X6_holds_b177
  exact fr_gd (fun g1 => fr_gd (fun g2 => fr_pI (iRu3_play g1) (fr_X6_holds_b218 _ _ _ _ _ hk43)))
theorem fr_X6_holds_b181 (k43 : Nat → Int32 → Int32 → Int32 → Sg → Option (Int32 × Sg)) (q0 : Nat) (x1 : Int32) (x3 : Int32) (x4 : Int32) (x5 : Int32) (hk43 : ∀ a0 a1 a2 a3, Fr gs_play (k43 a0 a1 a2 a3)) : Fr gs_play (f_X6_holds_b181 k43 q0 x1 x3 x4 x5) := by
  unfold f_X6_holds_b181
  exact fr_gd (fun g1 => fr_br (fr_X6_holds_b218 _ _ _ _ _ hk43) (fr_gd (fun g2 => fr_dI (fun v2 => fr_gd (fun g3 => fr_dI (fun v3 => fr_cl (fr_mono su_none_play (fr_X6_join _ _ _)) (fun r4 => fr_gd (fun g4 => fr_pI (iRu3_play g1) (fr_X6_holds_b218 _ _ _ _ _ hk43)))))))))
theorem fr_X6_holds_b224 (q0 : Nat) (x3 : Int32) : Fr gs_play (f_X6_holds_b224 q0 x3) := by
  unfold f_X6_holds_b224
  exact fr_gd (fun g1 => fr_br (fr_rt) (fr_gd (fun g2 => fr_dI (fun v2 => fr_br (fr_rt) (fr_rt)))))
theorem fr_X6_holds_b43 : ∀ (fu : Nat) (q0 : Nat) (x1 : Int32) (x3 : Int32) (x4 : Int32), Fr gs_play (f_X6_holds_b43 fu q0 x1 x3 x4) := by
  intro fu
  induction fu with
  | zero => intro _ _ _ _; exact fr_none
  | succ fu ih => intro q0 x1 x3 x4; rw [f_X6_holds_b43]; exact fr_gd (fun g1 => fr_gd (fun g2 => fr_dI (fun v1 => fr_br (fr_X6_holds_b224 _ _) (fr_br (fr_X6_holds_b224 _ _) (fr_gd (fun g3 => fr_dI (fun v4 => fr_br (fr_X6_holds_b90 _ _ _ _ _ _ _ ih) (fr_br (fr_br (fr_br (fr_X6_holds_b181 _ _ _ _ _ _ ih) (fr_gd (fun g4 => fr_dI (fun v9 => fr_br (fr_X6_holds_b177 _ _ _ _ _ _ _ ih) (fr_X6_holds_b177 _ _ _ _ _ _ _ ih))))) (fr_X6_holds_b181 _ _ _ _ _ _ ih)) (fr_X6_holds_b90 _ _ _ _ _ _ _ ih)))))))))
theorem fr_X6_holds_b41 (q0 : Nat) (x1 : Int32) (x3 : Int32) (xs0 : Int32) : Fr gs_play (f_X6_holds_b41 q0 x1 x3 xs0) := by
  unfold f_X6_holds_b41
  exact fr_gd (fun g1 => fr_X6_holds_b43 _ _ _ _ _)
theorem fr_X6_holds (q0 : Nat) (x1 : Int32) : Fr gs_play (f_X6_holds q0 x1) := by
  unfold f_X6_holds
  exact fr_gd (fun g1 => fr_br (fr_rt) (fr_dI (fun v2 => fr_br (fr_rt) (fr_br (fr_br (fr_X6_holds_b41 _ _ _ _) (fr_gd (fun g2 => fr_dI (fun v6 => fr_X6_holds_b41 _ _ _ _)))) (fr_rt)))))
theorem fr_X4_mayGo (q1 : Nat) (x2 : Int32) (x3 : Int32) : Fr gs_play (f_X4_mayGo q1 x2 x3) := by
  unfold f_X4_mayGo
  exact fr_gd (fun g1 => fr_dI (fun v1 => fr_br (fr_rt) (fr_dI (fun v3 => fr_pI (rfl) (fr_dI (fun v4 => fr_pI (rfl) (fr_pI (rfl) (fr_dI (fun v5 => fr_pI (rfl) (fr_pI (rfl) (fr_cl (fr_X4_countOthers _) (fun _ => fr_dR (fun u6 => fr_gd (fun g2 => fr_dI (fun v7 => fr_cl (fr_X6_holds _ _) (fun r8 => fr_gd (fun g3 => fr_rt)))))))))))))))))
theorem fr_X4_send (q1 : Nat) (x2 : Int32) (x3 : Int32) : Fr gs_play (f_X4_send q1 x2 x3) := by
  unfold f_X4_send
  exact fr_gd (fun g1 => fr_dR (fun u1 => fr_gd (fun g2 => fr_dI (fun v2 => fr_dI (fun v3 => fr_cl (fr_mono su_none_play (fr_X2_comesTo _ _ _ _)) (fun r4 => fr_cl (fr_X1_rise _ _ _ _) (fun _ => fr_rt)))))))
theorem fr_X4_endRise_b52 (x1 : Int32) (q2 : Nat) (xs0 : Int32) : Fr gs_play (f_X4_endRise_b52 x1 q2 xs0) := by
  unfold f_X4_endRise_b52
  exact fr_gd (fun g1 => fr_dI (fun v1 => fr_lt (fun w2 => fr_pI (rfl) (fr_pI (rfl) (fr_dI (fun v3 => fr_pI (rfl) (fr_cl (fr_X4_mayGo _ _ _) (fun r4 => fr_br (fr_rt) (fr_dI (fun v6 => fr_dI (fun v7 => fr_pI (rfl) (fr_cl (fr_X4_send _ _ _) (fun _ => fr_rt)))))))))))))
theorem fr_X4_endRise (x1 : Int32) : Fr gs_play (f_X4_endRise x1) := by
  unfold f_X4_endRise
  exact fr_dI (fun v1 => fr_br (fr_cl (fr_mono su_none_play (fr_X4_riseEnds)) (fun r3 => fr_br (fr_dR (fun u5 => fr_gd (fun g1 => fr_dI (fun v6 => fr_br (fr_X4_endRise_b52 _ _ _) (fr_dI (fun v8 => fr_dR (fun u9 => fr_gd (fun g2 => fr_dI (fun v10 => fr_dI (fun v11 => fr_gd (fun g3 => fr_X4_endRise_b52 _ _ _))))))))))) (fr_rt))) (fr_rt))
theorem fr_X4_restEnds (q1 : Nat) : Fr gs_none (f_X4_restEnds q1) := by
  unfold f_X4_restEnds
  exact fr_gd (fun g1 => fr_dI (fun v1 => fr_dR (fun u2 => fr_gd (fun g2 => fr_dI (fun v3 => fr_rt)))))
theorem fr_X4_canPush (q0 : Nat) : Fr gs_none (f_X4_canPush q0) := by
  unfold f_X4_canPush
  exact fr_gd (fun g1 => fr_dI (fun v1 => fr_br (fr_dI (fun v3 => fr_br (fr_rt) (fr_rt))) (fr_rt)))
theorem fr_X4_sendOthers_b77 (k10 : Int32 → Int32 → Sg → Option (Unit × Sg)) (x1 : Int32) (x2 : Int32) (hk10 : ∀ a0 a1, Fr gs_play (k10 a0 a1)) : Fr gs_play (f_X4_sendOthers_b77 k10 x1 x2) := by
  unfold f_X4_sendOthers_b77
  exact hk10 _ _
theorem fr_X4_sendOthers_b40 (k10 : Int32 → Int32 → Sg → Option (Unit × Sg)) (x1 : Int32) (x2 : Int32) (q3 : Nat) (xs0 : Int32) (hk10 : ∀ a0 a1, Fr gs_play (k10 a0 a1)) : Fr gs_play (f_X4_sendOthers_b40 k10 x1 x2 q3 xs0) := by
  unfold f_X4_sendOthers_b40
  exact fr_gd (fun g1 => fr_cl (fr_mono su_none_play (fr_X4_canPush _)) (fun r1 => fr_br (fr_X4_sendOthers_b77 _ _ _ hk10) (fr_br (fr_X4_sendOthers_b77 _ _ _ hk10) (fr_dI (fun v4 => fr_cl (fr_X4_mayGo _ _ _) (fun r5 => fr_br (fr_X4_sendOthers_b77 _ _ _ hk10) (fr_dI (fun v7 => fr_cl (fr_X4_send _ _ _) (fun _ => fr_X4_sendOthers_b77 _ _ _ hk10)))))))))
theorem fr_X4_sendOthers_b10 : ∀ (fu : Nat) (x1 : Int32) (x2 : Int32), Fr gs_play (f_X4_sendOthers_b10 fu x1 x2) := by
  intro fu
  induction fu with
  | zero => intro _ _; exact fr_none
  | succ fu ih => intro x1 x2; rw [f_X4_sendOthers_b10]; exact fr_br (fr_rt) (fr_gd (fun g1 => fr_lt (fun u2 => fr_gd (fun g2 => fr_cl (fr_mono su_none_play (fr_X4_restEnds _)) (fun r3 => fr_br (fr_X4_sendOthers_b40 _ _ _ _ _ ih) (fr_X4_sendOthers_b40 _ _ _ _ _ ih))))))
theorem fr_X4_sendOthers (x1 : Int32) : Fr gs_play (f_X4_sendOthers x1) := by
  unfold f_X4_sendOthers
  exact fr_dI (fun v1 => fr_br (fr_rt) (fr_X4_sendOthers_b10 _ _ _))
theorem fr_X4_nextDue_b78 (k19 : Int32 → Int32 → Sg → Option (Int32 × Sg)) (x1 : Int32) (x2 : Int32) (hk19 : ∀ a0 a1, Fr gs_none (k19 a0 a1)) : Fr gs_none (f_X4_nextDue_b78 k19 x1 x2) := by
  unfold f_X4_nextDue_b78
  exact hk19 _ _
theorem fr_X4_nextDue_b19 : ∀ (fu : Nat) (x1 : Int32) (x2 : Int32), Fr gs_none (f_X4_nextDue_b19 fu x1 x2) := by
  intro fu
  induction fu with
  | zero => intro _ _; exact fr_none
  | succ fu ih => intro x1 x2; rw [f_X4_nextDue_b19]; exact fr_br (fr_rt) (fr_gd (fun g1 => fr_lt (fun u2 => fr_gd (fun g2 => fr_cl (fr_X1_isComing _) (fun r3 => fr_br (fr_dI (fun v5 => fr_br (fr_X4_nextDue_b78 _ _ _ ih) (fr_cl (fr_X4_canPush _) (fun r7 => fr_br (fr_X4_nextDue_b78 _ _ _ ih) (fr_cl (fr_X4_restEnds _) (fun r9 => fr_lt (fun w10 => fr_X4_nextDue_b78 _ _ _ ih))))))) (fr_dI (fun v11 => fr_lt (fun w12 => fr_X4_nextDue_b78 _ _ _ ih))))))))
theorem fr_X4_nextDue_b16 (xs0 : Int32) : Fr gs_none (f_X4_nextDue_b16 xs0) := by
  unfold f_X4_nextDue_b16
  exact fr_X4_nextDue_b19 _ _ _
theorem fr_X4_nextDue : Fr gs_none (f_X4_nextDue) := by
  unfold f_X4_nextDue
  exact fr_dI (fun v1 => fr_br (fr_cl (fr_X4_riseEnds) (fun r3 => fr_X4_nextDue_b16 _)) (fr_X4_nextDue_b16 _))
theorem fr_X4_go_b38 (k2 : Int32 → Int32 → Sg → Option (Unit × Sg)) (x2 : Int32) (x3 : Int32) (hk2 : ∀ a0 a1, Fr gs_play (k2 a0 a1)) : Fr gs_play (f_X4_go_b38 k2 x2 x3) := by
  unfold f_X4_go_b38
  exact hk2 _ _
theorem fr_X4_go_b2 : ∀ (fu : Nat) (x2 : Int32) (x3 : Int32), Fr gs_play (f_X4_go_b2 fu x2 x3) := by
  intro fu
  induction fu with
  | zero => intro _ _; exact fr_none
  | succ fu ih => intro x2 x3; rw [f_X4_go_b2]; exact fr_br (fr_rt) (fr_dI (fun v2 => fr_br (fr_X4_go_b38 _ _ _ ih) (fr_cl (fr_X4_landAll _) (fun _ => fr_cl (fr_X4_endRise _) (fun _ => fr_cl (fr_X4_sendOthers _) (fun _ => fr_cl (fr_mono su_none_play (fr_X4_nextDue)) (fun r4 => fr_pI (rfl) (fr_X4_go_b38 _ _ _ ih))))))))
theorem fr_X4_go (x1 : Int32) (x2 : Int32) : Fr gs_play (f_X4_go x1 x2) := by
  unfold f_X4_go
  exact fr_X4_go_b2 _ _ _
theorem fr_X4_hurtsOfAll_b4 : ∀ (fu : Nat) (x1 : Int32) (x2 : Int32), Fr gs_none (f_X4_hurtsOfAll_b4 fu x1 x2) := by
  intro fu
  induction fu with
  | zero => intro _ _; exact fr_none
  | succ fu ih => intro x1 x2; rw [f_X4_hurtsOfAll_b4]; exact fr_br (fr_rt) (fr_gd (fun g1 => fr_lt (fun u2 => fr_gd (fun g2 => fr_dI (fun v3 => ih _ _)))))
theorem fr_X4_hurtsOfAll : Fr gs_none (f_X4_hurtsOfAll) := by
  unfold f_X4_hurtsOfAll
  exact fr_X4_hurtsOfAll_b4 _ _ _
theorem fr_X4_funOfAll_b4 : ∀ (fu : Nat) (x1 : Int32) (x2 : Int32), Fr gs_none (f_X4_funOfAll_b4 fu x1 x2) := by
  intro fu
  induction fu with
  | zero => intro _ _; exact fr_none
  | succ fu ih => intro x1 x2; rw [f_X4_funOfAll_b4]; exact fr_br (fr_rt) (fr_gd (fun g1 => fr_lt (fun u2 => fr_gd (fun g2 => fr_dI (fun v3 => ih _ _)))))
theorem fr_X4_funOfAll : Fr gs_none (f_X4_funOfAll) := by
  unfold f_X4_funOfAll
  exact fr_X4_funOfAll_b4 _ _ _
theorem fr_X5_behindBlanks_b50 (k5 : Int32 → Sg → Option (Int32 × Sg)) (x1 : Int32) (hk5 : ∀ a0, Fr gs_none (k5 a0)) : Fr gs_none (f_X5_behindBlanks_b50 k5 x1) := by
  unfold f_X5_behindBlanks_b50
  exact hk5 _
theorem fr_X5_behindBlanks_b5 : ∀ (fu : Nat) (x1 : Int32), Fr gs_none (f_X5_behindBlanks_b5 fu x1) := by
  intro fu
  induction fu with
  | zero => intro _; exact fr_none
  | succ fu ih => intro x1; rw [f_X5_behindBlanks_b5]; exact fr_br (fr_dI (fun v2 => fr_rt)) (fr_dI (fun v3 => fr_br (fr_dI (fun v5 => fr_rt)) (fr_dR (fun u6 => fr_gd (fun g1 => fr_br (fr_dI (fun v8 => fr_rt)) (fr_dR (fun u9 => fr_gd (fun g2 => fr_gd (fun g3 => fr_dI (fun v10 => fr_br (fr_X5_behindBlanks_b50 _ _ ih) (fr_dR (fun u12 => fr_gd (fun g4 => fr_gd (fun g5 => fr_dI (fun v13 => fr_br (fr_X5_behindBlanks_b50 _ _ ih) (fr_rt))))))))))))))))
theorem fr_X5_behindBlanks : Fr gs_none (f_X5_behindBlanks) := by
  unfold f_X5_behindBlanks
  exact fr_dI (fun v1 => fr_X5_behindBlanks_b5 _ _)
theorem fr_X5_behindRow_b5 : ∀ (fu : Nat) (x1 : Int32) (x2 : Int32) (x3 : Int32), Fr gs_none (f_X5_behindRow_b5 fu x1 x2 x3) := by
  intro fu
  induction fu with
  | zero => intro _ _ _; exact fr_none
  | succ fu ih => intro x1 x2 x3; rw [f_X5_behindRow_b5]; exact fr_br (fr_dI (fun v2 => fr_rt)) (fr_dI (fun v3 => fr_br (fr_dI (fun v5 => fr_rt)) (fr_dR (fun u6 => fr_gd (fun g1 => fr_br (fr_dI (fun v8 => fr_rt)) (fr_dR (fun u9 => fr_gd (fun g2 => fr_gd (fun g3 => fr_dI (fun v10 => fr_br (fr_rt) (fr_dR (fun u12 => fr_gd (fun g4 => fr_gd (fun g5 => fr_dI (fun v13 => fr_br (ih _ _ _) (fr_rt))))))))))))))))
theorem fr_X5_behindRow (x1 : Int32) (x2 : Int32) : Fr gs_none (f_X5_behindRow x1 x2) := by
  unfold f_X5_behindRow
  exact fr_dI (fun v1 => fr_X5_behindRow_b5 _ _ _ _)
theorem fr_X5_valueOfRow_b24 : ∀ (fu : Nat) (x1 : Int32) (x2 : Int32), Fr gs_none (f_X5_valueOfRow_b24 fu x1 x2) := by
  intro fu
  induction fu with
  | zero => intro _ _; exact fr_none
  | succ fu ih => intro x1 x2; rw [f_X5_valueOfRow_b24]; exact fr_br (fr_rt) (fr_dI (fun v2 => fr_br (fr_rt) (fr_dR (fun u4 => fr_gd (fun g1 => fr_br (fr_rt) (fr_dR (fun u6 => fr_gd (fun g2 => fr_gd (fun g3 => fr_dI (fun v7 => fr_lt (fun w8 => ih _ _)))))))))))
theorem fr_X5_valueOfRow : Fr gs_none (f_X5_valueOfRow) := by
  unfold f_X5_valueOfRow
  exact fr_dI (fun v1 => fr_dI (fun v2 => fr_br (fr_dI (fun v4 => fr_X5_valueOfRow_b24 _ _ _)) (fr_rt)))
theorem fr_X5_next_b46 : Fr gs_read (f_X5_next_b46) := by
  unfold f_X5_next_b46
  exact fr_pI (rfl) (fr_rt)
theorem fr_X5_next_b162 (xs0 : Int32) : Fr gs_read (f_X5_next_b162 xs0) := by
  unfold f_X5_next_b162
  exact fr_pI (rfl) (fr_dI (fun v1 => fr_pI (rfl) (fr_rt)))
theorem fr_X5_next_b145 (x1 : Int32) : Fr gs_read (f_X5_next_b145 x1) := by
  unfold f_X5_next_b145
  exact fr_cl (fr_mono su_none_read (fr_Sidx _ _)) (fun r1 => fr_br (fr_X5_next_b162 _) (fr_X5_next_b162 _))
theorem fr_X5_next_b103 (x1 : Int32) : Fr gs_read (f_X5_next_b103 x1) := by
  unfold f_X5_next_b103
  exact fr_br (fr_X5_next_b145 _) (fr_br (fr_X5_next_b145 _) (fr_pI (rfl) (fr_cl (fr_mono su_none_read (fr_X5_behindRow _ _)) (fun r3 => fr_pI (rfl) (fr_cl (fr_mono su_none_read (fr_X5_valueOfRow)) (fun r4 => fr_pI (rfl) (fr_rt)))))))
theorem fr_X5_next : Fr gs_read (f_X5_next) := by
  unfold f_X5_next
  exact fr_cl (fr_mono su_none_read (fr_X5_behindBlanks)) (fun r1 => fr_pI (rfl) (fr_dI (fun v2 => fr_pI (rfl) (fr_dI (fun v3 => fr_br (fr_X5_next_b46) (fr_dI (fun v5 => fr_dI (fun v6 => fr_br (fr_X5_next_b46) (fr_dI (fun v8 => fr_dR (fun u9 => fr_gd (fun g1 => fr_br (fr_dR (fun u11 => fr_gd (fun g2 => fr_dI (fun v12 => fr_gd (fun g3 => fr_dI (fun v13 => fr_lt (fun w14 => fr_br (fr_X5_next_b103 _) (fr_br (fr_X5_next_b103 _) (fr_pI (rfl) (fr_cl (fr_mono su_none_read (fr_X5_behindRow _ _)) (fun r17 => fr_pI (rfl) (fr_rt)))))))))))) (fr_X5_next_b46)))))))))))))
theorem fr_X5_begin (q1 : Nat) (x2 : Int32) : Fr gs_read (f_X5_begin q1 x2) := by
  unfold f_X5_begin
  exact fr_gd (fun g1 => fr_pR (rfl) (fr_lt (fun w1 => fr_pI (rfl) (fr_pI (rfl) (fr_cl (fr_X5_next) (fun _ => fr_rt))))))
theorem fr_X5_isWord_b30 : ∀ (fu : Nat) (q1 : Nat) (x2 : Int32), Fr gs_none (f_X5_isWord_b30 fu q1 x2) := by
  intro fu
  induction fu with
  | zero => intro _ _; exact fr_none
  | succ fu ih => intro q1 x2; rw [f_X5_isWord_b30]; exact fr_gd (fun g1 => fr_cl (fr_Slen _) (fun r1 => fr_br (fr_rt) (fr_dI (fun v3 => fr_br (fr_rt) (fr_dR (fun u5 => fr_gd (fun g2 => fr_br (fr_rt) (fr_dR (fun u7 => fr_gd (fun g3 => fr_gd (fun g4 => fr_dI (fun v8 => fr_gd (fun g5 => fr_cl (fr_SchAt _ _) (fun r9 => fr_br (ih _ _) (fr_rt)))))))))))))))
theorem fr_X5_isWord (q1 : Nat) : Fr gs_none (f_X5_isWord q1) := by
  unfold f_X5_isWord
  exact fr_dI (fun v1 => fr_br (fr_dI (fun v3 => fr_dI (fun v4 => fr_gd (fun g1 => fr_cl (fr_Slen _) (fun r5 => fr_br (fr_X5_isWord_b30 _ _ _) (fr_rt)))))) (fr_rt))
theorem fr_X6_add (q0 : Nat) (x1 : Int32) : Fr gs_tell (f_X6_add q0 x1) := by
  unfold f_X6_add
  exact fr_gd (fun g1 => fr_dI (fun v1 => fr_br (fr_rt) (fr_dI (fun v3 => fr_br (fr_rt) (fr_dI (fun v5 => fr_gd (fun g2 => fr_pI (iRu1_tell g1) (fr_dI (fun v6 => fr_pI (iRu0_tell g1) (fr_rt))))))))))
theorem fr_X6_endRule (q0 : Nat) : Fr gs_tell (f_X6_endRule q0) := by
  unfold f_X6_endRule
  exact fr_gd (fun g1 => fr_dI (fun v1 => fr_br (fr_rt) (fr_dI (fun v3 => fr_br (fr_rt) (fr_dI (fun v5 => fr_dI (fun v6 => fr_gd (fun g2 => fr_pI (iRu2_tell g1) (fr_dI (fun v7 => fr_pI (iRu0_tell g1) (fr_rt)))))))))))
theorem fr_X7_begin (q0 : Nat) (q1 : Nat) : Fr gs_sc (f_X7_begin q0 q1) := by
  unfold f_X7_begin
  exact fr_gd (fun g1 => fr_gd (fun g2 => fr_wI (fun _ => iSc1_sc g1) (fr_dI (fun v1 => fr_pI (iSc0_sc g1) (fr_pI (iSc0_sc g1) (fr_pI (iSc0_sc g1) (fr_pI (iSc0_sc g1) (fr_pI (iSc0_sc g1) (fr_rt)))))))))
theorem fr_X7_copy (q0 : Nat) (q1 : Nat) : Fr gs_sc (f_X7_copy q0 q1) := by
  unfold f_X7_copy
  exact fr_gd (fun g1 => fr_gd (fun g2 => fr_wI (fun _ => iSc1_sc g1) (fr_dI (fun v1 => fr_pI (iSc0_sc g1) (fr_dI (fun v2 => fr_pI (iSc0_sc g1) (fr_dI (fun v3 => fr_pI (iSc0_sc g1) (fr_wI (fun _ => iSc2_sc g1) (fr_wI (fun _ => iSc3_sc g1) (fr_wI (fun _ => iSc4_sc g1) (fr_dI (fun v4 => fr_pI (iSc0_sc g1) (fr_wI (fun _ => iSc5_sc g1) (fr_dI (fun v5 => fr_pI (iSc0_sc g1) (fr_rt)))))))))))))))))
theorem fr_X7_put (q0 : Nat) (x1 : Int32) (x2 : Int32) (x3 : Int32) : Fr gs_sc (f_X7_put q0 x1 x2 x3) := by
  unfold f_X7_put
  exact fr_gd (fun g1 => fr_br (fr_dI (fun v2 => fr_pI (iSc0_sc g1) (fr_rt))) (fr_br (fr_dI (fun v4 => fr_pI (iSc0_sc g1) (fr_rt))) (fr_lt (fun w5 => fr_br (fr_rt) (fr_br (fr_rt) (fr_gd (fun g2 => fr_dI (fun v8 => fr_gd (fun g3 => fr_pI (iSc1_sc g1) (fr_rt))))))))))
theorem fr_X7_dropOldestAct (q0 : Nat) : Fr gs_sc (f_X7_dropOldestAct q0) := by
  unfold f_X7_dropOldestAct
  exact fr_gd (fun g1 => fr_wI (fun _ => iSc2_sc g1) (fr_wI (fun _ => iSc3_sc g1) (fr_wI (fun _ => iSc4_sc g1) (fr_pI (iSc0_sc g1) (fr_rt)))))
theorem fr_X7_keepAct_b13 (q0 : Nat) (x1 : Int32) (x2 : Int32) (x3 : Int32) : Fr gs_sc (f_X7_keepAct_b13 q0 x1 x2 x3) := by
  unfold f_X7_keepAct_b13
  exact fr_gd (fun g1 => fr_dI (fun v1 => fr_br (fr_rt) (fr_dI (fun v3 => fr_br (fr_rt) (fr_dI (fun v5 => fr_gd (fun g2 => fr_pI (iSc2_sc g1) (fr_dI (fun v6 => fr_gd (fun g3 => fr_pI (iSc3_sc g1) (fr_dI (fun v7 => fr_gd (fun g4 => fr_pI (iSc4_sc g1) (fr_dI (fun v8 => fr_pI (iSc0_sc g1) (fr_rt))))))))))))))))
theorem fr_X7_keepAct (q0 : Nat) (x1 : Int32) (x2 : Int32) (x3 : Int32) : Fr gs_sc (f_X7_keepAct q0 x1 x2 x3) := by
  unfold f_X7_keepAct
  exact fr_gd (fun g1 => fr_dI (fun v1 => fr_br (fr_X7_keepAct_b13 _ _ _ _) (fr_cl (fr_X7_dropOldestAct _) (fun _ => fr_X7_keepAct_b13 _ _ _ _))))
theorem fr_X7_act (q0 : Nat) (x1 : Int32) (x2 : Int32) (x3 : Int32) : Fr gs_sc (f_X7_act q0 x1 x2 x3) := by
  unfold f_X7_act
  exact fr_gd (fun g1 => fr_cl (fr_X7_put _ _ _ _) (fun r1 => fr_cl (fr_X7_keepAct _ _ _ _) (fun _ => fr_rt)))
theorem fr_X7_takeBack (q0 : Nat) : Fr gs_sc (f_X7_takeBack q0) := by
  unfold f_X7_takeBack
  exact fr_gd (fun g1 => fr_dI (fun v1 => fr_br (fr_rt) (fr_dI (fun v3 => fr_br (fr_dI (fun v5 => fr_pI (iSc0_sc g1) (fr_dI (fun v6 => fr_gd (fun g2 => fr_dI (fun v7 => fr_dI (fun v8 => fr_gd (fun g3 => fr_dI (fun v9 => fr_dI (fun v10 => fr_gd (fun g4 => fr_dI (fun v11 => fr_cl (fr_X7_put _ _ _ _) (fun r12 => fr_rt))))))))))))) (fr_rt)))))
theorem fr_X7_addPlace (q0 : Nat) (x1 : Int32) : Fr gs_sc (f_X7_addPlace q0 x1) := by
  unfold f_X7_addPlace
  exact fr_gd (fun g1 => fr_dI (fun v1 => fr_br (fr_rt) (fr_dI (fun v3 => fr_br (fr_dI (fun v5 => fr_gd (fun g2 => fr_pI (iSc5_sc g1) (fr_dI (fun v6 => fr_pI (iSc0_sc g1) (fr_rt)))))) (fr_rt)))))
theorem fr_X7_fitting_b87 (k5 : Nat → Int32 → Int32 → Int32 → Sg → Option (Int32 × Sg)) (q0 : Nat) (x1 : Int32) (x3 : Int32) (xs0 : Int32) (xs1 : Int32) (hk5 : ∀ a0 a1 a2 a3, Fr gs_none (k5 a0 a1 a2 a3)) : Fr gs_none (f_X7_fitting_b87 k5 q0 x1 x3 xs0 xs1) := by
  unfold f_X7_fitting_b87
  exact fr_gd (fun g1 => hk5 _ _ _ _)
theorem fr_X7_fitting_b69 (k5 : Nat → Int32 → Int32 → Int32 → Sg → Option (Int32 × Sg)) (q0 : Nat) (x1 : Int32) (x2 : Int32) (x3 : Int32) (x5 : Int32) (xs0 : Int32) (hk5 : ∀ a0 a1 a2 a3, Fr gs_none (k5 a0 a1 a2 a3)) : Fr gs_none (f_X7_fitting_b69 k5 q0 x1 x2 x3 x5 xs0) := by
  unfold f_X7_fitting_b69
  exact fr_gd (fun g1 => fr_br (fr_X7_fitting_b87 _ _ _ _ _ _ hk5) (fr_X7_fitting_b87 _ _ _ _ _ _ hk5))
theorem fr_X7_fitting_b68 (k5 : Nat → Int32 → Int32 → Int32 → Sg → Option (Int32 × Sg)) (q0 : Nat) (x1 : Int32) (x2 : Int32) (x3 : Int32) (x5 : Int32) (hk5 : ∀ a0 a1 a2 a3, Fr gs_none (k5 a0 a1 a2 a3)) : Fr gs_none (f_X7_fitting_b68 k5 q0 x1 x2 x3 x5) := by
  unfold f_X7_fitting_b68
  exact fr_gd (fun g1 => fr_X7_fitting_b69 _ _ _ _ _ _ _ hk5)
theorem fr_X7_fitting_b5 : ∀ (fu : Nat) (q0 : Nat) (x1 : Int32) (x2 : Int32) (x3 : Int32), Fr gs_none (f_X7_fitting_b5 fu q0 x1 x2 x3) := by
  intro fu
  induction fu with
  | zero => intro _ _ _ _; exact fr_none
  | succ fu ih => intro q0 x1 x2 x3; rw [f_X7_fitting_b5]; exact fr_gd (fun g1 => fr_dI (fun v1 => fr_br (fr_rt) (fr_br (fr_rt) (fr_gd (fun g2 => fr_dI (fun v4 => fr_gd (fun g3 => fr_dI (fun v5 => fr_lt (fun w6 => fr_br (fr_X7_fitting_b68 _ _ _ _ _ _ ih) (fr_br (fr_X7_fitting_b68 _ _ _ _ _ _ ih) (fr_X7_fitting_b69 _ _ _ _ _ _ _ ih)))))))))))
theorem fr_X7_fitting (q0 : Nat) (x1 : Int32) : Fr gs_none (f_X7_fitting q0 x1) := by
  unfold f_X7_fitting
  exact fr_gd (fun g1 => fr_X7_fitting_b5 _ _ _ _ _)
theorem fr_X8_fail (x1 : Int32) : Fr gs_tell (f_X8_fail x1) := by
  unfold f_X8_fail
  exact fr_pI (rfl) (fr_dI (fun v1 => fr_pI (rfl) (fr_rt)))
theorem fr_X8_passOnce (x1 : Int32) : Fr gs_tell (f_X8_passOnce x1) := by
  unfold f_X8_passOnce
  exact fr_dI (fun v1 => fr_br (fr_dI (fun v3 => fr_pI (rfl) (fr_cl (fr_mono su_read_tell (fr_X5_next)) (fun _ => fr_rt)))) (fr_cl (fr_X8_fail _) (fun r4 => fr_gd (fun g1 => fr_rt))))
theorem fr_X8_number_b41 : Fr gs_tell (f_X8_number_b41) := by
  unfold f_X8_number_b41
  exact fr_cl (fr_X8_fail _) (fun r1 => fr_gd (fun g1 => fr_rt))
theorem fr_X8_number (x1 : Int32) (x2 : Int32) : Fr gs_tell (f_X8_number x1 x2) := by
  unfold f_X8_number
  exact fr_dI (fun v1 => fr_br (fr_dI (fun v3 => fr_br (fr_X8_number_b41) (fr_dI (fun v5 => fr_br (fr_dI (fun v7 => fr_pI (rfl) (fr_cl (fr_mono su_read_tell (fr_X5_next)) (fun _ => fr_rt)))) (fr_X8_number_b41))))) (fr_cl (fr_X8_fail _) (fun r8 => fr_gd (fun g1 => fr_rt))))
theorem fr_X8_tellMat : Fr gs_tell (f_X8_tellMat) := by
  unfold f_X8_tellMat
  exact fr_dR (fun u1 => fr_gd (fun g1 => fr_dI (fun v2 => fr_br (fr_cl (fr_X8_passOnce _) (fun r4 => fr_br (fr_rt) (fr_cl (fr_X8_number _ _) (fun r6 => fr_br (fr_rt) (fr_dR (fun u8 => fr_gd (fun g2 => fr_dI (fun v9 => fr_pI (iGd0_tell g2) (fr_cl (fr_X8_number _ _) (fun r10 => fr_br (fr_rt) (fr_dR (fun u12 => fr_gd (fun g3 => fr_dI (fun v13 => fr_pI (iGd0_tell g3) (fr_cl (fr_X8_number _ _) (fun r14 => fr_br (fr_rt) (fr_dR (fun u16 => fr_gd (fun g4 => fr_dI (fun v17 => fr_pI (iGd0_tell g4) (fr_rt))))))))))))))))))))) (fr_cl (fr_X8_fail _) (fun r18 => fr_gd (fun g5 => fr_rt))))))
theorem fr_X8_signed_b57 (xs0 : Int32) : Fr gs_tell (f_X8_signed_b57 xs0) := by
  unfold f_X8_signed_b57
  exact fr_pI (rfl) (fr_rt)
theorem fr_X8_signed_b29 (x1 : Int32) (x2 : Int32) : Fr gs_tell (f_X8_signed_b29 x1 x2) := by
  unfold f_X8_signed_b29
  exact fr_cl (fr_X8_number _ _) (fun r1 => fr_br (fr_rt) (fr_br (fr_dI (fun v4 => fr_X8_signed_b57 _)) (fr_dI (fun v5 => fr_X8_signed_b57 _))))
theorem fr_X8_signed_b17 (x1 : Int32) (xs0 : Int32) : Fr gs_tell (f_X8_signed_b17 x1 xs0) := by
  unfold f_X8_signed_b17
  exact fr_br (fr_X8_signed_b29 _ _) (fr_cl (fr_mono su_read_tell (fr_X5_next)) (fun _ => fr_X8_signed_b29 _ _))
theorem fr_X8_signed (x1 : Int32) : Fr gs_tell (f_X8_signed x1) := by
  unfold f_X8_signed
  exact fr_dI (fun v1 => fr_br (fr_X8_signed_b17 _ _) (fr_X8_signed_b17 _ _))
theorem fr_X8_tellBroken : Fr gs_tell (f_X8_tellBroken) := by
  unfold f_X8_tellBroken
  exact fr_cl (fr_X8_passOnce _) (fun r1 => fr_br (fr_rt) (fr_cl (fr_X8_signed _) (fun r3 => fr_br (fr_rt) (fr_dR (fun u5 => fr_gd (fun g1 => fr_dI (fun v6 => fr_pI (iGd0_tell g1) (fr_rt))))))))
theorem fr_X8_tellNear : Fr gs_tell (f_X8_tellNear) := by
  unfold f_X8_tellNear
  exact fr_cl (fr_X8_passOnce _) (fun r1 => fr_br (fr_rt) (fr_cl (fr_X8_number _ _) (fun r3 => fr_br (fr_rt) (fr_dR (fun u5 => fr_gd (fun g1 => fr_dI (fun v6 => fr_pI (iGd0_tell g1) (fr_rt))))))))
theorem fr_X8_tellSlips_b78 (xs0 : Int32) : Fr gs_tell (f_X8_tellSlips_b78 xs0) := by
  unfold f_X8_tellSlips_b78
  exact fr_cl (fr_X8_number _ _) (fun r1 => fr_br (fr_rt) (fr_dR (fun u3 => fr_gd (fun g1 => fr_dI (fun v4 => fr_pI (iGd0_tell g1) (fr_rt))))))
theorem fr_X8_tellSlips : Fr gs_tell (f_X8_tellSlips) := by
  unfold f_X8_tellSlips
  exact fr_cl (fr_X8_passOnce _) (fun r1 => fr_br (fr_rt) (fr_cl (fr_X8_number _ _) (fun r3 => fr_br (fr_rt) (fr_dR (fun u5 => fr_gd (fun g1 => fr_dI (fun v6 => fr_pI (iGd0_tell g1) (fr_cl (fr_X8_number _ _) (fun r7 => fr_br (fr_rt) (fr_dR (fun u9 => fr_gd (fun g2 => fr_dI (fun v10 => fr_pI (iGd0_tell g2) (fr_dR (fun u11 => fr_gd (fun g3 => fr_dI (fun v12 => fr_dR (fun u13 => fr_gd (fun g4 => fr_dI (fun v14 => fr_br (fr_X8_tellSlips_b78 _) (fr_X8_tellSlips_b78 _)))))))))))))))))))))
theorem fr_X8_numberOfLast (x1 : Int32) (x2 : Int32) (x3 : Int32) : Fr gs_tell (f_X8_numberOfLast x1 x2 x3) := by
  unfold f_X8_numberOfLast
  exact fr_cl (fr_X8_number _ _) (fun r1 => fr_br (fr_rt) (fr_dR (fun u3 => fr_gd (fun g1 => fr_dI (fun v4 => fr_cl (fr_X2_tellOfLast _ _ _) (fun _ => fr_rt))))))
theorem fr_X8_tellJumper : Fr gs_tell (f_X8_tellJumper) := by
  unfold f_X8_tellJumper
  exact fr_dR (fun u1 => fr_gd (fun g1 => fr_dI (fun v2 => fr_br (fr_cl (fr_mono su_read_tell (fr_X5_next)) (fun _ => fr_dR (fun u4 => fr_gd (fun g2 => fr_dI (fun v5 => fr_pI (iGd0_tell g2) (fr_cl (fr_X8_numberOfLast _ _ _) (fun r6 => fr_br (fr_rt) (fr_cl (fr_X8_numberOfLast _ _ _) (fun r8 => fr_br (fr_rt) (fr_dR (fun u10 => fr_gd (fun g3 => fr_dI (fun v11 => fr_cl (fr_X8_signed _) (fun r12 => fr_br (fr_rt) (fr_dR (fun u14 => fr_gd (fun g4 => fr_dI (fun v15 => fr_cl (fr_X2_tellOfLast _ _ _) (fun _ => fr_dR (fun u16 => fr_gd (fun g5 => fr_cl (fr_X2_tellOfLast _ _ _) (fun _ => fr_cl (fr_X8_numberOfLast _ _ _) (fun r17 => fr_br (fr_rt) (fr_cl (fr_X8_numberOfLast _ _ _) (fun r19 => fr_br (fr_rt) (fr_cl (fr_mono su_none_tell (fr_X5_isWord _)) (fun r21 => fr_br (fr_rt) (fr_cl (fr_mono su_read_tell (fr_X5_next)) (fun _ => fr_cl (fr_X8_numberOfLast _ _ _) (fun r23 => fr_gd (fun g6 => fr_rt))))))))))))))))))))))))))))))) (fr_cl (fr_X8_fail _) (fun r24 => fr_gd (fun g7 => fr_rt))))))
theorem fr_X8_mayBeginPart_b38 : Fr gs_none (f_X8_mayBeginPart_b38) := by
  unfold f_X8_mayBeginPart_b38
  exact fr_rt
theorem fr_X8_mayBeginPart : Fr gs_none (f_X8_mayBeginPart) := by
  unfold f_X8_mayBeginPart
  exact fr_dI (fun v1 => fr_br (fr_X8_mayBeginPart_b38) (fr_dI (fun v3 => fr_br (fr_X8_mayBeginPart_b38) (fr_dI (fun v5 => fr_br (fr_X8_mayBeginPart_b38) (fr_rt))))))
theorem fr_X8_pass (x1 : Int32) : Fr gs_tell (f_X8_pass x1) := by
  unfold f_X8_pass
  exact fr_dI (fun v1 => fr_br (fr_cl (fr_mono su_read_tell (fr_X5_next)) (fun _ => fr_rt)) (fr_cl (fr_X8_fail _) (fun r3 => fr_gd (fun g1 => fr_rt))))
theorem fr_X8_valueTold : Fr gs_none (f_X8_valueTold) := by
  unfold f_X8_valueTold
  exact fr_cl (fr_X5_isWord _) (fun r1 => fr_br (fr_cl (fr_X5_isWord _) (fun r3 => fr_br (fr_cl (fr_X5_isWord _) (fun r5 => fr_br (fr_cl (fr_X5_isWord _) (fun r7 => fr_br (fr_cl (fr_X5_isWord _) (fun r9 => fr_br (fr_cl (fr_X5_isWord _) (fun r11 => fr_br (fr_cl (fr_X5_isWord _) (fun r13 => fr_br (fr_cl (fr_X5_isWord _) (fun r15 => fr_br (fr_rt) (fr_rt))) (fr_rt))) (fr_rt))) (fr_rt))) (fr_rt))) (fr_rt))) (fr_rt))) (fr_rt))
theorem fr_X8_part (kE : Int32 → Sg → Option (Int32 × Sg)) (x1 : Int32) (hkE : ∀ a0, Fr gs_tell (kE a0)) : Fr gs_tell (f_X8_part kE x1) := by
  unfold f_X8_part
  exact fr_dI (fun v1 => fr_br (fr_cl (fr_X8_number _ _) (fun r3 => fr_br (fr_rt) (fr_dR (fun u5 => fr_gd (fun g1 => fr_dI (fun v6 => fr_cl (fr_X6_add _ _) (fun _ => fr_rt))))))) (fr_dI (fun v7 => fr_br (fr_cl (fr_mono su_none_tell (fr_X8_valueTold)) (fun r9 => fr_br (fr_cl (fr_X8_fail _) (fun r11 => fr_gd (fun g2 => fr_rt))) (fr_dR (fun u12 => fr_gd (fun g3 => fr_cl (fr_X6_add _ _) (fun _ => fr_cl (fr_mono su_read_tell (fr_X5_next)) (fun _ => fr_rt))))))) (fr_cl (fr_X8_pass _) (fun r13 => fr_br (fr_rt) (fr_cl (hkE _) (fun r15 => fr_br (fr_rt) (fr_cl (fr_X8_pass _) (fun r17 => fr_br (fr_rt) (fr_rt))))))))))
theorem fr_X8_product_b88 (kE : Int32 → Sg → Option (Int32 × Sg)) (k12 : Int32 → Int32 → Sg → Option (Int32 × Sg)) (x1 : Int32) (x2 : Int32) (xs0 : Int32) (qs1 : Nat) (hkE : ∀ a0, Fr gs_tell (kE a0)) (hk12 : ∀ a0 a1, Fr gs_tell (k12 a0 a1)) : Fr gs_tell (f_X8_product_b88 kE k12 x1 x2 xs0 qs1) := by
  unfold f_X8_product_b88
  exact fr_gd (fun g1 => fr_cl (fr_X6_add _ _) (fun _ => hk12 _ _))
theorem fr_X8_product_b43 (kE : Int32 → Sg → Option (Int32 × Sg)) (k12 : Int32 → Int32 → Sg → Option (Int32 × Sg)) (x1 : Int32) (x2 : Int32) (hkE : ∀ a0, Fr gs_tell (kE a0)) (hk12 : ∀ a0 a1, Fr gs_tell (k12 a0 a1)) : Fr gs_tell (f_X8_product_b43 kE k12 x1 x2) := by
  unfold f_X8_product_b43
  exact fr_dI (fun v1 => fr_cl (fr_mono su_read_tell (fr_X5_next)) (fun _ => fr_cl (fr_X8_part _ _ hkE) (fun r2 => fr_br (fr_rt) (fr_dR (fun u4 => fr_gd (fun g1 => fr_br (fr_X8_product_b88 _ _ _ _ _ _ hkE hk12) (fr_X8_product_b88 _ _ _ _ _ _ hkE hk12)))))))
theorem fr_X8_product_b12 (kE : Int32 → Sg → Option (Int32 × Sg)) (hkE : ∀ a0, Fr gs_tell (kE a0)) : ∀ (fu : Nat) (x1 : Int32) (x2 : Int32), Fr gs_tell (f_X8_product_b12 kE fu x1 x2) := by
  intro fu
  induction fu with
  | zero => intro _ _; exact fr_none
  | succ fu ih => intro x1 x2; rw [f_X8_product_b12]; exact fr_br (fr_rt) (fr_dI (fun v2 => fr_br (fr_X8_product_b43 _ _ _ _ hkE ih) (fr_dI (fun v4 => fr_br (fr_X8_product_b43 _ _ _ _ hkE ih) (fr_rt)))))
theorem fr_X8_product (kE : Int32 → Sg → Option (Int32 × Sg)) (x1 : Int32) (hkE : ∀ a0, Fr gs_tell (kE a0)) : Fr gs_tell (f_X8_product kE x1) := by
  unfold f_X8_product
  exact fr_cl (fr_X8_part _ _ hkE) (fun r1 => fr_br (fr_rt) (fr_X8_product_b12 _ hkE _ _ _))
theorem fr_X8_sum_b88 (kE : Int32 → Sg → Option (Int32 × Sg)) (k12 : Int32 → Int32 → Sg → Option (Int32 × Sg)) (x1 : Int32) (x2 : Int32) (xs0 : Int32) (qs1 : Nat) (hkE : ∀ a0, Fr gs_tell (kE a0)) (hk12 : ∀ a0 a1, Fr gs_tell (k12 a0 a1)) : Fr gs_tell (f_X8_sum_b88 kE k12 x1 x2 xs0 qs1) := by
  unfold f_X8_sum_b88
  exact fr_gd (fun g1 => fr_cl (fr_X6_add _ _) (fun _ => hk12 _ _))
theorem fr_X8_sum_b43 (kE : Int32 → Sg → Option (Int32 × Sg)) (k12 : Int32 → Int32 → Sg → Option (Int32 × Sg)) (x1 : Int32) (x2 : Int32) (hkE : ∀ a0, Fr gs_tell (kE a0)) (hk12 : ∀ a0 a1, Fr gs_tell (k12 a0 a1)) : Fr gs_tell (f_X8_sum_b43 kE k12 x1 x2) := by
  unfold f_X8_sum_b43
  exact fr_dI (fun v1 => fr_cl (fr_mono su_read_tell (fr_X5_next)) (fun _ => fr_cl (fr_X8_product _ _ hkE) (fun r2 => fr_br (fr_rt) (fr_dR (fun u4 => fr_gd (fun g1 => fr_br (fr_X8_sum_b88 _ _ _ _ _ _ hkE hk12) (fr_X8_sum_b88 _ _ _ _ _ _ hkE hk12)))))))
theorem fr_X8_sum_b12 (kE : Int32 → Sg → Option (Int32 × Sg)) (hkE : ∀ a0, Fr gs_tell (kE a0)) : ∀ (fu : Nat) (x1 : Int32) (x2 : Int32), Fr gs_tell (f_X8_sum_b12 kE fu x1 x2) := by
  intro fu
  induction fu with
  | zero => intro _ _; exact fr_none
  | succ fu ih => intro x1 x2; rw [f_X8_sum_b12]; exact fr_br (fr_rt) (fr_dI (fun v2 => fr_br (fr_X8_sum_b43 _ _ _ _ hkE ih) (fr_dI (fun v4 => fr_br (fr_X8_sum_b43 _ _ _ _ hkE ih) (fr_rt)))))
theorem fr_X8_sum (kE : Int32 → Sg → Option (Int32 × Sg)) (x1 : Int32) (hkE : ∀ a0, Fr gs_tell (kE a0)) : Fr gs_tell (f_X8_sum kE x1) := by
  unfold f_X8_sum
  exact fr_cl (fr_X8_product _ _ hkE) (fun r1 => fr_br (fr_rt) (fr_X8_sum_b12 _ hkE _ _ _))
theorem fr_X8_test_b69 (kE : Int32 → Sg → Option (Int32 × Sg)) (xs0 : Int32) (qs1 : Nat) (hkE : ∀ a0, Fr gs_tell (kE a0)) : Fr gs_tell (f_X8_test_b69 kE xs0 qs1) := by
  unfold f_X8_test_b69
  exact fr_gd (fun g1 => fr_cl (fr_X6_add _ _) (fun _ => fr_rt))
theorem fr_X8_test_b32 (kE : Int32 → Sg → Option (Int32 × Sg)) (x1 : Int32) (x2 : Int32) (hkE : ∀ a0, Fr gs_tell (kE a0)) : Fr gs_tell (f_X8_test_b32 kE x1 x2) := by
  unfold f_X8_test_b32
  exact fr_cl (fr_mono su_read_tell (fr_X5_next)) (fun _ => fr_cl (fr_X8_sum _ _ hkE) (fun r1 => fr_br (fr_rt) (fr_dR (fun u3 => fr_gd (fun g1 => fr_br (fr_X8_test_b69 _ _ _ hkE) (fr_X8_test_b69 _ _ _ hkE))))))
theorem fr_X8_test (kE : Int32 → Sg → Option (Int32 × Sg)) (x1 : Int32) (hkE : ∀ a0, Fr gs_tell (kE a0)) : Fr gs_tell (f_X8_test kE x1) := by
  unfold f_X8_test
  exact fr_cl (fr_X8_sum _ _ hkE) (fun r1 => fr_br (fr_rt) (fr_dI (fun v3 => fr_br (fr_X8_test_b32 _ _ _ hkE) (fr_br (fr_X8_test_b32 _ _ _ hkE) (fr_rt)))))
theorem fr_X8_denied_b28 (kE : Int32 → Sg → Option (Int32 × Sg)) (hkE : ∀ a0, Fr gs_tell (kE a0)) : Fr gs_tell (f_X8_denied_b28 kE) := by
  unfold f_X8_denied_b28
  exact fr_cl (fr_X8_fail _) (fun r1 => fr_gd (fun g1 => fr_rt))
theorem fr_X8_denied_b62 (kE : Int32 → Sg → Option (Int32 × Sg)) (hkE : ∀ a0, Fr gs_tell (kE a0)) : ∀ (fu : Nat) (x2 : Int32) (x3 : Int32), Fr gs_tell (f_X8_denied_b62 kE fu x2 x3) := by
  intro fu
  induction fu with
  | zero => intro _ _; exact fr_none
  | succ fu ih => intro x2 x3; rw [f_X8_denied_b62]; exact fr_br (fr_rt) (fr_dR (fun u2 => fr_gd (fun g1 => fr_cl (fr_X6_add _ _) (fun _ => ih _ _))))
theorem fr_X8_denied_b50 (kE : Int32 → Sg → Option (Int32 × Sg)) (x1 : Int32) (x2 : Int32) (hkE : ∀ a0, Fr gs_tell (kE a0)) : Fr gs_tell (f_X8_denied_b50 kE x1 x2) := by
  unfold f_X8_denied_b50
  exact fr_cl (fr_X8_test _ _ hkE) (fun r1 => fr_br (fr_rt) (fr_X8_denied_b62 _ hkE _ _ _))
theorem fr_X8_denied_b4 (kE : Int32 → Sg → Option (Int32 × Sg)) (hkE : ∀ a0, Fr gs_tell (kE a0)) : ∀ (fu : Nat) (x1 : Int32) (x2 : Int32) (x3 : Int32), Fr gs_tell (f_X8_denied_b4 kE fu x1 x2 x3) := by
  intro fu
  induction fu with
  | zero => intro _ _ _; exact fr_none
  | succ fu ih => intro x1 x2 x3; rw [f_X8_denied_b4]; exact fr_br (fr_X8_denied_b50 _ _ _ hkE) (fr_cl (fr_mono su_none_tell (fr_X5_isWord _)) (fun r2 => fr_br (fr_X8_denied_b50 _ _ _ hkE) (fr_br (fr_X8_denied_b28 _ hkE) (fr_cl (fr_mono su_read_tell (fr_X5_next)) (fun _ => ih _ _ _)))))
theorem fr_X8_denied (kE : Int32 → Sg → Option (Int32 × Sg)) (x1 : Int32) (hkE : ∀ a0, Fr gs_tell (kE a0)) : Fr gs_tell (f_X8_denied kE x1) := by
  unfold f_X8_denied
  exact fr_X8_denied_b4 _ hkE _ _ _ _
theorem fr_X8_both_b12 (kE : Int32 → Sg → Option (Int32 × Sg)) (hkE : ∀ a0, Fr gs_tell (kE a0)) : ∀ (fu : Nat) (x1 : Int32) (x2 : Int32), Fr gs_tell (f_X8_both_b12 kE fu x1 x2) := by
  intro fu
  induction fu with
  | zero => intro _ _; exact fr_none
  | succ fu ih => intro x1 x2; rw [f_X8_both_b12]; exact fr_br (fr_rt) (fr_cl (fr_mono su_none_tell (fr_X5_isWord _)) (fun r2 => fr_br (fr_rt) (fr_cl (fr_mono su_read_tell (fr_X5_next)) (fun _ => fr_cl (fr_X8_denied _ _ hkE) (fun r4 => fr_br (fr_rt) (fr_dR (fun u6 => fr_gd (fun g1 => fr_cl (fr_X6_add _ _) (fun _ => ih _ _)))))))))
theorem fr_X8_both (kE : Int32 → Sg → Option (Int32 × Sg)) (x1 : Int32) (hkE : ∀ a0, Fr gs_tell (kE a0)) : Fr gs_tell (f_X8_both kE x1) := by
  unfold f_X8_both
  exact fr_cl (fr_X8_denied _ _ hkE) (fun r1 => fr_br (fr_rt) (fr_X8_both_b12 _ hkE _ _ _))
theorem fr_X8_eitherB_b19 (kE : Int32 → Sg → Option (Int32 × Sg)) (xs0 : Int32) (hkE : ∀ a0, Fr gs_tell (kE a0)) : Fr gs_tell (f_X8_eitherB_b19 kE xs0) := by
  unfold f_X8_eitherB_b19
  exact fr_cl (fr_X8_fail _) (fun r1 => fr_gd (fun g1 => fr_rt))
theorem fr_X8_eitherB_b35 (kE : Int32 → Sg → Option (Int32 × Sg)) (hkE : ∀ a0, Fr gs_tell (kE a0)) : ∀ (fu : Nat) (x1 : Int32) (x2 : Int32), Fr gs_tell (f_X8_eitherB_b35 kE fu x1 x2) := by
  intro fu
  induction fu with
  | zero => intro _ _; exact fr_none
  | succ fu ih => intro x1 x2; rw [f_X8_eitherB_b35]; exact fr_br (fr_rt) (fr_cl (fr_mono su_none_tell (fr_X5_isWord _)) (fun r2 => fr_br (fr_rt) (fr_cl (fr_mono su_read_tell (fr_X5_next)) (fun _ => fr_cl (fr_X8_both _ _ hkE) (fun r4 => fr_br (fr_rt) (fr_dR (fun u6 => fr_gd (fun g1 => fr_cl (fr_X6_add _ _) (fun _ => ih _ _)))))))))
theorem fr_X8_eitherB (kE : Int32 → Sg → Option (Int32 × Sg)) (x1 : Int32) (hkE : ∀ a0, Fr gs_tell (kE a0)) : Fr gs_tell (f_X8_eitherB kE x1) := by
  unfold f_X8_eitherB
  exact fr_br (fr_cl (fr_X8_both _ _ hkE) (fun r2 => fr_br (fr_rt) (fr_X8_eitherB_b35 _ hkE _ _ _))) (fr_cl (fr_mono su_none_tell (fr_X8_mayBeginPart)) (fun r4 => fr_br (fr_X8_eitherB_b19 _ _ hkE) (fr_X8_eitherB_b19 _ _ hkE)))
theorem fr_X8_either : ∀ (fu : Nat) (x1 : Int32), Fr gs_tell (f_X8_either fu x1) := by
  intro fu
  induction fu with
  | zero => intro x1; exact fr_none
  | succ fu ih => intro x1; exact fr_X8_eitherB _ _ ih
theorem fr_X8_tellEgg_b45 : Fr gs_tell (f_X8_tellEgg_b45) := by
  unfold f_X8_tellEgg_b45
  exact fr_cl (fr_X8_fail _) (fun r1 => fr_gd (fun g1 => fr_rt))
theorem fr_X8_tellEgg_b13 : ∀ (fu : Nat) (x1 : Int32), Fr gs_tell (f_X8_tellEgg_b13 fu x1) := by
  intro fu
  induction fu with
  | zero => intro _; exact fr_none
  | succ fu ih => intro x1; rw [f_X8_tellEgg_b13]; exact fr_br (fr_rt) (fr_dI (fun v2 => fr_br (fr_dR (fun u4 => fr_gd (fun g1 => fr_dI (fun v5 => fr_br (fr_cl (fr_X8_number _ _) (fun r7 => fr_br (fr_rt) (fr_dR (fun u9 => fr_gd (fun g2 => fr_dI (fun v10 => fr_cl (fr_X2_addPush _ _) (fun _ => ih _))))))) (fr_X8_tellEgg_b45))))) (fr_rt)))
theorem fr_X8_tellEgg : Fr gs_tell (f_X8_tellEgg) := by
  unfold f_X8_tellEgg
  exact fr_cl (fr_X8_passOnce _) (fun r1 => fr_br (fr_rt) (fr_X8_tellEgg_b13 _ _))
theorem fr_X9_comeTo_b26 (x3 : Int64) : Fr gs_wan (f_X9_comeTo_b26 x3) := by
  unfold f_X9_comeTo_b26
  exact fr_dL (fun v1 => fr_pL (rfl) (fr_rt))
theorem fr_X9_comeTo (q1 : Nat) (x2 : Int32) (x3 : Int64) : Fr gs_wan (f_X9_comeTo q1 x2 x3) := by
  unfold f_X9_comeTo
  exact fr_gd (fun g1 => fr_cl (fr_mono su_none_wan (fr_X2_isBeyond _ _)) (fun r1 => fr_br (fr_br (fr_X9_comeTo_b26 _) (fr_br (fr_lt (fun w5 => fr_gd (fun g2 => fr_dL (fun v6 => fr_gd (fun g3 => fr_pL (rfl) (fr_rt)))))) (fr_X9_comeTo_b26 _))) (fr_X9_comeTo_b26 _)))
theorem fr_J7_fill_d0a16_b6 : ∀ (fu : Nat) (x1 : Int64) (x3 : Int32) (x4 : Int32), Fr gs_wan (f_J7_fill_d0a16_b6 fu x1 x3 x4) := by
  intro fu
  induction fu with
  | zero => intro _ _ _; exact fr_none
  | succ fu ih => intro x1 x3 x4; rw [f_J7_fill_d0a16_b6]; exact fr_br (fr_rt) (fr_gd (fun g1 => fr_pL (rfl) (ih _ _ _)))
theorem fr_J7_fill_d0a16 (x1 : Int64) : Fr gs_wan (f_J7_fill_d0a16 x1) := by
  unfold f_J7_fill_d0a16
  exact fr_J7_fill_d0a16_b6 _ _ _ _
theorem fr_X9_takeNext : Fr gs_wan (f_X9_takeNext) := by
  unfold f_X9_takeNext
  exact fr_wL (fun _ => rfl) (fr_cl (fr_J7_fill_d0a16 _) (fun _ => fr_rt))
theorem fr_X9_jump_b139 (k43 : Nat → Int32 → Int32 → Int32 → Sg → Option (Unit × Sg)) (q1 : Nat) (x2 : Int32) (x3 : Int32) (x5 : Int32) (hk43 : ∀ a0 a1 a2 a3, Fr gs_wan (k43 a0 a1 a2 a3)) : Fr gs_wan (f_X9_jump_b139 k43 q1 x2 x3 x5) := by
  unfold f_X9_jump_b139
  exact fr_gd (fun g1 => hk43 _ _ _ _)
theorem fr_X9_jump_b43 : ∀ (fu : Nat) (q1 : Nat) (x2 : Int32) (x3 : Int32) (x5 : Int32), Fr gs_wan (f_X9_jump_b43 fu q1 x2 x3 x5) := by
  intro fu
  induction fu with
  | zero => intro _ _ _ _; exact fr_none
  | succ fu ih => intro q1 x2 x3 x5; rw [f_X9_jump_b43]; exact fr_gd (fun g1 => fr_br (fr_rt) (fr_gd (fun g2 => fr_dL (fun v2 => fr_br (fr_X9_jump_b139 _ _ _ _ _ ih) (fr_cl (fr_mono su_none_wan (fr_X2_comesTo _ _ _ _)) (fun r4 => fr_gd (fun g3 => fr_dL (fun v5 => fr_dI (fun v6 => fr_cl (fr_X9_comeTo _ _ _) (fun _ => fr_gd (fun g4 => fr_dL (fun v7 => fr_dI (fun v8 => fr_cl (fr_X9_comeTo _ _ _) (fun _ => fr_gd (fun g5 => fr_dL (fun v9 => fr_dI (fun v10 => fr_cl (fr_X9_comeTo _ _ _) (fun _ => fr_X9_jump_b139 _ _ _ _ _ ih))))))))))))))))))
theorem fr_X9_jump (q1 : Nat) (x2 : Int32) (x3 : Int32) : Fr gs_wan (f_X9_jump q1 x2 x3) := by
  unfold f_X9_jump
  exact fr_gd (fun g1 => fr_dI (fun v1 => fr_dI (fun v2 => fr_dI (fun v3 => fr_dL (fun v4 => fr_pL (rfl) (fr_dL (fun v5 => fr_pL (rfl) (fr_X9_jump_b43 _ _ _ _ _))))))))
theorem fr_X9_go_b24 : ∀ (fu : Nat) (q1 : Nat) (x3 : Int32) (x4 : Int32) (x5 : Int32) (x6 : Int32), Fr gs_wan (f_X9_go_b24 fu q1 x3 x4 x5 x6) := by
  intro fu
  induction fu with
  | zero => intro _ _ _ _ _; exact fr_none
  | succ fu ih => intro q1 x3 x4 x5 x6; rw [f_X9_go_b24]; exact fr_gd (fun g1 => fr_br (fr_rt) (fr_cl (fr_X9_jump _ _ _) (fun _ => fr_cl (fr_X9_takeNext) (fun _ => ih _ _ _ _ _))))
theorem fr_X9_go (q1 : Nat) (x2 : Int32) (x3 : Int32) (x4 : Int32) (x5 : Int32) : Fr gs_wan (f_X9_go q1 x2 x3 x4 x5) := by
  unfold f_X9_go
  exact fr_gd (fun g1 => fr_pL (rfl) (fr_pL (rfl) (fr_cl (fr_X9_comeTo _ _ _) (fun _ => fr_cl (fr_X9_takeNext) (fun _ => fr_X9_go_b24 _ _ _ _ _ _)))))
theorem fr_X9_waysAt (x1 : Int32) : Fr gs_none (f_X9_waysAt x1) := by
  unfold f_X9_waysAt
  exact fr_br (fr_rt) (fr_br (fr_rt) (fr_gd (fun g1 => fr_dL (fun v3 => fr_rt))))
theorem fr_X10_addFour_b42 (k3 : Int32 → Int32 → Sg → Option (Unit × Sg)) (x1 : Int32) (x2 : Int32) (hk3 : ∀ a0 a1, Fr gs_tape (k3 a0 a1)) : Fr gs_tape (f_X10_addFour_b42 k3 x1 x2) := by
  unfold f_X10_addFour_b42
  exact hk3 _ _
theorem fr_X10_addFour_b3 : ∀ (fu : Nat) (x1 : Int32) (x2 : Int32), Fr gs_tape (f_X10_addFour_b3 fu x1 x2) := by
  intro fu
  induction fu with
  | zero => intro _ _; exact fr_none
  | succ fu ih => intro x1 x2; rw [f_X10_addFour_b3]; exact fr_br (fr_rt) (fr_dI (fun v2 => fr_br (fr_X10_addFour_b42 _ _ _ ih) (fr_dI (fun v4 => fr_gd (fun g1 => fr_pI (rfl) (fr_dI (fun v5 => fr_pI (rfl) (fr_X10_addFour_b42 _ _ _ ih))))))))
theorem fr_X10_addFour (x1 : Int32) : Fr gs_tape (f_X10_addFour x1) := by
  unfold f_X10_addFour
  exact fr_X10_addFour_b3 _ _ _
theorem fr_X10_feed (x1 : Int32) (x2 : Int32) (x3 : Int32) (x4 : Int32) (x5 : Int32) : Fr gs_tape (f_X10_feed x1 x2 x3 x4 x5) := by
  unfold f_X10_feed
  exact fr_dI (fun v1 => fr_br (fr_cl (fr_X10_addFour _) (fun _ => fr_cl (fr_X10_addFour _) (fun _ => fr_cl (fr_X10_addFour _) (fun _ => fr_cl (fr_X10_addFour _) (fun _ => fr_cl (fr_X10_addFour _) (fun _ => fr_dI (fun v3 => fr_rt))))))) (fr_rt))
theorem fr_X10_fault : Fr gs_none (f_X10_fault) := by
  unfold f_X10_fault
  exact fr_dI (fun v1 => fr_rt)
theorem fr_X10_countTold (x1 : Int32) : Fr gs_none (f_X10_countTold x1) := by
  unfold f_X10_countTold
  exact fr_br (fr_dR (fun u2 => fr_gd (fun g1 => fr_dI (fun v3 => fr_rt)))) (fr_br (fr_dR (fun u5 => fr_gd (fun g2 => fr_dI (fun v6 => fr_rt)))) (fr_br (fr_dR (fun u8 => fr_gd (fun g3 => fr_dI (fun v9 => fr_rt)))) (fr_br (fr_dR (fun u11 => fr_gd (fun g4 => fr_dI (fun v12 => fr_rt)))) (fr_br (fr_dR (fun u14 => fr_gd (fun g5 => fr_dI (fun v15 => fr_rt)))) (fr_br (fr_dR (fun u17 => fr_gd (fun g6 => fr_dI (fun v18 => fr_rt)))) (fr_br (fr_dR (fun u20 => fr_gd (fun g7 => fr_dI (fun v21 => fr_rt)))) (fr_br (fr_dR (fun u23 => fr_gd (fun g8 => fr_dI (fun v24 => fr_rt)))) (fr_br (fr_dR (fun u26 => fr_gd (fun g9 => fr_dI (fun v27 => fr_rt)))) (fr_dR (fun u28 => fr_gd (fun g10 => fr_dI (fun v29 => fr_rt))))))))))))
theorem fr_X10_countNow (x1 : Int32) : Fr gs_none (f_X10_countNow x1) := by
  unfold f_X10_countNow
  exact fr_br (fr_dI (fun v2 => fr_rt)) (fr_br (fr_dI (fun v4 => fr_rt)) (fr_br (fr_dR (fun u6 => fr_gd (fun g1 => fr_dI (fun v7 => fr_rt)))) (fr_br (fr_dI (fun v9 => fr_rt)) (fr_br (fr_dI (fun v11 => fr_rt)) (fr_br (fr_dI (fun v13 => fr_rt)) (fr_br (fr_dI (fun v15 => fr_rt)) (fr_br (fr_dI (fun v17 => fr_rt)) (fr_dI (fun v18 => fr_rt)))))))))
theorem fr_X10_mostOf (x0 : Int32) : Fr gs_none (f_X10_mostOf x0) := by
  unfold f_X10_mostOf
  exact fr_br (fr_rt) (fr_br (fr_rt) (fr_rt))
theorem fr_X10_isRule (x1 : Int32) : Fr gs_none (f_X10_isRule x1) := by
  unfold f_X10_isRule
  exact fr_br (fr_rt) (fr_dR (fun u2 => fr_gd (fun g1 => fr_dI (fun v3 => fr_br (fr_rt) (fr_rt)))))
theorem fr_X10_obey (x1 : Int32) : Fr gs_cls (f_X10_obey x1) := by
  unfold f_X10_obey
  exact fr_cl (fr_mono su_none_cls (fr_X10_isRule _)) (fun r1 => fr_br (fr_dI (fun v3 => fr_pI (rfl) (fr_rt))) (fr_cl (fr_mono su_sc_cls (fr_X7_act _ _ _ _)) (fun r4 => fr_rt)))
theorem fr_X10_last_b12 : Fr gs_cls (f_X10_last_b12) := by
  unfold f_X10_last_b12
  exact fr_dI (fun v1 => fr_pI (rfl) (fr_rt))
theorem fr_X10_last (x1 : Int32) : Fr gs_cls (f_X10_last x1) := by
  unfold f_X10_last
  exact fr_br (fr_X10_last_b12) (fr_br (fr_cl (fr_mono su_sc_cls (fr_X7_act _ _ _ _)) (fun r3 => fr_rt)) (fr_X10_last_b12))
theorem fr_X10_undo : Fr gs_sc (f_X10_undo) := by
  unfold f_X10_undo
  exact fr_cl (fr_X7_takeBack _) (fun r1 => fr_br (fr_rt) (fr_dI (fun v3 => fr_rt)))
theorem fr_X10_worthOf (q0 : Nat) (x1 : Int32) : Fr gs_none (f_X10_worthOf q0 x1) := by
  unfold f_X10_worthOf
  exact fr_gd (fun g1 => fr_br (fr_dI (fun v2 => fr_rt)) (fr_br (fr_dI (fun v4 => fr_rt)) (fr_dI (fun v5 => fr_rt))))
theorem fr_X10_prepare : Fr gs_play (f_X10_prepare) := by
  unfold f_X10_prepare
  exact fr_dR (fun u1 => fr_gd (fun g1 => fr_cl (fr_X4_begin _ _) (fun _ => fr_rt)))
theorem fr_X10_hurtAmong (x1 : Int32) : Fr gs_play (f_X10_hurtAmong x1) := by
  unfold f_X10_hurtAmong
  exact fr_cl (fr_X10_prepare) (fun _ => fr_cl (fr_X4_keepOnly _) (fun _ => fr_dI (fun v1 => fr_cl (fr_X4_go _ _) (fun _ => fr_dI (fun v2 => fr_br (fr_rt) (fr_rt))))))
theorem fr_X10_pairBit (x0 : Int32) (x1 : Int32) : Fr gs_none (f_X10_pairBit x0 x1) := by
  unfold f_X10_pairBit
  exact fr_rt
theorem fr_X10_pairs_b52 (k4 : Int32 → Int32 → Sg → Option (Int32 × Sg)) (k19 : Int32 → Int32 → Int32 → Sg → Option (Int32 × Sg)) (x1 : Int32) (x2 : Int32) (x3 : Int32) (hk4 : ∀ a0 a1, Fr gs_play (k4 a0 a1)) (hk19 : ∀ a0 a1 a2, Fr gs_play (k19 a0 a1 a2)) : Fr gs_play (f_X10_pairs_b52 k4 k19 x1 x2 x3) := by
  unfold f_X10_pairs_b52
  exact hk19 _ _ _
theorem fr_X10_pairs_b58 (k4 : Int32 → Int32 → Sg → Option (Int32 × Sg)) (x1 : Int32) (x2 : Int32) (hk4 : ∀ a0 a1, Fr gs_play (k4 a0 a1)) : Fr gs_play (f_X10_pairs_b58 k4 x1 x2) := by
  unfold f_X10_pairs_b58
  exact hk4 _ _
theorem fr_X10_pairs_b19 (k4 : Int32 → Int32 → Sg → Option (Int32 × Sg)) (hk4 : ∀ a0 a1, Fr gs_play (k4 a0 a1)) : ∀ (fu : Nat) (x1 : Int32) (x2 : Int32) (x3 : Int32), Fr gs_play (f_X10_pairs_b19 k4 fu x1 x2 x3) := by
  intro fu
  induction fu with
  | zero => intro _ _ _; exact fr_none
  | succ fu ih => intro x1 x2 x3; rw [f_X10_pairs_b19]; exact fr_dI (fun v1 => fr_br (fr_X10_pairs_b58 _ _ _ hk4) (fr_cl (fr_X10_hurtAmong _) (fun r3 => fr_br (fr_X10_pairs_b52 _ _ _ _ _ hk4 ih) (fr_cl (fr_mono su_none_play (fr_X10_pairBit _ _)) (fun r5 => fr_X10_pairs_b52 _ _ _ _ _ hk4 ih)))))
theorem fr_X10_pairs_b4 : ∀ (fu : Nat) (x1 : Int32) (x2 : Int32), Fr gs_play (f_X10_pairs_b4 fu x1 x2) := by
  intro fu
  induction fu with
  | zero => intro _ _; exact fr_none
  | succ fu ih => intro x1 x2; rw [f_X10_pairs_b4]; exact fr_dI (fun v1 => fr_br (fr_rt) (fr_X10_pairs_b19 _ ih _ _ _ _))
theorem fr_X10_pairs : Fr gs_play (f_X10_pairs) := by
  unfold f_X10_pairs
  exact fr_X10_pairs_b4 _ _ _
theorem fr_X10_lawHolds_b86 (k2 : Int32 → Int32 → Int32 → Sg → Option (Int32 × Sg)) (k18 : Int32 → Int32 → Int32 → Int32 → Sg → Option (Int32 × Sg)) (x1 : Int32) (x2 : Int32) (x3 : Int32) (x4 : Int32) (xs0 : Int32) (xs1 : Int32) (hk2 : ∀ a0 a1 a2, Fr gs_none (k2 a0 a1 a2)) (hk18 : ∀ a0 a1 a2 a3, Fr gs_none (k18 a0 a1 a2 a3)) : Fr gs_none (f_X10_lawHolds_b86 k2 k18 x1 x2 x3 x4 xs0 xs1) := by
  unfold f_X10_lawHolds_b86
  exact fr_br (hk18 _ _ _ _) (fr_rt)
theorem fr_X10_lawHolds_b71 (k2 : Int32 → Int32 → Int32 → Sg → Option (Int32 × Sg)) (k18 : Int32 → Int32 → Int32 → Int32 → Sg → Option (Int32 × Sg)) (x1 : Int32) (x2 : Int32) (x3 : Int32) (x4 : Int32) (x5 : Int32) (xs0 : Int32) (hk2 : ∀ a0 a1 a2, Fr gs_none (k2 a0 a1 a2)) (hk18 : ∀ a0 a1 a2 a3, Fr gs_none (k18 a0 a1 a2 a3)) : Fr gs_none (f_X10_lawHolds_b71 k2 k18 x1 x2 x3 x4 x5 xs0) := by
  unfold f_X10_lawHolds_b71
  exact fr_br (fr_X10_lawHolds_b86 _ _ _ _ _ _ _ _ hk2 hk18) (fr_X10_lawHolds_b86 _ _ _ _ _ _ _ _ hk2 hk18)
theorem fr_X10_lawHolds_b97 (k2 : Int32 → Int32 → Int32 → Sg → Option (Int32 × Sg)) (x1 : Int32) (x2 : Int32) (x3 : Int32) (hk2 : ∀ a0 a1 a2, Fr gs_none (k2 a0 a1 a2)) : Fr gs_none (f_X10_lawHolds_b97 k2 x1 x2 x3) := by
  unfold f_X10_lawHolds_b97
  exact hk2 _ _ _
theorem fr_X10_lawHolds_b18 (k2 : Int32 → Int32 → Int32 → Sg → Option (Int32 × Sg)) (hk2 : ∀ a0 a1 a2, Fr gs_none (k2 a0 a1 a2)) : ∀ (fu : Nat) (x1 : Int32) (x2 : Int32) (x3 : Int32) (x4 : Int32), Fr gs_none (f_X10_lawHolds_b18 k2 fu x1 x2 x3 x4) := by
  intro fu
  induction fu with
  | zero => intro _ _ _ _; exact fr_none
  | succ fu ih => intro x1 x2 x3 x4; rw [f_X10_lawHolds_b18]; exact fr_dI (fun v1 => fr_br (fr_X10_lawHolds_b97 _ _ _ _ hk2) (fr_cl (fr_X7_told _ _ _) (fun r3 => fr_cl (fr_X7_told _ _ _) (fun r4 => fr_lt (fun w5 => fr_cl (fr_X10_pairBit _ _) (fun r6 => fr_br (fr_X10_lawHolds_b71 _ _ _ _ _ _ _ _ hk2 ih) (fr_X10_lawHolds_b71 _ _ _ _ _ _ _ _ hk2 ih)))))))
theorem fr_X10_lawHolds_b2 : ∀ (fu : Nat) (x1 : Int32) (x2 : Int32) (x3 : Int32), Fr gs_none (f_X10_lawHolds_b2 fu x1 x2 x3) := by
  intro fu
  induction fu with
  | zero => intro _ _ _; exact fr_none
  | succ fu ih => intro x1 x2 x3; rw [f_X10_lawHolds_b2]; exact fr_dI (fun v1 => fr_br (fr_rt) (fr_X10_lawHolds_b18 _ ih _ _ _ _ _))
theorem fr_X10_lawHolds (x1 : Int32) (x2 : Int32) : Fr gs_none (f_X10_lawHolds x1 x2) := by
  unfold f_X10_lawHolds
  exact fr_X10_lawHolds_b2 _ _ _ _
theorem fr_X10_apart_b7 : ∀ (fu : Nat) (x1 : Int32) (x2 : Int32), Fr gs_play (f_X10_apart_b7 fu x1 x2) := by
  intro fu
  induction fu with
  | zero => intro _ _; exact fr_none
  | succ fu ih => intro x1 x2; rw [f_X10_apart_b7]; exact fr_br (fr_rt) (fr_cl (fr_mono su_none_play (fr_X10_lawHolds _ _)) (fun r2 => fr_br (ih _ _) (fr_rt)))
theorem fr_X10_apart : Fr gs_play (f_X10_apart) := by
  unfold f_X10_apart
  exact fr_cl (fr_X10_pairs) (fun r1 => fr_X10_apart_b7 _ _ _)
theorem fr_X10_playBy (x1 : Int32) : Fr gs_play (f_X10_playBy x1) := by
  unfold f_X10_playBy
  exact fr_cl (fr_X10_prepare) (fun _ => fr_pI (rfl) (fr_dI (fun v1 => fr_cl (fr_X4_go _ _) (fun _ => fr_rt))))
theorem fr_X10_best_b81 (k9 : Int32 → Int32 → Int32 → Int32 → Sg → Option (Int32 × Sg)) (x1 : Int32) (x2 : Int32) (x3 : Int32) (x4 : Int32) (hk9 : ∀ a0 a1 a2 a3, Fr gs_play (k9 a0 a1 a2 a3)) : Fr gs_play (f_X10_best_b81 k9 x1 x2 x3 x4) := by
  unfold f_X10_best_b81
  exact hk9 _ _ _ _
theorem fr_X10_best_b72 (k9 : Int32 → Int32 → Int32 → Int32 → Sg → Option (Int32 × Sg)) (x4 : Int32) (x5 : Int32) (x6 : Int32) (hk9 : ∀ a0 a1 a2 a3, Fr gs_play (k9 a0 a1 a2 a3)) : Fr gs_play (f_X10_best_b72 k9 x4 x5 x6) := by
  unfold f_X10_best_b72
  exact fr_X10_best_b81 _ _ _ _ _ hk9
theorem fr_X10_best_b9 : ∀ (fu : Nat) (x1 : Int32) (x2 : Int32) (x3 : Int32) (x4 : Int32), Fr gs_play (f_X10_best_b9 fu x1 x2 x3 x4) := by
  intro fu
  induction fu with
  | zero => intro _ _ _ _; exact fr_none
  | succ fu ih => intro x1 x2 x3 x4; rw [f_X10_best_b9]; exact fr_dR (fun u1 => fr_gd (fun g1 => fr_dI (fun v2 => fr_br (fr_rt) (fr_cl (fr_X10_playBy _) (fun _ => fr_cl (fr_mono su_none_play (fr_X4_hurtsOfAll)) (fun r4 => fr_cl (fr_mono su_none_play (fr_X4_funOfAll)) (fun r5 => fr_br (fr_X10_best_b72 _ _ _ _ ih) (fr_br (fr_X10_best_b72 _ _ _ _ ih) (fr_br (fr_br (fr_X10_best_b81 _ _ _ _ _ ih) (fr_X10_best_b72 _ _ _ _ ih)) (fr_X10_best_b81 _ _ _ _ _ ih))))))))))
theorem fr_X10_best : Fr gs_play (f_X10_best) := by
  unfold f_X10_best
  exact fr_X10_best_b9 _ _ _ _ _
theorem fr_J6_bitCount_0f7a4 (x0 : Int32) : Fr gs_none (f_J6_bitCount_0f7a4 x0) := by
  unfold f_J6_bitCount_0f7a4
  exact fr_lt (fun w1 => fr_lt (fun w2 => fr_lt (fun w3 => fr_lt (fun w4 => fr_lt (fun w5 => fr_rt)))))
theorem fr_X10_atOnce_b38 (k4 : Int32 → Int32 → Sg → Option (Int32 × Sg)) (x1 : Int32) (x2 : Int32) (hk4 : ∀ a0 a1, Fr gs_play (k4 a0 a1)) : Fr gs_play (f_X10_atOnce_b38 k4 x1 x2) := by
  unfold f_X10_atOnce_b38
  exact hk4 _ _
theorem fr_X10_atOnce_b4 : ∀ (fu : Nat) (x1 : Int32) (x2 : Int32), Fr gs_play (f_X10_atOnce_b4 fu x1 x2) := by
  intro fu
  induction fu with
  | zero => intro _ _; exact fr_none
  | succ fu ih => intro x1 x2; rw [f_X10_atOnce_b4]; exact fr_dI (fun v1 => fr_br (fr_rt) (fr_cl (fr_mono su_none_play (fr_J6_bitCount_0f7a4 _)) (fun r3 => fr_cl (fr_mono su_none_play (fr_J6_bitCount_0f7a4 _)) (fun r4 => fr_br (fr_X10_atOnce_b38 _ _ _ ih) (fr_cl (fr_X10_hurtAmong _) (fun r6 => fr_br (fr_X10_atOnce_b38 _ _ _ ih) (fr_X10_atOnce_b38 _ _ _ ih)))))))
theorem fr_X10_atOnce : Fr gs_play (f_X10_atOnce) := by
  unfold f_X10_atOnce
  exact fr_X10_atOnce_b4 _ _ _
theorem fr_X10_find_b23 : Fr gs_cls (f_X10_find_b23) := by
  unfold f_X10_find_b23
  exact fr_dI (fun v1 => fr_pI (rfl) (fr_rt))
theorem fr_X10_find (x1 : Int32) : Fr gs_cls (f_X10_find x1) := by
  unfold f_X10_find
  exact fr_br (fr_X10_find_b23) (fr_br (fr_X10_find_b23) (fr_cl (fr_mono su_sc_cls (fr_X7_addPlace _ _)) (fun r3 => fr_br (fr_X10_find_b23) (fr_dI (fun v5 => fr_rt)))))
theorem fr_X10_forget : Fr gs_sc (f_X10_forget) := by
  unfold f_X10_forget
  exact fr_dI (fun v1 => fr_br (fr_rt) (fr_dI (fun v3 => fr_pI (rfl) (fr_dI (fun v4 => fr_rt)))))
theorem fr_X10_staysOn_b46 (x5 : Int32) : Fr gs_none (f_X10_staysOn_b46 x5) := by
  unfold f_X10_staysOn_b46
  exact fr_dR (fun u1 => fr_gd (fun g1 => fr_cl (fr_X2_isBeyond _ _) (fun r2 => fr_br (fr_rt) (fr_rt))))
theorem fr_X10_staysOn_b6 : ∀ (fu : Nat) (x2 : Int32) (x3 : Int32) (x4 : Int32) (x5 : Int32) (x6 : Int32), Fr gs_none (f_X10_staysOn_b6 fu x2 x3 x4 x5 x6) := by
  intro fu
  induction fu with
  | zero => intro _ _ _ _ _; exact fr_none
  | succ fu ih => intro x2 x3 x4 x5 x6; rw [f_X10_staysOn_b6]; exact fr_br (fr_X10_staysOn_b46 _) (fr_dR (fun u2 => fr_gd (fun g1 => fr_cl (fr_X2_isBeyond _ _) (fun r3 => fr_br (fr_dR (fun u5 => fr_gd (fun g2 => fr_cl (fr_X2_comesTo _ _ _ _) (fun r6 => ih _ _ _ _ _)))) (fr_rt)))))
theorem fr_X10_staysOn (x1 : Int32) (x2 : Int32) (x3 : Int32) (x4 : Int32) : Fr gs_none (f_X10_staysOn x1 x2 x3 x4) := by
  unfold f_X10_staysOn
  exact fr_X10_staysOn_b6 _ _ _ _ _ _
theorem fr_X10_sharedDivisor_b9 : ∀ (fu : Nat) (x4 : Int64) (x6 : Int64) (x8 : Int32), Fr gs_none (f_X10_sharedDivisor_b9 fu x4 x6 x8) := by
  intro fu
  induction fu with
  | zero => intro _ _ _; exact fr_none
  | succ fu ih => intro x4 x6 x8; rw [f_X10_sharedDivisor_b9]; exact fr_br (fr_rt) (fr_br (fr_rt) (fr_gd (fun g1 => fr_lt (fun w3 => ih _ _ _))))
theorem fr_X10_sharedDivisor (x0 : Int64) (x2 : Int64) : Fr gs_none (f_X10_sharedDivisor x0 x2) := by
  unfold f_X10_sharedDivisor
  exact fr_X10_sharedDivisor_b9 _ _ _ _
theorem fr_X10_partOf_b17 (x5 : Int64) (xs0 : Int64) : Fr gs_none (f_X10_partOf_b17 x5 xs0) := by
  unfold f_X10_partOf_b17
  exact fr_br (fr_rt) (fr_gd (fun g1 => fr_rt))
theorem fr_X10_partOf (x0 : Int64) (x2 : Int64) (x4 : Int32) : Fr gs_none (f_X10_partOf x0 x2 x4) := by
  unfold f_X10_partOf
  exact fr_cl (fr_X10_sharedDivisor _ _) (fun r1 => fr_br (fr_X10_partOf_b17 _ _) (fr_X10_partOf_b17 _ _))
theorem fr_X10_image : Fr gs_cls (f_X10_image) := by
  unfold f_X10_image
  exact fr_cl (fr_mono su_sc_cls (fr_X7_copy _ _)) (fun _ => fr_pI (rfl) (fr_rt))
theorem fr_X10_restore : Fr gs_sc (f_X10_restore) := by
  unfold f_X10_restore
  exact fr_dI (fun v1 => fr_br (fr_rt) (fr_cl (fr_X7_copy _ _) (fun _ => fr_rt)))
theorem fr_X10_isJumper (x1 : Int32) : Fr gs_none (f_X10_isJumper x1) := by
  unfold f_X10_isJumper
  exact fr_br (fr_rt) (fr_dI (fun v2 => fr_br (fr_rt) (fr_rt)))
theorem fr_X10_isTick (x1 : Int32) : Fr gs_none (f_X10_isTick x1) := by
  unfold f_X10_isTick
  exact fr_br (fr_rt) (fr_dI (fun v2 => fr_br (fr_rt) (fr_rt)))
theorem fr_X10_isToldHeight (x0 : Int32) : Fr gs_none (f_X10_isToldHeight x0) := by
  unfold f_X10_isToldHeight
  exact fr_br (fr_rt) (fr_br (fr_rt) (fr_rt))
theorem fr_X10_isCorrects (x0 : Int32) : Fr gs_none (f_X10_isCorrects x0) := by
  unfold f_X10_isCorrects
  exact fr_br (fr_rt) (fr_br (fr_rt) (fr_rt))
theorem fr_X10_mayWander (x1 : Int32) (x2 : Int32) (x3 : Int32) : Fr gs_none (f_X10_mayWander x1 x2 x3) := by
  unfold f_X10_mayWander
  exact fr_br (fr_rt) (fr_br (fr_rt) (fr_cl (fr_X10_isToldHeight _) (fun r3 => fr_br (fr_rt) (fr_dR (fun u5 => fr_gd (fun g1 => fr_cl (fr_X2_isBeyond _ _) (fun r6 => fr_br (fr_rt) (fr_rt))))))))
theorem fr_X10_playAll : Fr gs_play (f_X10_playAll) := by
  unfold f_X10_playAll
  exact fr_cl (fr_X10_prepare) (fun _ => fr_dI (fun v1 => fr_cl (fr_X4_go _ _) (fun _ => fr_rt)))
theorem fr_X11_thrown : Fr gs_none (f_X11_thrown) := by
  unfold f_X11_thrown
  exact fr_dI (fun v1 => fr_rt)
theorem fr_X11_right_b16 : Fr gs_mth (f_X11_right_b16) := by
  unfold f_X11_right_b16
  exact fr_dI (fun v1 => fr_br (fr_rt) (fr_rt))
theorem fr_X11_right (x1 : Int32) (x2 : Int32) : Fr gs_mth (f_X11_right x1 x2) := by
  unfold f_X11_right
  exact fr_dI (fun v1 => fr_br (fr_br (fr_pI (rfl) (fr_X11_right_b16)) (fr_X11_right_b16)) (fr_X11_right_b16))
theorem fr_X11_within (x0 : Int32) (x1 : Int32) (x2 : Int32) : Fr gs_none (f_X11_within x0 x1 x2) := by
  unfold f_X11_within
  exact fr_br (fr_rt) (fr_br (fr_rt) (fr_rt))
theorem fr_X11_off (x0 : Int32) (x1 : Int32) : Fr gs_none (f_X11_off x0 x1) := by
  unfold f_X11_off
  exact fr_br (fr_rt) (fr_rt)
theorem fr_X11_bits_b4 : ∀ (fu : Nat) (x0 : Int32) (x1 : Int32) (x2 : Int32), Fr gs_none (f_X11_bits_b4 fu x0 x1 x2) := by
  intro fu
  induction fu with
  | zero => intro _ _ _; exact fr_none
  | succ fu ih => intro x0 x1 x2; rw [f_X11_bits_b4]; exact fr_br (fr_rt) (fr_lt (fun w2 => ih _ _ _))
theorem fr_X11_bits (x0 : Int32) : Fr gs_none (f_X11_bits x0) := by
  unfold f_X11_bits
  exact fr_X11_bits_b4 _ _ _ _
theorem fr_X11_lays_b3 : ∀ (fu : Nat) (x1 : Int32) (x2 : Int32), Fr gs_mod (f_X11_lays_b3 fu x1 x2) := by
  intro fu
  induction fu with
  | zero => intro _ _; exact fr_none
  | succ fu ih => intro x1 x2; rw [f_X11_lays_b3]; exact fr_br (fr_rt) (fr_dI (fun v2 => fr_gd (fun g1 => fr_pI (rfl) (fr_dI (fun v3 => fr_pI (rfl) (ih _ _))))))
theorem fr_X11_lays (x1 : Int32) : Fr gs_mod (f_X11_lays x1) := by
  unfold f_X11_lays
  exact fr_X11_lays_b3 _ _ _
theorem fr_X11_feed (x1 : Int32) (x2 : Int32) (x3 : Int32) (x4 : Int32) (x5 : Int32) : Fr gs_mod (f_X11_feed x1 x2 x3 x4 x5) := by
  unfold f_X11_feed
  exact fr_pI (rfl) (fr_dI (fun v1 => fr_br (fr_cl (fr_X11_lays _) (fun _ => fr_cl (fr_X11_lays _) (fun _ => fr_cl (fr_X11_lays _) (fun _ => fr_cl (fr_X11_lays _) (fun _ => fr_cl (fr_X11_lays _) (fun _ => fr_dI (fun v3 => fr_rt))))))) (fr_rt)))
theorem fr_X11_byteAt (x1 : Int32) : Fr gs_none (f_X11_byteAt x1) := by
  unfold f_X11_byteAt
  exact fr_dI (fun v1 => fr_br (fr_rt) (fr_gd (fun g1 => fr_dI (fun v3 => fr_rt))))
theorem fr_X11_isLetter (x0 : Int32) : Fr gs_none (f_X11_isLetter x0) := by
  unfold f_X11_isLetter
  exact fr_br (fr_rt) (fr_br (fr_rt) (fr_rt))
theorem fr_X11_isDigit (x0 : Int32) : Fr gs_none (f_X11_isDigit x0) := by
  unfold f_X11_isDigit
  exact fr_br (fr_rt) (fr_br (fr_rt) (fr_rt))
theorem fr_X11_goes_b37 (k0 : Sg → Option (Unit × Sg)) (hk0 : Fr gs_mtok k0) : Fr gs_mtok (f_X11_goes_b37 k0) := by
  unfold f_X11_goes_b37
  exact fr_dI (fun v1 => fr_pI (rfl) (hk0))
theorem fr_X11_goes_b159 (k108 : Sg → Option (Unit × Sg)) (hk108 : Fr gs_mtok k108) : Fr gs_mtok (f_X11_goes_b159 k108) := by
  unfold f_X11_goes_b159
  exact fr_dI (fun v1 => fr_pI (rfl) (hk108))
theorem fr_X11_goes_b331 : Fr gs_mtok (f_X11_goes_b331) := by
  unfold f_X11_goes_b331
  exact fr_dI (fun v1 => fr_dI (fun v2 => fr_pI (rfl) (fr_rt)))
theorem fr_X11_goes_b172 : Fr gs_mtok (f_X11_goes_b172) := by
  unfold f_X11_goes_b172
  exact fr_pI (rfl) (fr_X11_goes_b331)
theorem fr_X11_goes_b108 : ∀ (fu : Nat), Fr gs_mtok (f_X11_goes_b108 fu) := by
  intro fu
  induction fu with
  | zero => exact fr_none
  | succ fu ih => rw [f_X11_goes_b108]; exact fr_dI (fun v1 => fr_cl (fr_mono su_none_mtok (fr_X11_byteAt _)) (fun r2 => fr_cl (fr_mono su_none_mtok (fr_X11_isLetter _)) (fun r3 => fr_br (fr_X11_goes_b172) (fr_dI (fun v5 => fr_dI (fun v6 => fr_br (fr_X11_goes_b159 _ ih) (fr_dL (fun v8 => fr_dI (fun v9 => fr_cl (fr_mono su_none_mtok (fr_X11_byteAt _)) (fun r10 => fr_pL (rfl) (fr_X11_goes_b159 _ ih)))))))))))
theorem fr_X11_goes_b237 (k187 : Sg → Option (Unit × Sg)) (hk187 : Fr gs_mtok k187) : Fr gs_mtok (f_X11_goes_b237 k187) := by
  unfold f_X11_goes_b237
  exact fr_dI (fun v1 => fr_pI (rfl) (hk187))
theorem fr_X11_goes_b250 : Fr gs_mtok (f_X11_goes_b250) := by
  unfold f_X11_goes_b250
  exact fr_pI (rfl) (fr_X11_goes_b331)
theorem fr_X11_goes_b187 : ∀ (fu : Nat), Fr gs_mtok (f_X11_goes_b187 fu) := by
  intro fu
  induction fu with
  | zero => exact fr_none
  | succ fu ih => rw [f_X11_goes_b187]; exact fr_dI (fun v1 => fr_cl (fr_mono su_none_mtok (fr_X11_byteAt _)) (fun r2 => fr_cl (fr_mono su_none_mtok (fr_X11_isDigit _)) (fun r3 => fr_br (fr_X11_goes_b250) (fr_dI (fun v5 => fr_dI (fun v6 => fr_br (fr_X11_goes_b237 _ ih) (fr_dI (fun v8 => fr_dI (fun v9 => fr_cl (fr_mono su_none_mtok (fr_X11_byteAt _)) (fun r10 => fr_pI (rfl) (fr_X11_goes_b237 _ ih)))))))))))
theorem fr_X11_goes_b328 (xs0 : Int32) : Fr gs_mtok (f_X11_goes_b328 xs0) := by
  unfold f_X11_goes_b328
  exact fr_pI (rfl) (fr_X11_goes_b331)
theorem fr_X11_goes_b323 : Fr gs_mtok (f_X11_goes_b323) := by
  unfold f_X11_goes_b323
  exact fr_X11_goes_b328 _
theorem fr_X11_goes_b50 : Fr gs_mtok (f_X11_goes_b50) := by
  unfold f_X11_goes_b50
  exact fr_dI (fun v1 => fr_pI (rfl) (fr_pL (rfl) (fr_pI (rfl) (fr_dI (fun v2 => fr_cl (fr_mono su_none_mtok (fr_X11_byteAt _)) (fun r3 => fr_pI (rfl) (fr_dI (fun v4 => fr_dI (fun v5 => fr_br (fr_cl (fr_mono su_none_mtok (fr_X11_isLetter _)) (fun r7 => fr_br (fr_cl (fr_mono su_none_mtok (fr_X11_isDigit _)) (fun r9 => fr_br (fr_dI (fun v11 => fr_pI (rfl) (fr_br (fr_X11_goes_b323) (fr_br (fr_X11_goes_b323) (fr_br (fr_X11_goes_b323) (fr_br (fr_X11_goes_b323) (fr_br (fr_X11_goes_b323) (fr_br (fr_X11_goes_b323) (fr_br (fr_X11_goes_b323) (fr_br (fr_X11_goes_b323) (fr_br (fr_X11_goes_b323) (fr_X11_goes_b328 _)))))))))))) (fr_X11_goes_b187 _))) (fr_X11_goes_b108 _))) (fr_pI (rfl) (fr_X11_goes_b331)))))))))))
theorem fr_X11_goes_b0 : ∀ (fu : Nat), Fr gs_mtok (f_X11_goes_b0 fu) := by
  intro fu
  induction fu with
  | zero => exact fr_none
  | succ fu ih => rw [f_X11_goes_b0]; exact fr_dI (fun v1 => fr_dI (fun v2 => fr_br (fr_X11_goes_b50) (fr_dI (fun v4 => fr_cl (fr_mono su_none_mtok (fr_X11_byteAt _)) (fun r5 => fr_br (fr_X11_goes_b37 _ ih) (fr_dI (fun v7 => fr_cl (fr_mono su_none_mtok (fr_X11_byteAt _)) (fun r8 => fr_br (fr_X11_goes_b37 _ ih) (fr_X11_goes_b50)))))))))
theorem fr_X11_goes : Fr gs_mtok (f_X11_goes) := by
  unfold f_X11_goes
  exact fr_X11_goes_b0 _
theorem fr_X11_spelled_b102 (x7 : Int32) (x8 : Int64) : Fr gs_none (f_X11_spelled_b102 x7 x8) := by
  unfold f_X11_spelled_b102
  exact fr_br (fr_rt) (fr_lt (fun w2 => fr_rt))
theorem fr_X11_spelled_b84 (x6 : Int32) (x7 : Int32) (x8 : Int64) : Fr gs_none (f_X11_spelled_b84 x6 x7 x8) := by
  unfold f_X11_spelled_b84
  exact fr_br (fr_X11_spelled_b102 _ _) (fr_lt (fun w2 => fr_X11_spelled_b102 _ _))
theorem fr_X11_spelled_b66 (x5 : Int32) (x6 : Int32) (x7 : Int32) (x8 : Int64) : Fr gs_none (f_X11_spelled_b66 x5 x6 x7 x8) := by
  unfold f_X11_spelled_b66
  exact fr_br (fr_X11_spelled_b84 _ _ _) (fr_lt (fun w2 => fr_X11_spelled_b84 _ _ _))
theorem fr_X11_spelled_b48 (x4 : Int32) (x5 : Int32) (x6 : Int32) (x7 : Int32) (x8 : Int64) : Fr gs_none (f_X11_spelled_b48 x4 x5 x6 x7 x8) := by
  unfold f_X11_spelled_b48
  exact fr_br (fr_X11_spelled_b66 _ _ _ _) (fr_lt (fun w2 => fr_X11_spelled_b66 _ _ _ _))
theorem fr_X11_spelled_b32 (x3 : Int32) (x4 : Int32) (x5 : Int32) (x6 : Int32) (x7 : Int32) (x8 : Int64) : Fr gs_none (f_X11_spelled_b32 x3 x4 x5 x6 x7 x8) := by
  unfold f_X11_spelled_b32
  exact fr_br (fr_X11_spelled_b48 _ _ _ _ _) (fr_lt (fun w2 => fr_X11_spelled_b48 _ _ _ _ _))
theorem fr_X11_spelled (x0 : Int32) (x1 : Int32) (x2 : Int32) (x3 : Int32) (x4 : Int32) (x5 : Int32) (x6 : Int32) (x7 : Int32) : Fr gs_none (f_X11_spelled x0 x1 x2 x3 x4 x5 x6 x7) := by
  unfold f_X11_spelled
  exact fr_lt (fun w1 => fr_br (fr_X11_spelled_b32 _ _ _ _ _ _) (fr_lt (fun w3 => fr_X11_spelled_b32 _ _ _ _ _ _)))
theorem fr_X11_letters (x0 : Int32) : Fr gs_none (f_X11_letters x0) := by
  unfold f_X11_letters
  exact fr_br (fr_cl (fr_X11_spelled _ _ _ _ _ _ _ _) (fun r2 => fr_rt)) (fr_br (fr_cl (fr_X11_spelled _ _ _ _ _ _ _ _) (fun r4 => fr_rt)) (fr_br (fr_cl (fr_X11_spelled _ _ _ _ _ _ _ _) (fun r6 => fr_rt)) (fr_br (fr_cl (fr_X11_spelled _ _ _ _ _ _ _ _) (fun r8 => fr_rt)) (fr_br (fr_cl (fr_X11_spelled _ _ _ _ _ _ _ _) (fun r10 => fr_rt)) (fr_br (fr_cl (fr_X11_spelled _ _ _ _ _ _ _ _) (fun r12 => fr_rt)) (fr_br (fr_cl (fr_X11_spelled _ _ _ _ _ _ _ _) (fun r14 => fr_rt)) (fr_br (fr_cl (fr_X11_spelled _ _ _ _ _ _ _ _) (fun r16 => fr_rt)) (fr_br (fr_cl (fr_X11_spelled _ _ _ _ _ _ _ _) (fun r18 => fr_rt)) (fr_br (fr_cl (fr_X11_spelled _ _ _ _ _ _ _ _) (fun r20 => fr_rt)) (fr_br (fr_cl (fr_X11_spelled _ _ _ _ _ _ _ _) (fun r22 => fr_rt)) (fr_br (fr_cl (fr_X11_spelled _ _ _ _ _ _ _ _) (fun r24 => fr_rt)) (fr_br (fr_cl (fr_X11_spelled _ _ _ _ _ _ _ _) (fun r26 => fr_rt)) (fr_br (fr_cl (fr_X11_spelled _ _ _ _ _ _ _ _) (fun r28 => fr_rt)) (fr_br (fr_cl (fr_X11_spelled _ _ _ _ _ _ _ _) (fun r30 => fr_rt)) (fr_br (fr_cl (fr_X11_spelled _ _ _ _ _ _ _ _) (fun r32 => fr_rt)) (fr_br (fr_cl (fr_X11_spelled _ _ _ _ _ _ _ _) (fun r34 => fr_rt)) (fr_br (fr_cl (fr_X11_spelled _ _ _ _ _ _ _ _) (fun r36 => fr_rt)) (fr_cl (fr_X11_spelled _ _ _ _ _ _ _ _) (fun r37 => fr_rt)))))))))))))))))))
theorem fr_X11_knownWord_b21 : ∀ (fu : Nat) (x1 : Int32), Fr gs_none (f_X11_knownWord_b21 fu x1) := by
  intro fu
  induction fu with
  | zero => intro _; exact fr_none
  | succ fu ih => intro x1; rw [f_X11_knownWord_b21]; exact fr_br (fr_rt) (fr_cl (fr_X11_letters _) (fun r2 => fr_dL (fun v3 => fr_br (fr_rt) (ih _))))
theorem fr_X11_knownWord : Fr gs_none (f_X11_knownWord) := by
  unfold f_X11_knownWord
  exact fr_dI (fun v1 => fr_br (fr_dI (fun v3 => fr_br (fr_X11_knownWord_b21 _ _) (fr_rt))) (fr_rt))
theorem fr_X11_wrong (x1 : Int32) : Fr gs_mread (f_X11_wrong x1) := by
  unfold f_X11_wrong
  exact fr_dI (fun v1 => fr_br (fr_pI (rfl) (fr_dI (fun v3 => fr_pI (rfl) (fr_rt)))) (fr_rt))
theorem fr_X11_isGood : Fr gs_none (f_X11_isGood) := by
  unfold f_X11_isGood
  exact fr_dI (fun v1 => fr_br (fr_rt) (fr_rt))
theorem fr_X11_isSign (x1 : Int32) : Fr gs_none (f_X11_isSign x1) := by
  unfold f_X11_isSign
  exact fr_dI (fun v1 => fr_br (fr_dI (fun v3 => fr_br (fr_rt) (fr_rt))) (fr_rt))
theorem fr_X11_need (x1 : Int32) : Fr gs_mread (f_X11_need x1) := by
  unfold f_X11_need
  exact fr_cl (fr_mono su_none_mread (fr_X11_isGood)) (fun r1 => fr_br (fr_rt) (fr_br (fr_cl (fr_X11_wrong _) (fun _ => fr_rt)) (fr_cl (fr_mono su_mtok_mread (fr_X11_goes)) (fun _ => fr_rt))))
theorem fr_X11_number_b54 : Fr gs_mread (f_X11_number_b54) := by
  unfold f_X11_number_b54
  exact fr_dI (fun v1 => fr_cl (fr_mono su_none_mread (fr_X11_isGood)) (fun r2 => fr_br (fr_rt) (fr_cl (fr_mono su_mtok_mread (fr_X11_goes)) (fun _ => fr_rt))))
theorem fr_X11_number_b49 : Fr gs_mread (f_X11_number_b49) := by
  unfold f_X11_number_b49
  exact fr_cl (fr_X11_wrong _) (fun _ => fr_X11_number_b54)
theorem fr_X11_number (x1 : Int32) (x2 : Int32) : Fr gs_mread (f_X11_number x1 x2) := by
  unfold f_X11_number
  exact fr_cl (fr_mono su_none_mread (fr_X11_isGood)) (fun r1 => fr_br (fr_rt) (fr_dI (fun v3 => fr_br (fr_dI (fun v5 => fr_br (fr_X11_number_b49) (fr_dI (fun v7 => fr_br (fr_X11_number_b49) (fr_dI (fun v9 => fr_br (fr_X11_number_b54) (fr_X11_number_b49))))))) (fr_cl (fr_X11_wrong _) (fun _ => fr_X11_number_b54)))))
theorem fr_X11_signed_b30 (x1 : Int32) (x2 : Int32) : Fr gs_mread (f_X11_signed_b30 x1 x2) := by
  unfold f_X11_signed_b30
  exact fr_cl (fr_X11_number _ _) (fun r1 => fr_br (fr_rt) (fr_rt))
theorem fr_X11_signed_b21 (x1 : Int32) (xs0 : Int32) : Fr gs_mread (f_X11_signed_b21 x1 xs0) := by
  unfold f_X11_signed_b21
  exact fr_br (fr_X11_signed_b30 _ _) (fr_cl (fr_mono su_mtok_mread (fr_X11_goes)) (fun _ => fr_X11_signed_b30 _ _))
theorem fr_X11_signed_b20 (x1 : Int32) : Fr gs_mread (f_X11_signed_b20 x1) := by
  unfold f_X11_signed_b20
  exact fr_X11_signed_b21 _ _
theorem fr_X11_signed (x1 : Int32) : Fr gs_mread (f_X11_signed x1) := by
  unfold f_X11_signed
  exact fr_cl (fr_mono su_none_mread (fr_X11_isGood)) (fun r1 => fr_br (fr_X11_signed_b20 _) (fr_cl (fr_mono su_none_mread (fr_X11_isSign _)) (fun r3 => fr_br (fr_X11_signed_b20 _) (fr_X11_signed_b21 _ _))))
theorem fr_X11_puts (x1 : Int32) : Fr gs_mread (f_X11_puts x1) := by
  unfold f_X11_puts
  exact fr_dI (fun v1 => fr_gd (fun g1 => fr_pI (rfl) (fr_dI (fun v2 => fr_pI (rfl) (fr_rt)))))
theorem fr_X11_isOpen (x0 : Int32) : Fr gs_none (f_X11_isOpen x0) := by
  unfold f_X11_isOpen
  exact fr_br (fr_rt) (fr_rt)
theorem fr_X11_strength_b39 : Fr gs_none (f_X11_strength_b39) := by
  unfold f_X11_strength_b39
  exact fr_rt
theorem fr_X11_strength_b55 : Fr gs_none (f_X11_strength_b55) := by
  unfold f_X11_strength_b55
  exact fr_rt
theorem fr_X11_strength (x0 : Int32) : Fr gs_none (f_X11_strength x0) := by
  unfold f_X11_strength
  exact fr_br (fr_rt) (fr_br (fr_rt) (fr_br (fr_rt) (fr_br (fr_X11_strength_b39) (fr_br (fr_X11_strength_b39) (fr_br (fr_X11_strength_b55) (fr_br (fr_X11_strength_b55) (fr_rt)))))))
theorem fr_X11_drops_b0 : ∀ (fu : Nat) (x1 : Int32), Fr gs_mread (f_X11_drops_b0 fu x1) := by
  intro fu
  induction fu with
  | zero => intro _; exact fr_none
  | succ fu ih => intro x1; rw [f_X11_drops_b0]; exact fr_dI (fun v1 => fr_br (fr_rt) (fr_dI (fun v3 => fr_gd (fun g1 => fr_dI (fun v4 => fr_cl (fr_mono su_none_mread (fr_X11_isOpen _)) (fun r5 => fr_br (fr_dI (fun v7 => fr_gd (fun g2 => fr_dI (fun v8 => fr_cl (fr_mono su_none_mread (fr_X11_strength _)) (fun r9 => fr_br (fr_rt) (fr_dI (fun v11 => fr_pI (rfl) (fr_dI (fun v12 => fr_gd (fun g3 => fr_dI (fun v13 => fr_cl (fr_X11_puts _) (fun _ => ih _)))))))))))) (fr_rt)))))))
theorem fr_X11_drops (x1 : Int32) : Fr gs_mread (f_X11_drops x1) := by
  unfold f_X11_drops
  exact fr_X11_drops_b0 _ _
theorem fr_X11_waitsFor (x1 : Int32) : Fr gs_mread (f_X11_waitsFor x1) := by
  unfold f_X11_waitsFor
  exact fr_dI (fun v1 => fr_gd (fun g1 => fr_pI (rfl) (fr_dI (fun v2 => fr_pI (rfl) (fr_rt)))))
theorem fr_X11_part_b91 : Fr gs_mread (f_X11_part_b91) := by
  unfold f_X11_part_b91
  exact fr_cl (fr_mono su_none_mread (fr_X11_isGood)) (fun r1 => fr_br (fr_rt) (fr_cl (fr_mono su_mtok_mread (fr_X11_goes)) (fun _ => fr_rt)))
theorem fr_X11_part_b29 : Fr gs_mread (f_X11_part_b29) := by
  unfold f_X11_part_b29
  exact fr_cl (fr_X11_puts _) (fun _ => fr_dI (fun v1 => fr_cl (fr_X11_puts _) (fun _ => fr_X11_part_b91)))
theorem fr_X11_part_b73 (x1 : Int32) : Fr gs_mread (f_X11_part_b73 x1) := by
  unfold f_X11_part_b73
  exact fr_cl (fr_X11_puts _) (fun _ => fr_cl (fr_X11_puts _) (fun _ => fr_X11_part_b91))
theorem fr_X11_part_b68 (x1 : Int32) : Fr gs_mread (f_X11_part_b68 x1) := by
  unfold f_X11_part_b68
  exact fr_cl (fr_X11_wrong _) (fun _ => fr_X11_part_b73 _)
theorem fr_X11_part : Fr gs_mread (f_X11_part) := by
  unfold f_X11_part
  exact fr_cl (fr_mono su_none_mread (fr_X11_isGood)) (fun r1 => fr_br (fr_rt) (fr_dI (fun v3 => fr_br (fr_dI (fun v5 => fr_br (fr_X11_part_b29) (fr_cl (fr_X11_wrong _) (fun _ => fr_X11_part_b29)))) (fr_dI (fun v7 => fr_br (fr_cl (fr_mono su_none_mread (fr_X11_knownWord)) (fun r9 => fr_br (fr_X11_part_b68 _) (fr_br (fr_X11_part_b73 _) (fr_X11_part_b68 _)))) (fr_cl (fr_X11_wrong _) (fun _ => fr_X11_part_b91)))))))
theorem fr_X11_deeper_b61 (xs0 : Int32) : Fr gs_mread (f_X11_deeper_b61 xs0) := by
  unfold f_X11_deeper_b61
  exact fr_cl (fr_X11_wrong _) (fun _ => fr_rt)
theorem fr_X11_deeper_b56 : Fr gs_mread (f_X11_deeper_b56) := by
  unfold f_X11_deeper_b56
  exact fr_X11_deeper_b61 _
theorem fr_X11_deeper : Fr gs_mread (f_X11_deeper) := by
  unfold f_X11_deeper
  exact fr_dI (fun v1 => fr_br (fr_dI (fun v3 => fr_br (fr_X11_deeper_b56) (fr_dI (fun v5 => fr_br (fr_X11_deeper_b56) (fr_cl (fr_mono su_none_mread (fr_X11_isSign _)) (fun r7 => fr_br (fr_X11_deeper_b61 _) (fr_X11_deeper_b56))))))) (fr_dI (fun v9 => fr_pI (rfl) (fr_dI (fun v10 => fr_gd (fun g1 => fr_pI (rfl) (fr_rt)))))))
theorem fr_X11_operand_b50 (k4 : Int32 → Int32 → Sg → Option (Unit × Sg)) (k18 : Int32 → Int32 → Sg → Option (Unit × Sg)) (x2 : Int32) (x4 : Int32) (hk4 : ∀ a0 a1, Fr gs_mread (k4 a0 a1)) (hk18 : ∀ a0 a1, Fr gs_mread (k18 a0 a1)) : Fr gs_mread (f_X11_operand_b50 k4 k18 x2 x4) := by
  unfold f_X11_operand_b50
  exact fr_cl (fr_mono su_none_mread (fr_X11_isGood)) (fun r1 => fr_br (hk18 _ _) (fr_cl (fr_X11_waitsFor _) (fun _ => fr_cl (fr_mono su_mtok_mread (fr_X11_goes)) (fun _ => hk18 _ _))))
theorem fr_X11_operand_b96 (k4 : Int32 → Int32 → Sg → Option (Unit × Sg)) (x2 : Int32) (xs0 : Int32) (hk4 : ∀ a0 a1, Fr gs_mread (k4 a0 a1)) : Fr gs_mread (f_X11_operand_b96 k4 x2 xs0) := by
  unfold f_X11_operand_b96
  exact fr_br (hk4 _ _) (fr_cl (fr_X11_waitsFor _) (fun _ => fr_cl (fr_mono su_mtok_mread (fr_X11_goes)) (fun _ => fr_cl (fr_X11_deeper) (fun _ => hk4 _ _))))
theorem fr_X11_operand_b95 (k4 : Int32 → Int32 → Sg → Option (Unit × Sg)) (x2 : Int32) (hk4 : ∀ a0 a1, Fr gs_mread (k4 a0 a1)) : Fr gs_mread (f_X11_operand_b95 k4 x2) := by
  unfold f_X11_operand_b95
  exact fr_X11_operand_b96 _ _ _ hk4
theorem fr_X11_operand_b75 (k4 : Int32 → Int32 → Sg → Option (Unit × Sg)) (x2 : Int32) (hk4 : ∀ a0 a1, Fr gs_mread (k4 a0 a1)) : Fr gs_mread (f_X11_operand_b75 k4 x2) := by
  unfold f_X11_operand_b75
  exact fr_cl (fr_mono su_none_mread (fr_X11_isGood)) (fun r1 => fr_br (fr_X11_operand_b95 _ _ hk4) (fr_cl (fr_mono su_none_mread (fr_X11_isSign _)) (fun r3 => fr_br (fr_X11_operand_b95 _ _ hk4) (fr_X11_operand_b96 _ _ _ hk4))))
theorem fr_X11_operand_b18 (k4 : Int32 → Int32 → Sg → Option (Unit × Sg)) (hk4 : ∀ a0 a1, Fr gs_mread (k4 a0 a1)) : ∀ (fu : Nat) (x2 : Int32) (x4 : Int32), Fr gs_mread (f_X11_operand_b18 k4 fu x2 x4) := by
  intro fu
  induction fu with
  | zero => intro _ _; exact fr_none
  | succ fu ih => intro x2 x4; rw [f_X11_operand_b18]; exact fr_cl (fr_mono su_none_mread (fr_X11_isGood)) (fun r1 => fr_br (fr_X11_operand_b75 _ _ hk4) (fr_br (fr_X11_operand_b75 _ _ hk4) (fr_cl (fr_mono su_none_mread (fr_X11_knownWord)) (fun r4 => fr_br (fr_br (fr_cl (fr_X11_wrong _) (fun _ => fr_X11_operand_b50 _ _ _ _ hk4 ih)) (fr_X11_operand_b50 _ _ _ _ hk4 ih)) (fr_X11_operand_b75 _ _ hk4)))))
theorem fr_X11_operand_b120 : Fr gs_mread (f_X11_operand_b120) := by
  unfold f_X11_operand_b120
  exact fr_cl (fr_X11_part) (fun _ => fr_rt)
theorem fr_X11_operand_b4 : ∀ (fu : Nat) (x2 : Int32) (x3 : Int32), Fr gs_mread (f_X11_operand_b4 fu x2 x3) := by
  intro fu
  induction fu with
  | zero => intro _ _; exact fr_none
  | succ fu ih => intro x2 x3; rw [f_X11_operand_b4]; exact fr_br (fr_X11_operand_b120) (fr_cl (fr_mono su_none_mread (fr_X11_isGood)) (fun r2 => fr_br (fr_X11_operand_b120) (fr_X11_operand_b18 _ ih _ _ _)))
theorem fr_X11_operand (x1 : Int32) : Fr gs_mread (f_X11_operand x1) := by
  unfold f_X11_operand
  exact fr_X11_operand_b4 _ _ _
theorem fr_X11_isOpened_b29 (x1 : Int32) : Fr gs_none (f_X11_isOpened_b29 x1) := by
  unfold f_X11_isOpened_b29
  exact fr_br (fr_rt) (fr_rt)
theorem fr_X11_isOpened_b7 : ∀ (fu : Nat) (x1 : Int32), Fr gs_none (f_X11_isOpened_b7 fu x1) := by
  intro fu
  induction fu with
  | zero => intro _; exact fr_none
  | succ fu ih => intro x1; rw [f_X11_isOpened_b7]; exact fr_br (fr_X11_isOpened_b29 _) (fr_gd (fun g1 => fr_dI (fun v2 => fr_cl (fr_X11_isOpen _) (fun r3 => fr_br (ih _) (fr_X11_isOpened_b29 _)))))
theorem fr_X11_isOpened : Fr gs_none (f_X11_isOpened) := by
  unfold f_X11_isOpened
  exact fr_dI (fun v1 => fr_X11_isOpened_b7 _ _)
theorem fr_X11_closes : Fr gs_mread (f_X11_closes) := by
  unfold f_X11_closes
  exact fr_cl (fr_X11_drops _) (fun _ => fr_dI (fun v1 => fr_pI (rfl) (fr_dI (fun v2 => fr_pI (rfl) (fr_cl (fr_mono su_mtok_mread (fr_X11_goes)) (fun _ => fr_rt))))))
theorem fr_X11_expression_b84 (k29 : Int32 → Sg → Option (Unit × Sg)) (x1 : Int32) (xs0 : Int32) (hk29 : ∀ a0, Fr gs_mread (k29 a0)) : Fr gs_mread (f_X11_expression_b84 k29 x1 xs0) := by
  unfold f_X11_expression_b84
  exact fr_cl (fr_X11_waitsFor _) (fun _ => fr_dI (fun v1 => fr_gd (fun g1 => fr_pI (rfl) (fr_cl (fr_mono su_mtok_mread (fr_X11_goes)) (fun _ => fr_cl (fr_X11_operand _) (fun _ => hk29 _))))))
theorem fr_X11_expression_b69 (k29 : Int32 → Sg → Option (Unit × Sg)) (x1 : Int32) (x2 : Int32) (xs0 : Int32) (hk29 : ∀ a0, Fr gs_mread (k29 a0)) : Fr gs_mread (f_X11_expression_b69 k29 x1 x2 xs0) := by
  unfold f_X11_expression_b69
  exact fr_cl (fr_X11_drops _) (fun _ => fr_br (fr_X11_expression_b84 _ _ _ hk29) (fr_X11_expression_b84 _ _ _ hk29))
theorem fr_X11_expression_b57 (k29 : Int32 → Sg → Option (Unit × Sg)) (x1 : Int32) (x2 : Int32) (hk29 : ∀ a0, Fr gs_mread (k29 a0)) : Fr gs_mread (f_X11_expression_b57 k29 x1 x2) := by
  unfold f_X11_expression_b57
  exact fr_br (fr_X11_expression_b69 _ _ _ _ hk29) (fr_X11_expression_b69 _ _ _ _ hk29)
theorem fr_X11_expression_b161 (k29 : Int32 → Sg → Option (Unit × Sg)) (x1 : Int32) (xs0 : Int32) (hk29 : ∀ a0, Fr gs_mread (k29 a0)) : Fr gs_mread (f_X11_expression_b161 k29 x1 xs0) := by
  unfold f_X11_expression_b161
  exact fr_cl (fr_X11_waitsFor _) (fun _ => fr_dI (fun v1 => fr_gd (fun g1 => fr_pI (rfl) (fr_cl (fr_mono su_mtok_mread (fr_X11_goes)) (fun _ => fr_cl (fr_X11_operand _) (fun _ => hk29 _))))))
theorem fr_X11_expression_b226 (k29 : Int32 → Sg → Option (Unit × Sg)) (x1 : Int32) (xs0 : Int32) (hk29 : ∀ a0, Fr gs_mread (k29 a0)) : Fr gs_mread (f_X11_expression_b226 k29 x1 xs0) := by
  unfold f_X11_expression_b226
  exact fr_cl (fr_X11_waitsFor _) (fun _ => fr_cl (fr_mono su_mtok_mread (fr_X11_goes)) (fun _ => fr_cl (fr_X11_operand _) (fun _ => hk29 _)))
theorem fr_X11_expression_b204 (k29 : Int32 → Sg → Option (Unit × Sg)) (x1 : Int32) (hk29 : ∀ a0, Fr gs_mread (k29 a0)) : Fr gs_mread (f_X11_expression_b204 k29 x1) := by
  unfold f_X11_expression_b204
  exact fr_cl (fr_X11_drops _) (fun _ => fr_cl (fr_mono su_none_mread (fr_X11_isSign _)) (fun r1 => fr_br (fr_X11_expression_b226 _ _ _ hk29) (fr_X11_expression_b226 _ _ _ hk29)))
theorem fr_X11_expression_b282 (k29 : Int32 → Sg → Option (Unit × Sg)) (x1 : Int32) (xs0 : Int32) (hk29 : ∀ a0, Fr gs_mread (k29 a0)) : Fr gs_mread (f_X11_expression_b282 k29 x1 xs0) := by
  unfold f_X11_expression_b282
  exact fr_cl (fr_X11_waitsFor _) (fun _ => fr_cl (fr_mono su_mtok_mread (fr_X11_goes)) (fun _ => fr_cl (fr_X11_operand _) (fun _ => hk29 _)))
theorem fr_X11_expression_b259 (k29 : Int32 → Sg → Option (Unit × Sg)) (x1 : Int32) (hk29 : ∀ a0, Fr gs_mread (k29 a0)) : Fr gs_mread (f_X11_expression_b259 k29 x1) := by
  unfold f_X11_expression_b259
  exact fr_cl (fr_X11_drops _) (fun _ => fr_cl (fr_mono su_none_mread (fr_X11_isSign _)) (fun r1 => fr_br (fr_X11_expression_b282 _ _ _ hk29) (fr_X11_expression_b282 _ _ _ hk29)))
theorem fr_X11_expression_b320 (k29 : Int32 → Sg → Option (Unit × Sg)) (hk29 : ∀ a0, Fr gs_mread (k29 a0)) : Fr gs_mread (f_X11_expression_b320 k29) := by
  unfold f_X11_expression_b320
  exact hk29 _
theorem fr_X11_expression_b186 (k29 : Int32 → Sg → Option (Unit × Sg)) (x1 : Int32) (hk29 : ∀ a0, Fr gs_mread (k29 a0)) : Fr gs_mread (f_X11_expression_b186 k29 x1) := by
  unfold f_X11_expression_b186
  exact fr_cl (fr_mono su_none_mread (fr_X11_isSign _)) (fun r1 => fr_br (fr_cl (fr_mono su_none_mread (fr_X11_isSign _)) (fun r3 => fr_br (fr_cl (fr_mono su_none_mread (fr_X11_isSign _)) (fun r5 => fr_br (fr_cl (fr_mono su_none_mread (fr_X11_isSign _)) (fun r7 => fr_br (fr_cl (fr_mono su_none_mread (fr_X11_isSign _)) (fun r9 => fr_br (fr_X11_expression_b320 _ hk29) (fr_cl (fr_mono su_none_mread (fr_X11_isOpened)) (fun r11 => fr_br (fr_X11_expression_b320 _ hk29) (fr_cl (fr_X11_closes) (fun _ => hk29 _)))))) (fr_X11_expression_b259 _ _ hk29))) (fr_X11_expression_b259 _ _ hk29))) (fr_X11_expression_b204 _ _ hk29))) (fr_X11_expression_b204 _ _ hk29))
theorem fr_X11_expression_b127 (k29 : Int32 → Sg → Option (Unit × Sg)) (x1 : Int32) (hk29 : ∀ a0, Fr gs_mread (k29 a0)) : Fr gs_mread (f_X11_expression_b127 k29 x1) := by
  unfold f_X11_expression_b127
  exact fr_dI (fun v1 => fr_gd (fun g1 => fr_dI (fun v2 => fr_br (fr_cl (fr_X11_drops _) (fun _ => fr_cl (fr_mono su_none_mread (fr_X11_isSign _)) (fun r4 => fr_br (fr_X11_expression_b161 _ _ _ hk29) (fr_X11_expression_b161 _ _ _ hk29)))) (fr_X11_expression_b186 _ _ hk29))))
theorem fr_X11_expression_b345 : Fr gs_mread (f_X11_expression_b345) := by
  unfold f_X11_expression_b345
  exact fr_cl (fr_X11_drops _) (fun _ => fr_cl (fr_X11_puts _) (fun _ => fr_rt))
theorem fr_X11_expression_b325 : Fr gs_mread (f_X11_expression_b325) := by
  unfold f_X11_expression_b325
  exact fr_cl (fr_mono su_none_mread (fr_X11_isGood)) (fun r1 => fr_br (fr_X11_expression_b345) (fr_dI (fun v3 => fr_br (fr_X11_expression_b345) (fr_cl (fr_X11_wrong _) (fun _ => fr_X11_expression_b345)))))
theorem fr_X11_expression_b29 : ∀ (fu : Nat) (x1 : Int32), Fr gs_mread (f_X11_expression_b29 fu x1) := by
  intro fu
  induction fu with
  | zero => intro _; exact fr_none
  | succ fu ih => intro x1; rw [f_X11_expression_b29]; exact fr_br (fr_X11_expression_b325) (fr_cl (fr_mono su_none_mread (fr_X11_isGood)) (fun r2 => fr_br (fr_X11_expression_b325) (fr_cl (fr_mono su_none_mread (fr_X11_knownWord)) (fun r4 => fr_br (fr_X11_expression_b57 _ _ _ ih) (fr_br (fr_X11_expression_b57 _ _ _ ih) (fr_cl (fr_mono su_none_mread (fr_X11_isSign _)) (fun r7 => fr_br (fr_cl (fr_mono su_none_mread (fr_X11_isSign _)) (fun r9 => fr_br (fr_X11_expression_b186 _ _ ih) (fr_X11_expression_b127 _ _ ih))) (fr_X11_expression_b127 _ _ ih))))))))
theorem fr_X11_expression : Fr gs_mread (f_X11_expression) := by
  unfold f_X11_expression
  exact fr_cl (fr_mono su_none_mread (fr_X11_isGood)) (fun r1 => fr_br (fr_rt) (fr_pI (rfl) (fr_pI (rfl) (fr_cl (fr_X11_deeper) (fun _ => fr_cl (fr_X11_operand _) (fun _ => fr_X11_expression_b29 _ _))))))
theorem fr_X11_begins_b40 : Fr gs_mread (f_X11_begins_b40) := by
  unfold f_X11_begins_b40
  exact fr_cl (fr_mono su_none_mread (fr_X11_isGood)) (fun r1 => fr_gd (fun g1 => fr_rt))
theorem fr_X11_begins_b17 (x1 : Int32) : Fr gs_mread (f_X11_begins_b17 x1) := by
  unfold f_X11_begins_b17
  exact fr_dI (fun v1 => fr_pI (rfl) (fr_cl (fr_mono su_none_mread (fr_X11_isGood)) (fun r2 => fr_br (fr_X11_begins_b40) (fr_cl (fr_mono su_mtok_mread (fr_X11_goes)) (fun _ => fr_X11_begins_b40)))))
theorem fr_X11_begins (x1 : Int32) : Fr gs_mread (f_X11_begins x1) := by
  unfold f_X11_begins
  exact fr_dI (fun v1 => fr_br (fr_cl (fr_X11_wrong _) (fun _ => fr_X11_begins_b17 _)) (fr_X11_begins_b17 _))
theorem fr_X11_readsJumper_b151 : Fr gs_mread (f_X11_readsJumper_b151) := by
  unfold f_X11_readsJumper_b151
  exact fr_cl (fr_mono su_none_mread (fr_X11_isGood)) (fun r1 => fr_br (fr_rt) (fr_dI (fun v3 => fr_pI (rfl) (fr_rt))))
theorem fr_X11_readsJumper_b13 : Fr gs_mread (f_X11_readsJumper_b13) := by
  unfold f_X11_readsJumper_b13
  exact fr_cl (fr_mono su_none_mread (fr_X11_isGood)) (fun r1 => fr_br (fr_rt) (fr_cl (fr_mono su_mtok_mread (fr_X11_goes)) (fun _ => fr_dI (fun v3 => fr_cl (fr_X11_number _ _) (fun r4 => fr_gd (fun g1 => fr_pI (rfl) (fr_cl (fr_X11_number _ _) (fun r5 => fr_gd (fun g2 => fr_pI (rfl) (fr_dI (fun v6 => fr_cl (fr_X11_signed _) (fun r7 => fr_gd (fun g3 => fr_pI (rfl) (fr_cl (fr_X11_number _ _) (fun r8 => fr_gd (fun g4 => fr_pI (rfl) (fr_cl (fr_X11_number _ _) (fun r9 => fr_gd (fun g5 => fr_pI (rfl) (fr_gd (fun g6 => fr_pI (rfl) (fr_cl (fr_mono su_none_mread (fr_X11_isGood)) (fun r10 => fr_br (fr_X11_readsJumper_b151) (fr_cl (fr_mono su_none_mread (fr_X11_knownWord)) (fun r12 => fr_br (fr_cl (fr_mono su_mtok_mread (fr_X11_goes)) (fun _ => fr_cl (fr_X11_number _ _) (fun r14 => fr_gd (fun g7 => fr_pI (rfl) (fr_X11_readsJumper_b151))))) (fr_X11_readsJumper_b151))))))))))))))))))))))))))
theorem fr_X11_readsJumper : Fr gs_mread (f_X11_readsJumper) := by
  unfold f_X11_readsJumper
  exact fr_dI (fun v1 => fr_br (fr_cl (fr_X11_wrong _) (fun _ => fr_X11_readsJumper_b13)) (fr_X11_readsJumper_b13))
theorem fr_X11_readsEgg_b39 (k10 : Sg → Option (Unit × Sg)) (hk10 : Fr gs_mread k10) : Fr gs_mread (f_X11_readsEgg_b39 k10) := by
  unfold f_X11_readsEgg_b39
  exact fr_cl (fr_X11_number _ _) (fun r1 => fr_cl (fr_mono su_none_mread (fr_X11_isGood)) (fun r2 => fr_br (fr_rt) (fr_dI (fun v4 => fr_gd (fun g1 => fr_pI (rfl) (fr_dI (fun v5 => fr_pI (rfl) (hk10))))))))
theorem fr_X11_readsEgg_b10 : ∀ (fu : Nat), Fr gs_mread (f_X11_readsEgg_b10 fu) := by
  intro fu
  induction fu with
  | zero => exact fr_none
  | succ fu ih => rw [f_X11_readsEgg_b10]; exact fr_cl (fr_mono su_none_mread (fr_X11_isGood)) (fun r1 => fr_br (fr_rt) (fr_dI (fun v3 => fr_br (fr_dI (fun v5 => fr_br (fr_cl (fr_X11_wrong _) (fun _ => fr_X11_readsEgg_b39 _ ih)) (fr_X11_readsEgg_b39 _ ih))) (fr_rt))))
theorem fr_X11_readsEgg : Fr gs_mread (f_X11_readsEgg) := by
  unfold f_X11_readsEgg
  exact fr_cl (fr_X11_begins _) (fun r1 => fr_br (fr_rt) (fr_X11_readsEgg_b10 _))
theorem fr_X11_line_b292 : Fr gs_mread (f_X11_line_b292) := by
  unfold f_X11_line_b292
  exact fr_cl (fr_mono su_none_mread (fr_X11_isSign _)) (fun r1 => fr_cl (fr_X11_need _) (fun _ => fr_rt))
theorem fr_X11_line_b23 (x1 : Int32) : Fr gs_mread (f_X11_line_b23 x1) := by
  unfold f_X11_line_b23
  exact fr_cl (fr_X11_begins _) (fun r1 => fr_br (fr_rt) (fr_cl (fr_X11_number _ _) (fun r3 => fr_pI (rfl) (fr_cl (fr_X11_number _ _) (fun r4 => fr_pI (rfl) (fr_cl (fr_X11_number _ _) (fun r5 => fr_pI (rfl) (fr_X11_line_b292))))))))
theorem fr_X11_line_b191 (xs0 : Int32) (xs2 : Int32) : Fr gs_mread (f_X11_line_b191 xs0 xs2) := by
  unfold f_X11_line_b191
  exact fr_cl (fr_X11_number _ _) (fun r1 => fr_gd (fun g1 => fr_pI (rfl) (fr_X11_line_b292)))
theorem fr_X11_line_b232 : Fr gs_mread (f_X11_line_b232) := by
  unfold f_X11_line_b232
  exact fr_cl (fr_mono su_none_mread (fr_X11_isGood)) (fun r1 => fr_br (fr_rt) (fr_cl (fr_mono su_mtok_mread (fr_X11_goes)) (fun _ => fr_dI (fun v3 => fr_dI (fun v4 => fr_gd (fun g1 => fr_pI (rfl) (fr_dI (fun v5 => fr_pI (rfl) (fr_cl (fr_X11_expression) (fun _ => fr_X11_line_b292))))))))))
theorem fr_X11_line : Fr gs_mread (f_X11_line) := by
  unfold f_X11_line
  exact fr_cl (fr_mono su_none_mread (fr_X11_knownWord)) (fun r1 => fr_br (fr_dI (fun v3 => fr_br (fr_X11_line_b23 _) (fr_cl (fr_X11_wrong _) (fun _ => fr_X11_line_b23 _)))) (fr_br (fr_cl (fr_X11_begins _) (fun r6 => fr_br (fr_X11_line_b292) (fr_cl (fr_X11_signed _) (fun r8 => fr_pI (rfl) (fr_X11_line_b292))))) (fr_br (fr_cl (fr_X11_begins _) (fun r10 => fr_br (fr_X11_line_b292) (fr_cl (fr_X11_number _ _) (fun r12 => fr_pI (rfl) (fr_X11_line_b292))))) (fr_br (fr_cl (fr_X11_begins _) (fun r14 => fr_br (fr_rt) (fr_cl (fr_X11_number _ _) (fun r16 => fr_pI (rfl) (fr_cl (fr_X11_number _ _) (fun r17 => fr_pI (rfl) (fr_dI (fun v18 => fr_dI (fun v19 => fr_br (fr_X11_line_b191 _ _) (fr_X11_line_b191 _ _)))))))))) (fr_br (fr_cl (fr_X11_readsJumper) (fun _ => fr_X11_line_b292)) (fr_br (fr_dI (fun v23 => fr_br (fr_cl (fr_X11_wrong _) (fun _ => fr_X11_line_b232)) (fr_X11_line_b232))) (fr_br (fr_cl (fr_X11_readsEgg) (fun _ => fr_X11_line_b292)) (fr_cl (fr_X11_wrong _) (fun _ => fr_X11_line_b292)))))))))
theorem fr_X11_copies_64_57_b2 : ∀ (fu : Nat) (x3 : Int32), Fr gs_mod (f_X11_copies_64_57_b2 fu x3) := by
  intro fu
  induction fu with
  | zero => intro _; exact fr_none
  | succ fu ih => intro x3; rw [f_X11_copies_64_57_b2]; exact fr_br (fr_rt) (fr_gd (fun g1 => fr_dI (fun v2 => fr_gd (fun g2 => fr_pI (rfl) (ih _)))))
theorem fr_X11_copies_64_57 : Fr gs_mod (f_X11_copies_64_57) := by
  unfold f_X11_copies_64_57
  exact fr_X11_copies_64_57_b2 _ _
theorem fr_X11_copies_65_58_b2 : ∀ (fu : Nat) (x3 : Int32), Fr gs_mod (f_X11_copies_65_58_b2 fu x3) := by
  intro fu
  induction fu with
  | zero => intro _; exact fr_none
  | succ fu ih => intro x3; rw [f_X11_copies_65_58_b2]; exact fr_br (fr_rt) (fr_gd (fun g1 => fr_dI (fun v2 => fr_gd (fun g2 => fr_pI (rfl) (ih _)))))
theorem fr_X11_copies_65_58 : Fr gs_mod (f_X11_copies_65_58) := by
  unfold f_X11_copies_65_58
  exact fr_X11_copies_65_58_b2 _ _
theorem fr_X11_copies_66_59_b2 : ∀ (fu : Nat) (x3 : Int32), Fr gs_mod (f_X11_copies_66_59_b2 fu x3) := by
  intro fu
  induction fu with
  | zero => intro _; exact fr_none
  | succ fu ih => intro x3; rw [f_X11_copies_66_59_b2]; exact fr_br (fr_rt) (fr_gd (fun g1 => fr_dI (fun v2 => fr_gd (fun g2 => fr_pI (rfl) (ih _)))))
theorem fr_X11_copies_66_59 : Fr gs_mod (f_X11_copies_66_59) := by
  unfold f_X11_copies_66_59
  exact fr_X11_copies_66_59_b2 _ _
theorem fr_X11_copies_67_60_b2 : ∀ (fu : Nat) (x3 : Int32), Fr gs_mod (f_X11_copies_67_60_b2 fu x3) := by
  intro fu
  induction fu with
  | zero => intro _; exact fr_none
  | succ fu ih => intro x3; rw [f_X11_copies_67_60_b2]; exact fr_br (fr_rt) (fr_gd (fun g1 => fr_dI (fun v2 => fr_gd (fun g2 => fr_pI (rfl) (ih _)))))
theorem fr_X11_copies_67_60 : Fr gs_mod (f_X11_copies_67_60) := by
  unfold f_X11_copies_67_60
  exact fr_X11_copies_67_60_b2 _ _
theorem fr_X11_copies_68_61_b2 : ∀ (fu : Nat) (x3 : Int32), Fr gs_mod (f_X11_copies_68_61_b2 fu x3) := by
  intro fu
  induction fu with
  | zero => intro _; exact fr_none
  | succ fu ih => intro x3; rw [f_X11_copies_68_61_b2]; exact fr_br (fr_rt) (fr_gd (fun g1 => fr_dI (fun v2 => fr_gd (fun g2 => fr_pI (rfl) (ih _)))))
theorem fr_X11_copies_68_61 : Fr gs_mod (f_X11_copies_68_61) := by
  unfold f_X11_copies_68_61
  exact fr_X11_copies_68_61_b2 _ _
theorem fr_X11_garden_b155 : Fr gs_mod (f_X11_garden_b155) := by
  unfold f_X11_garden_b155
  exact fr_cl (fr_mono su_none_mod (fr_X11_isGood)) (fun r1 => fr_br (fr_dI (fun v3 => fr_pI (rfl) (fr_dI (fun v4 => fr_rt)))) (fr_dI (fun v5 => fr_pI (rfl) (fr_dI (fun v6 => fr_pI (rfl) (fr_dI (fun v7 => fr_pI (rfl) (fr_dI (fun v8 => fr_pI (rfl) (fr_dI (fun v9 => fr_pI (rfl) (fr_dI (fun v10 => fr_pI (rfl) (fr_dI (fun v11 => fr_pI (rfl) (fr_dI (fun v12 => fr_pI (rfl) (fr_cl (fr_X11_copies_64_57) (fun _ => fr_cl (fr_X11_copies_65_58) (fun _ => fr_cl (fr_X11_copies_66_59) (fun _ => fr_cl (fr_X11_copies_67_60) (fun _ => fr_cl (fr_X11_copies_68_61) (fun _ => fr_pI (rfl) (fr_pI (rfl) (fr_pI (rfl) (fr_pI (rfl) (fr_pI (rfl) (fr_rt))))))))))))))))))))))))))))
theorem fr_X11_garden_b134 : ∀ (fu : Nat), Fr gs_mod (f_X11_garden_b134 fu) := by
  intro fu
  induction fu with
  | zero => exact fr_none
  | succ fu ih => rw [f_X11_garden_b134]; exact fr_cl (fr_mono su_none_mod (fr_X11_isGood)) (fun r1 => fr_br (fr_X11_garden_b155) (fr_dI (fun v3 => fr_br (fr_X11_garden_b155) (fr_cl (fr_mono su_mread_mod (fr_X11_line)) (fun _ => ih)))))
theorem fr_X11_garden_b23 (x1 : Int32) (xs0 : Int32) : Fr gs_mod (f_X11_garden_b23 x1 xs0) := by
  unfold f_X11_garden_b23
  exact fr_cl (fr_mono su_mth_mod (fr_X11_right _ _)) (fun r1 => fr_br (fr_rt) (fr_pI (rfl) (fr_pI (rfl) (fr_pI (rfl) (fr_pI (rfl) (fr_pI (rfl) (fr_pI (rfl) (fr_pI (rfl) (fr_pI (rfl) (fr_pI (rfl) (fr_pI (rfl) (fr_pI (rfl) (fr_pI (rfl) (fr_pI (rfl) (fr_pI (rfl) (fr_pI (rfl) (fr_pI (rfl) (fr_pI (rfl) (fr_pI (rfl) (fr_cl (fr_mono su_mtok_mod (fr_X11_goes)) (fun _ => fr_X11_garden_b134 _)))))))))))))))))))))
theorem fr_X11_garden_b22 (x1 : Int32) : Fr gs_mod (f_X11_garden_b22 x1) := by
  unfold f_X11_garden_b22
  exact fr_X11_garden_b23 _ _
theorem fr_X11_garden (x1 : Int32) : Fr gs_mod (f_X11_garden x1) := by
  unfold f_X11_garden
  exact fr_pI (rfl) (fr_br (fr_X11_garden_b22 _) (fr_dI (fun v2 => fr_br (fr_X11_garden_b22 _) (fr_X11_garden_b23 _ _))))
theorem fr_X11_fault : Fr gs_mth (f_X11_fault) := by
  unfold f_X11_fault
  exact fr_pI (rfl) (fr_dI (fun v1 => fr_rt))
theorem fr_X11_count (x1 : Int32) : Fr gs_mth (f_X11_count x1) := by
  unfold f_X11_count
  exact fr_pI (rfl) (fr_cl (fr_mono su_none_mth (fr_X11_within _ _ _)) (fun r1 => fr_cl (fr_X11_right _ _) (fun r2 => fr_br (fr_rt) (fr_br (fr_dI (fun v5 => fr_rt)) (fr_br (fr_dI (fun v7 => fr_rt)) (fr_br (fr_dI (fun v9 => fr_rt)) (fr_br (fr_dI (fun v11 => fr_rt)) (fr_br (fr_dI (fun v13 => fr_rt)) (fr_br (fr_gd (fun g1 => fr_dI (fun v15 => fr_rt))) (fr_br (fr_gd (fun g2 => fr_dI (fun v17 => fr_rt))) (fr_br (fr_gd (fun g3 => fr_dI (fun v19 => fr_rt))) (fr_br (fr_dI (fun v21 => fr_rt)) (fr_br (fr_dI (fun v23 => fr_rt)) (fr_br (fr_dI (fun v25 => fr_rt)) (fr_br (fr_dI (fun v27 => fr_rt)) (fr_br (fr_dI (fun v29 => fr_rt)) (fr_br (fr_dI (fun v31 => fr_rt)) (fr_br (fr_dI (fun v33 => fr_rt)) (fr_br (fr_dI (fun v35 => fr_rt)) (fr_gd (fun g4 => fr_dI (fun v36 => fr_rt))))))))))))))))))))))
theorem fr_X11_isJumper_b18 (xs0 : Int32) : Fr gs_mth (f_X11_isJumper_b18 xs0) := by
  unfold f_X11_isJumper_b18
  exact fr_cl (fr_X11_right _ _) (fun r1 => fr_gd (fun g1 => fr_rt))
theorem fr_X11_isJumper_b17 : Fr gs_mth (f_X11_isJumper_b17) := by
  unfold f_X11_isJumper_b17
  exact fr_X11_isJumper_b18 _
theorem fr_X11_isJumper (x1 : Int32) : Fr gs_mth (f_X11_isJumper x1) := by
  unfold f_X11_isJumper
  exact fr_br (fr_X11_isJumper_b17) (fr_dI (fun v2 => fr_br (fr_X11_isJumper_b17) (fr_X11_isJumper_b18 _)))
theorem fr_X11_isWhat (x1 : Int32) (x2 : Int32) : Fr gs_mth (f_X11_isWhat x1 x2) := by
  unfold f_X11_isWhat
  exact fr_cl (fr_mono su_none_mth (fr_X11_within _ _ _)) (fun r1 => fr_cl (fr_X11_right _ _) (fun r2 => fr_gd (fun g1 => fr_rt)))
theorem fr_X11_weight (x1 : Int32) : Fr gs_none (f_X11_weight x1) := by
  unfold f_X11_weight
  exact fr_gd (fun g1 => fr_dI (fun v1 => fr_rt))
theorem fr_X11_jumper (x1 : Int32) (x2 : Int32) : Fr gs_mth (f_X11_jumper x1 x2) := by
  unfold f_X11_jumper
  exact fr_pI (rfl) (fr_cl (fr_X11_isJumper _) (fun r1 => fr_br (fr_rt) (fr_cl (fr_X11_isWhat _ _) (fun r3 => fr_br (fr_rt) (fr_gd (fun g1 => fr_dI (fun v5 => fr_rt)))))))
theorem fr_X11_keeps_b47 (x1 : Int32) (x2 : Int32) : Fr gs_mod (f_X11_keeps_b47 x1 x2) := by
  unfold f_X11_keeps_b47
  exact fr_dI (fun v1 => fr_gd (fun g1 => fr_pI (rfl) (fr_dI (fun v2 => fr_gd (fun g2 => fr_pI (rfl) (fr_dI (fun v3 => fr_pI (rfl) (fr_rt))))))))
theorem fr_X11_keeps_b37 (x1 : Int32) (x2 : Int32) : Fr gs_mod (f_X11_keeps_b37 x1 x2) := by
  unfold f_X11_keeps_b37
  exact fr_dI (fun v1 => fr_pI (rfl) (fr_X11_keeps_b47 _ _))
theorem fr_X11_keeps_b11 : ∀ (fu : Nat) (x1 : Int32) (x2 : Int32) (x3 : Int32), Fr gs_mod (f_X11_keeps_b11 fu x1 x2 x3) := by
  intro fu
  induction fu with
  | zero => intro _ _ _; exact fr_none
  | succ fu ih => intro x1 x2 x3; rw [f_X11_keeps_b11]; exact fr_br (fr_X11_keeps_b37 _ _) (fr_gd (fun g1 => fr_dI (fun v2 => fr_gd (fun g2 => fr_pI (rfl) (ih _ _ _)))))
theorem fr_X11_keeps (x1 : Int32) (x2 : Int32) : Fr gs_mod (f_X11_keeps x1 x2) := by
  unfold f_X11_keeps
  exact fr_dI (fun v1 => fr_br (fr_X11_keeps_b11 _ _ _ _) (fr_X11_keeps_b47 _ _))
theorem fr_X11_refuses (x1 : Int32) : Fr gs_mod (f_X11_refuses x1) := by
  unfold f_X11_refuses
  exact fr_gd (fun g1 => fr_dI (fun v1 => fr_gd (fun g2 => fr_pI (rfl) (fr_rt))))
theorem fr_X11_become_b47 (x1 : Int32) (x2 : Int32) (x3 : Int32) (xs0 : Int32) (xs1 : Int32) (xs2 : Int32) : Fr gs_mod (f_X11_become_b47 x1 x2 x3 xs0 xs1 xs2) := by
  unfold f_X11_become_b47
  exact fr_cl (fr_mono su_none_mod (fr_X11_within _ _ _)) (fun r1 => fr_br (fr_cl (fr_X11_refuses _) (fun r3 => fr_rt)) (fr_lt (fun w4 => fr_gd (fun g1 => fr_dI (fun v5 => fr_cl (fr_X11_keeps _ _) (fun _ => fr_gd (fun g2 => fr_pI (rfl) (fr_rt))))))))
theorem fr_X11_become (x1 : Int32) (x2 : Int32) (x3 : Int32) : Fr gs_mod (f_X11_become x1 x2 x3) := by
  unfold f_X11_become
  exact fr_pI (rfl) (fr_cl (fr_mono su_mth_mod (fr_X11_isJumper _)) (fun r1 => fr_br (fr_rt) (fr_cl (fr_mono su_mth_mod (fr_X11_isWhat _ _)) (fun r3 => fr_br (fr_rt) (fr_br (fr_X11_become_b47 _ _ _ _ _ _) (fr_br (fr_X11_become_b47 _ _ _ _ _ _) (fr_X11_become_b47 _ _ _ _ _ _)))))))
theorem fr_X11_obey_b18 : Fr gs_mod (f_X11_obey_b18) := by
  unfold f_X11_obey_b18
  exact fr_cl (fr_X11_refuses _) (fun r1 => fr_br (fr_rt) (fr_rt))
theorem fr_X11_obey (x1 : Int32) : Fr gs_mod (f_X11_obey x1) := by
  unfold f_X11_obey
  exact fr_pI (rfl) (fr_br (fr_X11_obey_b18) (fr_dI (fun v2 => fr_br (fr_dI (fun v4 => fr_cl (fr_X11_keeps _ _) (fun _ => fr_pI (rfl) (fr_rt)))) (fr_X11_obey_b18))))
theorem fr_X11_last (x1 : Int32) : Fr gs_mod (f_X11_last x1) := by
  unfold f_X11_last
  exact fr_pI (rfl) (fr_cl (fr_mono su_none_mod (fr_X11_within _ _ _)) (fun r1 => fr_br (fr_cl (fr_X11_refuses _) (fun r3 => fr_br (fr_rt) (fr_rt))) (fr_dI (fun v5 => fr_cl (fr_X11_keeps _ _) (fun _ => fr_pI (rfl) (fr_rt))))))
theorem fr_X11_undo : Fr gs_mod (f_X11_undo) := by
  unfold f_X11_undo
  exact fr_pI (rfl) (fr_dI (fun v1 => fr_br (fr_rt) (fr_dI (fun v3 => fr_pI (rfl) (fr_dI (fun v4 => fr_gd (fun g1 => fr_dI (fun v5 => fr_dI (fun v6 => fr_gd (fun g2 => fr_dI (fun v7 => fr_br (fr_pI (rfl) (fr_dI (fun v9 => fr_rt))) (fr_br (fr_pI (rfl) (fr_dI (fun v11 => fr_rt))) (fr_gd (fun g3 => fr_pI (rfl) (fr_dI (fun v12 => fr_rt))))))))))))))))
theorem fr_X11_works_b66 : Fr gs_none (f_X11_works_b66) := by
  unfold f_X11_works_b66
  exact fr_rt
theorem fr_X11_works (x0 : Int32) (x1 : Int32) (x2 : Int32) : Fr gs_none (f_X11_works x0 x1 x2) := by
  unfold f_X11_works
  exact fr_br (fr_br (fr_rt) (fr_br (fr_rt) (fr_rt))) (fr_br (fr_br (fr_br (fr_rt) (fr_X11_works_b66)) (fr_X11_works_b66)) (fr_br (fr_br (fr_rt) (fr_rt)) (fr_br (fr_br (fr_rt) (fr_rt)) (fr_br (fr_rt) (fr_br (fr_rt) (fr_br (fr_rt) (fr_br (fr_rt) (fr_gd (fun g1 => fr_rt)))))))))
theorem fr_X11_valueOf_b118 (k50 : Int32 → Int32 → Int32 → Int32 → Sg → Option (Int32 × Sg)) (x1 : Int32) (x2 : Int32) (x5 : Int32) (x6 : Int32) (hk50 : ∀ a0 a1 a2 a3, Fr gs_none (k50 a0 a1 a2 a3)) : Fr gs_none (f_X11_valueOf_b118 k50 x1 x2 x5 x6) := by
  unfold f_X11_valueOf_b118
  exact hk50 _ _ _ _
theorem fr_X11_valueOf_b115 (k50 : Int32 → Int32 → Int32 → Int32 → Sg → Option (Int32 × Sg)) (x1 : Int32) (x2 : Int32) (x6 : Int32) (xs0 : Int32) (xs1 : Int32) (hk50 : ∀ a0 a1 a2 a3, Fr gs_none (k50 a0 a1 a2 a3)) : Fr gs_none (f_X11_valueOf_b115 k50 x1 x2 x6 xs0 xs1) := by
  unfold f_X11_valueOf_b115
  exact fr_X11_valueOf_b118 _ _ _ _ _ hk50
theorem fr_X11_valueOf_b110 (k50 : Int32 → Int32 → Int32 → Int32 → Sg → Option (Int32 × Sg)) (x1 : Int32) (x2 : Int32) (x6 : Int32) (xs0 : Int32) (hk50 : ∀ a0 a1 a2 a3, Fr gs_none (k50 a0 a1 a2 a3)) : Fr gs_none (f_X11_valueOf_b110 k50 x1 x2 x6 xs0) := by
  unfold f_X11_valueOf_b110
  exact fr_X11_valueOf_b115 _ _ _ _ _ _ hk50
theorem fr_X11_valueOf_b82 (k50 : Int32 → Int32 → Int32 → Int32 → Sg → Option (Int32 × Sg)) (x1 : Int32) (x2 : Int32) (x5 : Int32) (x6 : Int32) (xs0 : Int32) (xs1 : Int32) (hk50 : ∀ a0 a1 a2 a3, Fr gs_none (k50 a0 a1 a2 a3)) : Fr gs_none (f_X11_valueOf_b82 k50 x1 x2 x5 x6 xs0 xs1) := by
  unfold f_X11_valueOf_b82
  exact fr_br (fr_br (fr_cl (fr_X11_weight _) (fun r3 => fr_cl (fr_X11_weight _) (fun r4 => fr_br (fr_X11_valueOf_b115 _ _ _ _ _ _ hk50) (fr_X11_valueOf_b110 _ _ _ _ _ hk50)))) (fr_X11_valueOf_b110 _ _ _ _ _ hk50)) (fr_X11_valueOf_b118 _ _ _ _ _ hk50)
theorem fr_X11_valueOf_b50 : ∀ (fu : Nat) (x1 : Int32) (x2 : Int32) (x5 : Int32) (x6 : Int32), Fr gs_none (f_X11_valueOf_b50 fu x1 x2 x5 x6) := by
  intro fu
  induction fu with
  | zero => intro _ _ _ _; exact fr_none
  | succ fu ih => intro x1 x2 x5 x6; rw [f_X11_valueOf_b50]; exact fr_dI (fun v1 => fr_br (fr_rt) (fr_br (fr_X11_valueOf_b118 _ _ _ _ _ ih) (fr_gd (fun g1 => fr_dI (fun v4 => fr_br (fr_X11_valueOf_b82 _ _ _ _ _ _ _ ih) (fr_X11_valueOf_b82 _ _ _ _ _ _ _ ih))))))
theorem fr_X11_valueOf (x1 : Int32) (x2 : Int32) (x3 : Int32) (x4 : Int32) : Fr gs_none (f_X11_valueOf x1 x2 x3 x4) := by
  unfold f_X11_valueOf
  exact fr_br (fr_rt) (fr_br (fr_cl (fr_X11_weight _) (fun r3 => fr_rt)) (fr_br (fr_rt) (fr_br (fr_gd (fun g1 => fr_dI (fun v6 => fr_rt))) (fr_br (fr_rt) (fr_X11_valueOf_b50 _ _ _ _ _)))))
theorem fr_X11_mayGo_b94 (k24 : Int32 → Int32 → Int32 → Int32 → Int32 → Sg → Option (Int32 × Sg)) (x1 : Int32) (x2 : Int32) (x3 : Int32) (x4 : Int32) (x5 : Int32) (xs0 : Int32) (xs1 : Int32) (hk24 : ∀ a0 a1 a2 a3 a4, Fr gs_mrunF (k24 a0 a1 a2 a3 a4)) : Fr gs_mrunF (f_X11_mayGo_b94 k24 x1 x2 x3 x4 x5 xs0 xs1) := by
  unfold f_X11_mayGo_b94
  exact fr_gd (fun g1 => fr_pI (rfl) (hk24 _ _ _ _ _))
theorem fr_X11_mayGo_b58 (k24 : Int32 → Int32 → Int32 → Int32 → Int32 → Sg → Option (Int32 × Sg)) (x1 : Int32) (x2 : Int32) (x3 : Int32) (x4 : Int32) (x5 : Int32) (x6 : Int32) (hk24 : ∀ a0 a1 a2 a3 a4, Fr gs_mrunF (k24 a0 a1 a2 a3 a4)) : Fr gs_mrunF (f_X11_mayGo_b58 k24 x1 x2 x3 x4 x5 x6) := by
  unfold f_X11_mayGo_b58
  exact fr_br (fr_gd (fun g1 => fr_dI (fun v2 => fr_X11_mayGo_b94 _ _ _ _ _ _ _ _ hk24))) (fr_gd (fun g2 => fr_dI (fun v3 => fr_cl (fr_mono su_none_mrunF (fr_X11_valueOf _ _ _ _)) (fun r4 => fr_X11_mayGo_b94 _ _ _ _ _ _ _ _ hk24))))
theorem fr_X11_mayGo_b135 (k24 : Int32 → Int32 → Int32 → Int32 → Int32 → Sg → Option (Int32 × Sg)) (x1 : Int32) (x2 : Int32) (x3 : Int32) (x4 : Int32) (x5 : Int32) (xs0 : Int32) (xs1 : Int32) (hk24 : ∀ a0 a1 a2 a3 a4, Fr gs_mrunF (k24 a0 a1 a2 a3 a4)) : Fr gs_mrunF (f_X11_mayGo_b135 k24 x1 x2 x3 x4 x5 xs0 xs1) := by
  unfold f_X11_mayGo_b135
  exact fr_gd (fun g1 => fr_pI (rfl) (hk24 _ _ _ _ _))
theorem fr_X11_mayGo_b175 : Fr gs_mrunF (f_X11_mayGo_b175) := by
  unfold f_X11_mayGo_b175
  exact fr_dI (fun v1 => fr_br (fr_rt) (fr_rt))
theorem fr_X11_mayGo_b24 : ∀ (fu : Nat) (x1 : Int32) (x2 : Int32) (x3 : Int32) (x4 : Int32) (x5 : Int32), Fr gs_mrunF (f_X11_mayGo_b24 fu x1 x2 x3 x4 x5) := by
  intro fu
  induction fu with
  | zero => intro _ _ _ _ _; exact fr_none
  | succ fu ih => intro x1 x2 x3 x4 x5; rw [f_X11_mayGo_b24]; exact fr_gd (fun g1 => fr_dI (fun v1 => fr_br (fr_X11_mayGo_b175) (fr_gd (fun g2 => fr_dI (fun v3 => fr_br (fr_X11_mayGo_b58 _ _ _ _ _ _ _ ih) (fr_br (fr_X11_mayGo_b58 _ _ _ _ _ _ _ ih) (fr_br (fr_gd (fun g3 => fr_dI (fun v7 => fr_br (fr_X11_mayGo_b135 _ _ _ _ _ _ _ _ ih) (fr_X11_mayGo_b135 _ _ _ _ _ _ _ _ ih)))) (fr_gd (fun g4 => fr_dI (fun v9 => fr_gd (fun g5 => fr_dI (fun v10 => fr_cl (fr_mono su_none_mrunF (fr_X11_works _ _ _)) (fun r11 => fr_gd (fun g6 => fr_pI (rfl) (ih _ _ _ _ _)))))))))))))))
theorem fr_X11_mayGo (x1 : Int32) (x2 : Int32) (x3 : Int32) : Fr gs_mrunF (f_X11_mayGo x1 x2 x3) := by
  unfold f_X11_mayGo
  exact fr_dI (fun v1 => fr_br (fr_rt) (fr_dI (fun v3 => fr_gd (fun g1 => fr_dI (fun v4 => fr_X11_mayGo_b24 _ _ _ _ _ _)))))
theorem fr_X11_hurts_b23 (x1 : Int32) (x2 : Int32) : Fr gs_mrunF (f_X11_hurts_b23 x1 x2) := by
  unfold f_X11_hurts_b23
  exact fr_dI (fun v1 => fr_br (fr_dI (fun v3 => fr_pI (rfl) (fr_rt))) (fr_rt))
theorem fr_X11_hurts (x1 : Int32) (x2 : Int32) : Fr gs_mrunF (f_X11_hurts x1 x2) := by
  unfold f_X11_hurts
  exact fr_gd (fun g1 => fr_dI (fun v1 => fr_gd (fun g2 => fr_pI (rfl) (fr_dI (fun v2 => fr_br (fr_pI (rfl) (fr_X11_hurts_b23 _ _)) (fr_X11_hurts_b23 _ _))))))
theorem fr_X11_landed (x1 : Int32) (x2 : Int32) (x3 : Int32) (x4 : Int32) : Fr gs_mrunF (f_X11_landed x1 x2 x3 x4) := by
  unfold f_X11_landed
  exact fr_dI (fun v1 => fr_gd (fun g1 => fr_pI (rfl) (fr_gd (fun g2 => fr_pI (rfl) (fr_gd (fun g3 => fr_pI (rfl) (fr_gd (fun g4 => fr_dI (fun v2 => fr_gd (fun g5 => fr_pI (rfl) (fr_gd (fun g6 => fr_pI (rfl) (fr_dI (fun v3 => fr_pI (rfl) (fr_lt (fun w4 => fr_gd (fun g7 => fr_dI (fun v5 => fr_gd (fun g8 => fr_pI (rfl) (fr_rt))))))))))))))))))))
theorem fr_X11_comesDown_b41 (x1 : Int32) (x2 : Int32) (x3 : Int32) : Fr gs_mrunF (f_X11_comesDown_b41 x1 x2 x3) := by
  unfold f_X11_comesDown_b41
  exact fr_gd (fun g1 => fr_pI (rfl) (fr_cl (fr_X11_hurts _ _) (fun _ => fr_cl (fr_X11_landed _ _ _ _) (fun _ => fr_rt))))
theorem fr_X11_comesDown_b147 (k69 : Int32 → Int32 → Int32 → Int32 → Int32 → Sg → Option (Unit × Sg)) (x1 : Int32) (x2 : Int32) (x3 : Int32) (x4 : Int32) (x5 : Int32) (hk69 : ∀ a0 a1 a2 a3 a4, Fr gs_mrunF (k69 a0 a1 a2 a3 a4)) : Fr gs_mrunF (f_X11_comesDown_b147 k69 x1 x2 x3 x4 x5) := by
  unfold f_X11_comesDown_b147
  exact hk69 _ _ _ _ _
theorem fr_X11_comesDown_b298 (x3 : Int32) (xs0 : Int32) (xs1 : Int32) (xs2 : Int32) : Fr gs_mrunF (f_X11_comesDown_b298 x3 xs0 xs1 xs2) := by
  unfold f_X11_comesDown_b298
  exact fr_cl (fr_X11_landed _ _ _ _) (fun _ => fr_rt)
theorem fr_X11_comesDown_b260 (x1 : Int32) (x2 : Int32) (x3 : Int32) (x5 : Int32) : Fr gs_mrunF (f_X11_comesDown_b260 x1 x2 x3 x5) := by
  unfold f_X11_comesDown_b260
  exact fr_dI (fun v1 => fr_pI (rfl) (fr_dI (fun v2 => fr_pI (rfl) (fr_pI (rfl) (fr_br (fr_X11_comesDown_b298 _ _ _ _) (fr_X11_comesDown_b298 _ _ _ _))))))
theorem fr_X11_comesDown_b227 (x1 : Int32) (x2 : Int32) (x3 : Int32) (xs0 : Int32) : Fr gs_mrunF (f_X11_comesDown_b227 x1 x2 x3 xs0) := by
  unfold f_X11_comesDown_b227
  exact fr_br (fr_dI (fun v2 => fr_lt (fun w3 => fr_gd (fun g1 => fr_dI (fun v4 => fr_gd (fun g2 => fr_pI (rfl) (fr_X11_comesDown_b260 _ _ _ _))))))) (fr_pI (rfl) (fr_X11_comesDown_b260 _ _ _ _))
theorem fr_X11_comesDown_b214 (x1 : Int32) (x2 : Int32) (x3 : Int32) : Fr gs_mrunF (f_X11_comesDown_b214 x1 x2 x3) := by
  unfold f_X11_comesDown_b214
  exact fr_dI (fun v1 => fr_br (fr_X11_comesDown_b227 _ _ _ _) (fr_X11_comesDown_b227 _ _ _ _))
theorem fr_X11_comesDown_b179 (x1 : Int32) (x2 : Int32) (x3 : Int32) : Fr gs_mrunF (f_X11_comesDown_b179 x1 x2 x3) := by
  unfold f_X11_comesDown_b179
  exact fr_gd (fun g1 => fr_pI (rfl) (fr_gd (fun g2 => fr_pI (rfl) (fr_dI (fun v1 => fr_br (fr_X11_comesDown_b214 _ _ _) (fr_dI (fun v3 => fr_dI (fun v4 => fr_br (fr_gd (fun g3 => fr_dI (fun v6 => fr_gd (fun g4 => fr_pI (rfl) (fr_dI (fun v7 => fr_pI (rfl) (fr_cl (fr_X11_landed _ _ _ _) (fun _ => fr_rt)))))))) (fr_X11_comesDown_b214 _ _ _)))))))))
theorem fr_X11_comesDown_b153 (x1 : Int32) (x2 : Int32) (x3 : Int32) (x4 : Int32) : Fr gs_mrunF (f_X11_comesDown_b153 x1 x2 x3 x4) := by
  unfold f_X11_comesDown_b153
  exact fr_br (fr_X11_comesDown_b179 _ _ _) (fr_cl (fr_X11_hurts _ _) (fun _ => fr_lt (fun w2 => fr_gd (fun g1 => fr_dI (fun v3 => fr_gd (fun g2 => fr_pI (rfl) (fr_X11_comesDown_b179 _ _ _)))))))
theorem fr_X11_comesDown_b69 : ∀ (fu : Nat) (x1 : Int32) (x2 : Int32) (x3 : Int32) (x4 : Int32) (x5 : Int32), Fr gs_mrunF (f_X11_comesDown_b69 fu x1 x2 x3 x4 x5) := by
  intro fu
  induction fu with
  | zero => intro _ _ _ _ _; exact fr_none
  | succ fu ih => intro x1 x2 x3 x4 x5; rw [f_X11_comesDown_b69]; exact fr_dI (fun v1 => fr_br (fr_X11_comesDown_b153 _ _ _ _) (fr_br (fr_X11_comesDown_b147 _ _ _ _ _ _ ih) (fr_gd (fun g1 => fr_dI (fun v4 => fr_br (fr_gd (fun g2 => fr_dI (fun v6 => fr_gd (fun g3 => fr_dI (fun v7 => fr_cl (fr_mono su_none_mrunF (fr_X11_off _ _)) (fun r8 => fr_dI (fun v9 => fr_br (fr_cl (fr_X11_hurts _ _) (fun _ => fr_lt (fun w11 => fr_gd (fun g4 => fr_dI (fun v12 => fr_gd (fun g5 => fr_pI (rfl) (fr_X11_comesDown_b147 _ _ _ _ _ _ ih))))))) (fr_X11_comesDown_b147 _ _ _ _ _ _ ih)))))))) (fr_X11_comesDown_b147 _ _ _ _ _ _ ih))))))
theorem fr_X11_comesDown (x1 : Int32) (x2 : Int32) : Fr gs_mrunF (f_X11_comesDown x1 x2) := by
  unfold f_X11_comesDown
  exact fr_cl (fr_mono su_none_mrunF (fr_X11_weight _)) (fun r1 => fr_gd (fun g1 => fr_dI (fun v2 => fr_gd (fun g2 => fr_dI (fun v3 => fr_dI (fun v4 => fr_br (fr_X11_comesDown_b41 _ _ _) (fr_gd (fun g3 => fr_dI (fun v6 => fr_dI (fun v7 => fr_br (fr_X11_comesDown_b69 _ _ _ _ _ _) (fr_X11_comesDown_b41 _ _ _)))))))))))
theorem fr_X11_then (x1 : Int32) (x2 : Int32) (x3 : Int32) : Fr gs_none (f_X11_then x1 x2 x3) := by
  unfold f_X11_then
  exact fr_dI (fun v1 => fr_lt (fun w2 => fr_br (fr_br (fr_rt) (fr_rt)) (fr_br (fr_rt) (fr_rt))))
theorem fr_X11_goesUp_b35 (x1 : Int32) (x2 : Int32) (x3 : Int32) (xs0 : Int32) (xs1 : Int32) : Fr gs_mrunF (f_X11_goesUp_b35 x1 x2 x3 xs0 xs1) := by
  unfold f_X11_goesUp_b35
  exact fr_gd (fun g1 => fr_pI (rfl) (fr_gd (fun g2 => fr_dI (fun v1 => fr_gd (fun g3 => fr_pI (rfl) (fr_gd (fun g4 => fr_pI (rfl) (fr_gd (fun g5 => fr_pI (rfl) (fr_gd (fun g6 => fr_pI (rfl) (fr_gd (fun g7 => fr_pI (rfl) (fr_gd (fun g8 => fr_dI (fun v2 => fr_gd (fun g9 => fr_dI (fun v3 => fr_cl (fr_mono su_none_mrunF (fr_X11_then _ _ _)) (fun r4 => fr_gd (fun g10 => fr_pI (rfl) (fr_rt)))))))))))))))))))))
theorem fr_X11_goesUp (x1 : Int32) (x2 : Int32) (x3 : Int32) : Fr gs_mrunF (f_X11_goesUp x1 x2 x3) := by
  unfold f_X11_goesUp
  exact fr_gd (fun g1 => fr_dI (fun v1 => fr_gd (fun g2 => fr_pI (rfl) (fr_gd (fun g3 => fr_dI (fun v2 => fr_br (fr_gd (fun g4 => fr_dI (fun v4 => fr_X11_goesUp_b35 _ _ _ _ _))) (fr_X11_goesUp_b35 _ _ _ _ _)))))))
theorem fr_X11_clears_b86 (k2 : Int32 → Int32 → Sg → Option (Unit × Sg)) (x1 : Int32) (x2 : Int32) (xs0 : Int32) (xs1 : Int32) (hk2 : ∀ a0 a1, Fr gs_mrunF (k2 a0 a1)) : Fr gs_mrunF (f_X11_clears_b86 k2 x1 x2 xs0 xs1) := by
  unfold f_X11_clears_b86
  exact fr_gd (fun g1 => fr_pI (rfl) (fr_gd (fun g2 => fr_dI (fun v1 => fr_gd (fun g3 => fr_pI (rfl) (fr_gd (fun g4 => fr_pI (rfl) (fr_gd (fun g5 => fr_pI (rfl) (fr_gd (fun g6 => fr_pI (rfl) (fr_gd (fun g7 => fr_pI (rfl) (fr_gd (fun g8 => fr_pI (rfl) (fr_gd (fun g9 => fr_pI (rfl) (hk2 _ _))))))))))))))))))
theorem fr_X11_clears_b44 (k2 : Int32 → Int32 → Sg → Option (Unit × Sg)) (x1 : Int32) (x2 : Int32) (x3 : Int32) (xs0 : Int32) (xs1 : Int32) (hk2 : ∀ a0 a1, Fr gs_mrunF (k2 a0 a1)) : Fr gs_mrunF (f_X11_clears_b44 k2 x1 x2 x3 xs0 xs1) := by
  unfold f_X11_clears_b44
  exact fr_gd (fun g1 => fr_pI (rfl) (fr_gd (fun g2 => fr_dI (fun v1 => fr_gd (fun g3 => fr_pI (rfl) (fr_br (fr_X11_clears_b86 _ _ _ _ _ hk2) (fr_gd (fun g4 => fr_dI (fun v3 => fr_X11_clears_b86 _ _ _ _ _ hk2)))))))))
theorem fr_X11_clears_b29 (k2 : Int32 → Int32 → Sg → Option (Unit × Sg)) (x1 : Int32) (x2 : Int32) (xs0 : Int32) (hk2 : ∀ a0 a1, Fr gs_mrunF (k2 a0 a1)) : Fr gs_mrunF (f_X11_clears_b29 k2 x1 x2 xs0) := by
  unfold f_X11_clears_b29
  exact fr_br (fr_X11_clears_b44 _ _ _ _ _ _ hk2) (fr_X11_clears_b44 _ _ _ _ _ _ hk2)
theorem fr_X11_clears_b28 (k2 : Int32 → Int32 → Sg → Option (Unit × Sg)) (x1 : Int32) (x2 : Int32) (hk2 : ∀ a0 a1, Fr gs_mrunF (k2 a0 a1)) : Fr gs_mrunF (f_X11_clears_b28 k2 x1 x2) := by
  unfold f_X11_clears_b28
  exact fr_X11_clears_b29 _ _ _ _ hk2
theorem fr_X11_clears_b173 : Fr gs_mrunF (f_X11_clears_b173) := by
  unfold f_X11_clears_b173
  exact fr_pI (rfl) (fr_pI (rfl) (fr_pI (rfl) (fr_pI (rfl) (fr_pI (rfl) (fr_pI (rfl) (fr_pI (rfl) (fr_pI (rfl) (fr_pI (rfl) (fr_pI (rfl) (fr_rt))))))))))
theorem fr_X11_clears_b154 : ∀ (fu : Nat) (x2 : Int32), Fr gs_mrunF (f_X11_clears_b154 fu x2) := by
  intro fu
  induction fu with
  | zero => intro _; exact fr_none
  | succ fu ih => intro x2; rw [f_X11_clears_b154]; exact fr_br (fr_X11_clears_b173) (fr_gd (fun g1 => fr_pI (rfl) (ih _)))
theorem fr_X11_clears_b152 : Fr gs_mrunF (f_X11_clears_b152) := by
  unfold f_X11_clears_b152
  exact fr_X11_clears_b154 _ _
theorem fr_X11_clears_b2 : ∀ (fu : Nat) (x1 : Int32) (x2 : Int32), Fr gs_mrunF (f_X11_clears_b2 fu x1 x2) := by
  intro fu
  induction fu with
  | zero => intro _ _; exact fr_none
  | succ fu ih => intro x1 x2; rw [f_X11_clears_b2]; exact fr_br (fr_X11_clears_b152) (fr_dI (fun v2 => fr_br (fr_X11_clears_b28 _ _ _ ih) (fr_br (fr_X11_clears_b29 _ _ _ _ ih) (fr_X11_clears_b28 _ _ _ ih))))
theorem fr_X11_clears (x1 : Int32) : Fr gs_mrunF (f_X11_clears x1) := by
  unfold f_X11_clears
  exact fr_X11_clears_b2 _ _ _
theorem fr_X11_high (x1 : Int32) (x2 : Int32) : Fr gs_none (f_X11_high x1 x2) := by
  unfold f_X11_high
  exact fr_gd (fun g1 => fr_dI (fun v1 => fr_br (fr_gd (fun g2 => fr_dI (fun v3 => fr_rt))) (fr_gd (fun g3 => fr_dI (fun v4 => fr_br (fr_gd (fun g4 => fr_dI (fun v6 => fr_gd (fun g5 => fr_dI (fun v7 => fr_gd (fun g6 => fr_dI (fun v8 => fr_gd (fun g7 => fr_dI (fun v9 => fr_gd (fun g8 => fr_rt)))))))))) (fr_rt))))))
theorem fr_X11_runs_b60 (k7 : Int32 → Sg → Option (Unit × Sg)) (k17 : Int32 → Int32 → Sg → Option (Unit × Sg)) (x2 : Int32) (x3 : Int32) (hk7 : ∀ a0, Fr gs_mrun (k7 a0)) (hk17 : ∀ a0 a1, Fr gs_mrun (k17 a0 a1)) : Fr gs_mrun (f_X11_runs_b60 k7 k17 x2 x3) := by
  unfold f_X11_runs_b60
  exact hk17 _ _
theorem fr_X11_runs_b44 (k7 : Int32 → Sg → Option (Unit × Sg)) (k17 : Int32 → Int32 → Sg → Option (Unit × Sg)) (x2 : Int32) (x3 : Int32) (hk7 : ∀ a0, Fr gs_mrun (k7 a0)) (hk17 : ∀ a0 a1, Fr gs_mrun (k17 a0 a1)) : Fr gs_mrun (f_X11_runs_b44 k7 k17 x2 x3) := by
  unfold f_X11_runs_b44
  exact fr_gd (fun g1 => fr_dI (fun v1 => fr_br (fr_cl (fr_mono su_mrunF_mrun (fr_X11_comesDown _ _)) (fun _ => fr_X11_runs_b60 _ _ _ _ hk7 hk17)) (fr_X11_runs_b60 _ _ _ _ hk7 hk17)))
theorem fr_X11_runs_b288 (k7 : Int32 → Sg → Option (Unit × Sg)) (k208 : Int32 → Int32 → Sg → Option (Unit × Sg)) (x2 : Int32) (x3 : Int32) (hk7 : ∀ a0, Fr gs_mrun (k7 a0)) (hk208 : ∀ a0 a1, Fr gs_mrun (k208 a0 a1)) : Fr gs_mrun (f_X11_runs_b288 k7 k208 x2 x3) := by
  unfold f_X11_runs_b288
  exact hk208 _ _
theorem fr_X11_runs_b328 (k7 : Int32 → Sg → Option (Unit × Sg)) (x2 : Int32) (hk7 : ∀ a0, Fr gs_mrun (k7 a0)) : Fr gs_mrun (f_X11_runs_b328 k7 x2) := by
  unfold f_X11_runs_b328
  exact hk7 _
theorem fr_X11_runs_b296 (k7 : Int32 → Sg → Option (Unit × Sg)) (hk7 : ∀ a0, Fr gs_mrun (k7 a0)) : ∀ (fu : Nat) (x2 : Int32) (x3 : Int32), Fr gs_mrun (f_X11_runs_b296 k7 fu x2 x3) := by
  intro fu
  induction fu with
  | zero => intro _ _; exact fr_none
  | succ fu ih => intro x2 x3; rw [f_X11_runs_b296]; exact fr_dI (fun v1 => fr_br (fr_X11_runs_b328 _ _ hk7) (fr_cl (fr_mono su_none_mrun (fr_X11_high _ _)) (fun r3 => fr_gd (fun g1 => fr_pI (rfl) (ih _ _)))))
theorem fr_X11_runs_b294 (k7 : Int32 → Sg → Option (Unit × Sg)) (x2 : Int32) (hk7 : ∀ a0, Fr gs_mrun (k7 a0)) : Fr gs_mrun (f_X11_runs_b294 k7 x2) := by
  unfold f_X11_runs_b294
  exact fr_X11_runs_b296 _ hk7 _ _ _
theorem fr_X11_runs_b208 (k7 : Int32 → Sg → Option (Unit × Sg)) (hk7 : ∀ a0, Fr gs_mrun (k7 a0)) : ∀ (fu : Nat) (x2 : Int32) (x3 : Int32), Fr gs_mrun (f_X11_runs_b208 k7 fu x2 x3) := by
  intro fu
  induction fu with
  | zero => intro _ _; exact fr_none
  | succ fu ih => intro x2 x3; rw [f_X11_runs_b208]; exact fr_dI (fun v1 => fr_br (fr_X11_runs_b294 _ _ hk7) (fr_dI (fun v3 => fr_br (fr_gd (fun g1 => fr_dI (fun v5 => fr_gd (fun g2 => fr_dI (fun v6 => fr_br (fr_gd (fun g3 => fr_dI (fun v8 => fr_dI (fun v9 => fr_br (fr_X11_runs_b288 _ _ _ _ hk7 ih) (fr_br (fr_X11_runs_b288 _ _ _ _ hk7 ih) (fr_cl (fr_mono su_mrunF_mrun (fr_X11_mayGo _ _ _)) (fun r12 => fr_br (fr_X11_runs_b288 _ _ _ _ hk7 ih) (fr_cl (fr_mono su_mrunF_mrun (fr_X11_goesUp _ _ _)) (fun _ => fr_X11_runs_b288 _ _ _ _ hk7 ih))))))))) (fr_X11_runs_b288 _ _ _ _ hk7 ih)))))) (fr_X11_runs_b294 _ _ hk7))))
theorem fr_X11_runs_b206 (k7 : Int32 → Sg → Option (Unit × Sg)) (x2 : Int32) (hk7 : ∀ a0, Fr gs_mrun (k7 a0)) : Fr gs_mrun (f_X11_runs_b206 k7 x2) := by
  unfold f_X11_runs_b206
  exact fr_X11_runs_b208 _ hk7 _ _ _
theorem fr_X11_runs_b142 (k7 : Int32 → Sg → Option (Unit × Sg)) (x2 : Int32) (x3 : Int32) (x4 : Int32) (hk7 : ∀ a0, Fr gs_mrun (k7 a0)) : Fr gs_mrun (f_X11_runs_b142 k7 x2 x3 x4) := by
  unfold f_X11_runs_b142
  exact fr_dI (fun v1 => fr_pI (rfl) (fr_pI (rfl) (fr_pI (rfl) (fr_dI (fun v2 => fr_cl (fr_mono su_mrunF_mrun (fr_X11_mayGo _ _ _)) (fun r3 => fr_br (fr_X11_runs_b206 _ _ hk7) (fr_dI (fun v5 => fr_dI (fun v6 => fr_cl (fr_mono su_none_mrun (fr_X11_weight _)) (fun r7 => fr_pI (rfl) (fr_dI (fun v8 => fr_cl (fr_mono su_mrunF_mrun (fr_X11_goesUp _ _ _)) (fun _ => fr_X11_runs_b206 _ _ hk7)))))))))))))
theorem fr_X11_runs_b66 (k7 : Int32 → Sg → Option (Unit × Sg)) (x2 : Int32) (hk7 : ∀ a0, Fr gs_mrun (k7 a0)) : Fr gs_mrun (f_X11_runs_b66 k7 x2) := by
  unfold f_X11_runs_b66
  exact fr_dI (fun v1 => fr_br (fr_X11_runs_b206 _ _ hk7) (fr_dI (fun v3 => fr_dI (fun v4 => fr_br (fr_dI (fun v6 => fr_dI (fun v7 => fr_dI (fun v8 => fr_cl (fr_mono su_none_mrun (fr_X11_weight _)) (fun r9 => fr_gd (fun g1 => fr_lt (fun w10 => fr_dI (fun v11 => fr_gd (fun g2 => fr_dI (fun v12 => fr_br (fr_X11_runs_b142 _ _ _ _ hk7) (fr_X11_runs_b142 _ _ _ _ hk7))))))))))) (fr_X11_runs_b206 _ _ hk7)))))
theorem fr_X11_runs_b17 (k7 : Int32 → Sg → Option (Unit × Sg)) (hk7 : ∀ a0, Fr gs_mrun (k7 a0)) : ∀ (fu : Nat) (x2 : Int32) (x3 : Int32), Fr gs_mrun (f_X11_runs_b17 k7 fu x2 x3) := by
  intro fu
  induction fu with
  | zero => intro _ _; exact fr_none
  | succ fu ih => intro x2 x3; rw [f_X11_runs_b17]; exact fr_dI (fun v1 => fr_br (fr_X11_runs_b66 _ _ hk7) (fr_gd (fun g1 => fr_dI (fun v3 => fr_br (fr_X11_runs_b44 _ _ _ _ hk7 ih) (fr_gd (fun g2 => fr_dI (fun v5 => fr_br (fr_X11_runs_b44 _ _ _ _ hk7 ih) (fr_X11_runs_b60 _ _ _ _ hk7 ih))))))))
theorem fr_X11_runs_b7 : ∀ (fu : Nat) (x2 : Int32), Fr gs_mrun (f_X11_runs_b7 fu x2) := by
  intro fu
  induction fu with
  | zero => intro _; exact fr_none
  | succ fu ih => intro x2; rw [f_X11_runs_b7]; exact fr_dI (fun v1 => fr_br (fr_rt) (fr_X11_runs_b17 _ ih _ _ _))
theorem fr_X11_runs (x1 : Int32) : Fr gs_mrun (f_X11_runs x1) := by
  unfold f_X11_runs
  exact fr_cl (fr_mono su_mrunF_mrun (fr_X11_clears _)) (fun _ => fr_X11_runs_b7 _ _)
theorem fr_X11_all : Fr gs_none (f_X11_all) := by
  unfold f_X11_all
  exact fr_dI (fun v1 => fr_rt)
theorem fr_X11_runsAll : Fr gs_mrun (f_X11_runsAll) := by
  unfold f_X11_runsAll
  exact fr_cl (fr_mono su_none_mrun (fr_X11_all)) (fun r1 => fr_cl (fr_X11_runs _) (fun _ => fr_rt))
theorem fr_X11_ran (x1 : Int32) (x2 : Int32) : Fr gs_mrunT (f_X11_ran x1 x2) := by
  unfold f_X11_ran
  exact fr_pI (rfl) (fr_cl (fr_mono su_mth_mrunT (fr_X11_isJumper _)) (fun r1 => fr_br (fr_rt) (fr_cl (fr_mono su_mth_mrunT (fr_X11_isWhat _ _)) (fun r3 => fr_br (fr_rt) (fr_cl (fr_mono su_mrun_mrunT (fr_X11_runsAll)) (fun _ => fr_br (fr_gd (fun g1 => fr_dI (fun v6 => fr_rt))) (fr_br (fr_gd (fun g2 => fr_dI (fun v8 => fr_rt))) (fr_br (fr_gd (fun g3 => fr_dI (fun v10 => fr_rt))) (fr_br (fr_gd (fun g4 => fr_dI (fun v12 => fr_rt))) (fr_br (fr_gd (fun g5 => fr_dI (fun v14 => fr_rt))) (fr_br (fr_gd (fun g6 => fr_dI (fun v16 => fr_rt))) (fr_gd (fun g7 => fr_dI (fun v17 => fr_rt))))))))))))))
theorem fr_X11_lands (x1 : Int32) (x2 : Int32) : Fr gs_mrunT (f_X11_lands x1 x2) := by
  unfold f_X11_lands
  exact fr_pI (rfl) (fr_cl (fr_mono su_mth_mrunT (fr_X11_isJumper _)) (fun r1 => fr_br (fr_rt) (fr_cl (fr_mono su_mth_mrunT (fr_X11_isWhat _ _)) (fun r3 => fr_br (fr_rt) (fr_cl (fr_mono su_mrun_mrunT (fr_X11_runsAll)) (fun _ => fr_gd (fun g1 => fr_dI (fun v5 => fr_rt))))))))
theorem fr_X11_film_b31 (x1 : Int32) (x2 : Int32) (xs0 : Int32) : Fr gs_mrunT (f_X11_film_b31 x1 x2 xs0) := by
  unfold f_X11_film_b31
  exact fr_cl (fr_mono su_mth_mrunT (fr_X11_right _ _)) (fun r1 => fr_br (fr_rt) (fr_cl (fr_mono su_mrun_mrunT (fr_X11_runsAll)) (fun _ => fr_gd (fun g1 => fr_dI (fun v3 => fr_rt)))))
theorem fr_X11_film_b30 (x1 : Int32) (x2 : Int32) : Fr gs_mrunT (f_X11_film_b30 x1 x2) := by
  unfold f_X11_film_b30
  exact fr_X11_film_b31 _ _ _
theorem fr_X11_film (x1 : Int32) (x2 : Int32) : Fr gs_mrunT (f_X11_film x1 x2) := by
  unfold f_X11_film
  exact fr_pI (rfl) (fr_cl (fr_mono su_mth_mrunT (fr_X11_isJumper _)) (fun r1 => fr_br (fr_rt) (fr_br (fr_X11_film_b30 _ _) (fr_dI (fun v4 => fr_br (fr_X11_film_b30 _ _) (fr_X11_film_b31 _ _ _))))))
theorem fr_X11_over_b90 (k58 : Int32 → Int32 → Int32 → Int32 → Int32 → Int32 → Sg → Option (Int32 × Sg)) (x1 : Int32) (x2 : Int32) (x3 : Int32) (x4 : Int32) (x5 : Int32) (x6 : Int32) (hk58 : ∀ a0 a1 a2 a3 a4 a5, Fr gs_mrunT (k58 a0 a1 a2 a3 a4 a5)) : Fr gs_mrunT (f_X11_over_b90 k58 x1 x2 x3 x4 x5 x6) := by
  unfold f_X11_over_b90
  exact hk58 _ _ _ _ _ _
theorem fr_X11_over_b96 (x3 : Int32) (x4 : Int32) (x5 : Int32) : Fr gs_mrunT (f_X11_over_b96 x3 x4 x5) := by
  unfold f_X11_over_b96
  exact fr_br (fr_rt) (fr_rt)
theorem fr_X11_over_b58 : ∀ (fu : Nat) (x1 : Int32) (x2 : Int32) (x3 : Int32) (x4 : Int32) (x5 : Int32) (x6 : Int32), Fr gs_mrunT (f_X11_over_b58 fu x1 x2 x3 x4 x5 x6) := by
  intro fu
  induction fu with
  | zero => intro _ _ _ _ _ _; exact fr_none
  | succ fu ih => intro x1 x2 x3 x4 x5 x6; rw [f_X11_over_b58]; exact fr_br (fr_X11_over_b96 _ _ _) (fr_gd (fun g1 => fr_dI (fun v2 => fr_br (fr_X11_over_b90 _ _ _ _ _ _ _ ih) (fr_X11_over_b90 _ _ _ _ _ _ _ ih))))
theorem fr_X11_over (x1 : Int32) (x2 : Int32) (x3 : Int32) : Fr gs_mrunT (f_X11_over x1 x2 x3) := by
  unfold f_X11_over
  exact fr_pI (rfl) (fr_cl (fr_mono su_mth_mrunT (fr_X11_isJumper _)) (fun r1 => fr_br (fr_rt) (fr_cl (fr_mono su_mth_mrunT (fr_X11_isWhat _ _)) (fun r3 => fr_br (fr_rt) (fr_cl (fr_mono su_none_mrunT (fr_X11_within _ _ _)) (fun r5 => fr_cl (fr_mono su_mth_mrunT (fr_X11_right _ _)) (fun r6 => fr_br (fr_rt) (fr_cl (fr_mono su_mrun_mrunT (fr_X11_runsAll)) (fun _ => fr_dI (fun v8 => fr_X11_over_b58 _ _ _ _ _ _ _))))))))))
theorem fr_X11_mat (x1 : Int32) : Fr gs_mrunT (f_X11_mat x1) := by
  unfold f_X11_mat
  exact fr_pI (rfl) (fr_cl (fr_mono su_mth_mrunT (fr_X11_isWhat _ _)) (fun r1 => fr_br (fr_rt) (fr_cl (fr_mono su_mrun_mrunT (fr_X11_runsAll)) (fun _ => fr_br (fr_dI (fun v4 => fr_rt)) (fr_br (fr_dI (fun v6 => fr_rt)) (fr_br (fr_dI (fun v8 => fr_rt)) (fr_br (fr_dI (fun v10 => fr_rt)) (fr_dI (fun v11 => fr_rt)))))))))
theorem fr_X11_landing_b71 (x1 : Int32) (x2 : Int32) (xs0 : Int32) : Fr gs_mrunT (f_X11_landing_b71 x1 x2 xs0) := by
  unfold f_X11_landing_b71
  exact fr_cl (fr_mono su_mth_mrunT (fr_X11_right _ _)) (fun r1 => fr_br (fr_rt) (fr_gd (fun g1 => fr_dI (fun v3 => fr_rt))))
theorem fr_X11_landing_b35 (x1 : Int32) (x2 : Int32) (xs0 : Int32) (xs1 : Int32) : Fr gs_mrunT (f_X11_landing_b35 x1 x2 xs0 xs1) := by
  unfold f_X11_landing_b35
  exact fr_cl (fr_mono su_mth_mrunT (fr_X11_isWhat _ _)) (fun r1 => fr_br (fr_rt) (fr_cl (fr_mono su_mrun_mrunT (fr_X11_runsAll)) (fun _ => fr_br (fr_dI (fun v4 => fr_rt)) (fr_dI (fun v5 => fr_br (fr_X11_landing_b71 _ _ _) (fr_X11_landing_b71 _ _ _))))))
theorem fr_X11_landing_b16 (x1 : Int32) (x2 : Int32) (xs0 : Int32) : Fr gs_mrunT (f_X11_landing_b16 x1 x2 xs0) := by
  unfold f_X11_landing_b16
  exact fr_cl (fr_mono su_mth_mrunT (fr_X11_right _ _)) (fun r1 => fr_br (fr_rt) (fr_br (fr_X11_landing_b35 _ _ _ _) (fr_X11_landing_b35 _ _ _ _)))
theorem fr_X11_landing (x1 : Int32) (x2 : Int32) : Fr gs_mrunT (f_X11_landing x1 x2) := by
  unfold f_X11_landing
  exact fr_pI (rfl) (fr_br (fr_X11_landing_b16 _ _ _) (fr_X11_landing_b16 _ _ _))
theorem fr_X11_moment_b130 (k45 : Int32 → Int32 → Int32 → Int32 → Int32 → Int32 → Sg → Option (Int32 × Sg)) (x1 : Int32) (x2 : Int32) (x3 : Int32) (x4 : Int32) (x5 : Int32) (x6 : Int32) (hk45 : ∀ a0 a1 a2 a3 a4 a5, Fr gs_mod (k45 a0 a1 a2 a3 a4 a5)) : Fr gs_mod (f_X11_moment_b130 k45 x1 x2 x3 x4 x5 x6) := by
  unfold f_X11_moment_b130
  exact hk45 _ _ _ _ _ _
theorem fr_X11_moment_b122 (k45 : Int32 → Int32 → Int32 → Int32 → Int32 → Int32 → Sg → Option (Int32 × Sg)) (x1 : Int32) (x2 : Int32) (x3 : Int32) (x6 : Int32) (x7 : Int32) (hk45 : ∀ a0 a1 a2 a3 a4 a5, Fr gs_mod (k45 a0 a1 a2 a3 a4 a5)) : Fr gs_mod (f_X11_moment_b122 k45 x1 x2 x3 x6 x7) := by
  unfold f_X11_moment_b122
  exact fr_X11_moment_b130 _ _ _ _ _ _ _ hk45
theorem fr_X11_moment_b104 (k45 : Int32 → Int32 → Int32 → Int32 → Int32 → Int32 → Sg → Option (Int32 × Sg)) (x1 : Int32) (x2 : Int32) (x3 : Int32) (x4 : Int32) (x5 : Int32) (x6 : Int32) (xs0 : Int32) (hk45 : ∀ a0 a1 a2 a3 a4 a5, Fr gs_mod (k45 a0 a1 a2 a3 a4 a5)) : Fr gs_mod (f_X11_moment_b104 k45 x1 x2 x3 x4 x5 x6 xs0) := by
  unfold f_X11_moment_b104
  exact fr_br (fr_X11_moment_b122 _ _ _ _ _ _ hk45) (fr_br (fr_X11_moment_b122 _ _ _ _ _ _ hk45) (fr_X11_moment_b130 _ _ _ _ _ _ _ hk45))
theorem fr_X11_moment_b136 (x1 : Int32) (x3 : Int32) (x4 : Int32) : Fr gs_mod (f_X11_moment_b136 x1 x3 x4) := by
  unfold f_X11_moment_b136
  exact fr_gd (fun g1 => fr_pI (rfl) (fr_rt))
theorem fr_X11_moment_b45 : ∀ (fu : Nat) (x1 : Int32) (x2 : Int32) (x3 : Int32) (x4 : Int32) (x5 : Int32) (x6 : Int32), Fr gs_mod (f_X11_moment_b45 fu x1 x2 x3 x4 x5 x6) := by
  intro fu
  induction fu with
  | zero => intro _ _ _ _ _ _; exact fr_none
  | succ fu ih => intro x1 x2 x3 x4 x5 x6; rw [f_X11_moment_b45]; exact fr_br (fr_X11_moment_b136 _ _ _) (fr_gd (fun g1 => fr_pI (rfl) (fr_cl (fr_mono su_mrun_mod (fr_X11_runsAll)) (fun _ => fr_br (fr_gd (fun g2 => fr_dI (fun v3 => fr_X11_moment_b104 _ _ _ _ _ _ _ _ ih))) (fr_br (fr_gd (fun g3 => fr_dI (fun v5 => fr_X11_moment_b104 _ _ _ _ _ _ _ _ ih))) (fr_gd (fun g4 => fr_dI (fun v6 => fr_X11_moment_b104 _ _ _ _ _ _ _ _ ih))))))))
theorem fr_X11_moment (x1 : Int32) (x2 : Int32) : Fr gs_mod (f_X11_moment x1 x2) := by
  unfold f_X11_moment
  exact fr_pI (rfl) (fr_cl (fr_mono su_mth_mod (fr_X11_isJumper _)) (fun r1 => fr_br (fr_rt) (fr_cl (fr_mono su_mth_mod (fr_X11_isWhat _ _)) (fun r3 => fr_br (fr_rt) (fr_gd (fun g1 => fr_dI (fun v5 => fr_X11_moment_b45 _ _ _ _ _ _ _)))))))
theorem fr_X11_ticksOf_86_b62 (k5 : Int32 → Int32 → Int32 → Sg → Option (Int32 × Sg)) (x1 : Int32) (x3 : Int32) (x4 : Int32) (hk5 : ∀ a0 a1 a2, Fr gs_mrunS (k5 a0 a1 a2)) : Fr gs_mrunS (f_X11_ticksOf_86_b62 k5 x1 x3 x4) := by
  unfold f_X11_ticksOf_86_b62
  exact hk5 _ _ _
theorem fr_X11_ticksOf_86_b5 : ∀ (fu : Nat) (x1 : Int32) (x3 : Int32) (x4 : Int32), Fr gs_mrunS (f_X11_ticksOf_86_b5 fu x1 x3 x4) := by
  intro fu
  induction fu with
  | zero => intro _ _ _; exact fr_none
  | succ fu ih => intro x1 x3 x4; rw [f_X11_ticksOf_86_b5]; exact fr_dI (fun v1 => fr_br (fr_rt) (fr_gd (fun g1 => fr_dI (fun v3 => fr_br (fr_gd (fun g2 => fr_dI (fun v5 => fr_br (fr_X11_ticksOf_86_b62 _ _ _ _ ih) (fr_gd (fun g3 => fr_dI (fun v7 => fr_gd (fun g4 => fr_pI (rfl) (fr_X11_ticksOf_86_b62 _ _ _ _ ih)))))))) (fr_X11_ticksOf_86_b62 _ _ _ _ ih)))))
theorem fr_X11_ticksOf_86 (x1 : Int32) : Fr gs_mrunS (f_X11_ticksOf_86 x1) := by
  unfold f_X11_ticksOf_86
  exact fr_X11_ticksOf_86_b5 _ _ _ _
theorem fr_X11_ticksOf_87_b62 (k5 : Int32 → Int32 → Int32 → Sg → Option (Int32 × Sg)) (x1 : Int32) (x3 : Int32) (x4 : Int32) (hk5 : ∀ a0 a1 a2, Fr gs_mrunS (k5 a0 a1 a2)) : Fr gs_mrunS (f_X11_ticksOf_87_b62 k5 x1 x3 x4) := by
  unfold f_X11_ticksOf_87_b62
  exact hk5 _ _ _
theorem fr_X11_ticksOf_87_b5 : ∀ (fu : Nat) (x1 : Int32) (x3 : Int32) (x4 : Int32), Fr gs_mrunS (f_X11_ticksOf_87_b5 fu x1 x3 x4) := by
  intro fu
  induction fu with
  | zero => intro _ _ _; exact fr_none
  | succ fu ih => intro x1 x3 x4; rw [f_X11_ticksOf_87_b5]; exact fr_dI (fun v1 => fr_br (fr_rt) (fr_gd (fun g1 => fr_dI (fun v3 => fr_br (fr_gd (fun g2 => fr_dI (fun v5 => fr_br (fr_X11_ticksOf_87_b62 _ _ _ _ ih) (fr_gd (fun g3 => fr_dI (fun v7 => fr_gd (fun g4 => fr_pI (rfl) (fr_X11_ticksOf_87_b62 _ _ _ _ ih)))))))) (fr_X11_ticksOf_87_b62 _ _ _ _ ih)))))
theorem fr_X11_ticksOf_87 (x1 : Int32) : Fr gs_mrunS (f_X11_ticksOf_87 x1) := by
  unfold f_X11_ticksOf_87
  exact fr_X11_ticksOf_87_b5 _ _ _ _
theorem fr_X11_step_b230 (x6 : Int32) (x9 : Int32) : Fr gs_mrunS (f_X11_step_b230 x6 x9) := by
  unfold f_X11_step_b230
  exact fr_br (fr_rt) (fr_rt)
theorem fr_X11_step_b198 : ∀ (fu : Nat) (x6 : Int32) (x9 : Int32), Fr gs_mrunS (f_X11_step_b198 fu x6 x9) := by
  intro fu
  induction fu with
  | zero => intro _ _; exact fr_none
  | succ fu ih => intro x6 x9; rw [f_X11_step_b198]; exact fr_br (fr_X11_step_b230 _ _) (fr_gd (fun g1 => fr_dI (fun v2 => fr_gd (fun g2 => fr_dI (fun v3 => fr_br (ih _ _) (fr_X11_step_b230 _ _))))))
theorem fr_X11_step_b90 (x3 : Int32) (xs0 : Int32) : Fr gs_mrunS (f_X11_step_b90 x3 xs0) := by
  unfold f_X11_step_b90
  exact fr_br (fr_br (fr_rt) (fr_rt)) (fr_dI (fun v3 => fr_dI (fun v4 => fr_cl (fr_mono su_none_mrunS (fr_X11_off _ _)) (fun r5 => fr_gd (fun g1 => fr_dI (fun v6 => fr_gd (fun g2 => fr_dI (fun v7 => fr_cl (fr_mono su_none_mrunS (fr_X11_off _ _)) (fun r8 => fr_br (fr_br (fr_br (fr_br (fr_rt) (fr_rt)) (fr_rt)) (fr_X11_step_b198 _ _ _)) (fr_br (fr_rt) (fr_rt)))))))))))
theorem fr_X11_step_b41 (x1 : Int32) (x2 : Int32) (x3 : Int32) (xs0 : Int32) : Fr gs_mrunS (f_X11_step_b41 x1 x2 x3 xs0) := by
  unfold f_X11_step_b41
  exact fr_cl (fr_mono su_mth_mrunS (fr_X11_right _ _)) (fun r1 => fr_br (fr_rt) (fr_cl (fr_mono su_mrun_mrunS (fr_X11_runsAll)) (fun _ => fr_cl (fr_X11_ticksOf_86 _) (fun r3 => fr_cl (fr_X11_ticksOf_87 _) (fun r4 => fr_br (fr_X11_step_b90 _ _) (fr_X11_step_b90 _ _))))))
theorem fr_X11_step (x1 : Int32) (x2 : Int32) (x3 : Int32) : Fr gs_mrunS (f_X11_step x1 x2 x3) := by
  unfold f_X11_step
  exact fr_pI (rfl) (fr_cl (fr_mono su_mth_mrunS (fr_X11_isJumper _)) (fun r1 => fr_br (fr_rt) (fr_cl (fr_mono su_mth_mrunS (fr_X11_isJumper _)) (fun r3 => fr_br (fr_rt) (fr_cl (fr_mono su_mth_mrunS (fr_X11_isWhat _ _)) (fun r5 => fr_br (fr_rt) (fr_br (fr_X11_step_b41 _ _ _ _) (fr_X11_step_b41 _ _ _ _))))))))
theorem fr_X11_isHurt : Fr gs_none (f_X11_isHurt) := by
  unfold f_X11_isHurt
  exact fr_dI (fun v1 => fr_br (fr_rt) (fr_rt))
theorem fr_X11_danger_b71 (k32 : Int32 → Int32 → Int32 → Int32 → Sg → Option (Int32 × Sg)) (x1 : Int32) (x2 : Int32) (x3 : Int32) (x4 : Int32) (hk32 : ∀ a0 a1 a2 a3, Fr gs_mod (k32 a0 a1 a2 a3)) : Fr gs_mod (f_X11_danger_b71 k32 x1 x2 x3 x4) := by
  unfold f_X11_danger_b71
  exact hk32 _ _ _ _
theorem fr_X11_danger_b77 (x1 : Int32) (x2 : Int32) (x3 : Int32) : Fr gs_mod (f_X11_danger_b77 x1 x2 x3) := by
  unfold f_X11_danger_b77
  exact fr_gd (fun g1 => fr_pI (rfl) (fr_rt))
theorem fr_X11_danger_b32 : ∀ (fu : Nat) (x1 : Int32) (x2 : Int32) (x3 : Int32) (x4 : Int32), Fr gs_mod (f_X11_danger_b32 fu x1 x2 x3 x4) := by
  intro fu
  induction fu with
  | zero => intro _ _ _ _; exact fr_none
  | succ fu ih => intro x1 x2 x3 x4; rw [f_X11_danger_b32]; exact fr_br (fr_X11_danger_b77 _ _ _) (fr_br (fr_gd (fun g1 => fr_pI (rfl) (fr_cl (fr_mono su_mrun_mod (fr_X11_runsAll)) (fun _ => fr_cl (fr_mono su_none_mod (fr_X11_isHurt)) (fun r3 => fr_br (fr_X11_danger_b71 _ _ _ _ _ ih) (fr_X11_danger_b71 _ _ _ _ _ ih)))))) (fr_X11_danger_b77 _ _ _))
theorem fr_X11_danger (x1 : Int32) : Fr gs_mod (f_X11_danger x1) := by
  unfold f_X11_danger
  exact fr_pI (rfl) (fr_cl (fr_mono su_mth_mod (fr_X11_isJumper _)) (fun r1 => fr_br (fr_rt) (fr_gd (fun g1 => fr_dI (fun v3 => fr_X11_danger_b32 _ _ _ _ _)))))
theorem fr_X11_pairsOf_b54 (k4 : Int32 → Int32 → Sg → Option (Int32 × Sg)) (k16 : Int32 → Int32 → Int32 → Sg → Option (Int32 × Sg)) (x2 : Int32) (x3 : Int32) (xs0 : Int32) (xs1 : Int32) (hk4 : ∀ a0 a1, Fr gs_mrun (k4 a0 a1)) (hk16 : ∀ a0 a1 a2, Fr gs_mrun (k16 a0 a1 a2)) : Fr gs_mrun (f_X11_pairsOf_b54 k4 k16 x2 x3 xs0 xs1) := by
  unfold f_X11_pairsOf_b54
  exact hk16 _ _ _
theorem fr_X11_pairsOf_b62 (k4 : Int32 → Int32 → Sg → Option (Int32 × Sg)) (x1 : Int32) (x2 : Int32) (hk4 : ∀ a0 a1, Fr gs_mrun (k4 a0 a1)) : Fr gs_mrun (f_X11_pairsOf_b62 k4 x1 x2) := by
  unfold f_X11_pairsOf_b62
  exact hk4 _ _
theorem fr_X11_pairsOf_b16 (k4 : Int32 → Int32 → Sg → Option (Int32 × Sg)) (hk4 : ∀ a0 a1, Fr gs_mrun (k4 a0 a1)) : ∀ (fu : Nat) (x1 : Int32) (x2 : Int32) (x3 : Int32), Fr gs_mrun (f_X11_pairsOf_b16 k4 fu x1 x2 x3) := by
  intro fu
  induction fu with
  | zero => intro _ _ _; exact fr_none
  | succ fu ih => intro x1 x2 x3; rw [f_X11_pairsOf_b16]; exact fr_dI (fun v1 => fr_br (fr_X11_pairsOf_b62 _ _ _ hk4) (fr_cl (fr_X11_runs _) (fun _ => fr_cl (fr_mono su_none_mrun (fr_X11_isHurt)) (fun r3 => fr_br (fr_X11_pairsOf_b54 _ _ _ _ _ _ hk4 ih) (fr_X11_pairsOf_b54 _ _ _ _ _ _ hk4 ih)))))
theorem fr_X11_pairsOf_b4 : ∀ (fu : Nat) (x1 : Int32) (x2 : Int32), Fr gs_mrun (f_X11_pairsOf_b4 fu x1 x2) := by
  intro fu
  induction fu with
  | zero => intro _ _; exact fr_none
  | succ fu ih => intro x1 x2; rw [f_X11_pairsOf_b4]; exact fr_dI (fun v1 => fr_br (fr_rt) (fr_X11_pairsOf_b16 _ ih _ _ _ _))
theorem fr_X11_pairsOf : Fr gs_mrun (f_X11_pairsOf) := by
  unfold f_X11_pairsOf
  exact fr_X11_pairsOf_b4 _ _ _
theorem fr_X11_pairs : Fr gs_mrunT (f_X11_pairs) := by
  unfold f_X11_pairs
  exact fr_pI (rfl) (fr_cl (fr_mono su_mrun_mrunT (fr_X11_pairsOf)) (fun r1 => fr_rt))
theorem fr_X11_apart_b103 (k12 : Int32 → Int32 → Sg → Option (Int32 × Sg)) (k23 : Int32 → Int32 → Int32 → Int32 → Sg → Option (Int32 × Sg)) (k38 : Int32 → Int32 → Int32 → Int32 → Int32 → Sg → Option (Int32 × Sg)) (x1 : Int32) (x2 : Int32) (x4 : Int32) (x5 : Int32) (xs0 : Int32) (hk12 : ∀ a0 a1, Fr gs_mrunT (k12 a0 a1)) (hk23 : ∀ a0 a1 a2 a3, Fr gs_mrunT (k23 a0 a1 a2 a3)) (hk38 : ∀ a0 a1 a2 a3 a4, Fr gs_mrunT (k38 a0 a1 a2 a3 a4)) : Fr gs_mrunT (f_X11_apart_b103 k12 k23 k38 x1 x2 x4 x5 xs0) := by
  unfold f_X11_apart_b103
  exact hk38 _ _ _ _ _
theorem fr_X11_apart_b102 (k12 : Int32 → Int32 → Sg → Option (Int32 × Sg)) (k23 : Int32 → Int32 → Int32 → Int32 → Sg → Option (Int32 × Sg)) (k38 : Int32 → Int32 → Int32 → Int32 → Int32 → Sg → Option (Int32 × Sg)) (x1 : Int32) (x2 : Int32) (x4 : Int32) (x5 : Int32) (hk12 : ∀ a0 a1, Fr gs_mrunT (k12 a0 a1)) (hk23 : ∀ a0 a1 a2 a3, Fr gs_mrunT (k23 a0 a1 a2 a3)) (hk38 : ∀ a0 a1 a2 a3 a4, Fr gs_mrunT (k38 a0 a1 a2 a3 a4)) : Fr gs_mrunT (f_X11_apart_b102 k12 k23 k38 x1 x2 x4 x5) := by
  unfold f_X11_apart_b102
  exact fr_X11_apart_b103 _ _ _ _ _ _ _ _ hk12 hk23 hk38
theorem fr_X11_apart_b95 (k12 : Int32 → Int32 → Sg → Option (Int32 × Sg)) (k23 : Int32 → Int32 → Int32 → Int32 → Sg → Option (Int32 × Sg)) (k38 : Int32 → Int32 → Int32 → Int32 → Int32 → Sg → Option (Int32 × Sg)) (x1 : Int32) (x2 : Int32) (x4 : Int32) (x5 : Int32) (xs0 : Int32) (xs1 : Int32) (hk12 : ∀ a0 a1, Fr gs_mrunT (k12 a0 a1)) (hk23 : ∀ a0 a1 a2 a3, Fr gs_mrunT (k23 a0 a1 a2 a3)) (hk38 : ∀ a0 a1 a2 a3 a4, Fr gs_mrunT (k38 a0 a1 a2 a3 a4)) : Fr gs_mrunT (f_X11_apart_b95 k12 k23 k38 x1 x2 x4 x5 xs0 xs1) := by
  unfold f_X11_apart_b95
  exact fr_br (fr_X11_apart_b103 _ _ _ _ _ _ _ _ hk12 hk23 hk38) (fr_X11_apart_b102 _ _ _ _ _ _ _ hk12 hk23 hk38)
theorem fr_X11_apart_b71 (k12 : Int32 → Int32 → Sg → Option (Int32 × Sg)) (k23 : Int32 → Int32 → Int32 → Int32 → Sg → Option (Int32 × Sg)) (k38 : Int32 → Int32 → Int32 → Int32 → Int32 → Sg → Option (Int32 × Sg)) (x1 : Int32) (x2 : Int32) (x4 : Int32) (x5 : Int32) (xs0 : Int32) (hk12 : ∀ a0 a1, Fr gs_mrunT (k12 a0 a1)) (hk23 : ∀ a0 a1 a2 a3, Fr gs_mrunT (k23 a0 a1 a2 a3)) (hk38 : ∀ a0 a1 a2 a3 a4, Fr gs_mrunT (k38 a0 a1 a2 a3 a4)) : Fr gs_mrunT (f_X11_apart_b71 k12 k23 k38 x1 x2 x4 x5 xs0) := by
  unfold f_X11_apart_b71
  exact fr_cl (fr_mono su_none_mrunT (fr_X11_weight _)) (fun r1 => fr_cl (fr_mono su_none_mrunT (fr_X11_weight _)) (fun r2 => fr_cl (fr_mono su_none_mrunT (fr_X11_off _ _)) (fun r3 => fr_br (fr_X11_apart_b95 _ _ _ _ _ _ _ _ _ hk12 hk23 hk38) (fr_X11_apart_b95 _ _ _ _ _ _ _ _ _ hk12 hk23 hk38))))
theorem fr_X11_apart_b110 (k12 : Int32 → Int32 → Sg → Option (Int32 × Sg)) (k23 : Int32 → Int32 → Int32 → Int32 → Sg → Option (Int32 × Sg)) (x1 : Int32) (x2 : Int32) (x3 : Int32) (x4 : Int32) (hk12 : ∀ a0 a1, Fr gs_mrunT (k12 a0 a1)) (hk23 : ∀ a0 a1 a2 a3, Fr gs_mrunT (k23 a0 a1 a2 a3)) : Fr gs_mrunT (f_X11_apart_b110 k12 k23 x1 x2 x3 x4) := by
  unfold f_X11_apart_b110
  exact hk23 _ _ _ _
theorem fr_X11_apart_b38 (k12 : Int32 → Int32 → Sg → Option (Int32 × Sg)) (k23 : Int32 → Int32 → Int32 → Int32 → Sg → Option (Int32 × Sg)) (hk12 : ∀ a0 a1, Fr gs_mrunT (k12 a0 a1)) (hk23 : ∀ a0 a1 a2 a3, Fr gs_mrunT (k23 a0 a1 a2 a3)) : ∀ (fu : Nat) (x1 : Int32) (x2 : Int32) (x3 : Int32) (x4 : Int32) (x5 : Int32), Fr gs_mrunT (f_X11_apart_b38 k12 k23 fu x1 x2 x3 x4 x5) := by
  intro fu
  induction fu with
  | zero => intro _ _ _ _ _; exact fr_none
  | succ fu ih => intro x1 x2 x3 x4 x5; rw [f_X11_apart_b38]; exact fr_dI (fun v1 => fr_br (fr_X11_apart_b110 _ _ _ _ _ _ hk12 hk23) (fr_br (fr_X11_apart_b102 _ _ _ _ _ _ _ hk12 hk23 ih) (fr_br (fr_X11_apart_b71 _ _ _ _ _ _ _ _ hk12 hk23 ih) (fr_X11_apart_b71 _ _ _ _ _ _ _ _ hk12 hk23 ih))))
theorem fr_X11_apart_b116 (k12 : Int32 → Int32 → Sg → Option (Int32 × Sg)) (x1 : Int32) (x2 : Int32) (x3 : Int32) (hk12 : ∀ a0 a1, Fr gs_mrunT (k12 a0 a1)) : Fr gs_mrunT (f_X11_apart_b116 k12 x1 x2 x3) := by
  unfold f_X11_apart_b116
  exact fr_br (hk12 _ _) (fr_rt)
theorem fr_X11_apart_b23 (k12 : Int32 → Int32 → Sg → Option (Int32 × Sg)) (hk12 : ∀ a0 a1, Fr gs_mrunT (k12 a0 a1)) : ∀ (fu : Nat) (x1 : Int32) (x2 : Int32) (x3 : Int32) (x4 : Int32), Fr gs_mrunT (f_X11_apart_b23 k12 fu x1 x2 x3 x4) := by
  intro fu
  induction fu with
  | zero => intro _ _ _ _; exact fr_none
  | succ fu ih => intro x1 x2 x3 x4; rw [f_X11_apart_b23]; exact fr_dI (fun v1 => fr_br (fr_X11_apart_b116 _ _ _ _ hk12) (fr_X11_apart_b38 _ _ hk12 ih _ _ _ _ _ _))
theorem fr_X11_apart_b12 : ∀ (fu : Nat) (x1 : Int32) (x2 : Int32), Fr gs_mrunT (f_X11_apart_b12 fu x1 x2) := by
  intro fu
  induction fu with
  | zero => intro _ _; exact fr_none
  | succ fu ih => intro x1 x2; rw [f_X11_apart_b12]; exact fr_br (fr_rt) (fr_X11_apart_b23 _ ih _ _ _ _ _)
theorem fr_X11_apart : Fr gs_mrunT (f_X11_apart) := by
  unfold f_X11_apart
  exact fr_pI (rfl) (fr_cl (fr_mono su_mrun_mrunT (fr_X11_pairsOf)) (fun r1 => fr_X11_apart_b12 _ _ _))
theorem fr_X11_without_b32 (x1 : Int32) (x2 : Int32) (xs0 : Int32) : Fr gs_mrunT (f_X11_without_b32 x1 x2 xs0) := by
  unfold f_X11_without_b32
  exact fr_cl (fr_mono su_mth_mrunT (fr_X11_right _ _)) (fun r1 => fr_br (fr_rt) (fr_cl (fr_mono su_mrun_mrunT (fr_X11_runsAll)) (fun _ => fr_gd (fun g1 => fr_dI (fun v3 => fr_cl (fr_mono su_none_mrunT (fr_X11_all)) (fun r4 => fr_cl (fr_mono su_mrun_mrunT (fr_X11_runs _)) (fun _ => fr_gd (fun g2 => fr_dI (fun v5 => fr_rt)))))))))
theorem fr_X11_without (x1 : Int32) (x2 : Int32) : Fr gs_mrunT (f_X11_without x1 x2) := by
  unfold f_X11_without
  exact fr_pI (rfl) (fr_cl (fr_mono su_mth_mrunT (fr_X11_isJumper _)) (fun r1 => fr_br (fr_rt) (fr_cl (fr_mono su_mth_mrunT (fr_X11_isJumper _)) (fun r3 => fr_br (fr_rt) (fr_br (fr_X11_without_b32 _ _ _) (fr_X11_without_b32 _ _ _))))))
theorem fr_X11_atOnce_b47 (k9 : Int32 → Int32 → Sg → Option (Int32 × Sg)) (x1 : Int32) (x2 : Int32) (hk9 : ∀ a0 a1, Fr gs_mrunT (k9 a0 a1)) : Fr gs_mrunT (f_X11_atOnce_b47 k9 x1 x2) := by
  unfold f_X11_atOnce_b47
  exact hk9 _ _
theorem fr_X11_atOnce_b9 : ∀ (fu : Nat) (x1 : Int32) (x2 : Int32), Fr gs_mrunT (f_X11_atOnce_b9 fu x1 x2) := by
  intro fu
  induction fu with
  | zero => intro _ _; exact fr_none
  | succ fu ih => intro x1 x2; rw [f_X11_atOnce_b9]; exact fr_dI (fun v1 => fr_br (fr_rt) (fr_cl (fr_mono su_none_mrunT (fr_X11_bits _)) (fun r3 => fr_cl (fr_mono su_none_mrunT (fr_X11_bits _)) (fun r4 => fr_br (fr_cl (fr_mono su_mrun_mrunT (fr_X11_runs _)) (fun _ => fr_cl (fr_mono su_none_mrunT (fr_X11_isHurt)) (fun r6 => fr_br (fr_X11_atOnce_b47 _ _ _ ih) (fr_X11_atOnce_b47 _ _ _ ih)))) (fr_X11_atOnce_b47 _ _ _ ih)))))
theorem fr_X11_atOnce : Fr gs_mrunT (f_X11_atOnce) := by
  unfold f_X11_atOnce
  exact fr_pI (rfl) (fr_X11_atOnce_b9 _ _ _)
theorem fr_X11_stop (x1 : Int32) : Fr gs_mrunT (f_X11_stop x1) := by
  unfold f_X11_stop
  exact fr_pI (rfl) (fr_cl (fr_mono su_mth_mrunT (fr_X11_isWhat _ _)) (fun r1 => fr_br (fr_rt) (fr_cl (fr_mono su_mrun_mrunT (fr_X11_runsAll)) (fun _ => fr_br (fr_dI (fun v4 => fr_rt)) (fr_dI (fun v5 => fr_rt))))))
theorem fr_X11_common_b6 : ∀ (fu : Nat) (x4 : Int64) (x6 : Int64), Fr gs_none (f_X11_common_b6 fu x4 x6) := by
  intro fu
  induction fu with
  | zero => intro _ _; exact fr_none
  | succ fu ih => intro x4 x6; rw [f_X11_common_b6]; exact fr_br (fr_rt) (fr_gd (fun g1 => fr_lt (fun w2 => ih _ _)))
theorem fr_X11_common (x0 : Int64) (x2 : Int64) : Fr gs_none (f_X11_common x0 x2) := by
  unfold f_X11_common
  exact fr_X11_common_b6 _ _ _
theorem fr_X11_portion_b10 (x0 : Int64) (x2 : Int64) (xs0 : Int64) : Fr gs_none (f_X11_portion_b10 x0 x2 xs0) := by
  unfold f_X11_portion_b10
  exact fr_cl (fr_X11_common _ _) (fun r1 => fr_gd (fun g1 => fr_rt))
theorem fr_X11_portion (x0 : Int64) (x2 : Int64) (x4 : Int32) : Fr gs_none (f_X11_portion x0 x2 x4) := by
  unfold f_X11_portion
  exact fr_br (fr_X11_portion_b10 _ _ _) (fr_X11_portion_b10 _ _ _)
theorem fr_X11_isIn (x1 : Int32) : Fr gs_none (f_X11_isIn x1) := by
  unfold f_X11_isIn
  exact fr_dI (fun v1 => fr_br (fr_rt) (fr_dI (fun v3 => fr_br (fr_rt) (fr_rt))))
theorem fr_X11_wandersBy_b237 (k69 : Int32 → Int32 → Int32 → Int32 → Int32 → Sg → Option (Unit × Sg)) (k127 : Int32 → Int32 → Int32 → Int32 → Int32 → Int32 → Sg → Option (Unit × Sg)) (k165 : Int32 → Int32 → Int32 → Int32 → Int32 → Int32 → Int32 → Int32 → Sg → Option (Unit × Sg)) (x2 : Int32) (x3 : Int32) (x4 : Int32) (x5 : Int32) (x6 : Int32) (x7 : Int32) (x8 : Int32) (x9 : Int32) (hk69 : ∀ a0 a1 a2 a3 a4, Fr gs_mwan (k69 a0 a1 a2 a3 a4)) (hk127 : ∀ a0 a1 a2 a3 a4 a5, Fr gs_mwan (k127 a0 a1 a2 a3 a4 a5)) (hk165 : ∀ a0 a1 a2 a3 a4 a5 a6 a7, Fr gs_mwan (k165 a0 a1 a2 a3 a4 a5 a6 a7)) : Fr gs_mwan (f_X11_wandersBy_b237 k69 k127 k165 x2 x3 x4 x5 x6 x7 x8 x9) := by
  unfold f_X11_wandersBy_b237
  exact hk165 _ _ _ _ _ _ _ _
theorem fr_X11_wandersBy_b243 (k69 : Int32 → Int32 → Int32 → Int32 → Int32 → Sg → Option (Unit × Sg)) (k127 : Int32 → Int32 → Int32 → Int32 → Int32 → Int32 → Sg → Option (Unit × Sg)) (x2 : Int32) (x3 : Int32) (x4 : Int32) (x5 : Int32) (x6 : Int32) (x7 : Int32) (hk69 : ∀ a0 a1 a2 a3 a4, Fr gs_mwan (k69 a0 a1 a2 a3 a4)) (hk127 : ∀ a0 a1 a2 a3 a4 a5, Fr gs_mwan (k127 a0 a1 a2 a3 a4 a5)) : Fr gs_mwan (f_X11_wandersBy_b243 k69 k127 x2 x3 x4 x5 x6 x7) := by
  unfold f_X11_wandersBy_b243
  exact hk127 _ _ _ _ _ _
theorem fr_X11_wandersBy_b165 (k69 : Int32 → Int32 → Int32 → Int32 → Int32 → Sg → Option (Unit × Sg)) (k127 : Int32 → Int32 → Int32 → Int32 → Int32 → Int32 → Sg → Option (Unit × Sg)) (hk69 : ∀ a0 a1 a2 a3 a4, Fr gs_mwan (k69 a0 a1 a2 a3 a4)) (hk127 : ∀ a0 a1 a2 a3 a4 a5, Fr gs_mwan (k127 a0 a1 a2 a3 a4 a5)) : ∀ (fu : Nat) (x2 : Int32) (x3 : Int32) (x4 : Int32) (x5 : Int32) (x6 : Int32) (x7 : Int32) (x8 : Int32) (x9 : Int32), Fr gs_mwan (f_X11_wandersBy_b165 k69 k127 fu x2 x3 x4 x5 x6 x7 x8 x9) := by
  intro fu
  induction fu with
  | zero => intro _ _ _ _ _ _ _ _; exact fr_none
  | succ fu ih => intro x2 x3 x4 x5 x6 x7 x8 x9; rw [f_X11_wandersBy_b165]; exact fr_br (fr_X11_wandersBy_b243 _ _ _ _ _ _ _ _ hk69 hk127) (fr_gd (fun g1 => fr_dL (fun v2 => fr_gd (fun g2 => fr_dI (fun v3 => fr_lt (fun w4 => fr_cl (fr_mono su_none_mwan (fr_X11_isIn _)) (fun r5 => fr_br (fr_dL (fun v7 => fr_pL (rfl) (fr_X11_wandersBy_b237 _ _ _ _ _ _ _ _ _ _ _ hk69 hk127 ih))) (fr_lt (fun w8 => fr_gd (fun g3 => fr_dL (fun v9 => fr_gd (fun g4 => fr_pL (rfl) (fr_X11_wandersBy_b237 _ _ _ _ _ _ _ _ _ _ _ hk69 hk127 ih)))))))))))))
theorem fr_X11_wandersBy_b279 (k69 : Int32 → Int32 → Int32 → Int32 → Int32 → Sg → Option (Unit × Sg)) (x2 : Int32) (x3 : Int32) (x4 : Int32) (x5 : Int32) (x6 : Int32) (hk69 : ∀ a0 a1 a2 a3 a4, Fr gs_mwan (k69 a0 a1 a2 a3 a4)) : Fr gs_mwan (f_X11_wandersBy_b279 k69 x2 x3 x4 x5 x6) := by
  unfold f_X11_wandersBy_b279
  exact hk69 _ _ _ _ _
theorem fr_X11_wandersBy_b252 (k69 : Int32 → Int32 → Int32 → Int32 → Int32 → Sg → Option (Unit × Sg)) (hk69 : ∀ a0 a1 a2 a3 a4, Fr gs_mwan (k69 a0 a1 a2 a3 a4)) : ∀ (fu : Nat) (x2 : Int32) (x3 : Int32) (x4 : Int32) (x5 : Int32) (x6 : Int32) (x7 : Int32), Fr gs_mwan (f_X11_wandersBy_b252 k69 fu x2 x3 x4 x5 x6 x7) := by
  intro fu
  induction fu with
  | zero => intro _ _ _ _ _ _; exact fr_none
  | succ fu ih => intro x2 x3 x4 x5 x6 x7; rw [f_X11_wandersBy_b252]; exact fr_br (fr_X11_wandersBy_b279 _ _ _ _ _ _ hk69) (fr_gd (fun g1 => fr_dL (fun v2 => fr_gd (fun g2 => fr_pL (rfl) (ih _ _ _ _ _ _)))))
theorem fr_X11_wandersBy_b249 (k69 : Int32 → Int32 → Int32 → Int32 → Int32 → Sg → Option (Unit × Sg)) (x2 : Int32) (x3 : Int32) (x4 : Int32) (x5 : Int32) (x6 : Int32) (hk69 : ∀ a0 a1 a2 a3 a4, Fr gs_mwan (k69 a0 a1 a2 a3 a4)) : Fr gs_mwan (f_X11_wandersBy_b249 k69 x2 x3 x4 x5 x6) := by
  unfold f_X11_wandersBy_b249
  exact fr_X11_wandersBy_b252 _ hk69 _ _ _ _ _ _ _
theorem fr_X11_wandersBy_b127 (k69 : Int32 → Int32 → Int32 → Int32 → Int32 → Sg → Option (Unit × Sg)) (hk69 : ∀ a0 a1 a2 a3 a4, Fr gs_mwan (k69 a0 a1 a2 a3 a4)) : ∀ (fu : Nat) (x2 : Int32) (x3 : Int32) (x4 : Int32) (x5 : Int32) (x6 : Int32) (x7 : Int32), Fr gs_mwan (f_X11_wandersBy_b127 k69 fu x2 x3 x4 x5 x6 x7) := by
  intro fu
  induction fu with
  | zero => intro _ _ _ _ _ _; exact fr_none
  | succ fu ih => intro x2 x3 x4 x5 x6 x7; rw [f_X11_wandersBy_b127]; exact fr_br (fr_X11_wandersBy_b249 _ _ _ _ _ _ hk69) (fr_gd (fun g1 => fr_dL (fun v2 => fr_br (fr_X11_wandersBy_b243 _ _ _ _ _ _ _ _ hk69 ih) (fr_cl (fr_mono su_none_mwan (fr_X11_then _ _ _)) (fun r4 => fr_X11_wandersBy_b165 _ _ hk69 ih _ _ _ _ _ _ _ _ _)))))
theorem fr_X11_wandersBy_b100 (k69 : Int32 → Int32 → Int32 → Int32 → Int32 → Sg → Option (Unit × Sg)) (x2 : Int32) (x3 : Int32) (x4 : Int32) (x5 : Int32) (x6 : Int32) (hk69 : ∀ a0 a1 a2 a3 a4, Fr gs_mwan (k69 a0 a1 a2 a3 a4)) : Fr gs_mwan (f_X11_wandersBy_b100 k69 x2 x3 x4 x5 x6) := by
  unfold f_X11_wandersBy_b100
  exact fr_dL (fun v1 => fr_pL (rfl) (fr_dL (fun v2 => fr_pL (rfl) (fr_X11_wandersBy_b127 _ hk69 _ _ _ _ _ _ _))))
theorem fr_X11_wandersBy_b79 (k69 : Int32 → Int32 → Int32 → Int32 → Int32 → Sg → Option (Unit × Sg)) (hk69 : ∀ a0 a1 a2 a3 a4, Fr gs_mwan (k69 a0 a1 a2 a3 a4)) : ∀ (fu : Nat) (x2 : Int32) (x3 : Int32) (x4 : Int32) (x5 : Int32) (x6 : Int32) (x7 : Int32), Fr gs_mwan (f_X11_wandersBy_b79 k69 fu x2 x3 x4 x5 x6 x7) := by
  intro fu
  induction fu with
  | zero => intro _ _ _ _ _ _; exact fr_none
  | succ fu ih => intro x2 x3 x4 x5 x6 x7; rw [f_X11_wandersBy_b79]; exact fr_br (fr_X11_wandersBy_b100 _ _ _ _ _ _ hk69) (fr_gd (fun g1 => fr_pL (rfl) (ih _ _ _ _ _ _)))
theorem fr_X11_wandersBy_b69 : ∀ (fu : Nat) (x2 : Int32) (x3 : Int32) (x4 : Int32) (x5 : Int32) (x6 : Int32), Fr gs_mwan (f_X11_wandersBy_b69 fu x2 x3 x4 x5 x6) := by
  intro fu
  induction fu with
  | zero => intro _ _ _ _ _; exact fr_none
  | succ fu ih => intro x2 x3 x4 x5 x6; rw [f_X11_wandersBy_b69]; exact fr_br (fr_rt) (fr_X11_wandersBy_b79 _ ih _ _ _ _ _ _ _)
theorem fr_X11_wandersBy_b24 (x1 : Int32) (x2 : Int32) (x3 : Int32) (x4 : Int32) : Fr gs_mwan (f_X11_wandersBy_b24 x1 x2 x3 x4) := by
  unfold f_X11_wandersBy_b24
  exact fr_gd (fun g1 => fr_pL (rfl) (fr_pL (rfl) (fr_pL (rfl) (fr_dI (fun v1 => fr_dI (fun v2 => fr_dI (fun v3 => fr_X11_wandersBy_b69 _ _ _ _ _ _)))))))
theorem fr_X11_wandersBy_b3 : ∀ (fu : Nat) (x1 : Int32) (x2 : Int32) (x3 : Int32) (x4 : Int32) (x5 : Int32), Fr gs_mwan (f_X11_wandersBy_b3 fu x1 x2 x3 x4 x5) := by
  intro fu
  induction fu with
  | zero => intro _ _ _ _ _; exact fr_none
  | succ fu ih => intro x1 x2 x3 x4 x5; rw [f_X11_wandersBy_b3]; exact fr_br (fr_X11_wandersBy_b24 _ _ _ _) (fr_gd (fun g1 => fr_pL (rfl) (ih _ _ _ _ _)))
theorem fr_X11_wandersBy (x1 : Int32) (x2 : Int32) (x3 : Int32) (x4 : Int32) : Fr gs_mwan (f_X11_wandersBy x1 x2 x3 x4) := by
  unfold f_X11_wandersBy
  exact fr_X11_wandersBy_b3 _ _ _ _ _ _
theorem fr_X11_isWander_b45 (x5 : Int32) (xs0 : Int32) : Fr gs_mth (f_X11_isWander_b45 x5 xs0) := by
  unfold f_X11_isWander_b45
  exact fr_cl (fr_X11_right _ _) (fun r1 => fr_gd (fun g1 => fr_rt))
theorem fr_X11_isWander_b44 (x5 : Int32) : Fr gs_mth (f_X11_isWander_b44 x5) := by
  unfold f_X11_isWander_b44
  exact fr_X11_isWander_b45 _ _
theorem fr_X11_isWander (x1 : Int32) (x2 : Int32) (x3 : Int32) (x4 : Int32) (x5 : Int32) : Fr gs_mth (f_X11_isWander x1 x2 x3 x4 x5) := by
  unfold f_X11_isWander
  exact fr_cl (fr_mono su_none_mth (fr_X11_within _ _ _)) (fun r1 => fr_br (fr_X11_isWander_b44 _) (fr_cl (fr_mono su_none_mth (fr_X11_within _ _ _)) (fun r3 => fr_br (fr_X11_isWander_b44 _) (fr_cl (fr_mono su_none_mth (fr_X11_isIn _)) (fun r5 => fr_br (fr_X11_isWander_b44 _) (fr_cl (fr_mono su_none_mth (fr_X11_within _ _ _)) (fun r7 => fr_br (fr_X11_isWander_b44 _) (fr_X11_isWander_b45 _ _))))))))
theorem fr_X11_falls (x1 : Int32) (x2 : Int32) (x3 : Int32) (x4 : Int32) (x5 : Int32) : Fr gs_mwanT (f_X11_falls x1 x2 x3 x4 x5) := by
  unfold f_X11_falls
  exact fr_pI (rfl) (fr_cl (fr_mono su_mth_mwanT (fr_X11_isWhat _ _)) (fun r1 => fr_br (fr_rt) (fr_cl (fr_mono su_mth_mwanT (fr_X11_isWander _ _ _ _ _)) (fun r3 => fr_br (fr_rt) (fr_cl (fr_mono su_mwan_mwanT (fr_X11_wandersBy _ _ _ _)) (fun _ => fr_dL (fun v5 => fr_dL (fun v6 => fr_cl (fr_mono su_none_mwanT (fr_X11_portion _ _ _)) (fun r7 => fr_rt)))))))))
theorem fr_X11_wanders_b62 (x6 : Int32) (xs0 : Int64) : Fr gs_mwanT (f_X11_wanders_b62 x6 xs0) := by
  unfold f_X11_wanders_b62
  exact fr_dL (fun v1 => fr_cl (fr_mono su_none_mwanT (fr_X11_portion _ _ _)) (fun r2 => fr_rt))
theorem fr_X11_wanders (x1 : Int32) (x2 : Int32) (x3 : Int32) (x4 : Int32) (x5 : Int32) (x6 : Int32) : Fr gs_mwanT (f_X11_wanders x1 x2 x3 x4 x5 x6) := by
  unfold f_X11_wanders
  exact fr_pI (rfl) (fr_cl (fr_mono su_mth_mwanT (fr_X11_isWhat _ _)) (fun r1 => fr_br (fr_rt) (fr_cl (fr_mono su_mth_mwanT (fr_X11_isWander _ _ _ _ _)) (fun r3 => fr_br (fr_rt) (fr_cl (fr_mono su_mwan_mwanT (fr_X11_wandersBy _ _ _ _)) (fun _ => fr_cl (fr_mono su_none_mwanT (fr_X11_isIn _)) (fun r5 => fr_br (fr_X11_wanders_b62 _ _) (fr_gd (fun g1 => fr_dL (fun v7 => fr_X11_wanders_b62 _ _))))))))))
theorem fr_X11_correct_b73 (k28 : Int32 → Int32 → Int32 → Int32 → Int64 → Int32 → Sg → Option (Int32 × Sg)) (x1 : Int32) (x2 : Int32) (x3 : Int32) (x4 : Int32) (x5 : Int64) (x7 : Int32) (hk28 : ∀ a0 a1 a2 a3 a4 a5, Fr gs_mwanT (k28 a0 a1 a2 a3 a4 a5)) : Fr gs_mwanT (f_X11_correct_b73 k28 x1 x2 x3 x4 x5 x7) := by
  unfold f_X11_correct_b73
  exact hk28 _ _ _ _ _ _
theorem fr_X11_correct_b63 (k28 : Int32 → Int32 → Int32 → Int32 → Int64 → Int32 → Sg → Option (Int32 × Sg)) (x1 : Int32) (x2 : Int32) (x3 : Int32) (x7 : Int32) (hk28 : ∀ a0 a1 a2 a3 a4 a5, Fr gs_mwanT (k28 a0 a1 a2 a3 a4 a5)) : Fr gs_mwanT (f_X11_correct_b63 k28 x1 x2 x3 x7) := by
  unfold f_X11_correct_b63
  exact fr_dL (fun v1 => fr_X11_correct_b73 _ _ _ _ _ _ _ hk28)
theorem fr_X11_correct_b28 : ∀ (fu : Nat) (x1 : Int32) (x2 : Int32) (x3 : Int32) (x4 : Int32) (x5 : Int64) (x7 : Int32), Fr gs_mwanT (f_X11_correct_b28 fu x1 x2 x3 x4 x5 x7) := by
  intro fu
  induction fu with
  | zero => intro _ _ _ _ _ _; exact fr_none
  | succ fu ih => intro x1 x2 x3 x4 x5 x7; rw [f_X11_correct_b28]; exact fr_br (fr_rt) (fr_cl (fr_mono su_mwan_mwanT (fr_X11_wandersBy _ _ _ _)) (fun _ => fr_br (fr_X11_correct_b63 _ _ _ _ _ ih) (fr_dL (fun v3 => fr_br (fr_X11_correct_b63 _ _ _ _ _ ih) (fr_X11_correct_b73 _ _ _ _ _ _ _ ih)))))
theorem fr_X11_correct (x1 : Int32) (x2 : Int32) (x3 : Int32) : Fr gs_mwanT (f_X11_correct x1 x2 x3) := by
  unfold f_X11_correct
  exact fr_pI (rfl) (fr_cl (fr_mono su_mth_mwanT (fr_X11_isWander _ _ _ _ _)) (fun r1 => fr_br (fr_rt) (fr_X11_correct_b28 _ _ _ _ _ _ _)))
theorem fr_X11_safe_b130 (k61 : Int32 → Int32 → Int32 → Int64 → Int32 → Sg → Option (Int64 × Sg)) (x1 : Int32) (x2 : Int32) (x3 : Int32) (x6 : Int32) (xs0 : Int64) (xs1 : Int64) (hk61 : ∀ a0 a1 a2 a3 a4, Fr gs_mth (k61 a0 a1 a2 a3 a4)) : Fr gs_mth (f_X11_safe_b130 k61 x1 x2 x3 x6 xs0 xs1) := by
  unfold f_X11_safe_b130
  exact hk61 _ _ _ _ _
theorem fr_X11_safe_b108 (k61 : Int32 → Int32 → Int32 → Int64 → Int32 → Sg → Option (Int64 × Sg)) (x1 : Int32) (x2 : Int32) (x3 : Int32) (x4 : Int64) (x6 : Int32) (x7 : Int32) (hk61 : ∀ a0 a1 a2 a3 a4, Fr gs_mth (k61 a0 a1 a2 a3 a4)) : Fr gs_mth (f_X11_safe_b108 k61 x1 x2 x3 x4 x6 x7) := by
  unfold f_X11_safe_b108
  exact fr_cl (fr_mono su_none_mth (fr_X11_isIn _)) (fun r1 => fr_br (fr_X11_safe_b130 _ _ _ _ _ _ _ hk61) (fr_X11_safe_b130 _ _ _ _ _ _ _ hk61))
theorem fr_X11_safe_b77 (k61 : Int32 → Int32 → Int32 → Int64 → Int32 → Sg → Option (Int64 × Sg)) (hk61 : ∀ a0 a1 a2 a3 a4, Fr gs_mth (k61 a0 a1 a2 a3 a4)) : ∀ (fu : Nat) (x1 : Int32) (x2 : Int32) (x3 : Int32) (x4 : Int64) (x6 : Int32) (x7 : Int32) (x8 : Int32), Fr gs_mth (f_X11_safe_b77 k61 fu x1 x2 x3 x4 x6 x7 x8) := by
  intro fu
  induction fu with
  | zero => intro _ _ _ _ _ _ _; exact fr_none
  | succ fu ih => intro x1 x2 x3 x4 x6 x7 x8; rw [f_X11_safe_b77]; exact fr_br (fr_X11_safe_b108 _ _ _ _ _ _ _ hk61) (fr_cl (fr_mono su_none_mth (fr_X11_isIn _)) (fun r2 => fr_br (fr_X11_safe_b108 _ _ _ _ _ _ _ hk61) (fr_cl (fr_mono su_none_mth (fr_X11_then _ _ _)) (fun r4 => ih _ _ _ _ _ _ _))))
theorem fr_X11_safe_b61 : ∀ (fu : Nat) (x1 : Int32) (x2 : Int32) (x3 : Int32) (x4 : Int64) (x6 : Int32), Fr gs_mth (f_X11_safe_b61 fu x1 x2 x3 x4 x6) := by
  intro fu
  induction fu with
  | zero => intro _ _ _ _ _; exact fr_none
  | succ fu ih => intro x1 x2 x3 x4 x6; rw [f_X11_safe_b61]; exact fr_dI (fun v1 => fr_br (fr_rt) (fr_X11_safe_b77 _ ih _ _ _ _ _ _ _ _))
theorem fr_X11_safe_b41 (x1 : Int32) (x2 : Int32) (x3 : Int32) (xs0 : Int32) : Fr gs_mth (f_X11_safe_b41 x1 x2 x3 xs0) := by
  unfold f_X11_safe_b41
  exact fr_cl (fr_X11_right _ _) (fun r1 => fr_br (fr_rt) (fr_dI (fun v3 => fr_X11_safe_b61 _ _ _ _ _ _)))
theorem fr_X11_safe_b40 (x1 : Int32) (x2 : Int32) (x3 : Int32) : Fr gs_mth (f_X11_safe_b40 x1 x2 x3) := by
  unfold f_X11_safe_b40
  exact fr_X11_safe_b41 _ _ _ _
theorem fr_X11_safe (x1 : Int32) (x2 : Int32) (x3 : Int32) : Fr gs_mth (f_X11_safe x1 x2 x3) := by
  unfold f_X11_safe
  exact fr_pI (rfl) (fr_cl (fr_mono su_none_mth (fr_X11_within _ _ _)) (fun r1 => fr_br (fr_X11_safe_b40 _ _ _) (fr_cl (fr_mono su_none_mth (fr_X11_within _ _ _)) (fun r3 => fr_br (fr_X11_safe_b40 _ _ _) (fr_cl (fr_mono su_none_mth (fr_X11_within _ _ _)) (fun r5 => fr_br (fr_X11_safe_b40 _ _ _) (fr_X11_safe_b41 _ _ _ _)))))))
theorem fr_X11_find_b25 : Fr gs_mod (f_X11_find_b25) := by
  unfold f_X11_find_b25
  exact fr_cl (fr_X11_refuses _) (fun r1 => fr_rt)
theorem fr_X11_find (x1 : Int32) : Fr gs_mod (f_X11_find x1) := by
  unfold f_X11_find
  exact fr_pI (rfl) (fr_dI (fun v1 => fr_br (fr_X11_find_b25) (fr_cl (fr_mono su_none_mod (fr_X11_within _ _ _)) (fun r3 => fr_br (fr_X11_find_b25) (fr_dI (fun v5 => fr_gd (fun g1 => fr_pI (rfl) (fr_dI (fun v6 => fr_pI (rfl) (fr_dI (fun v7 => fr_rt)))))))))))
theorem fr_X11_forget : Fr gs_mod (f_X11_forget) := by
  unfold f_X11_forget
  exact fr_pI (rfl) (fr_dI (fun v1 => fr_br (fr_rt) (fr_dI (fun v3 => fr_pI (rfl) (fr_dI (fun v4 => fr_rt))))))
theorem fr_X11_broken_b93 (k27 : Int32 → Int32 → Int32 → Sg → Option (Int32 × Sg)) (k38 : Int32 → Int32 → Int32 → Int32 → Int32 → Sg → Option (Int32 × Sg)) (x1 : Int32) (x2 : Int32) (x3 : Int32) (x5 : Int32) (xs0 : Int32) (hk27 : ∀ a0 a1 a2, Fr gs_mth (k27 a0 a1 a2)) (hk38 : ∀ a0 a1 a2 a3 a4, Fr gs_mth (k38 a0 a1 a2 a3 a4)) : Fr gs_mth (f_X11_broken_b93 k27 k38 x1 x2 x3 x5 xs0) := by
  unfold f_X11_broken_b93
  exact hk38 _ _ _ _ _
theorem fr_X11_broken_b92 (k27 : Int32 → Int32 → Int32 → Sg → Option (Int32 × Sg)) (k38 : Int32 → Int32 → Int32 → Int32 → Int32 → Sg → Option (Int32 × Sg)) (x1 : Int32) (x2 : Int32) (x3 : Int32) (x5 : Int32) (hk27 : ∀ a0 a1 a2, Fr gs_mth (k27 a0 a1 a2)) (hk38 : ∀ a0 a1 a2 a3 a4, Fr gs_mth (k38 a0 a1 a2 a3 a4)) : Fr gs_mth (f_X11_broken_b92 k27 k38 x1 x2 x3 x5) := by
  unfold f_X11_broken_b92
  exact fr_X11_broken_b93 _ _ _ _ _ _ _ hk27 hk38
theorem fr_X11_broken_b116 (k27 : Int32 → Int32 → Int32 → Sg → Option (Int32 × Sg)) (x1 : Int32) (x3 : Int32) (xs0 : Int32) (xs1 : Int32) (hk27 : ∀ a0 a1 a2, Fr gs_mth (k27 a0 a1 a2)) : Fr gs_mth (f_X11_broken_b116 k27 x1 x3 xs0 xs1) := by
  unfold f_X11_broken_b116
  exact hk27 _ _ _
theorem fr_X11_broken_b101 (k27 : Int32 → Int32 → Int32 → Sg → Option (Int32 × Sg)) (x1 : Int32) (x2 : Int32) (x3 : Int32) (x4 : Int32) (hk27 : ∀ a0 a1 a2, Fr gs_mth (k27 a0 a1 a2)) : Fr gs_mth (f_X11_broken_b101 k27 x1 x2 x3 x4) := by
  unfold f_X11_broken_b101
  exact fr_br (fr_X11_broken_b116 _ _ _ _ _ hk27) (fr_X11_broken_b116 _ _ _ _ _ hk27)
theorem fr_X11_broken_b38 (k27 : Int32 → Int32 → Int32 → Sg → Option (Int32 × Sg)) (hk27 : ∀ a0 a1 a2, Fr gs_mth (k27 a0 a1 a2)) : ∀ (fu : Nat) (x1 : Int32) (x2 : Int32) (x3 : Int32) (x4 : Int32) (x5 : Int32), Fr gs_mth (f_X11_broken_b38 k27 fu x1 x2 x3 x4 x5) := by
  intro fu
  induction fu with
  | zero => intro _ _ _ _ _; exact fr_none
  | succ fu ih => intro x1 x2 x3 x4 x5; rw [f_X11_broken_b38]; exact fr_dI (fun v1 => fr_br (fr_X11_broken_b101 _ _ _ _ _ hk27) (fr_br (fr_X11_broken_b92 _ _ _ _ _ _ hk27 ih) (fr_gd (fun g1 => fr_dI (fun v4 => fr_gd (fun g2 => fr_dI (fun v5 => fr_gd (fun g3 => fr_dI (fun v6 => fr_br (fr_X11_broken_b93 _ _ _ _ _ _ _ hk27 ih) (fr_X11_broken_b92 _ _ _ _ _ _ hk27 ih))))))))))
theorem fr_X11_broken_b27 : ∀ (fu : Nat) (x1 : Int32) (x2 : Int32) (x3 : Int32), Fr gs_mth (f_X11_broken_b27 fu x1 x2 x3) := by
  intro fu
  induction fu with
  | zero => intro _ _ _; exact fr_none
  | succ fu ih => intro x1 x2 x3; rw [f_X11_broken_b27]; exact fr_br (fr_rt) (fr_X11_broken_b38 _ ih _ _ _ _ _ _)
theorem fr_X11_broken (x1 : Int32) : Fr gs_mth (f_X11_broken x1) := by
  unfold f_X11_broken
  exact fr_pI (rfl) (fr_cl (fr_mono su_none_mth (fr_X11_within _ _ _)) (fun r1 => fr_cl (fr_X11_right _ _) (fun r2 => fr_br (fr_rt) (fr_X11_broken_b27 _ _ _ _))))
theorem fr_X11_second_b218 (k111 : Int32 → Int32 → Int32 → Int32 → Int32 → Int32 → Int32 → Int32 → Int32 → Int32 → Int32 → Sg → Option (Int32 × Sg)) (x1 : Int32) (x2 : Int32) (x3 : Int32) (x4 : Int32) (x5 : Int32) (x6 : Int32) (x7 : Int32) (x8 : Int32) (x9 : Int32) (x10 : Int32) (x11 : Int32) (hk111 : ∀ a0 a1 a2 a3 a4 a5 a6 a7 a8 a9 a10, Fr gs_mod (k111 a0 a1 a2 a3 a4 a5 a6 a7 a8 a9 a10)) : Fr gs_mod (f_X11_second_b218 k111 x1 x2 x3 x4 x5 x6 x7 x8 x9 x10 x11) := by
  unfold f_X11_second_b218
  exact hk111 _ _ _ _ _ _ _ _ _ _ _
theorem fr_X11_second_b215 (k111 : Int32 → Int32 → Int32 → Int32 → Int32 → Int32 → Int32 → Int32 → Int32 → Int32 → Int32 → Sg → Option (Int32 × Sg)) (x1 : Int32) (x2 : Int32) (x3 : Int32) (x4 : Int32) (x5 : Int32) (x6 : Int32) (x7 : Int32) (x8 : Int32) (x9 : Int32) (x11 : Int32) (xs0 : Int32) (xs1 : Int32) (hk111 : ∀ a0 a1 a2 a3 a4 a5 a6 a7 a8 a9 a10, Fr gs_mod (k111 a0 a1 a2 a3 a4 a5 a6 a7 a8 a9 a10)) : Fr gs_mod (f_X11_second_b215 k111 x1 x2 x3 x4 x5 x6 x7 x8 x9 x11 xs0 xs1) := by
  unfold f_X11_second_b215
  exact fr_X11_second_b218 _ _ _ _ _ _ _ _ _ _ _ _ hk111
theorem fr_X11_second_b224 (x1 : Int32) (x2 : Int32) (x6 : Int32) (x7 : Int32) (x8 : Int32) (x9 : Int32) (x10 : Int32) : Fr gs_mod (f_X11_second_b224 x1 x2 x6 x7 x8 x9 x10) := by
  unfold f_X11_second_b224
  exact fr_gd (fun g1 => fr_pI (rfl) (fr_gd (fun g2 => fr_pI (rfl) (fr_br (fr_rt) (fr_rt)))))
theorem fr_X11_second_b111 : ∀ (fu : Nat) (x1 : Int32) (x2 : Int32) (x3 : Int32) (x4 : Int32) (x5 : Int32) (x6 : Int32) (x7 : Int32) (x8 : Int32) (x9 : Int32) (x10 : Int32) (x11 : Int32), Fr gs_mod (f_X11_second_b111 fu x1 x2 x3 x4 x5 x6 x7 x8 x9 x10 x11) := by
  intro fu
  induction fu with
  | zero => intro _ _ _ _ _ _ _ _ _ _ _; exact fr_none
  | succ fu ih => intro x1 x2 x3 x4 x5 x6 x7 x8 x9 x10 x11; rw [f_X11_second_b111]; exact fr_br (fr_X11_second_b224 _ _ _ _ _ _ _) (fr_gd (fun g1 => fr_pI (rfl) (fr_gd (fun g2 => fr_pI (rfl) (fr_cl (fr_mono su_mrun_mod (fr_X11_runsAll)) (fun _ => fr_gd (fun g3 => fr_dI (fun v2 => fr_br (fr_gd (fun g4 => fr_dI (fun v4 => fr_br (fr_br (fr_X11_second_b215 _ _ _ _ _ _ _ _ _ _ _ _ _ ih) (fr_X11_second_b215 _ _ _ _ _ _ _ _ _ _ _ _ _ ih)) (fr_X11_second_b218 _ _ _ _ _ _ _ _ _ _ _ _ ih)))) (fr_X11_second_b218 _ _ _ _ _ _ _ _ _ _ _ _ ih)))))))))
theorem fr_X11_second_b67 (x1 : Int32) (x2 : Int32) (x3 : Int32) (x4 : Int32) (x5 : Int32) (x6 : Int32) (xs0 : Int32) : Fr gs_mod (f_X11_second_b67 x1 x2 x3 x4 x5 x6 xs0) := by
  unfold f_X11_second_b67
  exact fr_cl (fr_mono su_mth_mod (fr_X11_right _ _)) (fun r1 => fr_br (fr_rt) (fr_gd (fun g1 => fr_dI (fun v3 => fr_gd (fun g2 => fr_dI (fun v4 => fr_X11_second_b111 _ _ _ _ _ _ _ _ _ _ _ _))))))
theorem fr_X11_second_b39 (x1 : Int32) (x2 : Int32) (x3 : Int32) (x4 : Int32) (x5 : Int32) (x6 : Int32) (xs0 : Int32) : Fr gs_mod (f_X11_second_b39 x1 x2 x3 x4 x5 x6 xs0) := by
  unfold f_X11_second_b39
  exact fr_cl (fr_mono su_mth_mod (fr_X11_right _ _)) (fun r1 => fr_br (fr_rt) (fr_cl (fr_mono su_mth_mod (fr_X11_isWhat _ _)) (fun r3 => fr_br (fr_rt) (fr_br (fr_X11_second_b67 _ _ _ _ _ _ _) (fr_X11_second_b67 _ _ _ _ _ _ _)))))
theorem fr_X11_second_b38 (x1 : Int32) (x2 : Int32) (x3 : Int32) (x4 : Int32) (x5 : Int32) (x6 : Int32) : Fr gs_mod (f_X11_second_b38 x1 x2 x3 x4 x5 x6) := by
  unfold f_X11_second_b38
  exact fr_X11_second_b39 _ _ _ _ _ _ _
theorem fr_X11_second (x1 : Int32) (x2 : Int32) (x3 : Int32) (x4 : Int32) (x5 : Int32) (x6 : Int32) : Fr gs_mod (f_X11_second x1 x2 x3 x4 x5 x6) := by
  unfold f_X11_second
  exact fr_pI (rfl) (fr_cl (fr_mono su_mth_mod (fr_X11_isJumper _)) (fun r1 => fr_br (fr_rt) (fr_cl (fr_mono su_mth_mod (fr_X11_isJumper _)) (fun r3 => fr_br (fr_rt) (fr_br (fr_X11_second_b38 _ _ _ _ _ _) (fr_dI (fun v6 => fr_br (fr_X11_second_b38 _ _ _ _ _ _) (fr_X11_second_b39 _ _ _ _ _ _ _))))))))
theorem fr_X11_hurtsAll_b4 : ∀ (fu : Nat) (x1 : Int32) (x2 : Int32), Fr gs_none (f_X11_hurtsAll_b4 fu x1 x2) := by
  intro fu
  induction fu with
  | zero => intro _ _; exact fr_none
  | succ fu ih => intro x1 x2; rw [f_X11_hurtsAll_b4]; exact fr_dI (fun v1 => fr_br (fr_rt) (fr_gd (fun g1 => fr_dI (fun v3 => ih _ _))))
theorem fr_X11_hurtsAll : Fr gs_none (f_X11_hurtsAll) := by
  unfold f_X11_hurtsAll
  exact fr_X11_hurtsAll_b4 _ _ _
theorem fr_X11_funAll_b4 : ∀ (fu : Nat) (x1 : Int32) (x2 : Int32), Fr gs_none (f_X11_funAll_b4 fu x1 x2) := by
  intro fu
  induction fu with
  | zero => intro _ _; exact fr_none
  | succ fu ih => intro x1 x2; rw [f_X11_funAll_b4]; exact fr_dI (fun v1 => fr_br (fr_rt) (fr_gd (fun g1 => fr_dI (fun v3 => ih _ _))))
theorem fr_X11_funAll : Fr gs_none (f_X11_funAll) := by
  unfold f_X11_funAll
  exact fr_X11_funAll_b4 _ _ _
theorem fr_X11_runsBy (x1 : Int32) : Fr gs_mod (f_X11_runsBy x1) := by
  unfold f_X11_runsBy
  exact fr_dI (fun v1 => fr_pI (rfl) (fr_cl (fr_mono su_mrun_mod (fr_X11_runsAll)) (fun _ => fr_pI (rfl) (fr_rt))))
theorem fr_X11_compare_b24 (x1 : Int32) (x2 : Int32) (xs0 : Int32) : Fr gs_mod (f_X11_compare_b24 x1 x2 xs0) := by
  unfold f_X11_compare_b24
  exact fr_cl (fr_mono su_mth_mod (fr_X11_right _ _)) (fun r1 => fr_br (fr_rt) (fr_cl (fr_mono su_mth_mod (fr_X11_isWhat _ _)) (fun r3 => fr_br (fr_rt) (fr_cl (fr_X11_runsBy _) (fun _ => fr_br (fr_cl (fr_mono su_none_mod (fr_X11_hurtsAll)) (fun r6 => fr_rt)) (fr_cl (fr_mono su_none_mod (fr_X11_funAll)) (fun r7 => fr_rt)))))))
theorem fr_X11_compare_b23 (x1 : Int32) (x2 : Int32) : Fr gs_mod (f_X11_compare_b23 x1 x2) := by
  unfold f_X11_compare_b23
  exact fr_X11_compare_b24 _ _ _
theorem fr_X11_compare (x1 : Int32) (x2 : Int32) : Fr gs_mod (f_X11_compare x1 x2) := by
  unfold f_X11_compare
  exact fr_pI (rfl) (fr_br (fr_X11_compare_b23 _ _) (fr_dI (fun v2 => fr_br (fr_X11_compare_b23 _ _) (fr_X11_compare_b24 _ _ _))))
theorem fr_X11_best_b80 (k25 : Int32 → Int32 → Int32 → Int32 → Sg → Option (Int32 × Sg)) (x1 : Int32) (x2 : Int32) (x3 : Int32) (x4 : Int32) (hk25 : ∀ a0 a1 a2 a3, Fr gs_mod (k25 a0 a1 a2 a3)) : Fr gs_mod (f_X11_best_b80 k25 x1 x2 x3 x4) := by
  unfold f_X11_best_b80
  exact hk25 _ _ _ _
theorem fr_X11_best_b67 (k25 : Int32 → Int32 → Int32 → Int32 → Sg → Option (Int32 × Sg)) (x4 : Int32) (hk25 : ∀ a0 a1 a2 a3, Fr gs_mod (k25 a0 a1 a2 a3)) : Fr gs_mod (f_X11_best_b67 k25 x4) := by
  unfold f_X11_best_b67
  exact fr_cl (fr_mono su_none_mod (fr_X11_hurtsAll)) (fun r1 => fr_cl (fr_mono su_none_mod (fr_X11_funAll)) (fun r2 => fr_X11_best_b80 _ _ _ _ _ hk25))
theorem fr_X11_best_b25 : ∀ (fu : Nat) (x1 : Int32) (x2 : Int32) (x3 : Int32) (x4 : Int32), Fr gs_mod (f_X11_best_b25 fu x1 x2 x3 x4) := by
  intro fu
  induction fu with
  | zero => intro _ _ _ _; exact fr_none
  | succ fu ih => intro x1 x2 x3 x4; rw [f_X11_best_b25]; exact fr_dI (fun v1 => fr_br (fr_rt) (fr_cl (fr_X11_runsBy _) (fun _ => fr_cl (fr_mono su_none_mod (fr_X11_hurtsAll)) (fun r3 => fr_br (fr_X11_best_b80 _ _ _ _ _ ih) (fr_cl (fr_mono su_none_mod (fr_X11_hurtsAll)) (fun r5 => fr_br (fr_cl (fr_mono su_none_mod (fr_X11_funAll)) (fun r7 => fr_br (fr_X11_best_b67 _ _ ih) (fr_X11_best_b80 _ _ _ _ _ ih))) (fr_X11_best_b67 _ _ ih)))))))
theorem fr_X11_best : Fr gs_mod (f_X11_best) := by
  unfold f_X11_best
  exact fr_pI (rfl) (fr_cl (fr_X11_runsBy _) (fun _ => fr_cl (fr_mono su_none_mod (fr_X11_hurtsAll)) (fun r1 => fr_cl (fr_mono su_none_mod (fr_X11_funAll)) (fun r2 => fr_X11_best_b25 _ _ _ _ _))))
theorem fr_X11_isGreater_b82 : Fr gs_none (f_X11_isGreater_b82) := by
  unfold f_X11_isGreater_b82
  exact fr_rt
theorem fr_X11_isGreater_b59 (x16 : Int32) (x17 : Int64) (x19 : Int64) : Fr gs_none (f_X11_isGreater_b59 x16 x17 x19) := by
  unfold f_X11_isGreater_b59
  exact fr_br (fr_br (fr_rt) (fr_br (fr_rt) (fr_rt))) (fr_br (fr_br (fr_X11_isGreater_b82) (fr_rt)) (fr_X11_isGreater_b82))
theorem fr_X11_isGreater_b132 (k17 : Int64 → Int64 → Int64 → Int64 → Int32 → Sg → Option (Int32 × Sg)) (x8 : Int64) (x10 : Int64) (x12 : Int64) (x14 : Int64) (xs0 : Int32) (hk17 : ∀ a0 a1 a2 a3 a4, Fr gs_none (k17 a0 a1 a2 a3 a4)) : Fr gs_none (f_X11_isGreater_b132 k17 x8 x10 x12 x14 xs0) := by
  unfold f_X11_isGreater_b132
  exact hk17 _ _ _ _ _
theorem fr_X11_isGreater_b137 (x8 : Int64) (x10 : Int64) (x12 : Int64) (x14 : Int64) (x16 : Int32) : Fr gs_none (f_X11_isGreater_b137 x8 x10 x12 x14 x16) := by
  unfold f_X11_isGreater_b137
  exact fr_br (fr_gd (fun g1 => fr_gd (fun g2 => fr_br (fr_rt) (fr_rt)))) (fr_gd (fun g3 => fr_gd (fun g4 => fr_br (fr_rt) (fr_rt))))
theorem fr_X11_isGreater_b17 : ∀ (fu : Nat) (x8 : Int64) (x10 : Int64) (x12 : Int64) (x14 : Int64) (x16 : Int32), Fr gs_none (f_X11_isGreater_b17 fu x8 x10 x12 x14 x16) := by
  intro fu
  induction fu with
  | zero => intro _ _ _ _ _; exact fr_none
  | succ fu ih => intro x8 x10 x12 x14 x16; rw [f_X11_isGreater_b17]; exact fr_gd (fun g1 => fr_gd (fun g2 => fr_br (fr_gd (fun g3 => fr_lt (fun w2 => fr_gd (fun g4 => fr_lt (fun w3 => fr_br (fr_X11_isGreater_b59 _ _ _) (fr_br (fr_X11_isGreater_b59 _ _ _) (fr_br (fr_X11_isGreater_b132 _ _ _ _ _ _ ih) (fr_X11_isGreater_b132 _ _ _ _ _ _ ih)))))))) (fr_X11_isGreater_b137 _ _ _ _ _)))
theorem fr_X11_isGreater (x0 : Int64) (x2 : Int64) (x4 : Int64) (x6 : Int64) : Fr gs_none (f_X11_isGreater x0 x2 x4 x6) := by
  unfold f_X11_isGreater
  exact fr_X11_isGreater_b17 _ _ _ _ _ _
theorem fr_X11_egg_b88 (k37 : Int32 → Int32 → Sg → Option (Int64 × Sg)) (x1 : Int32) (x2 : Int32) (x3 : Int32) (hk37 : ∀ a0 a1, Fr gs_meggT (k37 a0 a1)) : Fr gs_meggT (f_X11_egg_b88 k37 x1 x2 x3) := by
  unfold f_X11_egg_b88
  exact fr_gd (fun g1 => fr_dI (fun v1 => fr_gd (fun g2 => fr_pI (rfl) (hk37 _ _))))
theorem fr_X11_egg_b47 (k37 : Int32 → Int32 → Sg → Option (Int64 × Sg)) (hk37 : ∀ a0 a1, Fr gs_meggT (k37 a0 a1)) : ∀ (fu : Nat) (x1 : Int32) (x2 : Int32) (x3 : Int32), Fr gs_meggT (f_X11_egg_b47 k37 fu x1 x2 x3) := by
  intro fu
  induction fu with
  | zero => intro _ _ _; exact fr_none
  | succ fu ih => intro x1 x2 x3; rw [f_X11_egg_b47]; exact fr_br (fr_X11_egg_b88 _ _ _ _ hk37) (fr_gd (fun g1 => fr_dI (fun v2 => fr_gd (fun g2 => fr_dI (fun v3 => fr_br (fr_X11_egg_b88 _ _ _ _ hk37) (fr_gd (fun g3 => fr_dI (fun v5 => fr_gd (fun g4 => fr_pI (rfl) (ih _ _ _))))))))))
theorem fr_X11_egg_b255 (k129 : Int32 → Int64 → Int64 → Int32 → Int64 → Int64 → Int32 → Sg → Option (Int64 × Sg)) (x1 : Int32) (x2 : Int64) (x4 : Int64) (x6 : Int32) (x7 : Int64) (x9 : Int64) (x11 : Int32) (hk129 : ∀ a0 a1 a2 a3 a4 a5 a6, Fr gs_meggT (k129 a0 a1 a2 a3 a4 a5 a6)) : Fr gs_meggT (f_X11_egg_b255 k129 x1 x2 x4 x6 x7 x9 x11) := by
  unfold f_X11_egg_b255
  exact hk129 _ _ _ _ _ _ _
theorem fr_X11_egg_b244 (k129 : Int32 → Int64 → Int64 → Int32 → Int64 → Int64 → Int32 → Sg → Option (Int64 × Sg)) (x1 : Int32) (x7 : Int64) (x9 : Int64) (x11 : Int32) (x16 : Int64) (x18 : Int64) (hk129 : ∀ a0 a1 a2 a3 a4 a5 a6, Fr gs_meggT (k129 a0 a1 a2 a3 a4 a5 a6)) : Fr gs_meggT (f_X11_egg_b244 k129 x1 x7 x9 x11 x16 x18) := by
  unfold f_X11_egg_b244
  exact fr_X11_egg_b255 _ _ _ _ _ _ _ _ hk129
theorem fr_X11_egg_b261 (x1 : Int32) (x2 : Int64) (x4 : Int64) (x6 : Int32) : Fr gs_meggT (f_X11_egg_b261 x1 x2 x4 x6) := by
  unfold f_X11_egg_b261
  exact fr_br (fr_rt) (fr_br (fr_rt) (fr_rt))
theorem fr_X11_egg_b129 : ∀ (fu : Nat) (x1 : Int32) (x2 : Int64) (x4 : Int64) (x6 : Int32) (x7 : Int64) (x9 : Int64) (x11 : Int32), Fr gs_meggT (f_X11_egg_b129 fu x1 x2 x4 x6 x7 x9 x11) := by
  intro fu
  induction fu with
  | zero => intro _ _ _ _ _ _ _; exact fr_none
  | succ fu ih => intro x1 x2 x4 x6 x7 x9 x11; rw [f_X11_egg_b129]; exact fr_dI (fun v1 => fr_br (fr_X11_egg_b261 _ _ _ _) (fr_gd (fun g1 => fr_dI (fun v3 => fr_lt (fun w4 => fr_gd (fun g2 => fr_dI (fun v5 => fr_lt (fun w6 => fr_cl (fr_mono su_none_meggT (fr_X11_portion _ _ _)) (fun r7 => fr_cl (fr_mono su_none_meggT (fr_X11_portion _ _ _)) (fun r8 => fr_cl (fr_mono su_none_meggT (fr_X11_portion _ _ _)) (fun r9 => fr_cl (fr_mono su_none_meggT (fr_X11_portion _ _ _)) (fun r10 => fr_br (fr_X11_egg_b244 _ _ _ _ _ _ _ ih) (fr_cl (fr_mono su_none_meggT (fr_X11_isGreater _ _ _ _)) (fun r12 => fr_br (fr_X11_egg_b255 _ _ _ _ _ _ _ _ ih) (fr_X11_egg_b244 _ _ _ _ _ _ _ ih)))))))))))))))
theorem fr_X11_egg_b106 (x1 : Int32) : Fr gs_meggT (f_X11_egg_b106 x1) := by
  unfold f_X11_egg_b106
  exact fr_dI (fun v1 => fr_X11_egg_b129 _ _ _ _ _ _ _ _)
theorem fr_X11_egg_b37 : ∀ (fu : Nat) (x1 : Int32) (x2 : Int32), Fr gs_meggT (f_X11_egg_b37 fu x1 x2) := by
  intro fu
  induction fu with
  | zero => intro _ _; exact fr_none
  | succ fu ih => intro x1 x2; rw [f_X11_egg_b37]; exact fr_dI (fun v1 => fr_br (fr_X11_egg_b106 _) (fr_X11_egg_b47 _ ih _ _ _ _))
theorem fr_X11_egg (x1 : Int32) : Fr gs_meggT (f_X11_egg x1) := by
  unfold f_X11_egg
  exact fr_pI (rfl) (fr_cl (fr_mono su_mth_meggT (fr_X11_isWhat _ _)) (fun r1 => fr_br (fr_rt) (fr_dI (fun v3 => fr_br (fr_X11_egg_b37 _ _ _) (fr_br (fr_rt) (fr_rt))))))
theorem fr_X11_afternoons_b187 (k80 : Int32 → Int32 → Int32 → Int32 → Int32 → Int32 → Int32 → Sg → Option (Int32 × Sg)) (x2 : Int32) (x3 : Int32) (x4 : Int32) (x5 : Int32) (x6 : Int32) (x8 : Int32) (xs0 : Int32) (xs1 : Int32) (hk80 : ∀ a0 a1 a2 a3 a4 a5 a6, Fr gs_mod (k80 a0 a1 a2 a3 a4 a5 a6)) : Fr gs_mod (f_X11_afternoons_b187 k80 x2 x3 x4 x5 x6 x8 xs0 xs1) := by
  unfold f_X11_afternoons_b187
  exact hk80 _ _ _ _ _ _ _
theorem fr_X11_afternoons_b171 (k80 : Int32 → Int32 → Int32 → Int32 → Int32 → Int32 → Int32 → Sg → Option (Int32 × Sg)) (x2 : Int32) (x3 : Int32) (x4 : Int32) (x5 : Int32) (x7 : Int32) (x8 : Int32) (xs0 : Int32) (hk80 : ∀ a0 a1 a2 a3 a4 a5 a6, Fr gs_mod (k80 a0 a1 a2 a3 a4 a5 a6)) : Fr gs_mod (f_X11_afternoons_b171 k80 x2 x3 x4 x5 x7 x8 xs0) := by
  unfold f_X11_afternoons_b171
  exact fr_cl (fr_mono su_none_mod (fr_X11_isHurt)) (fun r1 => fr_br (fr_X11_afternoons_b187 _ _ _ _ _ _ _ _ _ hk80) (fr_X11_afternoons_b187 _ _ _ _ _ _ _ _ _ hk80))
theorem fr_X11_afternoons_b140 (k80 : Int32 → Int32 → Int32 → Int32 → Int32 → Int32 → Int32 → Sg → Option (Int32 × Sg)) (x2 : Int32) (x3 : Int32) (x4 : Int32) (x5 : Int32) (x6 : Int32) (x7 : Int32) (x8 : Int32) (hk80 : ∀ a0 a1 a2 a3 a4 a5 a6, Fr gs_mod (k80 a0 a1 a2 a3 a4 a5 a6)) : Fr gs_mod (f_X11_afternoons_b140 k80 x2 x3 x4 x5 x6 x7 x8) := by
  unfold f_X11_afternoons_b140
  exact fr_cl (fr_mono su_mrun_mod (fr_X11_runsAll)) (fun _ => fr_cl (fr_mono su_none_mod (fr_X11_hurtsAll)) (fun r1 => fr_cl (fr_mono su_none_mod (fr_X11_funAll)) (fun r2 => fr_br (fr_X11_afternoons_b171 _ _ _ _ _ _ _ _ hk80) (fr_cl (fr_mono su_none_mod (fr_X11_funAll)) (fun r4 => fr_X11_afternoons_b171 _ _ _ _ _ _ _ _ hk80)))))
theorem fr_X11_afternoons_b89 (k80 : Int32 → Int32 → Int32 → Int32 → Int32 → Int32 → Int32 → Sg → Option (Int32 × Sg)) (hk80 : ∀ a0 a1 a2 a3 a4 a5 a6, Fr gs_mod (k80 a0 a1 a2 a3 a4 a5 a6)) : ∀ (fu : Nat) (x2 : Int32) (x3 : Int32) (x4 : Int32) (x5 : Int32) (x6 : Int32) (x7 : Int32) (x8 : Int32) (x9 : Int32), Fr gs_mod (f_X11_afternoons_b89 k80 fu x2 x3 x4 x5 x6 x7 x8 x9) := by
  intro fu
  induction fu with
  | zero => intro _ _ _ _ _ _ _ _; exact fr_none
  | succ fu ih => intro x2 x3 x4 x5 x6 x7 x8 x9; rw [f_X11_afternoons_b89]; exact fr_dI (fun v1 => fr_br (fr_X11_afternoons_b140 _ _ _ _ _ _ _ _ hk80) (fr_lt (fun w3 => fr_gd (fun g1 => fr_pI (rfl) (ih _ _ _ _ _ _ _ _)))))
theorem fr_X11_afternoons_b230 (x3 : Int32) (x5 : Int32) (x6 : Int32) (x7 : Int32) : Fr gs_mod (f_X11_afternoons_b230 x3 x5 x6 x7) := by
  unfold f_X11_afternoons_b230
  exact fr_br (fr_rt) (fr_br (fr_rt) (fr_rt))
theorem fr_X11_afternoons_b199 : ∀ (fu : Nat) (x3 : Int32) (x5 : Int32) (x6 : Int32) (x7 : Int32) (x8 : Int32), Fr gs_mod (f_X11_afternoons_b199 fu x3 x5 x6 x7 x8) := by
  intro fu
  induction fu with
  | zero => intro _ _ _ _ _; exact fr_none
  | succ fu ih => intro x3 x5 x6 x7 x8; rw [f_X11_afternoons_b199]; exact fr_br (fr_X11_afternoons_b230 _ _ _ _) (fr_gd (fun g1 => fr_dI (fun v2 => fr_gd (fun g2 => fr_pI (rfl) (ih _ _ _ _ _)))))
theorem fr_X11_afternoons_b196 (x3 : Int32) (x5 : Int32) (x6 : Int32) (x7 : Int32) : Fr gs_mod (f_X11_afternoons_b196 x3 x5 x6 x7) := by
  unfold f_X11_afternoons_b196
  exact fr_X11_afternoons_b199 _ _ _ _ _ _
theorem fr_X11_afternoons_b80 : ∀ (fu : Nat) (x2 : Int32) (x3 : Int32) (x4 : Int32) (x5 : Int32) (x6 : Int32) (x7 : Int32) (x8 : Int32), Fr gs_mod (f_X11_afternoons_b80 fu x2 x3 x4 x5 x6 x7 x8) := by
  intro fu
  induction fu with
  | zero => intro _ _ _ _ _ _ _; exact fr_none
  | succ fu ih => intro x2 x3 x4 x5 x6 x7 x8; rw [f_X11_afternoons_b80]; exact fr_br (fr_X11_afternoons_b196 _ _ _ _) (fr_X11_afternoons_b89 _ ih _ _ _ _ _ _ _ _ _)
theorem fr_X11_afternoons_b65 (x1 : Int32) (x2 : Int32) (x3 : Int32) : Fr gs_mod (f_X11_afternoons_b65 x1 x2 x3) := by
  unfold f_X11_afternoons_b65
  exact fr_X11_afternoons_b80 _ _ _ _ _ _ _ _
theorem fr_X11_afternoons_b34 : ∀ (fu : Nat) (x1 : Int32) (x2 : Int32) (x3 : Int32) (x4 : Int32), Fr gs_mod (f_X11_afternoons_b34 fu x1 x2 x3 x4) := by
  intro fu
  induction fu with
  | zero => intro _ _ _ _; exact fr_none
  | succ fu ih => intro x1 x2 x3 x4; rw [f_X11_afternoons_b34]; exact fr_br (fr_X11_afternoons_b65 _ _ _) (fr_gd (fun g1 => fr_dI (fun v2 => fr_gd (fun g2 => fr_pI (rfl) (ih _ _ _ _)))))
theorem fr_X11_afternoons (x1 : Int32) (x2 : Int32) (x3 : Int32) : Fr gs_mod (f_X11_afternoons x1 x2 x3) := by
  unfold f_X11_afternoons
  exact fr_pI (rfl) (fr_cl (fr_mono su_mth_mod (fr_X11_isWhat _ _)) (fun r1 => fr_br (fr_rt) (fr_cl (fr_mono su_none_mod (fr_X11_within _ _ _)) (fun r3 => fr_cl (fr_mono su_mth_mod (fr_X11_right _ _)) (fun r4 => fr_br (fr_rt) (fr_X11_afternoons_b34 _ _ _ _ _))))))
theorem fr_X11_copies_58_92_b2 : ∀ (fu : Nat) (x3 : Int32), Fr gs_mod (f_X11_copies_58_92_b2 fu x3) := by
  intro fu
  induction fu with
  | zero => intro _; exact fr_none
  | succ fu ih => intro x3; rw [f_X11_copies_58_92_b2]; exact fr_br (fr_rt) (fr_gd (fun g1 => fr_dI (fun v2 => fr_gd (fun g2 => fr_pI (rfl) (ih _)))))
theorem fr_X11_copies_58_92 : Fr gs_mod (f_X11_copies_58_92) := by
  unfold f_X11_copies_58_92
  exact fr_X11_copies_58_92_b2 _ _
theorem fr_X11_copies_71_93_b2 : ∀ (fu : Nat) (x3 : Int32), Fr gs_mod (f_X11_copies_71_93_b2 fu x3) := by
  intro fu
  induction fu with
  | zero => intro _; exact fr_none
  | succ fu ih => intro x3; rw [f_X11_copies_71_93_b2]; exact fr_br (fr_rt) (fr_gd (fun g1 => fr_dI (fun v2 => fr_gd (fun g2 => fr_pI (rfl) (ih _)))))
theorem fr_X11_copies_71_93 : Fr gs_mod (f_X11_copies_71_93) := by
  unfold f_X11_copies_71_93
  exact fr_X11_copies_71_93_b2 _ _
theorem fr_X11_copies_90_94_b2 : ∀ (fu : Nat) (x3 : Int32), Fr gs_mod (f_X11_copies_90_94_b2 fu x3) := by
  intro fu
  induction fu with
  | zero => intro _; exact fr_none
  | succ fu ih => intro x3; rw [f_X11_copies_90_94_b2]; exact fr_br (fr_rt) (fr_gd (fun g1 => fr_dI (fun v2 => fr_gd (fun g2 => fr_pI (rfl) (ih _)))))
theorem fr_X11_copies_90_94 : Fr gs_mod (f_X11_copies_90_94) := by
  unfold f_X11_copies_90_94
  exact fr_X11_copies_90_94_b2 _ _
theorem fr_X11_image : Fr gs_mod (f_X11_image) := by
  unfold f_X11_image
  exact fr_pI (rfl) (fr_pI (rfl) (fr_dI (fun v1 => fr_pI (rfl) (fr_dI (fun v2 => fr_pI (rfl) (fr_dI (fun v3 => fr_pI (rfl) (fr_dI (fun v4 => fr_pI (rfl) (fr_cl (fr_X11_copies_58_92) (fun _ => fr_cl (fr_X11_copies_71_93) (fun _ => fr_cl (fr_X11_copies_90_94) (fun _ => fr_rt)))))))))))))
theorem fr_X11_copies_92_58_b2 : ∀ (fu : Nat) (x3 : Int32), Fr gs_mod (f_X11_copies_92_58_b2 fu x3) := by
  intro fu
  induction fu with
  | zero => intro _; exact fr_none
  | succ fu ih => intro x3; rw [f_X11_copies_92_58_b2]; exact fr_br (fr_rt) (fr_gd (fun g1 => fr_dI (fun v2 => fr_gd (fun g2 => fr_pI (rfl) (ih _)))))
theorem fr_X11_copies_92_58 : Fr gs_mod (f_X11_copies_92_58) := by
  unfold f_X11_copies_92_58
  exact fr_X11_copies_92_58_b2 _ _
theorem fr_X11_copies_93_71_b2 : ∀ (fu : Nat) (x3 : Int32), Fr gs_mod (f_X11_copies_93_71_b2 fu x3) := by
  intro fu
  induction fu with
  | zero => intro _; exact fr_none
  | succ fu ih => intro x3; rw [f_X11_copies_93_71_b2]; exact fr_br (fr_rt) (fr_gd (fun g1 => fr_dI (fun v2 => fr_gd (fun g2 => fr_pI (rfl) (ih _)))))
theorem fr_X11_copies_93_71 : Fr gs_mod (f_X11_copies_93_71) := by
  unfold f_X11_copies_93_71
  exact fr_X11_copies_93_71_b2 _ _
theorem fr_X11_copies_94_90_b2 : ∀ (fu : Nat) (x3 : Int32), Fr gs_mod (f_X11_copies_94_90_b2 fu x3) := by
  intro fu
  induction fu with
  | zero => intro _; exact fr_none
  | succ fu ih => intro x3; rw [f_X11_copies_94_90_b2]; exact fr_br (fr_rt) (fr_gd (fun g1 => fr_dI (fun v2 => fr_gd (fun g2 => fr_pI (rfl) (ih _)))))
theorem fr_X11_copies_94_90 : Fr gs_mod (f_X11_copies_94_90) := by
  unfold f_X11_copies_94_90
  exact fr_X11_copies_94_90_b2 _ _
theorem fr_X11_restore : Fr gs_mod (f_X11_restore) := by
  unfold f_X11_restore
  exact fr_pI (rfl) (fr_dI (fun v1 => fr_br (fr_rt) (fr_dI (fun v3 => fr_pI (rfl) (fr_dI (fun v4 => fr_pI (rfl) (fr_dI (fun v5 => fr_pI (rfl) (fr_dI (fun v6 => fr_pI (rfl) (fr_cl (fr_X11_copies_92_58) (fun _ => fr_cl (fr_X11_copies_93_71) (fun _ => fr_cl (fr_X11_copies_94_90) (fun _ => fr_rt))))))))))))))
theorem fr_J6_compare_7cf53 (x0 : Int32) (x1 : Int32) : Fr gs_none (f_J6_compare_7cf53 x0 x1) := by
  unfold f_J6_compare_7cf53
  exact fr_br (fr_br (fr_rt) (fr_rt)) (fr_rt)
theorem fr_X8_tellRule : Fr gs_tell (f_X8_tellRule) := by
  unfold f_X8_tellRule
  exact fr_dR (fun u1 => fr_gd (fun g1 => fr_dI (fun v2 => fr_br (fr_cl (fr_mono su_read_tell (fr_X5_next)) (fun _ => fr_cl (fr_X8_either _ _) (fun r4 => fr_br (fr_rt) (fr_dR (fun u6 => fr_gd (fun g2 => fr_cl (fr_X6_endRule _) (fun _ => fr_rt))))))) (fr_cl (fr_X8_fail _) (fun r7 => fr_gd (fun g3 => fr_rt))))))
theorem fr_X8_tellLine : Fr gs_tell (f_X8_tellLine) := by
  unfold f_X8_tellLine
  exact fr_cl (fr_mono su_none_tell (fr_X5_isWord _)) (fun r1 => fr_br (fr_cl (fr_mono su_none_tell (fr_X5_isWord _)) (fun r3 => fr_br (fr_cl (fr_mono su_none_tell (fr_X5_isWord _)) (fun r5 => fr_br (fr_cl (fr_mono su_none_tell (fr_X5_isWord _)) (fun r7 => fr_br (fr_cl (fr_mono su_none_tell (fr_X5_isWord _)) (fun r9 => fr_br (fr_cl (fr_mono su_none_tell (fr_X5_isWord _)) (fun r11 => fr_br (fr_cl (fr_mono su_none_tell (fr_X5_isWord _)) (fun r13 => fr_br (fr_cl (fr_X8_fail _) (fun r15 => fr_gd (fun g1 => fr_rt))) (fr_cl (fr_X8_tellEgg) (fun r16 => fr_gd (fun g2 => fr_rt))))) (fr_cl (fr_X8_tellRule) (fun r17 => fr_gd (fun g3 => fr_rt))))) (fr_cl (fr_X8_tellJumper) (fun r18 => fr_gd (fun g4 => fr_rt))))) (fr_cl (fr_X8_tellSlips) (fun r19 => fr_gd (fun g5 => fr_rt))))) (fr_cl (fr_X8_tellNear) (fun r20 => fr_gd (fun g6 => fr_rt))))) (fr_cl (fr_X8_tellBroken) (fun r21 => fr_gd (fun g7 => fr_rt))))) (fr_cl (fr_X8_tellMat) (fun r22 => fr_gd (fun g8 => fr_rt))))
theorem fr_X8_tell_b23 : ∀ (fu : Nat) (x3 : Int32), Fr gs_tell (f_X8_tell_b23 fu x3) := by
  intro fu
  induction fu with
  | zero => intro _; exact fr_none
  | succ fu ih => intro x3; rw [f_X8_tell_b23]; exact fr_br (fr_rt) (fr_dI (fun v2 => fr_br (fr_rt) (fr_cl (fr_X8_tellLine) (fun r4 => fr_br (fr_dI (fun v6 => fr_rt)) (fr_cl (fr_X8_pass _) (fun r7 => fr_br (fr_dI (fun v9 => fr_rt)) (ih _)))))))
theorem fr_X8_tell (q1 : Nat) (x2 : Int32) : Fr gs_tell (f_X8_tell q1 x2) := by
  unfold f_X8_tell
  exact fr_gd (fun g1 => fr_dR (fun u1 => fr_gd (fun g2 => fr_cl (fr_X2_clear _) (fun _ => fr_pI (rfl) (fr_cl (fr_mono su_read_tell (fr_X5_begin _ _)) (fun _ => fr_X8_tell_b23 _ _))))))
theorem fr_X10_afternoons_b176 (k50 : Int32 → Int32 → Int32 → Int32 → Int32 → Int32 → Int32 → Sg → Option ((Int32 ⊕ Bool) × Sg)) (x2 : Int32) (x3 : Int32) (x4 : Int32) (x5 : Int32) (x6 : Int32) (x8 : Int32) (xs0 : Int32) (xs1 : Int32) (hk50 : ∀ a0 a1 a2 a3 a4 a5 a6, Fr gs_play (k50 a0 a1 a2 a3 a4 a5 a6)) : Fr gs_play (f_X10_afternoons_b176 k50 x2 x3 x4 x5 x6 x8 xs0 xs1) := by
  unfold f_X10_afternoons_b176
  exact hk50 _ _ _ _ _ _ _
theorem fr_X10_afternoons_b117 (k50 : Int32 → Int32 → Int32 → Int32 → Int32 → Int32 → Int32 → Sg → Option ((Int32 ⊕ Bool) × Sg)) (x2 : Int32) (x3 : Int32) (x4 : Int32) (x5 : Int32) (x6 : Int32) (x7 : Int32) (x8 : Int32) (hk50 : ∀ a0 a1 a2 a3 a4 a5 a6, Fr gs_play (k50 a0 a1 a2 a3 a4 a5 a6)) : Fr gs_play (f_X10_afternoons_b117 k50 x2 x3 x4 x5 x6 x7 x8) := by
  unfold f_X10_afternoons_b117
  exact fr_dI (fun v1 => fr_cl (fr_X4_go _ _) (fun _ => fr_cl (fr_mono su_none_play (fr_X4_hurtsOfAll)) (fun r2 => fr_cl (fr_mono su_none_play (fr_X4_funOfAll)) (fun r3 => fr_lt (fun w4 => fr_dI (fun v5 => fr_br (fr_X10_afternoons_b176 _ _ _ _ _ _ _ _ _ hk50) (fr_X10_afternoons_b176 _ _ _ _ _ _ _ _ _ hk50)))))))
theorem fr_X10_afternoons_b63 (k50 : Int32 → Int32 → Int32 → Int32 → Int32 → Int32 → Int32 → Sg → Option ((Int32 ⊕ Bool) × Sg)) (hk50 : ∀ a0 a1 a2 a3 a4 a5 a6, Fr gs_play (k50 a0 a1 a2 a3 a4 a5 a6)) : ∀ (fu : Nat) (x2 : Int32) (x3 : Int32) (x4 : Int32) (x5 : Int32) (x6 : Int32) (x7 : Int32) (x8 : Int32) (x9 : Int32), Fr gs_play (f_X10_afternoons_b63 k50 fu x2 x3 x4 x5 x6 x7 x8 x9) := by
  intro fu
  induction fu with
  | zero => intro _ _ _ _ _ _ _ _; exact fr_none
  | succ fu ih => intro x2 x3 x4 x5 x6 x7 x8 x9; rw [f_X10_afternoons_b63]; exact fr_dI (fun v1 => fr_br (fr_X10_afternoons_b117 _ _ _ _ _ _ _ _ hk50) (fr_lt (fun w3 => fr_cl (fr_mono su_none_play (fr_X4_flyer _)) (fun u4 => fr_gd (fun g1 => fr_cl (fr_X1_startIn _ _) (fun _ => ih _ _ _ _ _ _ _ _))))))
theorem fr_X10_afternoons_b185 (x3 : Int32) (x5 : Int32) (x6 : Int32) (x7 : Int32) : Fr gs_play (f_X10_afternoons_b185 x3 x5 x6 x7) := by
  unfold f_X10_afternoons_b185
  exact fr_br (fr_rtX) (fr_br (fr_rtX) (fr_rtX))
theorem fr_X10_afternoons_b50 : ∀ (fu : Nat) (x2 : Int32) (x3 : Int32) (x4 : Int32) (x5 : Int32) (x6 : Int32) (x7 : Int32) (x8 : Int32), Fr gs_play (f_X10_afternoons_b50 fu x2 x3 x4 x5 x6 x7 x8) := by
  intro fu
  induction fu with
  | zero => intro _ _ _ _ _ _ _; exact fr_none
  | succ fu ih => intro x2 x3 x4 x5 x6 x7 x8; rw [f_X10_afternoons_b50]; exact fr_br (fr_X10_afternoons_b185 _ _ _ _) (fr_cl (fr_X10_prepare) (fun _ => fr_X10_afternoons_b63 _ ih _ _ _ _ _ _ _ _ _))
theorem fr_X10_afternoons_b32 (x1 : Int32) (x2 : Int32) (x3 : Int32) (xs0 : Int32) : Fr gs_play (f_X10_afternoons_b32 x1 x2 x3 xs0) := by
  unfold f_X10_afternoons_b32
  exact fr_clX (fr_mono su_none_play (fr_X10_demand _)) (fun _ => fr_X10_afternoons_b50 _ _ _ _ _ _ _ _)
theorem fr_X10_afternoons_b31 (x1 : Int32) (x2 : Int32) (x3 : Int32) : Fr gs_play (f_X10_afternoons_b31 x1 x2 x3) := by
  unfold f_X10_afternoons_b31
  exact fr_X10_afternoons_b32 _ _ _ _
theorem fr_X10_afternoons_b14 (x1 : Int32) (x2 : Int32) (x3 : Int32) (xs0 : Int32) : Fr gs_play (f_X10_afternoons_b14 x1 x2 x3 xs0) := by
  unfold f_X10_afternoons_b14
  exact fr_clX (fr_mono su_none_play (fr_X10_need _)) (fun _ => fr_br (fr_X10_afternoons_b31 _ _ _) (fr_br (fr_X10_afternoons_b31 _ _ _) (fr_X10_afternoons_b32 _ _ _ _)))
theorem fr_X10_afternoons_b13 (x1 : Int32) (x2 : Int32) (x3 : Int32) : Fr gs_play (f_X10_afternoons_b13 x1 x2 x3) := by
  unfold f_X10_afternoons_b13
  exact fr_X10_afternoons_b14 _ _ _ _
theorem fr_X10_afternoons (x1 : Int32) (x2 : Int32) (x3 : Int32) : Fr gs_play (f_X10_afternoons x1 x2 x3) := by
  unfold f_X10_afternoons
  exact fr_br (fr_X10_afternoons_b13 _ _ _) (fr_br (fr_X10_afternoons_b13 _ _ _) (fr_X10_afternoons_b14 _ _ _ _))
theorem fr_X10_become_b39 : Fr gs_cls (f_X10_become_b39) := by
  unfold f_X10_become_b39
  exact fr_dI (fun v1 => fr_pI (rfl) (fr_rtX))
theorem fr_X10_become_b22 (x1 : Int32) (x2 : Int32) (x3 : Int32) (xs0 : Int32) : Fr gs_cls (f_X10_become_b22 x1 x2 x3 xs0) := by
  unfold f_X10_become_b22
  exact fr_clX (fr_mono su_none_cls (fr_X10_need _)) (fun _ => fr_br (fr_X10_become_b39) (fr_cl (fr_mono su_none_cls (fr_X10_mostOf _)) (fun r2 => fr_br (fr_cl (fr_mono su_sc_cls (fr_X7_act _ _ _ _)) (fun r4 => fr_rtX)) (fr_X10_become_b39))))
theorem fr_X10_become_b21 (x1 : Int32) (x2 : Int32) (x3 : Int32) : Fr gs_cls (f_X10_become_b21 x1 x2 x3) := by
  unfold f_X10_become_b21
  exact fr_X10_become_b22 _ _ _ _
theorem fr_X10_become (x1 : Int32) (x2 : Int32) (x3 : Int32) : Fr gs_cls (f_X10_become x1 x2 x3) := by
  unfold f_X10_become
  exact fr_cl (fr_mono su_none_cls (fr_X10_isJumper _)) (fun r1 => fr_br (fr_X10_become_b21 _ _ _) (fr_br (fr_X10_become_b21 _ _ _) (fr_br (fr_X10_become_b21 _ _ _) (fr_X10_become_b22 _ _ _ _))))
theorem fr_X10_broken (x1 : Int32) : Fr gs_none (f_X10_broken x1) := by
  unfold f_X10_broken
  exact fr_cl (fr_X10_isToldHeight _) (fun r1 => fr_clX (fr_X10_demand _) (fun _ => fr_cl (fr_X7_fitting _ _) (fun r2 => fr_rtX)))
theorem fr_X10_compare_b22 (x1 : Int32) (x2 : Int32) (xs0 : Int32) : Fr gs_play (f_X10_compare_b22 x1 x2 xs0) := by
  unfold f_X10_compare_b22
  exact fr_clX (fr_mono su_none_play (fr_X10_need _)) (fun _ => fr_cl (fr_X10_playBy _) (fun _ => fr_br (fr_cl (fr_mono su_none_play (fr_X4_hurtsOfAll)) (fun r2 => fr_rtX)) (fr_cl (fr_mono su_none_play (fr_X4_funOfAll)) (fun r3 => fr_rtX))))
theorem fr_X10_compare_b17 (x1 : Int32) (x2 : Int32) : Fr gs_play (f_X10_compare_b17 x1 x2) := by
  unfold f_X10_compare_b17
  exact fr_X10_compare_b22 _ _ _
theorem fr_X10_compare_b21 (x1 : Int32) (x2 : Int32) : Fr gs_play (f_X10_compare_b21 x1 x2) := by
  unfold f_X10_compare_b21
  exact fr_X10_compare_b22 _ _ _
theorem fr_X10_compare (x1 : Int32) (x2 : Int32) : Fr gs_play (f_X10_compare x1 x2) := by
  unfold f_X10_compare
  exact fr_cl (fr_mono su_none_play (fr_X10_isRule _)) (fun r1 => fr_br (fr_X10_compare_b21 _ _) (fr_br (fr_X10_compare_b17 _ _) (fr_br (fr_X10_compare_b17 _ _) (fr_X10_compare_b21 _ _))))
theorem fr_X10_correct_b73 (k19 : Int32 → Int32 → Int32 → Int32 → Int64 → Int32 → Sg → Option ((Int32 ⊕ Bool) × Sg)) (x1 : Int32) (x2 : Int32) (x3 : Int32) (x4 : Int32) (x5 : Int64) (x7 : Int32) (hk19 : ∀ a0 a1 a2 a3 a4 a5, Fr gs_wan (k19 a0 a1 a2 a3 a4 a5)) : Fr gs_wan (f_X10_correct_b73 k19 x1 x2 x3 x4 x5 x7) := by
  unfold f_X10_correct_b73
  exact hk19 _ _ _ _ _ _
theorem fr_X10_correct_b60 (k19 : Int32 → Int32 → Int32 → Int32 → Int64 → Int32 → Sg → Option ((Int32 ⊕ Bool) × Sg)) (x1 : Int32) (x2 : Int32) (x3 : Int32) (x7 : Int32) (hk19 : ∀ a0 a1 a2 a3 a4 a5, Fr gs_wan (k19 a0 a1 a2 a3 a4 a5)) : Fr gs_wan (f_X10_correct_b60 k19 x1 x2 x3 x7) := by
  unfold f_X10_correct_b60
  exact fr_dL (fun v1 => fr_X10_correct_b73 _ _ _ _ _ _ _ hk19)
theorem fr_X10_correct_b19 : ∀ (fu : Nat) (x1 : Int32) (x2 : Int32) (x3 : Int32) (x4 : Int32) (x5 : Int64) (x7 : Int32), Fr gs_wan (f_X10_correct_b19 fu x1 x2 x3 x4 x5 x7) := by
  intro fu
  induction fu with
  | zero => intro _ _ _ _ _ _; exact fr_none
  | succ fu ih => intro x1 x2 x3 x4 x5 x7; rw [f_X10_correct_b19]; exact fr_br (fr_rtX) (fr_dR (fun u2 => fr_gd (fun g1 => fr_cl (fr_X9_go _ _ _ _ _) (fun _ => fr_br (fr_X10_correct_b60 _ _ _ _ _ ih) (fr_dL (fun v4 => fr_br (fr_X10_correct_b73 _ _ _ _ _ _ _ ih) (fr_X10_correct_b60 _ _ _ _ _ ih)))))))
theorem fr_X10_correct (x1 : Int32) (x2 : Int32) (x3 : Int32) : Fr gs_wan (f_X10_correct x1 x2 x3) := by
  unfold f_X10_correct
  exact fr_cl (fr_mono su_none_wan (fr_X10_mayWander _ _ _)) (fun r1 => fr_clX (fr_mono su_none_wan (fr_X10_demand _)) (fun _ => fr_X10_correct_b19 _ _ _ _ _ _ _))
theorem fr_X10_count_b15 (x1 : Int32) (xs0 : Int32) : Fr gs_none (f_X10_count_b15 x1 xs0) := by
  unfold f_X10_count_b15
  exact fr_clX (fr_X10_need _) (fun _ => fr_br (fr_cl (fr_X10_countNow _) (fun r2 => fr_rtX)) (fr_cl (fr_X10_countTold _) (fun r3 => fr_rtX)))
theorem fr_X10_count_b14 (x1 : Int32) : Fr gs_none (f_X10_count_b14 x1) := by
  unfold f_X10_count_b14
  exact fr_X10_count_b15 _ _
theorem fr_X10_count (x1 : Int32) : Fr gs_none (f_X10_count x1) := by
  unfold f_X10_count
  exact fr_br (fr_X10_count_b14 _) (fr_br (fr_X10_count_b14 _) (fr_X10_count_b15 _ _))
theorem fr_X10_danger_b10 : ∀ (fu : Nat) (x1 : Int32) (x2 : Int32), Fr gs_play (f_X10_danger_b10 fu x1 x2) := by
  intro fu
  induction fu with
  | zero => intro _ _; exact fr_none
  | succ fu ih => intro x1 x2; rw [f_X10_danger_b10]; exact fr_br (fr_rtX) (fr_cl (fr_X10_prepare) (fun _ => fr_cl (fr_mono su_none_play (fr_X4_flyer _)) (fun u2 => fr_gd (fun g1 => fr_cl (fr_X1_dropFrom _ _) (fun _ => fr_dI (fun v3 => fr_cl (fr_X4_go _ _) (fun _ => fr_dI (fun v4 => fr_br (ih _ _) (fr_rtX)))))))))
theorem fr_X10_danger (x1 : Int32) : Fr gs_play (f_X10_danger x1) := by
  unfold f_X10_danger
  exact fr_cl (fr_mono su_none_play (fr_X10_isJumper _)) (fun r1 => fr_clX (fr_mono su_none_play (fr_X10_need _)) (fun _ => fr_X10_danger_b10 _ _ _))
theorem fr_X10_egg_b14 (x1 : Int32) (xs0 : Int32) : Fr gs_egg (f_X10_egg_b14 x1 xs0) := by
  unfold f_X10_egg_b14
  exact fr_clX (fr_mono su_none_egg (fr_X10_need _)) (fun _ => fr_dR (fun u1 => fr_gd (fun g1 => fr_cl (fr_X0_open _) (fun _ => fr_br (fr_dI (fun v3 => fr_rtX)) (fr_dL (fun v4 => fr_dL (fun v5 => fr_cl (fr_mono su_none_egg (fr_X10_partOf _ _ _)) (fun r6 => fr_rtX))))))))
theorem fr_X10_egg_b13 (x1 : Int32) : Fr gs_egg (f_X10_egg_b13 x1) := by
  unfold f_X10_egg_b13
  exact fr_X10_egg_b14 _ _
theorem fr_X10_egg (x1 : Int32) : Fr gs_egg (f_X10_egg x1) := by
  unfold f_X10_egg
  exact fr_br (fr_X10_egg_b13 _) (fr_br (fr_X10_egg_b13 _) (fr_X10_egg_b14 _ _))
theorem fr_X10_falls_b42 (x1 : Int32) (x2 : Int32) (x3 : Int32) (x4 : Int32) (x5 : Int32) (xs0 : Int32) : Fr gs_wan (f_X10_falls_b42 x1 x2 x3 x4 x5 xs0) := by
  unfold f_X10_falls_b42
  exact fr_clX (fr_mono su_none_wan (fr_X10_demand _)) (fun _ => fr_dR (fun u1 => fr_gd (fun g1 => fr_cl (fr_X9_go _ _ _ _ _) (fun _ => fr_dL (fun v2 => fr_dL (fun v3 => fr_cl (fr_mono su_none_wan (fr_X10_partOf _ _ _)) (fun r4 => fr_rtX)))))))
theorem fr_X10_falls_b41 (x1 : Int32) (x2 : Int32) (x3 : Int32) (x4 : Int32) (x5 : Int32) : Fr gs_wan (f_X10_falls_b41 x1 x2 x3 x4 x5) := by
  unfold f_X10_falls_b41
  exact fr_X10_falls_b42 _ _ _ _ _ _
theorem fr_X10_falls_b16 (x1 : Int32) (x2 : Int32) (x3 : Int32) (x4 : Int32) (x5 : Int32) (xs0 : Int32) : Fr gs_wan (f_X10_falls_b16 x1 x2 x3 x4 x5 xs0) := by
  unfold f_X10_falls_b16
  exact fr_clX (fr_mono su_none_wan (fr_X10_need _)) (fun _ => fr_cl (fr_mono su_none_wan (fr_X10_mayWander _ _ _)) (fun r1 => fr_br (fr_X10_falls_b41 _ _ _ _ _) (fr_cl (fr_mono su_none_wan (fr_X10_isCorrects _)) (fun r3 => fr_br (fr_X10_falls_b41 _ _ _ _ _) (fr_X10_falls_b42 _ _ _ _ _ _)))))
theorem fr_X10_falls_b11 (x1 : Int32) (x2 : Int32) (x3 : Int32) (x4 : Int32) (x5 : Int32) : Fr gs_wan (f_X10_falls_b11 x1 x2 x3 x4 x5) := by
  unfold f_X10_falls_b11
  exact fr_X10_falls_b16 _ _ _ _ _ _
theorem fr_X10_falls (x1 : Int32) (x2 : Int32) (x3 : Int32) (x4 : Int32) (x5 : Int32) : Fr gs_wan (f_X10_falls x1 x2 x3 x4 x5) := by
  unfold f_X10_falls
  exact fr_br (fr_X10_falls_b11 _ _ _ _ _) (fr_br (fr_X10_falls_b11 _ _ _ _ _) (fr_X10_falls_b16 _ _ _ _ _ _))
theorem fr_X10_film_b21 (x1 : Int32) (x2 : Int32) (xs0 : Int32) : Fr gs_play (f_X10_film_b21 x1 x2 xs0) := by
  unfold f_X10_film_b21
  exact fr_clX (fr_mono su_none_play (fr_X10_need _)) (fun _ => fr_cl (fr_X10_prepare) (fun _ => fr_cl (fr_X4_go _ _) (fun _ => fr_cl (fr_mono su_none_play (fr_X4_flyer _)) (fun u1 => fr_gd (fun g1 => fr_cl (fr_mono su_none_play (fr_X1_heightIn _ _)) (fun r2 => fr_rtX))))))
theorem fr_X10_film_b20 (x1 : Int32) (x2 : Int32) : Fr gs_play (f_X10_film_b20 x1 x2) := by
  unfold f_X10_film_b20
  exact fr_X10_film_b21 _ _ _
theorem fr_X10_film (x1 : Int32) (x2 : Int32) : Fr gs_play (f_X10_film x1 x2) := by
  unfold f_X10_film
  exact fr_cl (fr_mono su_none_play (fr_X10_isJumper _)) (fun r1 => fr_br (fr_X10_film_b20 _ _) (fr_cl (fr_mono su_none_play (fr_X10_isTick _)) (fun r3 => fr_br (fr_X10_film_b20 _ _) (fr_X10_film_b21 _ _ _))))
theorem fr_X10_garden_b17 (x1 : Int32) (xs0 : Int32) : Fr gs_cls (f_X10_garden_b17 x1 xs0) := by
  unfold f_X10_garden_b17
  exact fr_clX (fr_mono su_none_cls (fr_X10_demand _)) (fun _ => fr_pI (rfl) (fr_cl (fr_mono su_tell_cls (fr_X8_tell _ _)) (fun r1 => fr_br (fr_pI (rfl) (fr_dR (fun u3 => fr_gd (fun g1 => fr_dR (fun u4 => fr_gd (fun g2 => fr_pR (rfl) (fr_pR (rfl) (fr_cl (fr_mono su_sc_cls (fr_X7_begin _ _)) (fun _ => fr_pI (rfl) (fr_rtX)))))))))) (fr_dI (fun v5 => fr_pI (rfl) (fr_dI (fun v6 => fr_pI (rfl) (fr_rtX))))))))
theorem fr_X10_garden_b16 (x1 : Int32) : Fr gs_cls (f_X10_garden_b16 x1) := by
  unfold f_X10_garden_b16
  exact fr_X10_garden_b17 _ _
theorem fr_X10_garden (x1 : Int32) : Fr gs_cls (f_X10_garden x1) := by
  unfold f_X10_garden
  exact fr_br (fr_X10_garden_b16 _) (fr_dI (fun v2 => fr_br (fr_X10_garden_b16 _) (fr_X10_garden_b17 _ _)))
theorem fr_X10_jumper_b23 (x1 : Int32) (x2 : Int32) (xs0 : Int32) : Fr gs_none (f_X10_jumper_b23 x1 x2 xs0) := by
  unfold f_X10_jumper_b23
  exact fr_clX (fr_X10_need _) (fun _ => fr_cl (fr_X7_told _ _ _) (fun r1 => fr_rtX))
theorem fr_X10_jumper_b22 (x1 : Int32) (x2 : Int32) : Fr gs_none (f_X10_jumper_b22 x1 x2) := by
  unfold f_X10_jumper_b22
  exact fr_X10_jumper_b23 _ _ _
theorem fr_X10_jumper (x1 : Int32) (x2 : Int32) : Fr gs_none (f_X10_jumper x1 x2) := by
  unfold f_X10_jumper
  exact fr_cl (fr_X10_isJumper _) (fun r1 => fr_br (fr_X10_jumper_b22 _ _) (fr_br (fr_X10_jumper_b22 _ _) (fr_br (fr_X10_jumper_b22 _ _) (fr_X10_jumper_b23 _ _ _))))
theorem fr_X10_landing_b54 (x1 : Int32) (x2 : Int32) (xs0 : Int32) : Fr gs_play (f_X10_landing_b54 x1 x2 xs0) := by
  unfold f_X10_landing_b54
  exact fr_clX (fr_mono su_none_play (fr_X10_need _)) (fun _ => fr_br (fr_dI (fun v2 => fr_rtX)) (fr_cl (fr_mono su_none_play (fr_X3_told _ _)) (fun r3 => fr_rtX)))
theorem fr_X10_landing_b28 (x1 : Int32) (x2 : Int32) (xs0 : Int32) : Fr gs_play (f_X10_landing_b28 x1 x2 xs0) := by
  unfold f_X10_landing_b28
  exact fr_clX (fr_mono su_none_play (fr_X10_need _)) (fun _ => fr_cl (fr_X10_playAll) (fun _ => fr_dI (fun v1 => fr_br (fr_X10_landing_b54 _ _ _) (fr_X10_landing_b54 _ _ _))))
theorem fr_X10_landing_b23 (x1 : Int32) (x2 : Int32) : Fr gs_play (f_X10_landing_b23 x1 x2) := by
  unfold f_X10_landing_b23
  exact fr_X10_landing_b28 _ _ _
theorem fr_X10_landing_b27 (x1 : Int32) (x2 : Int32) : Fr gs_play (f_X10_landing_b27 x1 x2) := by
  unfold f_X10_landing_b27
  exact fr_X10_landing_b28 _ _ _
theorem fr_X10_landing (x1 : Int32) (x2 : Int32) : Fr gs_play (f_X10_landing x1 x2) := by
  unfold f_X10_landing
  exact fr_br (fr_X10_landing_b27 _ _) (fr_br (fr_X10_landing_b27 _ _) (fr_br (fr_X10_landing_b27 _ _) (fr_br (fr_br (fr_X10_landing_b23 _ _) (fr_X10_landing_b27 _ _)) (fr_X10_landing_b23 _ _))))
theorem fr_X10_lands_b23 (x1 : Int32) (x2 : Int32) (xs0 : Int32) : Fr gs_play (f_X10_lands_b23 x1 x2 xs0) := by
  unfold f_X10_lands_b23
  exact fr_clX (fr_mono su_none_play (fr_X10_need _)) (fun _ => fr_cl (fr_X10_playAll) (fun _ => fr_cl (fr_mono su_none_play (fr_X4_flyer _)) (fun u1 => fr_gd (fun g1 => fr_cl (fr_mono su_none_play (fr_X1_landed _ _)) (fun r2 => fr_rtX)))))
theorem fr_X10_lands_b22 (x1 : Int32) (x2 : Int32) : Fr gs_play (f_X10_lands_b22 x1 x2) := by
  unfold f_X10_lands_b22
  exact fr_X10_lands_b23 _ _ _
theorem fr_X10_lands (x1 : Int32) (x2 : Int32) : Fr gs_play (f_X10_lands x1 x2) := by
  unfold f_X10_lands
  exact fr_cl (fr_mono su_none_play (fr_X10_isJumper _)) (fun r1 => fr_br (fr_X10_lands_b22 _ _) (fr_br (fr_X10_lands_b22 _ _) (fr_br (fr_X10_lands_b22 _ _) (fr_X10_lands_b23 _ _ _))))
theorem fr_X10_mat_b14 (x1 : Int32) (xs0 : Int32) : Fr gs_play (f_X10_mat_b14 x1 xs0) := by
  unfold f_X10_mat_b14
  exact fr_clX (fr_mono su_none_play (fr_X10_need _)) (fun _ => fr_cl (fr_X10_playAll) (fun _ => fr_br (fr_dI (fun v2 => fr_rtX)) (fr_br (fr_dI (fun v4 => fr_rtX)) (fr_br (fr_dI (fun v6 => fr_rtX)) (fr_br (fr_dI (fun v8 => fr_rtX)) (fr_dI (fun v9 => fr_rtX)))))))
theorem fr_X10_mat_b13 (x1 : Int32) : Fr gs_play (f_X10_mat_b13 x1) := by
  unfold f_X10_mat_b13
  exact fr_X10_mat_b14 _ _
theorem fr_X10_mat (x1 : Int32) : Fr gs_play (f_X10_mat x1) := by
  unfold f_X10_mat
  exact fr_br (fr_X10_mat_b13 _) (fr_br (fr_X10_mat_b13 _) (fr_X10_mat_b14 _ _))
theorem fr_X10_moment_b105 (k33 : Int32 → Int32 → Int32 → Int32 → Int32 → Sg → Option ((Int32 ⊕ Bool) × Sg)) (x1 : Int32) (x2 : Int32) (x3 : Int32) (x4 : Int32) (x5 : Int32) (hk33 : ∀ a0 a1 a2 a3 a4, Fr gs_play (k33 a0 a1 a2 a3 a4)) : Fr gs_play (f_X10_moment_b105 k33 x1 x2 x3 x4 x5) := by
  unfold f_X10_moment_b105
  exact hk33 _ _ _ _ _
theorem fr_X10_moment_b98 (k33 : Int32 → Int32 → Int32 → Int32 → Int32 → Sg → Option ((Int32 ⊕ Bool) × Sg)) (x1 : Int32) (x2 : Int32) (x5 : Int32) (x6 : Int32) (hk33 : ∀ a0 a1 a2 a3 a4, Fr gs_play (k33 a0 a1 a2 a3 a4)) : Fr gs_play (f_X10_moment_b98 k33 x1 x2 x5 x6) := by
  unfold f_X10_moment_b98
  exact fr_X10_moment_b105 _ _ _ _ _ _ hk33
theorem fr_X10_moment_b33 : ∀ (fu : Nat) (x1 : Int32) (x2 : Int32) (x3 : Int32) (x4 : Int32) (x5 : Int32), Fr gs_play (f_X10_moment_b33 fu x1 x2 x3 x4 x5) := by
  intro fu
  induction fu with
  | zero => intro _ _ _ _ _; exact fr_none
  | succ fu ih => intro x1 x2 x3 x4 x5; rw [f_X10_moment_b33]; exact fr_br (fr_rtX) (fr_cl (fr_X10_prepare) (fun _ => fr_cl (fr_mono su_none_play (fr_X4_flyer _)) (fun u2 => fr_gd (fun g1 => fr_cl (fr_X1_startIn _ _) (fun _ => fr_dI (fun v3 => fr_cl (fr_X4_go _ _) (fun _ => fr_cl (fr_mono su_none_play (fr_X4_flyer _)) (fun u4 => fr_gd (fun g2 => fr_cl (fr_mono su_none_play (fr_X10_worthOf _ _)) (fun r5 => fr_br (fr_X10_moment_b98 _ _ _ _ _ ih) (fr_br (fr_X10_moment_b105 _ _ _ _ _ _ ih) (fr_X10_moment_b98 _ _ _ _ _ ih))))))))))))
theorem fr_X10_moment_b22 (x1 : Int32) (x2 : Int32) (xs0 : Int32) : Fr gs_play (f_X10_moment_b22 x1 x2 xs0) := by
  unfold f_X10_moment_b22
  exact fr_clX (fr_mono su_none_play (fr_X10_need _)) (fun _ => fr_X10_moment_b33 _ _ _ _ _ _)
theorem fr_X10_moment_b21 (x1 : Int32) (x2 : Int32) : Fr gs_play (f_X10_moment_b21 x1 x2) := by
  unfold f_X10_moment_b21
  exact fr_X10_moment_b22 _ _ _
theorem fr_X10_moment (x1 : Int32) (x2 : Int32) : Fr gs_play (f_X10_moment x1 x2) := by
  unfold f_X10_moment
  exact fr_cl (fr_mono su_none_play (fr_X10_isJumper _)) (fun r1 => fr_br (fr_X10_moment_b21 _ _) (fr_br (fr_X10_moment_b21 _ _) (fr_br (fr_X10_moment_b21 _ _) (fr_X10_moment_b22 _ _ _))))
theorem fr_X10_over_b116 (k57 : Int32 → Int32 → Int32 → Int32 → Int32 → Int32 → Sg → Option ((Int32 ⊕ Bool) × Sg)) (x1 : Int32) (x2 : Int32) (x3 : Int32) (x4 : Int32) (x5 : Int32) (x6 : Int32) (hk57 : ∀ a0 a1 a2 a3 a4 a5, Fr gs_play (k57 a0 a1 a2 a3 a4 a5)) : Fr gs_play (f_X10_over_b116 k57 x1 x2 x3 x4 x5 x6) := by
  unfold f_X10_over_b116
  exact hk57 _ _ _ _ _ _
theorem fr_X10_over_b111 (k57 : Int32 → Int32 → Int32 → Int32 → Int32 → Int32 → Sg → Option ((Int32 ⊕ Bool) × Sg)) (x1 : Int32) (x2 : Int32) (x3 : Int32) (x4 : Int32) (x6 : Int32) (xs0 : Int32) (hk57 : ∀ a0 a1 a2 a3 a4 a5, Fr gs_play (k57 a0 a1 a2 a3 a4 a5)) : Fr gs_play (f_X10_over_b111 k57 x1 x2 x3 x4 x6 xs0) := by
  unfold f_X10_over_b111
  exact fr_X10_over_b116 _ _ _ _ _ _ _ hk57
theorem fr_X10_over_b122 (x3 : Int32) (x4 : Int32) (x5 : Int32) : Fr gs_play (f_X10_over_b122 x3 x4 x5) := by
  unfold f_X10_over_b122
  exact fr_br (fr_rtX) (fr_rtX)
theorem fr_X10_over_b57 : ∀ (fu : Nat) (x1 : Int32) (x2 : Int32) (x3 : Int32) (x4 : Int32) (x5 : Int32) (x6 : Int32), Fr gs_play (f_X10_over_b57 fu x1 x2 x3 x4 x5 x6) := by
  intro fu
  induction fu with
  | zero => intro _ _ _ _ _ _; exact fr_none
  | succ fu ih => intro x1 x2 x3 x4 x5 x6; rw [f_X10_over_b57]; exact fr_dI (fun v1 => fr_br (fr_X10_over_b122 _ _ _) (fr_cl (fr_X4_go _ _) (fun _ => fr_cl (fr_mono su_none_play (fr_X4_flyer _)) (fun u3 => fr_gd (fun g1 => fr_cl (fr_mono su_none_play (fr_X1_heightIn _ _)) (fun r4 => fr_br (fr_X10_over_b116 _ _ _ _ _ _ _ ih) (fr_br (fr_X10_over_b111 _ _ _ _ _ _ _ ih) (fr_X10_over_b111 _ _ _ _ _ _ _ ih))))))))
theorem fr_X10_over_b41 (x1 : Int32) (x2 : Int32) (x3 : Int32) (xs0 : Int32) : Fr gs_play (f_X10_over_b41 x1 x2 x3 xs0) := by
  unfold f_X10_over_b41
  exact fr_clX (fr_mono su_none_play (fr_X10_demand _)) (fun _ => fr_cl (fr_X10_prepare) (fun _ => fr_X10_over_b57 _ _ _ _ _ _ _))
theorem fr_X10_over_b40 (x1 : Int32) (x2 : Int32) (x3 : Int32) : Fr gs_play (f_X10_over_b40 x1 x2 x3) := by
  unfold f_X10_over_b40
  exact fr_X10_over_b41 _ _ _ _
theorem fr_X10_over_b22 (x1 : Int32) (x2 : Int32) (x3 : Int32) (xs0 : Int32) : Fr gs_play (f_X10_over_b22 x1 x2 x3 xs0) := by
  unfold f_X10_over_b22
  exact fr_clX (fr_mono su_none_play (fr_X10_need _)) (fun _ => fr_br (fr_X10_over_b40 _ _ _) (fr_br (fr_X10_over_b40 _ _ _) (fr_X10_over_b41 _ _ _ _)))
theorem fr_X10_over_b17 (x1 : Int32) (x2 : Int32) (x3 : Int32) : Fr gs_play (f_X10_over_b17 x1 x2 x3) := by
  unfold f_X10_over_b17
  exact fr_X10_over_b22 _ _ _ _
theorem fr_X10_over_b21 (x1 : Int32) (x2 : Int32) (x3 : Int32) : Fr gs_play (f_X10_over_b21 x1 x2 x3) := by
  unfold f_X10_over_b21
  exact fr_X10_over_b22 _ _ _ _
theorem fr_X10_over (x1 : Int32) (x2 : Int32) (x3 : Int32) : Fr gs_play (f_X10_over x1 x2 x3) := by
  unfold f_X10_over
  exact fr_cl (fr_mono su_none_play (fr_X10_isJumper _)) (fun r1 => fr_br (fr_X10_over_b21 _ _ _) (fr_br (fr_X10_over_b17 _ _ _) (fr_br (fr_X10_over_b17 _ _ _) (fr_X10_over_b21 _ _ _))))
theorem fr_X10_ran_b23 (x1 : Int32) (x2 : Int32) (xs0 : Int32) : Fr gs_play (f_X10_ran_b23 x1 x2 xs0) := by
  unfold f_X10_ran_b23
  exact fr_clX (fr_mono su_none_play (fr_X10_need _)) (fun _ => fr_cl (fr_X10_playAll) (fun _ => fr_cl (fr_mono su_none_play (fr_X4_flyer _)) (fun u1 => fr_gd (fun g1 => fr_br (fr_dI (fun v3 => fr_rtX)) (fr_br (fr_dI (fun v5 => fr_rtX)) (fr_br (fr_dI (fun v7 => fr_rtX)) (fr_br (fr_dI (fun v9 => fr_rtX)) (fr_br (fr_dI (fun v11 => fr_rtX)) (fr_br (fr_dI (fun v13 => fr_rtX)) (fr_dI (fun v14 => fr_rtX)))))))))))
theorem fr_X10_ran_b22 (x1 : Int32) (x2 : Int32) : Fr gs_play (f_X10_ran_b22 x1 x2) := by
  unfold f_X10_ran_b22
  exact fr_X10_ran_b23 _ _ _
theorem fr_X10_ran (x1 : Int32) (x2 : Int32) : Fr gs_play (f_X10_ran x1 x2) := by
  unfold f_X10_ran
  exact fr_cl (fr_mono su_none_play (fr_X10_isJumper _)) (fun r1 => fr_br (fr_X10_ran_b22 _ _) (fr_br (fr_X10_ran_b22 _ _) (fr_br (fr_X10_ran_b22 _ _) (fr_X10_ran_b23 _ _ _))))
theorem fr_X10_safe_b70 (k39 : Int32 → Int32 → Int32 → Int64 → Int32 → Sg → Option ((Int64 ⊕ Bool) × Sg)) (x1 : Int32) (x2 : Int32) (x3 : Int32) (x4 : Int64) (x6 : Int32) (hk39 : ∀ a0 a1 a2 a3 a4, Fr gs_none (k39 a0 a1 a2 a3 a4)) : Fr gs_none (f_X10_safe_b70 k39 x1 x2 x3 x4 x6) := by
  unfold f_X10_safe_b70
  exact hk39 _ _ _ _ _
theorem fr_X10_safe_b39 : ∀ (fu : Nat) (x1 : Int32) (x2 : Int32) (x3 : Int32) (x4 : Int64) (x6 : Int32), Fr gs_none (f_X10_safe_b39 fu x1 x2 x3 x4 x6) := by
  intro fu
  induction fu with
  | zero => intro _ _ _ _ _; exact fr_none
  | succ fu ih => intro x1 x2 x3 x4 x6; rw [f_X10_safe_b39]; exact fr_br (fr_rtX) (fr_cl (fr_X10_staysOn _ _ _ _) (fun r2 => fr_br (fr_X10_safe_b70 _ _ _ _ _ _ ih) (fr_lt (fun w4 => fr_X10_safe_b70 _ _ _ _ _ _ ih))))
theorem fr_X10_safe_b29 (x1 : Int32) (x2 : Int32) (x3 : Int32) (xs0 : Int32) : Fr gs_none (f_X10_safe_b29 x1 x2 x3 xs0) := by
  unfold f_X10_safe_b29
  exact fr_clX (fr_X10_demand _) (fun _ => fr_X10_safe_b39 _ _ _ _ _ _)
theorem fr_X10_safe_b28 (x1 : Int32) (x2 : Int32) (x3 : Int32) : Fr gs_none (f_X10_safe_b28 x1 x2 x3) := by
  unfold f_X10_safe_b28
  exact fr_X10_safe_b29 _ _ _ _
theorem fr_X10_safe (x1 : Int32) (x2 : Int32) (x3 : Int32) : Fr gs_none (f_X10_safe x1 x2 x3) := by
  unfold f_X10_safe
  exact fr_cl (fr_X10_isToldHeight _) (fun r1 => fr_br (fr_X10_safe_b28 _ _ _) (fr_cl (fr_X10_isCorrects _) (fun r3 => fr_br (fr_X10_safe_b28 _ _ _) (fr_br (fr_X10_safe_b28 _ _ _) (fr_br (fr_X10_safe_b28 _ _ _) (fr_X10_safe_b29 _ _ _ _))))))
theorem fr_X10_second_b173 (k62 : Int32 → Int32 → Int32 → Int32 → Int32 → Int32 → Int32 → Int32 → Sg → Option ((Int32 ⊕ Bool) × Sg)) (k72 : Int32 → Int32 → Int32 → Int32 → Int32 → Int32 → Int32 → Int32 → Int32 → Sg → Option ((Int32 ⊕ Bool) × Sg)) (x1 : Int32) (x2 : Int32) (x3 : Int32) (x4 : Int32) (x5 : Int32) (x6 : Int32) (x7 : Int32) (x8 : Int32) (x9 : Int32) (hk62 : ∀ a0 a1 a2 a3 a4 a5 a6 a7, Fr gs_play (k62 a0 a1 a2 a3 a4 a5 a6 a7)) (hk72 : ∀ a0 a1 a2 a3 a4 a5 a6 a7 a8, Fr gs_play (k72 a0 a1 a2 a3 a4 a5 a6 a7 a8)) : Fr gs_play (f_X10_second_b173 k62 k72 x1 x2 x3 x4 x5 x6 x7 x8 x9) := by
  unfold f_X10_second_b173
  exact hk72 _ _ _ _ _ _ _ _ _
theorem fr_X10_second_b95 (k62 : Int32 → Int32 → Int32 → Int32 → Int32 → Int32 → Int32 → Int32 → Sg → Option ((Int32 ⊕ Bool) × Sg)) (k72 : Int32 → Int32 → Int32 → Int32 → Int32 → Int32 → Int32 → Int32 → Int32 → Sg → Option ((Int32 ⊕ Bool) × Sg)) (x1 : Int32) (x2 : Int32) (x3 : Int32) (x4 : Int32) (x5 : Int32) (x6 : Int32) (x7 : Int32) (x8 : Int32) (x9 : Int32) (hk62 : ∀ a0 a1 a2 a3 a4 a5 a6 a7, Fr gs_play (k62 a0 a1 a2 a3 a4 a5 a6 a7)) (hk72 : ∀ a0 a1 a2 a3 a4 a5 a6 a7 a8, Fr gs_play (k72 a0 a1 a2 a3 a4 a5 a6 a7 a8)) : Fr gs_play (f_X10_second_b95 k62 k72 x1 x2 x3 x4 x5 x6 x7 x8 x9) := by
  unfold f_X10_second_b95
  exact fr_cl (fr_X10_prepare) (fun _ => fr_cl (fr_mono su_none_play (fr_X4_flyer _)) (fun u1 => fr_gd (fun g1 => fr_cl (fr_X1_startIn _ _) (fun _ => fr_cl (fr_mono su_none_play (fr_X4_flyer _)) (fun u2 => fr_gd (fun g2 => fr_cl (fr_X1_startIn _ _) (fun _ => fr_cl (fr_X4_go _ _) (fun _ => fr_cl (fr_mono su_none_play (fr_X4_flyer _)) (fun u3 => fr_gd (fun g3 => fr_cl (fr_mono su_none_play (fr_X1_heightIn _ _)) (fun r4 => fr_br (fr_cl (fr_mono su_none_play (fr_X4_flyer _)) (fun u6 => fr_gd (fun g4 => fr_cl (fr_mono su_none_play (fr_X1_heightIn _ _)) (fun r7 => fr_br (fr_X10_second_b173 _ _ _ _ _ _ _ _ _ _ _ hk62 hk72) (fr_X10_second_b173 _ _ _ _ _ _ _ _ _ _ _ hk62 hk72))))) (fr_X10_second_b173 _ _ _ _ _ _ _ _ _ _ _ hk62 hk72))))))))))))
theorem fr_X10_second_b179 (k62 : Int32 → Int32 → Int32 → Int32 → Int32 → Int32 → Int32 → Int32 → Sg → Option ((Int32 ⊕ Bool) × Sg)) (x1 : Int32) (x2 : Int32) (x3 : Int32) (x4 : Int32) (x5 : Int32) (x6 : Int32) (x7 : Int32) (x8 : Int32) (hk62 : ∀ a0 a1 a2 a3 a4 a5 a6 a7, Fr gs_play (k62 a0 a1 a2 a3 a4 a5 a6 a7)) : Fr gs_play (f_X10_second_b179 k62 x1 x2 x3 x4 x5 x6 x7 x8) := by
  unfold f_X10_second_b179
  exact hk62 _ _ _ _ _ _ _ _
theorem fr_X10_second_b72 (k62 : Int32 → Int32 → Int32 → Int32 → Int32 → Int32 → Int32 → Int32 → Sg → Option ((Int32 ⊕ Bool) × Sg)) (hk62 : ∀ a0 a1 a2 a3 a4 a5 a6 a7, Fr gs_play (k62 a0 a1 a2 a3 a4 a5 a6 a7)) : ∀ (fu : Nat) (x1 : Int32) (x2 : Int32) (x3 : Int32) (x4 : Int32) (x5 : Int32) (x6 : Int32) (x7 : Int32) (x8 : Int32) (x9 : Int32), Fr gs_play (f_X10_second_b72 k62 fu x1 x2 x3 x4 x5 x6 x7 x8 x9) := by
  intro fu
  induction fu with
  | zero => intro _ _ _ _ _ _ _ _ _; exact fr_none
  | succ fu ih => intro x1 x2 x3 x4 x5 x6 x7 x8 x9; rw [f_X10_second_b72]; exact fr_br (fr_X10_second_b179 _ _ _ _ _ _ _ _ _ hk62) (fr_br (fr_br (fr_X10_second_b95 _ _ _ _ _ _ _ _ _ _ _ hk62 ih) (fr_X10_second_b173 _ _ _ _ _ _ _ _ _ _ _ hk62 ih)) (fr_X10_second_b95 _ _ _ _ _ _ _ _ _ _ _ hk62 ih))
theorem fr_X10_second_b62 : ∀ (fu : Nat) (x1 : Int32) (x2 : Int32) (x3 : Int32) (x4 : Int32) (x5 : Int32) (x6 : Int32) (x7 : Int32) (x8 : Int32), Fr gs_play (f_X10_second_b62 fu x1 x2 x3 x4 x5 x6 x7 x8) := by
  intro fu
  induction fu with
  | zero => intro _ _ _ _ _ _ _ _; exact fr_none
  | succ fu ih => intro x1 x2 x3 x4 x5 x6 x7 x8; rw [f_X10_second_b62]; exact fr_br (fr_rtX) (fr_X10_second_b72 _ ih _ _ _ _ _ _ _ _ _ _)
theorem fr_X10_second_b53 (x1 : Int32) (x2 : Int32) (x3 : Int32) (x4 : Int32) (x5 : Int32) (x6 : Int32) (xs0 : Int32) : Fr gs_play (f_X10_second_b53 x1 x2 x3 x4 x5 x6 xs0) := by
  unfold f_X10_second_b53
  exact fr_clX (fr_mono su_none_play (fr_X10_demand _)) (fun _ => fr_X10_second_b62 _ _ _ _ _ _ _ _ _)
theorem fr_X10_second_b40 (x1 : Int32) (x2 : Int32) (x3 : Int32) (x4 : Int32) (x5 : Int32) (x6 : Int32) (xs0 : Int32) : Fr gs_play (f_X10_second_b40 x1 x2 x3 x4 x5 x6 xs0) := by
  unfold f_X10_second_b40
  exact fr_clX (fr_mono su_none_play (fr_X10_need _)) (fun _ => fr_br (fr_X10_second_b53 _ _ _ _ _ _ _) (fr_X10_second_b53 _ _ _ _ _ _ _))
theorem fr_X10_second_b35 (x1 : Int32) (x2 : Int32) (x3 : Int32) (x4 : Int32) (x5 : Int32) (x6 : Int32) : Fr gs_play (f_X10_second_b35 x1 x2 x3 x4 x5 x6) := by
  unfold f_X10_second_b35
  exact fr_X10_second_b40 _ _ _ _ _ _ _
theorem fr_X10_second_b39 (x1 : Int32) (x2 : Int32) (x3 : Int32) (x4 : Int32) (x5 : Int32) (x6 : Int32) : Fr gs_play (f_X10_second_b39 x1 x2 x3 x4 x5 x6) := by
  unfold f_X10_second_b39
  exact fr_X10_second_b40 _ _ _ _ _ _ _
theorem fr_X10_second (x1 : Int32) (x2 : Int32) (x3 : Int32) (x4 : Int32) (x5 : Int32) (x6 : Int32) : Fr gs_play (f_X10_second x1 x2 x3 x4 x5 x6) := by
  unfold f_X10_second
  exact fr_cl (fr_mono su_none_play (fr_X10_isJumper _)) (fun r1 => fr_br (fr_X10_second_b39 _ _ _ _ _ _) (fr_cl (fr_mono su_none_play (fr_X10_isJumper _)) (fun r3 => fr_br (fr_X10_second_b39 _ _ _ _ _ _) (fr_cl (fr_mono su_none_play (fr_X10_isTick _)) (fun r5 => fr_br (fr_X10_second_b39 _ _ _ _ _ _) (fr_br (fr_X10_second_b35 _ _ _ _ _ _) (fr_br (fr_X10_second_b35 _ _ _ _ _ _) (fr_X10_second_b39 _ _ _ _ _ _))))))))
theorem fr_X10_step_b43 (x1 : Int32) (x2 : Int32) (x3 : Int32) (xs0 : Int32) : Fr gs_play (f_X10_step_b43 x1 x2 x3 xs0) := by
  unfold f_X10_step_b43
  exact fr_clX (fr_mono su_none_play (fr_X10_demand _)) (fun _ => fr_cl (fr_X10_playAll) (fun _ => fr_cl (fr_X3_pace _ _) (fun _ => fr_br (fr_dI (fun v2 => fr_rtX)) (fr_br (fr_dI (fun v4 => fr_rtX)) (fr_br (fr_dI (fun v6 => fr_dI (fun v7 => fr_cl (fr_mono su_none_play (fr_J6_compare_7cf53 _ _)) (fun r8 => fr_rtX)))) (fr_dI (fun v9 => fr_rtX)))))))
theorem fr_X10_step_b30 (x1 : Int32) (x2 : Int32) (x3 : Int32) (xs0 : Int32) : Fr gs_play (f_X10_step_b30 x1 x2 x3 xs0) := by
  unfold f_X10_step_b30
  exact fr_clX (fr_mono su_none_play (fr_X10_need _)) (fun _ => fr_br (fr_X10_step_b43 _ _ _ _) (fr_X10_step_b43 _ _ _ _))
theorem fr_X10_step_b29 (x1 : Int32) (x2 : Int32) (x3 : Int32) : Fr gs_play (f_X10_step_b29 x1 x2 x3) := by
  unfold f_X10_step_b29
  exact fr_X10_step_b30 _ _ _ _
theorem fr_X10_step (x1 : Int32) (x2 : Int32) (x3 : Int32) : Fr gs_play (f_X10_step x1 x2 x3) := by
  unfold f_X10_step
  exact fr_cl (fr_mono su_none_play (fr_X10_isJumper _)) (fun r1 => fr_br (fr_X10_step_b29 _ _ _) (fr_cl (fr_mono su_none_play (fr_X10_isJumper _)) (fun r3 => fr_br (fr_X10_step_b29 _ _ _) (fr_br (fr_X10_step_b29 _ _ _) (fr_br (fr_X10_step_b29 _ _ _) (fr_X10_step_b30 _ _ _ _))))))
theorem fr_X10_stop_b14 (x1 : Int32) (xs0 : Int32) : Fr gs_play (f_X10_stop_b14 x1 xs0) := by
  unfold f_X10_stop_b14
  exact fr_clX (fr_mono su_none_play (fr_X10_need _)) (fun _ => fr_cl (fr_X10_playAll) (fun _ => fr_br (fr_dI (fun v2 => fr_rtX)) (fr_dI (fun v3 => fr_rtX))))
theorem fr_X10_stop_b9 (x1 : Int32) : Fr gs_play (f_X10_stop_b9 x1) := by
  unfold f_X10_stop_b9
  exact fr_X10_stop_b14 _ _
theorem fr_X10_stop (x1 : Int32) : Fr gs_play (f_X10_stop x1) := by
  unfold f_X10_stop
  exact fr_br (fr_X10_stop_b9 _) (fr_br (fr_X10_stop_b9 _) (fr_X10_stop_b14 _ _))
theorem fr_X10_wanders_b42 (x1 : Int32) (x2 : Int32) (x3 : Int32) (x4 : Int32) (x5 : Int32) (x6 : Int32) (xs0 : Int32) : Fr gs_wan (f_X10_wanders_b42 x1 x2 x3 x4 x5 x6 xs0) := by
  unfold f_X10_wanders_b42
  exact fr_clX (fr_mono su_none_wan (fr_X10_demand _)) (fun _ => fr_dR (fun u1 => fr_gd (fun g1 => fr_cl (fr_X9_go _ _ _ _ _) (fun _ => fr_cl (fr_mono su_none_wan (fr_X9_waysAt _)) (fun r2 => fr_dL (fun v3 => fr_cl (fr_mono su_none_wan (fr_X10_partOf _ _ _)) (fun r4 => fr_rtX)))))))
theorem fr_X10_wanders_b41 (x1 : Int32) (x2 : Int32) (x3 : Int32) (x4 : Int32) (x5 : Int32) (x6 : Int32) : Fr gs_wan (f_X10_wanders_b41 x1 x2 x3 x4 x5 x6) := by
  unfold f_X10_wanders_b41
  exact fr_X10_wanders_b42 _ _ _ _ _ _ _
theorem fr_X10_wanders_b16 (x1 : Int32) (x2 : Int32) (x3 : Int32) (x4 : Int32) (x5 : Int32) (x6 : Int32) (xs0 : Int32) : Fr gs_wan (f_X10_wanders_b16 x1 x2 x3 x4 x5 x6 xs0) := by
  unfold f_X10_wanders_b16
  exact fr_clX (fr_mono su_none_wan (fr_X10_need _)) (fun _ => fr_cl (fr_mono su_none_wan (fr_X10_mayWander _ _ _)) (fun r1 => fr_br (fr_X10_wanders_b41 _ _ _ _ _ _) (fr_cl (fr_mono su_none_wan (fr_X10_isCorrects _)) (fun r3 => fr_br (fr_X10_wanders_b41 _ _ _ _ _ _) (fr_X10_wanders_b42 _ _ _ _ _ _ _)))))
theorem fr_X10_wanders_b11 (x1 : Int32) (x2 : Int32) (x3 : Int32) (x4 : Int32) (x5 : Int32) (x6 : Int32) : Fr gs_wan (f_X10_wanders_b11 x1 x2 x3 x4 x5 x6) := by
  unfold f_X10_wanders_b11
  exact fr_X10_wanders_b16 _ _ _ _ _ _ _
theorem fr_X10_wanders (x1 : Int32) (x2 : Int32) (x3 : Int32) (x4 : Int32) (x5 : Int32) (x6 : Int32) : Fr gs_wan (f_X10_wanders x1 x2 x3 x4 x5 x6) := by
  unfold f_X10_wanders
  exact fr_br (fr_X10_wanders_b11 _ _ _ _ _ _) (fr_br (fr_X10_wanders_b11 _ _ _ _ _ _) (fr_X10_wanders_b16 _ _ _ _ _ _ _))
theorem fr_X10_without_b34 (x1 : Int32) (x2 : Int32) (xs0 : Int32) : Fr gs_play (f_X10_without_b34 x1 x2 xs0) := by
  unfold f_X10_without_b34
  exact fr_clX (fr_mono su_none_play (fr_X10_demand _)) (fun _ => fr_cl (fr_X10_playAll) (fun _ => fr_cl (fr_mono su_none_play (fr_X4_flyer _)) (fun u1 => fr_gd (fun g1 => fr_dI (fun v2 => fr_cl (fr_X10_prepare) (fun _ => fr_cl (fr_X4_keepOnly _) (fun _ => fr_dI (fun v3 => fr_cl (fr_X4_go _ _) (fun _ => fr_cl (fr_mono su_none_play (fr_X4_flyer _)) (fun u4 => fr_gd (fun g2 => fr_dI (fun v5 => fr_rtX))))))))))))
theorem fr_X10_without_b21 (x1 : Int32) (x2 : Int32) (xs0 : Int32) : Fr gs_play (f_X10_without_b21 x1 x2 xs0) := by
  unfold f_X10_without_b21
  exact fr_clX (fr_mono su_none_play (fr_X10_need _)) (fun _ => fr_br (fr_X10_without_b34 _ _ _) (fr_X10_without_b34 _ _ _))
theorem fr_X10_without_b20 (x1 : Int32) (x2 : Int32) : Fr gs_play (f_X10_without_b20 x1 x2) := by
  unfold f_X10_without_b20
  exact fr_X10_without_b21 _ _ _
theorem fr_X10_without (x1 : Int32) (x2 : Int32) : Fr gs_play (f_X10_without x1 x2) := by
  unfold f_X10_without
  exact fr_cl (fr_mono su_none_play (fr_X10_isJumper _)) (fun r1 => fr_br (fr_X10_without_b20 _ _) (fr_cl (fr_mono su_none_play (fr_X10_isJumper _)) (fun r3 => fr_br (fr_X10_without_b20 _ _) (fr_X10_without_b21 _ _ _))))
