-- ===== both at once: the class's denotation from σ, the reference's from τ =====
def wp {α : Type} (d : Sg → Option (α × Sg)) (P : α → Sg → Prop) (σ : Sg) : Prop := ∃ r, d σ = some r ∧ P r.1 r.2
def ww {α β : Type} (d : Sg → Option (α × Sg)) (e : Sg → Option (β × Sg)) (R : α → Sg → β → Sg → Prop) (σ τ : Sg) : Prop := ∃ r q, d σ = some r ∧ e τ = some q ∧ R r.1 r.2 q.1 q.2
section WpRules
variable {α β : Type} {P Q : α → Sg → Prop} {σ : Sg} {i k : Nat}
theorem wp_rt {v : α} : wp (rt v) P σ ↔ P v σ := ⟨fun ⟨r, h, p⟩ => by cases h; exact p, fun p => ⟨_, rfl, p⟩⟩
theorem wp_rtX {v : α} {P : α ⊕ Bool → Sg → Prop} : wp (rtX v) P σ ↔ P (.inl v) σ := ⟨fun ⟨r, h, p⟩ => by cases h; exact p, fun p => ⟨_, rfl, p⟩⟩
theorem wp_inr {b : Bool} {P : α ⊕ Bool → Sg → Prop} : wp (fun σ => some (Sum.inr b, σ)) P σ ↔ P (.inr b) σ := ⟨fun ⟨r, h, p⟩ => by cases h; exact p, fun p => ⟨_, rfl, p⟩⟩
theorem wp_dI {d : Int32 → Sg → Option (α × Sg)} : wp (dI i k d) P σ ↔ wp (d (σ.1 i k)) P σ := Iff.rfl
theorem wp_dL {d : Int64 → Sg → Option (α × Sg)} : wp (dL i k d) P σ ↔ wp (d (σ.2.1 i k)) P σ := Iff.rfl
theorem wp_dR {d : Nat → Sg → Option (α × Sg)} : wp (dR i k d) P σ ↔ wp (d (σ.2.2 i k)) P σ := Iff.rfl
theorem wp_pI {v : Int32} {d : Sg → Option (α × Sg)} : wp (pI i k v d) P σ ↔ wp d P (sI σ i k v) := Iff.rfl
theorem wp_pL {v : Int64} {d : Sg → Option (α × Sg)} : wp (pL i k v d) P σ ↔ wp d P (sL σ i k v) := Iff.rfl
theorem wp_pR {v : Nat} {d : Sg → Option (α × Sg)} : wp (pR i k v d) P σ ↔ wp d P (sR σ i k v) := Iff.rfl
theorem wp_wI {f : Sg → Nat → Int32} {d : Sg → Option (α × Sg)} : wp (wI i f d) P σ ↔ wp d P (rI σ i (f σ)) := Iff.rfl
theorem wp_wL {f : Sg → Nat → Int64} {d : Sg → Option (α × Sg)} : wp (wL i f d) P σ ↔ wp d P (rL σ i (f σ)) := Iff.rfl
theorem wp_gd {c : Prop} [Decidable c] {d : Sg → Option (α × Sg)} : wp (gd c d) P σ ↔ c ∧ wp d P σ := by
  unfold wp gd
  by_cases h : c
  · simp only [h, if_true, true_and]
  · simp only [h, if_false, false_and, iff_false]; rintro ⟨r, h, -⟩; cases h
theorem wp_br {c : Prop} [Decidable c] {d1 d2 : Sg → Option (α × Sg)} : wp (br c d1 d2) P σ ↔ (c → wp d1 P σ) ∧ (¬ c → wp d2 P σ) := by
  unfold wp br
  by_cases h : c
  · simp only [h, if_true, true_implies, not_true, false_implies, and_true]
  · simp only [h, if_false, false_implies, true_and, not_false_iff, true_implies]
theorem wp_lt {v : β} {d : β → Sg → Option (α × Sg)} : wp (lt v d) P σ ↔ wp (d v) P σ := Iff.rfl
theorem wp_cl {f : Sg → Option (β × Sg)} {d : β → Sg → Option (α × Sg)} : wp (cl f d) P σ ↔ wp f (fun v τ => wp (d v) P τ) σ := by
  constructor
  · rintro ⟨r, h, p⟩
    cases q : f σ with
    | none => rw [cl, q] at h; cases h
    | some r0 => rw [cl, q] at h; exact ⟨r0, q, r, h, p⟩
  · rintro ⟨r0, q, r, h, p⟩
    exact ⟨r, by rw [cl, q]; exact h, p⟩
theorem wp_clX {f : Sg → Option ((β ⊕ Bool) × Sg)} {d : β → Sg → Option ((α ⊕ Bool) × Sg)} {P : α ⊕ Bool → Sg → Prop} : wp (clX f d) P σ ↔ wp f (fun v τ => match v with | .inl v => wp (d v) P τ | .inr b => P (.inr b) τ) σ := by
  constructor
  · rintro ⟨r, h, p⟩
    cases q : f σ with
    | none => rw [clX, q] at h; cases h
    | some r0 =>
      rw [clX, q] at h
      refine ⟨r0, q, ?_⟩
      obtain ⟨a, b⟩ := r0
      cases a with
      | inl v => exact ⟨r, h, p⟩
      | inr v => cases h; exact p
  · rintro ⟨r0, q, h⟩
    obtain ⟨a, b⟩ := r0
    cases a with
    | inl v => obtain ⟨r, h, p⟩ := h; exact ⟨r, by rw [clX, q]; exact h, p⟩
    | inr v => exact ⟨(.inr v, b), by rw [clX, q]; rfl, h⟩
theorem wp_mono {d : Sg → Option (α × Sg)} (h : ∀ v τ, P v τ → Q v τ) (w : wp d P σ) : wp d Q σ := by
  obtain ⟨r, e, p⟩ := w
  exact ⟨r, e, h _ _ p⟩
theorem wp_and {d : Sg → Option (α × Sg)} (w : wp d P σ) (u : wp d Q σ) : wp d (fun v τ => P v τ ∧ Q v τ) σ := by
  obtain ⟨r, e, p⟩ := w
  obtain ⟨q, f, u⟩ := u
  rw [e] at f; cases f
  exact ⟨r, e, p, u⟩
theorem wp_fr {S : Nat → Nat → Bool} {d : Sg → Option (α × Sg)} (hf : Fr S d) (w : wp d P σ) : wp d (fun v τ => P v τ ∧ off S σ τ) σ := by
  obtain ⟨r, e, p⟩ := w
  exact ⟨r, e, p, hf σ r e⟩
end WpRules
section WwRules
variable {α β γ δ : Type} {R : α → Sg → β → Sg → Prop} {σ τ : Sg} {i k : Nat} {e : Sg → Option (β × Sg)} {f : Sg → Option (α × Sg)}
theorem ww_rt {v : α} {w : β} : ww (rt v) (rt w) R σ τ ↔ R v σ w τ := ⟨fun ⟨r, q, h, g, p⟩ => by cases h; cases g; exact p, fun p => ⟨_, _, rfl, rfl, p⟩⟩
theorem ww_wp : ww f e R σ τ ↔ wp f (fun v σ' => wp e (fun w τ' => R v σ' w τ') τ) σ := ⟨fun ⟨r, q, h, g, p⟩ => ⟨r, h, q, g, p⟩, fun ⟨r, h, q, g, p⟩ => ⟨r, q, h, g, p⟩⟩
theorem wl_rt {v : α} : ww (rt v) e R σ τ ↔ wp e (fun w τ' => R v σ w τ') τ := by rw [ww_wp, wp_rt]
theorem wl_dI {d : Int32 → Sg → Option (α × Sg)} : ww (dI i k d) e R σ τ ↔ ww (d (σ.1 i k)) e R σ τ := Iff.rfl
theorem wl_dL {d : Int64 → Sg → Option (α × Sg)} : ww (dL i k d) e R σ τ ↔ ww (d (σ.2.1 i k)) e R σ τ := Iff.rfl
theorem wl_dR {d : Nat → Sg → Option (α × Sg)} : ww (dR i k d) e R σ τ ↔ ww (d (σ.2.2 i k)) e R σ τ := Iff.rfl
theorem wl_pI {v : Int32} {d : Sg → Option (α × Sg)} : ww (pI i k v d) e R σ τ ↔ ww d e R (sI σ i k v) τ := Iff.rfl
theorem wl_pL {v : Int64} {d : Sg → Option (α × Sg)} : ww (pL i k v d) e R σ τ ↔ ww d e R (sL σ i k v) τ := Iff.rfl
theorem wl_pR {v : Nat} {d : Sg → Option (α × Sg)} : ww (pR i k v d) e R σ τ ↔ ww d e R (sR σ i k v) τ := Iff.rfl
theorem wl_gd {c : Prop} [Decidable c] {d : Sg → Option (α × Sg)} : ww (gd c d) e R σ τ ↔ c ∧ ww d e R σ τ := by rw [ww_wp, ww_wp, wp_gd]
theorem wl_br {c : Prop} [Decidable c] {d1 d2 : Sg → Option (α × Sg)} : ww (br c d1 d2) e R σ τ ↔ (c → ww d1 e R σ τ) ∧ (¬ c → ww d2 e R σ τ) := by rw [ww_wp, ww_wp, ww_wp, wp_br]
theorem wl_lt {v : γ} {d : γ → Sg → Option (α × Sg)} : ww (lt v d) e R σ τ ↔ ww (d v) e R σ τ := Iff.rfl
theorem wl_cl {f : Sg → Option (γ × Sg)} {d : γ → Sg → Option (α × Sg)} : ww (cl f d) e R σ τ ↔ wp f (fun v σ' => ww (d v) e R σ' τ) σ := by
  rw [ww_wp, wp_cl]
  constructor <;> exact wp_mono (fun v τ h => by first | exact ww_wp.mpr h | exact ww_wp.mp h)
theorem wr_dI {d : Int32 → Sg → Option (β × Sg)} : ww f (dI i k d) R σ τ ↔ ww f (d (τ.1 i k)) R σ τ := Iff.rfl
theorem wr_dL {d : Int64 → Sg → Option (β × Sg)} : ww f (dL i k d) R σ τ ↔ ww f (d (τ.2.1 i k)) R σ τ := Iff.rfl
theorem wr_pI {v : Int32} {d : Sg → Option (β × Sg)} : ww f (pI i k v d) R σ τ ↔ ww f d R σ (sI τ i k v) := Iff.rfl
theorem wr_pL {v : Int64} {d : Sg → Option (β × Sg)} : ww f (pL i k v d) R σ τ ↔ ww f d R σ (sL τ i k v) := Iff.rfl
theorem ww_sw : ww f e R σ τ ↔ ww e f (fun w τ v σ => R v σ w τ) τ σ := ⟨fun ⟨r, q, h, g, p⟩ => ⟨q, r, g, h, p⟩, fun ⟨r, q, h, g, p⟩ => ⟨q, r, g, h, p⟩⟩
theorem wr_gd {c : Prop} [Decidable c] {d : Sg → Option (β × Sg)} : ww f (gd c d) R σ τ ↔ c ∧ ww f d R σ τ := by rw [ww_sw, wl_gd, ww_sw]
theorem wr_br {c : Prop} [Decidable c] {d1 d2 : Sg → Option (β × Sg)} : ww f (br c d1 d2) R σ τ ↔ (c → ww f d1 R σ τ) ∧ (¬ c → ww f d2 R σ τ) := by rw [ww_sw, wl_br, ww_sw, ww_sw (e := d2)]
theorem wr_lt {v : γ} {d : γ → Sg → Option (β × Sg)} : ww f (lt v d) R σ τ ↔ ww f (d v) R σ τ := Iff.rfl
theorem wr_cl {g : Sg → Option (γ × Sg)} {d : γ → Sg → Option (β × Sg)} : ww f (cl g d) R σ τ ↔ wp g (fun v τ' => ww f (d v) R σ τ') τ := by
  rw [ww_sw, wl_cl]
  constructor <;> exact wp_mono (fun v τ h => by first | exact ww_sw.mpr h | exact ww_sw.mp h)
theorem wr_rt {w : β} : ww f (rt w) R σ τ ↔ wp f (fun v σ' => R v σ' w τ) σ := by rw [ww_sw, wl_rt]
theorem ww_cl {g1 : Sg → Option (γ × Sg)} {g2 : Sg → Option (δ × Sg)} {d1 : γ → Sg → Option (α × Sg)} {d2 : δ → Sg → Option (β × Sg)} {R1 : γ → Sg → δ → Sg → Prop} (h : ww g1 g2 R1 σ τ) (K : ∀ a σ' b τ', R1 a σ' b τ' → ww (d1 a) (d2 b) R σ' τ') : ww (cl g1 d1) (cl g2 d2) R σ τ := by
  obtain ⟨r, q, e1, e2, h⟩ := h
  obtain ⟨r', q', f1, f2, h'⟩ := K _ _ _ _ h
  exact ⟨r', q', by rw [cl, e1]; exact f1, by rw [cl, e2]; exact f2, h'⟩
theorem ww_mono {R' : α → Sg → β → Sg → Prop} (h : ∀ a σ' b τ', R a σ' b τ' → R' a σ' b τ') (w : ww f e R σ τ) : ww f e R' σ τ := by
  obtain ⟨r, q, e1, e2, p⟩ := w
  exact ⟨r, q, e1, e2, h _ _ _ _ p⟩
end WwRules
-- ===== numbers =====
theorem inb_nI {j n : Nat} (h : j < n) (hn : n < 2 ^ 31) : inb (nI j) n = true := by
  simp only [inb, nI_toInt (Nat.lt_trans h hn), Bool.and_eq_true, decide_eq_true_eq]; omega
theorem isFl_j {j : Nat} (h : j < 4) : isFl (19 + 2 * j) = true := by
  rcases (by omega : j = 0 ∨ j = 1 ∨ j = 2 ∨ j = 3) with rfl | rfl | rfl | rfl <;> rfl
theorem isFk_j {j : Nat} (h : j < 4) : isFk (19 + 2 * j + 1) = true := by
  rcases (by omega : j = 0 ∨ j = 1 ∨ j = 2 ∨ j = 3) with rfl | rfl | rfl | rfl <;> rfl
theorem isFl_e {q : Nat} (h : isFl q = true) : ∃ j, j < 4 ∧ q = 19 + 2 * j := by
  rcases or4 h with rfl | rfl | rfl | rfl
  · exact ⟨0, by omega, rfl⟩
  · exact ⟨1, by omega, rfl⟩
  · exact ⟨2, by omega, rfl⟩
  · exact ⟨3, by omega, rfl⟩
theorem nI_lit {k : Nat} {x : Int32} (h : Int32.ofNat k = x) : x = nI k := h.symm
theorem nI_mul (a b : Nat) : nI a * nI b = nI (a * b) := (Int32.ofNat_mul a b).symm
theorem nI_mulL {x : Int32} {k : Nat} (h : Int32.ofNat k = x) (b : Nat) : x * nI b = nI (k * b) := by rw [← h]; exact nI_mul k b
theorem nI_mulR {x : Int32} {k : Nat} (h : Int32.ofNat k = x) (b : Nat) : nI b * x = nI (b * k) := by rw [← h]; exact nI_mul b k
theorem nI_addR {x : Int32} {k : Nat} (h : Int32.ofNat k = x) (b : Nat) : nI b + x = nI (b + k) := by rw [← h]; exact nI_add b k
theorem nI_addL {x : Int32} {k : Nat} (h : Int32.ofNat k = x) (b : Nat) : x + nI b = nI (k + b) := by rw [← h]; exact nI_add k b
theorem nI_sub {a b : Nat} (h : b ≤ a) : nI a - nI b = nI (a - b) := by
  have : nI a = nI (a - b) + nI b := by rw [nI_add, Nat.sub_add_cancel h]
  rw [this, Int32.add_sub_cancel]
theorem nI_leL {x : Int32} {k a : Nat} (h : Int32.ofNat k = x) (hk : k < 2 ^ 31) (ha : a < 2 ^ 31) : (x ≤ nI a) ↔ k ≤ a := by rw [← h]; exact nI_leI hk ha
theorem nI_leR {x : Int32} {k a : Nat} (h : Int32.ofNat k = x) (hk : k < 2 ^ 31) (ha : a < 2 ^ 31) : (nI a ≤ x) ↔ a ≤ k := by rw [← h]; exact nI_leI ha hk
theorem nI_ltL {x : Int32} {k a : Nat} (h : Int32.ofNat k = x) (hk : k < 2 ^ 31) (ha : a < 2 ^ 31) : (x < nI a) ↔ k < a := by rw [← h]; exact nI_ltI hk ha
theorem nI_ltR {x : Int32} {k a : Nat} (h : Int32.ofNat k = x) (hk : k < 2 ^ 31) (ha : a < 2 ^ 31) : (nI a < x) ↔ a < k := by rw [← h]; exact nI_ltI ha hk
theorem nI_eqL {x : Int32} {k a : Nat} (h : Int32.ofNat k = x) (hk : k < 2 ^ 31) (ha : a < 2 ^ 31) : (nI a = x) ↔ a = k := by rw [← h]; exact nI_eq ha hk
theorem sI_2 (σ : Sg) (i k : Nat) (v : Int32) : (sI σ i k v).2 = σ.2 := rfl
theorem sL_1 (σ : Sg) (i k : Nat) (v : Int64) : (sL σ i k v).1 = σ.1 := rfl
theorem sL_22 (σ : Sg) (i k : Nat) (v : Int64) : (sL σ i k v).2.2 = σ.2.2 := rfl
theorem sR_1 (σ : Sg) (i k v : Nat) : (sR σ i k v).1 = σ.1 := rfl
theorem sR_21 (σ : Sg) (i k v : Nat) : (sR σ i k v).2.1 = σ.2.1 := rfl
theorem rI_2 (σ : Sg) (i : Nat) (f : Nat → Int32) : (rI σ i f).2 = σ.2 := rfl
