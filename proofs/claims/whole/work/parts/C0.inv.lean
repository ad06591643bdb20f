-- ===== one state for both: what holds between the calls of the law =====
theorem Jr.sw {g n s e m : Nat} {σ σ' τ τ' : Sg} (J : Jr g n s e m σ τ) (c : ∀ a b, a ≤ 55 → σ'.1 a b = σ.1 a b) (r : ∀ a b, a ≤ 55 → σ'.2.2 a b = σ.2.2 a b) (t : ∀ a b, 56 ≤ a → a ≤ 94 → τ'.1 a b = τ.1 a b) : Jr g n s e m σ' τ' := by
  obtain ⟨jG, jR, jS, jP, jT, jF, jM, jO, jU, jL⟩ := J
  have hg := or3 jG.1
  have cg : ∀ d b, d ≤ 5 → σ'.1 (g + d) b = σ.1 (g + d) b := fun d b hd => c _ _ (by rcases hg with rfl | rfl | rfl <;> omega)
  have cg0 : ∀ b, σ'.1 g b = σ.1 g b := fun b => cg 0 b (by omega)
  have c0 : ∀ b, σ'.1 0 b = σ.1 0 b := fun b => c _ _ (by omega)
  have c1 : ∀ b, σ'.1 1 b = σ.1 1 b := fun b => c _ _ (by omega)
  have t56 : ∀ b, τ'.1 56 b = τ.1 56 b := fun b => t _ _ (by omega) (by omega)
  have t57 : ∀ b, τ'.1 57 b = τ.1 57 b := fun b => t _ _ (by omega) (by omega)
  have t58 : ∀ b, τ'.1 58 b = τ.1 58 b := fun b => t _ _ (by omega) (by omega)
  have t59 : ∀ b, τ'.1 59 b = τ.1 59 b := fun b => t _ _ (by omega) (by omega)
  have t60 : ∀ b, τ'.1 60 b = τ.1 60 b := fun b => t _ _ (by omega) (by omega)
  have t61 : ∀ b, τ'.1 61 b = τ.1 61 b := fun b => t _ _ (by omega) (by omega)
  have t62 : ∀ b, τ'.1 62 b = τ.1 62 b := fun b => t _ _ (by omega) (by omega)
  have t63 : ∀ b, τ'.1 63 b = τ.1 63 b := fun b => t _ _ (by omega) (by omega)
  have t71 : ∀ b, τ'.1 71 b = τ.1 71 b := fun b => t _ _ (by omega) (by omega)
  have t90 : ∀ b, τ'.1 90 b = τ.1 90 b := fun b => t _ _ (by omega) (by omega)
  have t92 : ∀ b, τ'.1 92 b = τ.1 92 b := fun b => t _ _ (by omega) (by omega)
  have t93 : ∀ b, τ'.1 93 b = τ.1 93 b := fun b => t _ _ (by omega) (by omega)
  have t94 : ∀ b, τ'.1 94 b = τ.1 94 b := fun b => t _ _ (by omega) (by omega)
  refine ⟨jG.of cg0 (fun b _ _ => t56 b), jR.of (cg 3 4 (by omega)) (fun b => cg 4 b (by omega)) (fun b => cg 5 b (by omega)) (t56 _) t59 t61, jS.of (fun a b a1 a2 => c a b (by omega)) (t56 _) (t56 _) (t56 _) (t56 _) t58 t71 t90, ⟨by rw [c0, t56]; exact jP.1, ?_⟩, ?_, ?_, fun j hj => by rw [c _ _ (by unfold fl; omega)]; exact jM j hj, ⟨by rw [r _ _ (by omega)]; exact jO.1, by rw [r _ _ (by omega)]; exact jO.2⟩, ?_, ?_⟩
  · rw [c0]
    rcases jP.2 with q | ⟨q, w⟩
    · exact Or.inl q
    · exact Or.inr ⟨q, w.of (fun a b a1 a2 => c a b (by omega)) (t56 _) (t56 _) (t56 _) (t56 _) t92 t93 t94⟩
  · unfold Tp
    simp only [c0, c1, t62, t56]; exact jT
  · unfold Ft
    simp only [c0, t63, t56]; exact jF
  · unfold Pu
    simp only [cg0, cg 2 _ (show 2 ≤ 5 by omega), t60, t56]; exact jU
  · unfold Sl
    simp only [cg0, t57]; exact jL
def Iw (σ : Sg) : Prop := Jx σ σ ∧ Zw σ
theorem Jx.left {σ σ' τ : Sg} (J : Jx σ τ) (h : off gs_mod σ σ') : Jx σ' τ := by
  obtain ⟨g, n, s, e, m, j⟩ := J
  have o : ∀ a b, a ≤ 55 → gs_mod a b = false := fun a b ha => by
    rw [← Bool.not_eq_true]; intro q
    simp only [gs_mod, Bool.and_eq_true, Nat.ble_eq] at q; omega
  exact ⟨g, n, s, e, m, j.sw (fun a b ha => (h a b (o a b ha)).1) (fun a b ha => (h a b (o a b ha)).2.2) (fun _ _ _ _ => rfl)⟩
theorem Jr.right {g n s e m : Nat} {σ τ τ' : Sg} (j : Jr g n s e m σ τ) (h : off gs_cls τ τ') : Jr g n s e m σ τ' := by
  have o : ∀ a b, 56 ≤ a → gs_cls a b = false := fun a b ha => by
    rw [← Bool.not_eq_true]; intro q
    simp only [gs_cls, Nat.ble_eq] at q; omega
  exact j.sw (fun _ _ _ => rfl) (fun _ _ _ => rfl) (fun a b ha _ => (h a b (o a b ha)).1)
theorem Zw.mod {σ σ' : Sg} (z : Zw σ) (h : off gs_mod σ σ') : Zw σ' := fun j hj => by rw [(h 32 j rfl).2.1]; exact z j hj
/-- frames that leave the wander's second row alone -/
def gs_z (i _ : Nat) : Bool := Nat.ble i 55 && !(i == 32)
theorem Zp.of {ρ : Type} {f : Sg → Option (ρ × Sg)} {σ : Sg} (h : Fr gs_z f) (z : Zw σ) : Zp f σ := fun r e j hj => by rw [(h σ r e 32 j rfl).2.1]; exact z j hj
theorem z_cls {ρ : Type} {f : Sg → Option (ρ × Sg)} (h : Fr gs_z f) : Fr gs_cls f := fr_mono (fun i k q => by
  simp only [gs_z, gs_cls, Bool.and_eq_true, Nat.ble_eq] at q ⊢; exact q.1) h
theorem z_none {ρ : Type} {f : Sg → Option (ρ × Sg)} (h : Fr gs_none f) : Fr gs_z f := fr_mono (fun i k q => by cases q) h
theorem z_play {ρ : Type} {f : Sg → Option (ρ × Sg)} (h : Fr gs_play f) : Fr gs_z f := fr_mono (fun i k q => by
  simp only [gs_z, gs_play, Bool.and_eq_true, Bool.or_eq_true, Nat.ble_eq, beq_iff_eq, Bool.not_eq_true', beq_eq_false_iff_ne, ne_eq] at q ⊢; omega) h
theorem z_sc {ρ : Type} {f : Sg → Option (ρ × Sg)} (h : Fr gs_sc f) : Fr gs_z f := fr_mono (fun i k q => by
  simp only [gs_z, gs_sc, Bool.and_eq_true, Bool.or_eq_true, Nat.ble_eq, beq_iff_eq, Bool.not_eq_true', beq_eq_false_iff_ne, ne_eq] at q ⊢; omega) h
theorem z_tape {ρ : Type} {f : Sg → Option (ρ × Sg)} (h : Fr gs_tape f) : Fr gs_z f := fr_mono (fun i k q => by
  simp only [gs_z, gs_tape, Bool.and_eq_true, Bool.or_eq_true, Nat.ble_eq, beq_iff_eq, Bool.not_eq_true', beq_eq_false_iff_ne, ne_eq] at q ⊢; omega) h
theorem z_egg {ρ : Type} {f : Sg → Option (ρ × Sg)} (h : Fr gs_egg f) : Fr gs_z f := fr_mono (fun i k q => by
  simp only [gs_z, gs_egg, Bool.and_eq_true, Bool.or_eq_true, Nat.ble_eq, beq_iff_eq, Bool.not_eq_true', beq_eq_false_iff_ne, ne_eq] at q ⊢; omega) h
theorem z_c2 {ρ : Type} {f : Sg → Option (ρ × Sg)} (h : Fr gs_c2 f) : Fr gs_z f := fr_mono (fun i k q => by
  simp only [gs_z, gs_c2, Bool.and_eq_true, Bool.or_eq_true, Nat.ble_eq, beq_iff_eq, Bool.not_eq_true', beq_eq_false_iff_ne, ne_eq] at q ⊢; omega) h
-- ===== what a call of the law asks, as a denotation =====
def dA {α ρ : Type} [DecidableEq α] (f h : Sg → Option (α × Sg)) (dn : Sg → Option ρ) : Sg → Option ρ := cl f (fun v => cl h (fun w => br (v = w) dn (fun _ => none)))
def dC {α ρ : Type} (f h : Sg → Option (α × Sg)) (dn : Sg → Option ρ) : Sg → Option ρ := cl f (fun _ => cl h (fun _ => dn))
def dB {ρ : Type} (f h : Sg → Option (Int32 × Sg)) (dn : Sg → Option ρ) : Sg → Option ρ := cl f (fun k => cl h (fun b => cl f_X11_thrown (fun t => br (t = k) (br (k = 0) (dL 95 (0 : Int32).toNatClampNeg (fun o => br (lg_cmp o b.toInt64 = 0) dn (fun _ => none))) dn) (fun _ => none))))
def dB' {ρ : Type} (f : Sg → Option (Int32 × Sg)) (h : Sg → Option (Int64 × Sg)) (dn : Sg → Option ρ) : Sg → Option ρ := cl f (fun k => cl h (fun b => cl f_X11_thrown (fun t => br (t = k) (br (k = 0) (dL 95 (0 : Int32).toNatClampNeg (fun o => br (lg_cmp o b = 0) dn (fun _ => none))) dn) (fun _ => none))))
noncomputable def dnI : Sg → Option Unit := fun σ => @ite _ (Iw σ) (Classical.propDecidable _) (some ()) none
theorem dnI_t {σ : Sg} (h : Iw σ) : dnI σ = some () := if_pos h
theorem dnI_inv {σ : Sg} {r : Unit} (h : dnI σ = some r) : Iw σ := by
  by_cases z : Iw σ
  · exact z
  · have : dnI σ = none := if_neg z
    rw [this] at h; cases h
theorem thrown_eq {τ : Sg} : f_X11_thrown τ = some (τ.1 56 0, τ) := rfl
/-- both answer alike, from any state that holds, and what holds stays -/
def AgV {α : Type} (f h : Sg → Option (α × Sg)) : Prop := (∀ g n s e m σ τ, Jr g n s e m σ τ → OkV f h σ τ) ∧ Fr gs_z f ∧ Fr gs_mod h
theorem dA_ok {α : Type} [DecidableEq α] {f h : Sg → Option (α × Sg)} (A : AgV f h) {ω : Sg} (I : Iw ω) : dA f h dnI ω = some () := by
  obtain ⟨⟨g, n, s, e, m, J⟩, Z⟩ := I
  obtain ⟨ok, ff, fh⟩ := A
  obtain ⟨v, ω1, -, e1, -⟩ := ok g n s e m ω ω J
  obtain ⟨v', σ', τ', e2, e3, j⟩ := ok g n s e m ω ω1 (J.right (z_cls ff ω _ e1))
  rw [e1] at e2
  cases e2
  have o := fh ω1 _ e3
  rw [dA, ex_cl e1, ex_cl e3, ex_bt rfl]
  exact dnI_t ⟨j.left o, (Zp.of ff Z _ e1 : Zw ω1).mod o⟩
theorem dC_ok {α : Type} {f h : Sg → Option (α × Sg)} (A : AgV f h) {ω : Sg} (I : Iw ω) : dC f h dnI ω = some () := by
  obtain ⟨⟨g, n, s, e, m, J⟩, Z⟩ := I
  obtain ⟨ok, ff, fh⟩ := A
  obtain ⟨v, ω1, -, e1, -⟩ := ok g n s e m ω ω J
  obtain ⟨v', σ', τ', e2, e3, j⟩ := ok g n s e m ω ω1 (J.right (z_cls ff ω _ e1))
  rw [e1] at e2
  cases e2
  have o := fh ω1 _ e3
  rw [dC, ex_cl e1, ex_cl e3]
  exact dnI_t ⟨j.left o, (Zp.of ff Z _ e1 : Zw ω1).mod o⟩
def AgX {α : Type} (f : Sg → Option ((α ⊕ Bool) × Sg)) (h : Sg → Option (α × Sg)) (c : Bool → Option Int32) : Prop := (∀ g n s e m σ τ, Jr g n s e m σ τ → Zw σ → OkX f h c σ τ ∧ Zp f σ) ∧ Fr gs_cls f ∧ Fr gs_mod h
theorem AgX.of {α : Type} {f : Sg → Option ((α ⊕ Bool) × Sg)} {h : Sg → Option (α × Sg)} {c : Bool → Option Int32} (ok : ∀ g n s e m σ τ, Jr g n s e m σ τ → OkX f h c σ τ) (ff : Fr gs_z f) (fh : Fr gs_mod h) : AgX f h c := ⟨fun g n s e m σ τ J z => ⟨ok g n s e m σ τ J, Zp.of ff z⟩, z_cls ff, fh⟩
/-- the law's helper: what it answers -/
def hX {α : Type} (c : Bool → Option Int32) (f : Sg → Option ((α ⊕ Bool) × Sg)) (tl : α → Int64) : Sg → Option (Int32 × Sg) := clH f (fun v => pL 95 (0 : Int32).toNatClampNeg (tl v) (rt 0)) (fun b => match c b with | some y => rt y | none => fun _ => none)
theorem lg_cmp_self (x : Int64) : lg_cmp x x = 0 := by
  unfold lg_cmp
  simp
theorem off_sL95 {σ : Sg} {v : Int64} : ∀ a b, ¬ a = 95 → (sL σ 95 (0 : Int32).toNatClampNeg v).2.1 a b = σ.2.1 a b := fun a b h => by rw [sL_gt, if_neg (fun q => h q.1)]
theorem hX_ok {α β : Type} {f : Sg → Option ((α ⊕ Bool) × Sg)} {h : Sg → Option (α × Sg)} {c : Bool → Option Int32} {tl : α → Int64} (hc : ∀ b y, c b = some y → ¬ y = 0) (A : AgX f h c) {ω : Sg} (I : Iw ω) : ∃ k ω1 b τ', hX c f tl ω = some (k, ω1) ∧ h ω1 = some (b, τ') ∧ τ'.1 56 0 = k ∧ Iw τ' ∧ (k = 0 → τ'.2.1 95 (0 : Int32).toNatClampNeg = tl b) := by
  obtain ⟨⟨g, n, s, e, m, J⟩, Z⟩ := I
  obtain ⟨ok, ff, fh⟩ := A
  obtain ⟨⟨r, ω1, -, -, e1, -⟩, zp⟩ := ok g n s e m ω ω J Z
  have z1 : Zw ω1 := zp _ e1
  have oc := ff ω _ e1
  cases r with
  | inl v =>
    have J' : Jr g n s e m ω (sL ω1 95 (0 : Int32).toNatClampNeg (tl v)) := (J.right oc).sw (fun _ _ _ => rfl) (fun _ _ _ => rfl) (fun _ _ _ _ => rfl)
    obtain ⟨⟨r', σ', b, τ', e2, e3, e4, j⟩, -⟩ := ok g n s e m ω _ J' Z
    rw [e1] at e2
    cases e2
    have o := fh _ _ e3
    obtain ⟨t0, rfl⟩ := e4
    have j2 : Jx (sL ω1 95 (0 : Int32).toNatClampNeg (tl v)) τ' := by
      obtain ⟨g', n', s', e', m', j'⟩ := j
      exact ⟨g', n', s', e', m', j'.sw (fun _ _ _ => rfl) (fun _ _ _ => rfl) (fun _ _ _ _ => rfl)⟩
    have z2 : Zw (sL ω1 95 (0 : Int32).toNatClampNeg (tl v)) := fun i hi => by rw [off_sL95 _ _ (by omega)]; exact z1 i hi
    refine ⟨0, _, v, τ', by rw [hX, clH, e1]; rfl, e3, t0, ⟨j2.left o, z2.mod o⟩, fun _ => ?_⟩
    rw [(o 95 _ rfl).2.1, sL_gt, if_pos ⟨rfl, rfl⟩]
  | inr q =>
    obtain ⟨⟨r', σ', b, τ', e2, e3, e4, j⟩, -⟩ := ok g n s e m ω ω1 (J.right oc) Z
    rw [e1] at e2
    cases e2
    have o := fh _ _ e3
    have e4 : c q = some (τ'.1 56 0) := e4
    refine ⟨τ'.1 56 0, ω1, b, τ', by rw [hX, clH, e1]; show (match c q with | some y => rt y | none => fun _ => none) ω1 = _; rw [e4]; rfl, e3, rfl, ⟨j.left o, z1.mod o⟩, fun h0 => absurd h0 (hc q _ e4)⟩
theorem cN0 : ∀ b y, cN b = some y → ¬ y = 0 := by
  intro b y h
  cases b
  · cases h; decide
  · cases h
theorem cI0 : ∀ b y, cI b = some y → ¬ y = 0 := by
  intro b y h
  cases b
  · cases h
  · cases h; decide
theorem cB0 : ∀ b y, cB b = some y → ¬ y = 0 := by
  intro b y h
  cases b
  · cases h; decide
  · cases h; decide
theorem dB_ok {f : Sg → Option ((Int32 ⊕ Bool) × Sg)} {h : Sg → Option (Int32 × Sg)} {c : Bool → Option Int32} (hc : ∀ b y, c b = some y → ¬ y = 0) (A : AgX f h c) {ω : Sg} (I : Iw ω) : dB (hX c f (fun v => v.toInt64)) h dnI ω = some () := by
  obtain ⟨k, ω1, b, τ', e1, e2, e3, i, e4⟩ := hX_ok (β := Unit) (tl := fun v : Int32 => v.toInt64) hc A I
  rw [dB, ex_cl e1, ex_cl e2, ex_cl thrown_eq, ex_bt e3]
  by_cases z : k = 0
  · rw [ex_bt z, ex_dL, e4 z, ex_bt (lg_cmp_self _)]; exact dnI_t i
  · rw [ex_bf z]; exact dnI_t i
theorem dB'_ok {f : Sg → Option ((Int64 ⊕ Bool) × Sg)} {h : Sg → Option (Int64 × Sg)} {c : Bool → Option Int32} (hc : ∀ b y, c b = some y → ¬ y = 0) (A : AgX f h c) {ω : Sg} (I : Iw ω) : dB' (hX c f (fun v => v)) h dnI ω = some () := by
  obtain ⟨k, ω1, b, τ', e1, e2, e3, i, e4⟩ := hX_ok (β := Unit) (tl := fun v : Int64 => v) hc A I
  rw [dB', ex_cl e1, ex_cl e2, ex_cl thrown_eq, ex_bt e3]
  by_cases z : k = 0
  · rw [ex_bt z, ex_dL, e4 z, ex_bt (lg_cmp_self _)]; exact dnI_t i
  · rw [ex_bf z]; exact dnI_t i
