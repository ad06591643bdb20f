-- ===== what lasts from call to call =====
def RuC (g m : Nat) (σ τ : Sg) : Prop := m ≤ 4 ∧ σ.1 (g + 3) 4 = nI m ∧ τ.1 56 7 = nI m ∧ ∀ r, r < m → ∃ a k ts, (if r = 0 then a = 0 else σ.1 (g + 5) (r - 1) = nI a) ∧ σ.1 (g + 5) r = nI (a + ts.length) ∧ a + ts.length ≤ 600 ∧ CC σ (g + 4) a ts ∧ τ.1 59 r = nI k ∧ k + 2 * ts.length < 1600 ∧ MC τ 61 k ts ∧ wfT 0 ts
def RuleOk (m : Nat) (x : Int32) : Prop := x = -1 ∨ ∃ r, r < m ∧ x = nI r
theorem Ru.mk {g m : Nat} {σ τ : Sg} (h : RuC g m σ τ) (k : RuleOk m (τ.1 56 46)) : Ru g σ τ := ⟨m, h.1, h.2.1, h.2.2.1, h.2.2.2, k⟩
theorem RuC.of {g m : Nat} {σ σ' τ τ' : Sg} (h : RuC g m σ τ) (h3 : σ'.1 (g + 3) 4 = σ.1 (g + 3) 4) (h4 : ∀ b, σ'.1 (g + 4) b = σ.1 (g + 4) b) (h5 : ∀ b, σ'.1 (g + 5) b = σ.1 (g + 5) b) (t7 : τ'.1 56 7 = τ.1 56 7) (t59 : ∀ b, τ'.1 59 b = τ.1 59 b) (t61 : ∀ b, τ'.1 61 b = τ.1 61 b) : RuC g m σ' τ' := by
  obtain ⟨k1, k2, k3, k4⟩ := h
  refine ⟨k1, h3.trans k2, t7.trans k3, fun r hr => ?_⟩
  obtain ⟨a, q, ts, b1, b2, b3, b4, b5, b6, b7, b8⟩ := k4 r hr
  exact ⟨a, q, ts, by rw [h5]; exact b1, by rw [h5]; exact b2, b3, CC.of h4 _ _ b4, by rw [t59]; exact b5, b6, MC.of t61 _ _ b7, b8⟩
def bnd (k : Nat) : Nat := if k = 0 then 99 else if k = 1 then 60 else 9
/-- an act that is kept -/
def ActR (n m : Nat) (kind who were wh was : Int32) : Prop := was = were ∧ ((kind = 3 ∧ wh = 24 ∧ RuleOk m were) ∨ (kind = 4 ∧ wh = 25 ∧ ∃ N, 1 ≤ N ∧ N ≤ 600 ∧ were = nI N) ∨ (∃ j k v, j < n ∧ k < 3 ∧ v ≤ bnd k ∧ kind = nI k ∧ who = nI j ∧ wh = nI (6 * j + 3 + k) ∧ were = nI v))
/-- a scene: the class's object q, the reference's fields and rows -/
def Sc (q n m e fr ft fa ff cj ca cp : Nat) (σ τ : Sg) : Prop := σ.1 q 1 = nI n ∧ (∀ j, j < n → ∀ k, k < 6 → τ.1 cj (6 * j + k) = σ.1 (q + 1) (6 * j + k)) ∧ JB e n (σ.1 (q + 1)) ∧ (τ.1 56 fr = σ.1 q 2 ∧ RuleOk m (σ.1 q 2)) ∧ (∃ N, 1 ≤ N ∧ N ≤ 600 ∧ σ.1 q 3 = nI N ∧ τ.1 56 ft = nI N) ∧
  (∃ a, a ≤ 40 ∧ σ.1 q 7 = nI a ∧ τ.1 56 fa = nI a ∧ ∀ i, i < a → ActR n m (σ.1 (q + 2) i) (σ.1 (q + 3) i) (σ.1 (q + 4) i) (τ.1 ca (2 * i)) (τ.1 ca (2 * i + 1))) ∧
  (∃ p, p ≤ 20 ∧ σ.1 q 9 = nI p ∧ τ.1 56 ff = nI p ∧ ∀ i, i < p → τ.1 cp i = σ.1 (q + 5) i ∧ -99 ≤ (σ.1 (q + 5) i).toInt ∧ (σ.1 (q + 5) i).toInt ≤ 99)
theorem Sc.of {q n m e fr ft fa ff cj ca cp : Nat} {σ σ' τ τ' : Sg} (h : Sc q n m e fr ft fa ff cj ca cp σ τ) (hs : ∀ a b, q ≤ a → a ≤ q + 5 → σ'.1 a b = σ.1 a b) (h1 : τ'.1 56 fr = τ.1 56 fr) (h2 : τ'.1 56 ft = τ.1 56 ft) (h3 : τ'.1 56 fa = τ.1 56 fa) (h4 : τ'.1 56 ff = τ.1 56 ff) (h5 : ∀ b, τ'.1 cj b = τ.1 cj b) (h6 : ∀ b, τ'.1 ca b = τ.1 ca b) (h7 : ∀ b, τ'.1 cp b = τ.1 cp b) : Sc q n m e fr ft fa ff cj ca cp σ' τ' := by
  have s0 : ∀ b, σ'.1 q b = σ.1 q b := fun b => hs q b (by omega) (by omega)
  have s1 : ∀ b, σ'.1 (q + 1) b = σ.1 (q + 1) b := fun b => hs _ b (by omega) (by omega)
  have s2 : ∀ b, σ'.1 (q + 2) b = σ.1 (q + 2) b := fun b => hs _ b (by omega) (by omega)
  have s3 : ∀ b, σ'.1 (q + 3) b = σ.1 (q + 3) b := fun b => hs _ b (by omega) (by omega)
  have s4 : ∀ b, σ'.1 (q + 4) b = σ.1 (q + 4) b := fun b => hs _ b (by omega) (by omega)
  have s5 : ∀ b, σ'.1 (q + 5) b = σ.1 (q + 5) b := fun b => hs _ b (by omega) (by omega)
  unfold Sc JB
  simp only [s0, s1, s2, s3, s4, s5, h1, h2, h3, h4, h5, h6, h7]
  exact h
/-- a byte of the tape, as the class has it -/
def byt (v : Nat) : Int32 := if v < 128 then nI v else nI v - 256
def Tp (σ τ : Sg) : Prop := ∃ l, l ≤ 600 ∧ σ.1 0 1 = nI l ∧ τ.1 56 15 = nI l ∧ ∀ i, i < l → ∃ v, v < 256 ∧ τ.1 62 i = nI v ∧ σ.1 1 i = byt v
def Ft (σ τ : Sg) : Prop := τ.1 56 17 = σ.1 0 2 ∧ τ.1 63 0 = σ.1 0 3 ∧ τ.1 63 1 = σ.1 0 4 ∧ τ.1 63 2 = σ.1 0 5
def Pu (g n : Nat) (σ τ : Sg) : Prop := σ.1 g 9 = nI n ∧ ∃ p, p ≤ 8 ∧ σ.1 g 11 = nI p ∧ τ.1 56 8 = nI p ∧ ∀ i, i < p → ∃ v, 1 ≤ v ∧ v ≤ 99 ∧ σ.1 (g + 2) i = nI v ∧ τ.1 60 i = nI v
def Sl (g : Nat) (σ τ : Sg) : Prop := ∃ a b c, a ≤ 9 ∧ b ≤ 9 ∧ c ≤ 9 ∧ 0 < a + b + c ∧ σ.1 g 5 = nI a ∧ σ.1 g 6 = nI b ∧ σ.1 g 7 = nI c ∧ τ.1 57 0 = nI a ∧ τ.1 57 1 = nI b ∧ τ.1 57 2 = nI c
def Jr (g n s e m : Nat) (σ τ : Sg) : Prop := Gd g n s e σ τ ∧ RuC g m σ τ ∧ Sc 2 n m e 46 47 48 80 58 71 90 σ τ ∧ (τ.1 56 83 = σ.1 0 9 ∧ (σ.1 0 9 = 0 ∨ (σ.1 0 9 = 1 ∧ Sc 8 n m e 84 85 86 87 92 93 94 σ τ))) ∧ Tp σ τ ∧ Ft σ τ ∧ (∀ j, j < 4 → σ.1 (fl j) 0 = nI j) ∧ (σ.2.2 0 6 = g ∧ ∃ g', isGd g' = true ∧ ¬ g' = g ∧ σ.2.2 14 1 = g') ∧ Pu g n σ τ ∧ Sl g σ τ
def Jx (σ τ : Sg) : Prop := ∃ g n s e m, Jr g n s e m σ τ
/-- what is free in the class, in the reference -/
def gs_fc (i _ : Nat) : Bool := (Nat.ble 15 i && Nat.ble i 34) || (i == 41 || (i == 48 || i == 55))
def gs_fm (i k : Nat) : Bool := (i == 56 && (k == 0 || (k == 16 || ((Nat.ble 19 k && Nat.ble k 38) || (Nat.ble 64 k && Nat.ble k 79))))) || ((Nat.ble 64 i && Nat.ble i 70) || ((Nat.ble 72 i && Nat.ble i 89) || i == 91))
theorem fc_play : ∀ i k, gs_play i k = true → gs_fc i k = true := by
  intro i k h
  simp only [gs_play, gs_fc, Bool.and_eq_true, Bool.or_eq_true, Nat.ble_eq, beq_iff_eq] at h ⊢ <;> omega
theorem fc_egg : ∀ i k, gs_egg i k = true → gs_fc i k = true := by
  intro i k h
  simp only [gs_egg, gs_fc, Bool.and_eq_true, Bool.or_eq_true, Nat.ble_eq, beq_iff_eq] at h ⊢ <;> omega
theorem fc_wan : ∀ i k, gs_wan i k = true → gs_fc i k = true := by
  intro i k h
  simp only [gs_wan, gs_fc, Bool.and_eq_true, Bool.or_eq_true, Nat.ble_eq, beq_iff_eq] at h ⊢ <;> omega
theorem fc_none : ∀ i k, gs_none i k = true → gs_fc i k = true := by
  intro i k h
  cases h
theorem fm_run : ∀ i k, gs_mrun i k = true → gs_fm i k = true := by
  intro i k h
  simp only [gs_mrun, gs_fm, Bool.and_eq_true, Bool.or_eq_true, Nat.ble_eq, beq_iff_eq] at h ⊢ <;> omega
theorem fm_runT : ∀ i k, gs_mrunT i k = true → gs_fm i k = true := by
  intro i k h
  simp only [gs_mrunT, gs_fm, Bool.and_eq_true, Bool.or_eq_true, Nat.ble_eq, beq_iff_eq] at h ⊢ <;> omega
theorem fm_runS : ∀ i k, gs_mrunS i k = true → gs_fm i k = true := by
  intro i k h
  simp only [gs_mrunS, gs_fm, Bool.and_eq_true, Bool.or_eq_true, Nat.ble_eq, beq_iff_eq] at h ⊢ <;> omega
theorem fm_th : ∀ i k, gs_mth i k = true → gs_fm i k = true := by
  intro i k h
  simp only [gs_mth, gs_fm, Bool.and_eq_true, Bool.or_eq_true, Nat.ble_eq, beq_iff_eq] at h ⊢ <;> omega
theorem fm_wanT : ∀ i k, gs_mwanT i k = true → gs_fm i k = true := by
  intro i k h
  simp only [gs_mwanT, gs_fm, Bool.and_eq_true, Bool.or_eq_true, Nat.ble_eq, beq_iff_eq] at h ⊢ <;> omega
theorem fm_eggT : ∀ i k, gs_meggT i k = true → gs_fm i k = true := by
  intro i k h
  simp only [gs_meggT, gs_fm, Bool.and_eq_true, Bool.or_eq_true, Nat.ble_eq, beq_iff_eq] at h ⊢ <;> omega
theorem Jr.frame {g n s e m : Nat} {σ σ' τ τ' : Sg} (J : Jr g n s e m σ τ) (h : off gs_fc σ σ') (k : off gs_fm τ τ') (hme : ∀ j, j < 4 → σ'.1 (fl j) 0 = nI j) : Jr g n s e m σ' τ' := by
  obtain ⟨jG, jR, jS, jP, jT, jF, jM, jO, jU, jL⟩ := J
  have hg := or3 jG.1
  have c : ∀ a b, gs_fc a b = false → σ'.1 a b = σ.1 a b := fun a b q => (h a b q).1
  have cg : ∀ d b, d ≤ 5 → σ'.1 (g + d) b = σ.1 (g + d) b := fun d b hd => c _ _ (by
    rcases (by omega : d = 0 ∨ d = 1 ∨ d = 2 ∨ d = 3 ∨ d = 4 ∨ d = 5) with rfl | rfl | rfl | rfl | rfl | rfl <;> rcases hg with rfl | rfl | rfl <;> rfl)
  have cg0 : ∀ b, σ'.1 g b = σ.1 g b := fun b => cg 0 b (by omega)
  have c0 : ∀ b, σ'.1 0 b = σ.1 0 b := fun b => c _ _ rfl
  have c1 : ∀ b, σ'.1 1 b = σ.1 1 b := fun b => c _ _ rfl
  have cs : ∀ a b, a ≤ 14 → σ'.1 a b = σ.1 a b := fun a b ha => c _ _ (by
    simp only [gs_fc, Bool.or_eq_false_iff, Bool.and_eq_false_iff, beq_eq_false_iff_ne, ne_eq]
    exact ⟨Or.inl (by rw [← Bool.not_eq_true, Nat.ble_eq]; omega), by omega, by omega, by omega⟩)
  have t : ∀ a b, gs_fm a b = false → τ'.1 a b = τ.1 a b := fun a b q => (k a b q).1
  have t57 : ∀ b, τ'.1 57 b = τ.1 57 b := fun b => t _ _ rfl
  have t58 : ∀ b, τ'.1 58 b = τ.1 58 b := fun b => t _ _ rfl
  have t59 : ∀ b, τ'.1 59 b = τ.1 59 b := fun b => t _ _ rfl
  have t60 : ∀ b, τ'.1 60 b = τ.1 60 b := fun b => t _ _ rfl
  have t61 : ∀ b, τ'.1 61 b = τ.1 61 b := fun b => t _ _ rfl
  have t62 : ∀ b, τ'.1 62 b = τ.1 62 b := fun b => t _ _ rfl
  have t63 : ∀ b, τ'.1 63 b = τ.1 63 b := fun b => t _ _ rfl
  have t71 : ∀ b, τ'.1 71 b = τ.1 71 b := fun b => t _ _ rfl
  have t90 : ∀ b, τ'.1 90 b = τ.1 90 b := fun b => t _ _ rfl
  have t92 : ∀ b, τ'.1 92 b = τ.1 92 b := fun b => t _ _ rfl
  have t93 : ∀ b, τ'.1 93 b = τ.1 93 b := fun b => t _ _ rfl
  have t94 : ∀ b, τ'.1 94 b = τ.1 94 b := fun b => t _ _ rfl
  have r : σ'.2.2 0 6 = σ.2.2 0 6 := (h 0 6 rfl).2.2
  have r' : σ'.2.2 14 1 = σ.2.2 14 1 := (h 14 1 rfl).2.2
  refine ⟨jG.of cg0 (fun b b1 b2 => ?_), jR.of (cg 3 4 (by omega)) (fun b => cg 4 b (by omega)) (fun b => cg 5 b (by omega)) (t _ _ rfl) t59 t61, jS.of (fun a b a1 a2 => cs a b (by omega)) (t _ _ rfl) (t _ _ rfl) (t _ _ rfl) (t _ _ rfl) t58 t71 t90, ⟨by rw [c0, t 56 83 rfl]; exact jP.1, ?_⟩, ?_, ?_, hme, ⟨by rw [r]; exact jO.1, by rw [r']; exact jO.2⟩, ?_, ?_⟩
  · rcases (by omega : b = 1 ∨ b = 2 ∨ b = 3 ∨ b = 4 ∨ b = 5 ∨ b = 6) with rfl | rfl | rfl | rfl | rfl | rfl <;> exact t _ _ rfl
  · rw [c0]
    rcases jP.2 with q | ⟨q, w⟩
    · exact Or.inl q
    · exact Or.inr ⟨q, w.of (fun a b a1 a2 => cs a b (by omega)) (t _ _ rfl) (t _ _ rfl) (t _ _ rfl) (t _ _ rfl) t92 t93 t94⟩
  · unfold Tp
    simp only [c0, c1, t62, t 56 15 rfl]; exact jT
  · unfold Ft
    simp only [c0, t63, t 56 17 rfl]; exact jF
  · unfold Pu
    simp only [cg0, cg 2 _ (show 2 ≤ 5 by omega), t60, t 56 8 rfl]; exact jU
  · unfold Sl
    simp only [cg0, t57]; exact jL
theorem Jr.none {g n s e m : Nat} {σ τ τ' : Sg} (J : Jr g n s e m σ τ) (k : off gs_fm τ τ') : Jr g n s e m σ τ' := J.frame off_rfl k J.2.2.2.2.2.2.1
/-- the class is ready for a run; what is changed ahead of it stands in K, r -/
theorem run_mod {g n s e m N : Nat} {A : Nat → Bool} {K : Nat → Int32} {r x : Int32} {σ σ1 τ τ1 : Sg} (J : Jr g n s e m σ τ) (hσ : off gs_play σ σ1) (hB : BgA g n A K r σ1) (hK : JB e n K) (hr : RuleOk m r) (h46 : τ1.1 56 46 = r) (ht : ∀ b, 1 ≤ b → b ≤ 7 → τ1.1 56 b = τ.1 56 b) (t59 : ∀ b, τ1.1 59 b = τ.1 59 b) (t61 : ∀ b, τ1.1 61 b = τ.1 61 b) (h58 : ∀ j, j < n → ∀ k, k < 6 → τ1.1 58 (6 * j + k) = K (6 * j + k)) (hx : ∀ j, j < n → bitB x j = A j) (hN : N ≤ 600) (h47 : τ1.1 56 47 = nI N) : ∃ (S : Nat → Sg) (τ' : Sg), S 0 = σ1 ∧ Chain 0 N S ∧ f_X11_runs x τ1 = some ((), τ') ∧ Iv g n s e N (S N) τ' ∧ (∀ k, k < N → ∀ j, j < n → ∃ v, f_X1_heightIn (fl j) (nI k) (S (k + 1)) = some (v, S (k + 1)) ∧ τ'.1 84 (600 * j + k) = v) ∧ off gs_mrun τ1 τ' ∧ (∀ k, k ≤ N → off gs_play σ (S k)) ∧ (∀ k, k ≤ N → ∀ j, j < 4 → (S k).1 (fl j) 0 = nI j) := by
  obtain ⟨jG, jR, -⟩ := J
  have hg := or3 jG.1
  have cg : ∀ d b, d ≤ 5 → σ1.1 (g + d) b = σ.1 (g + d) b := fun d b hd => (hσ _ _ (by
    rcases (by omega : d = 0 ∨ d = 1 ∨ d = 2 ∨ d = 3 ∨ d = 4 ∨ d = 5) with rfl | rfl | rfl | rfl | rfl | rfl <;> rcases hg with rfl | rfl | rfl <;> rfl)).1
  have G1 : Gd g n s e σ1 τ1 := jG.of (fun b => cg 0 b (by omega)) (fun b b1 b2 => ht b b1 (by omega))
  have U1 : Ru g σ1 τ1 := Ru.mk (jR.of (cg 3 4 (by omega)) (fun b => cg 4 b (by omega)) (fun b => cg 5 b (by omega)) (ht 7 (by omega) (by omega)) t59 t61) (by rw [h46]; exact hr)
  obtain ⟨S, τ', a1, a2, a3, a4, a5, a6, a7, a8⟩ := play_rel G1 U1 hB hK h46 h58 hx hN h47
  exact ⟨S, τ', a1, a2, a3, a4, a5, a6, fun k hk => off_trans hσ (a7 k hk), a8⟩
theorem Jr.prep {g n s e m : Nat} {σ τ : Sg} (J : Jr g n s e m σ τ) : ∃ σ1, f_X10_prepare σ = some ((), σ1) ∧ BgA g n (fun _ => true) (σ.1 3) (σ.1 2 2) σ1 ∧ off gs_play σ σ1 := by
  obtain ⟨jG, jR, jS, jP, jT, jF, jM, jO, jU, jL⟩ := J
  obtain ⟨σ1, a1, a2, a3⟩ := prepare_eq jG.1 jO.1 jM jS.1 jG.2.1
  exact ⟨σ1, a1, a2.all, a3⟩
theorem Iv.me {g n s e t : Nat} {σ τ : Sg} (I : Iv g n s e t σ τ) : ∀ j, j < 4 → σ.1 (fl j) 0 = nI j := by
  obtain ⟨L, c, R, -⟩ := I
  exact R.1.2.2.1
/-- the run as it is -/
theorem Jr.playAll {g n s e m : Nat} {σ τ : Sg} (J : Jr g n s e m σ τ) : ∃ (N : Nat) (S : Nat → Sg) (τ' : Sg), 1 ≤ N ∧ N ≤ 600 ∧ σ.1 2 3 = nI N ∧ τ.1 56 47 = nI N ∧ f_X10_prepare σ = some ((), S 0) ∧ Chain 0 N S ∧ f_X10_playAll σ = some ((), S N) ∧ f_X11_runsAll τ = some ((), τ') ∧ Iv g n s e N (S N) τ' ∧ (∀ k, k < N → ∀ j, j < n → ∃ v, f_X1_heightIn (fl j) (nI k) (S (k + 1)) = some (v, S (k + 1)) ∧ τ'.1 84 (600 * j + k) = v) ∧ off gs_mrun τ τ' ∧ (∀ k, k ≤ N → off gs_play σ (S k)) ∧ (∀ k, k ≤ N → ∀ j, j < 4 → (S k).1 (fl j) 0 = nI j) := by
  obtain ⟨σ1, a1, a2, a3⟩ := J.prep
  obtain ⟨jG, jR, ⟨s1, s2, s3, s4, ⟨N, n1, n2, n3, n4⟩, s6⟩, j⟩ := id J
  obtain ⟨S, τ', b1, b2, b3, b4, b5, b6, b7, b8⟩ := run_mod (x := ((1 : Int32) <<< (nI n &&& 31)) - 1) J a3 a2 s3 s4.2 s4.1 (fun _ _ _ => rfl) (fun _ => rfl) (fun _ => rfl) s2 (fun j hj => bit_all jG.2.1 hj) n2 n4
  have e3 : σ1.1 2 3 = nI N := by rw [(a3 2 3 rfl).1]; exact n3
  refine ⟨N, S, τ', n1, n2, n3, n4, by rw [b1]; exact a1, b2, ?_, ?_, b4, b5, b6, b7, b8⟩
  · have := go_to b2 (Nat.le_refl N) n2
    rw [b1] at this
    rw [f_X10_playAll, ex_cl a1, ex_dI, e3, ex_cl this, ex_rt]
  · rw [f_X11_runsAll, ex_cl (all_eq jG.2.2.1), ex_cl b3, ex_rt]
