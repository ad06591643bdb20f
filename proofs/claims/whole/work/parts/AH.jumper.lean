-- ===== the line of a jumper =====
def up1 (w : Nat → Int32) (k : Nat) (v : Int32) : Nat → Int32 := fun i => if i = k then v else w i
theorem up1_eq {w : Nat → Int32} {k : Nat} {v : Int32} : up1 w k v k = v := if_pos rfl
theorem up1_ne {w : Nat → Int32} {k i : Nat} {v : Int32} (h : ¬ i = k) : up1 w k v i = w i := if_neg h
def JL (B : Nat → Nat) (n g nj p : Nat) (w w' : Nat → Int32) (σ0 τ0 σ τ : Sg) : Prop := LK B n g p σ τ ∧ σ.1 g 9 = nI (nj + 1) ∧ (∀ k, k < 6 → σ.1 (g + 1) (6 * nj + k) = w k) ∧ (∀ k, k < 6 → τ.1 65 (6 * nj + k) = w' k) ∧ (∀ a b, ¬ a = 15 → ¬ (a = 14 ∧ b = 3) → ¬ (a = g ∧ b = 9) → ¬ (a = g + 1 ∧ 6 * nj ≤ b) → σ.1 a b = σ0.1 a b) ∧ σ.2 = σ0.2 ∧ (∀ a b, ¬ (a = 56 ∧ 20 ≤ b ∧ b ≤ 26) → ¬ (a = 65 ∧ 6 * nj ≤ b) → τ.1 a b = τ0.1 a b)
theorem JL.sm {B : Nat → Nat} {n g nj p p' : Nat} {w w' : Nat → Int32} {σ0 τ0 σ τ σ' τ' : Sg} (hg : isGd g = true) (J : JL B n g nj p w w' σ0 τ0 σ τ) (L : LK B n g p' σ' τ') (S : Sm σ τ σ' τ') : JL B n g nj p' w w' σ0 τ0 σ' τ' := by
  obtain ⟨-, j1, j2, j3, j4, j5, j6⟩ := J
  have g1 : ∀ b, σ'.1 (g + 1) b = σ.1 (g + 1) b := fun b => S.1 _ _ (gd_ne hg (by omega) (by omega)) (fun q => gd_ne hg (by omega) (by omega) q.1)
  refine ⟨L, ?_, fun k hk => (g1 _).trans (j2 k hk), fun k hk => (S.2.2 _ _ (by omega)).trans (j3 k hk), fun a b h1 h2 h3 h4 => (S.1 _ _ h1 h2).trans (j4 a b h1 h2 h3 h4), S.2.1.trans j5, fun a b h1 h2 => (S.2.2 _ _ h1).trans (j6 a b h1 h2)⟩
  rw [S.1 _ _ (gd_0 hg (by omega)) (fun q => gd_0 hg (by omega) q.1)]; exact j1
theorem JL.wC {B : Nat → Nat} {n g nj p k : Nat} {v : Int32} {w w' : Nat → Int32} {σ0 τ0 σ τ : Sg} (hg : isGd g = true) (J : JL B n g nj p w w' σ0 τ0 σ τ) : JL B n g nj p (up1 w k v) w' σ0 τ0 (sI σ (g + 1) (6 * nj + k) v) τ := by
  obtain ⟨⟨K, M, r, h0⟩, j1, j2, j3, j4, j5, j6⟩ := J
  have ne : ∀ c, c < 35 → ¬ c = g + 1 := fun c hc q => gd_ne (d := 1) hg (by omega) hc q.symm
  refine ⟨⟨K.of (fun b => sI_ne (ne 15 (by omega))) rfl (fun b => sI_ne (ne 1 (by omega))), M, r, h0⟩, by rw [sI_ne (by omega)]; exact j1, fun i hi => ?_, j3, fun a b h1 h2 h3 h4 => ?_, j5, j6⟩
  · by_cases z : i = k
    · subst z; rw [sI_eq, up1_eq]
    · rw [sI_nf (by omega), up1_ne z]; exact j2 i hi
  · rw [sI_gt, if_neg (by omega)]; exact j4 a b h1 h2 h3 h4
theorem JL.wM {B : Nat → Nat} {n g nj p k : Nat} {v : Int32} {w w' : Nat → Int32} {σ0 τ0 σ τ : Sg} (J : JL B n g nj p w w' σ0 τ0 σ τ) : JL B n g nj p w (up1 w' k v) σ0 τ0 σ (sI τ 65 (6 * nj + k) v) := by
  obtain ⟨⟨K, M, r, h0⟩, j1, j2, j3, j4, j5, j6⟩ := J
  refine ⟨⟨K, M.of (fun b _ _ => sI_ne (by omega)) (fun b => sI_ne (by omega)) rfl, r, by rw [sI_ne (by omega)]; exact h0⟩, j1, j2, fun i hi => ?_, j4, j5, fun a b h1 h2 => ?_⟩
  · by_cases z : i = k
    · subst z; rw [sI_eq, up1_eq]
    · rw [sI_nf (by omega), up1_ne z]; exact j3 i hi
  · rw [sI_gt, if_neg (by omega)]; exact j6 a b h1 h2
theorem ofLast {g nj k : Nat} {x v : Int32} {σ : Sg} (hg : isGd g = true) (h9 : σ.1 g 9 = nI (nj + 1)) (hn : nj < 4) (hk : k < 6) (hx : nI k = x) : f_X2_tellOfLast g x v σ = some ((), sI σ (g + 1) (6 * nj + k) v) := by
  subst hx
  have e : (nI (nj + 1) - 1) * 6 + nI k = nI (6 * nj + k) := by rw [nI_pred, nI_mulR (x := 6) (k := 6) rfl, nI_add, Nat.mul_comm]
  rw [f_X2_tellOfLast, ex_gd hg, ex_dI, h9, ex_lt, e, ex_bf (nI_pos (by omega)), ex_bf (fun q => by have := (nI_leL (x := 24) (k := 24) rfl (by omega) (by omega)).mp q; omega), ex_gd (inb_nI (by omega) (by omega)), ex_pI, nI_clamp (by omega), ex_rt]
theorem jnum {B : Nat → Nat} {n g nj p k lo hi : Nat} {x x1 x2 : Int32} {w w' : Nat → Int32} {σ0 τ0 σ τ : Sg} (hn : n ≤ 600) (hB : ∀ i, i < n → B i < 256) (hg : isGd g = true) (hp : p ≤ n) (hj : nj < 4) (J : JL B n g nj p w w' σ0 τ0 σ τ) (hk : k < 6) (hx : nI k = x) (h1 : nI lo = x1) (h2 : nI hi = x2) (hl : lo ≤ hi) (hh : hi < 10000) :
    (∃ σ' τ' v p', f_X8_numberOfLast x x1 x2 σ = some (1, σ') ∧ f_X11_number x1 x2 τ = some (nI v, τ') ∧ JL B n g nj p' (up1 w k (nI v)) (up1 w' k (nI v)) σ0 τ0 σ' (sI τ' 65 (6 * nj + k) (nI v)) ∧ lo ≤ v ∧ v ≤ hi ∧ p < p' ∧ p' ≤ n) ∨ (∃ σ' τ' v, f_X8_numberOfLast x x1 x2 σ = some (0, σ') ∧ f_X11_number x1 x2 τ = some (v, τ') ∧ Bd σ' τ') := by
  rcases num_rel hn hB hp J.1 h1 h2 hl hh with ⟨σ2, τ2, v, p', d1, d2, L2, d3, d4, d5, d6, d7, d8⟩ | ⟨σ2, τ2, v, d1, d2, d3⟩
  · have J2 := J.sm hg L2 d6
    refine Or.inl ⟨_, τ2, v, p', ?_, d2, (J2.wC (k := k) (v := nI v) hg).wM (k := k) (v := nI v), d4, d5, d7, d8⟩
    rw [f_X8_numberOfLast, ex_cl d1, ex_bf l1_0, ex_dR, L2.2.2.1, ex_gd hg, ex_dI, d3, ex_cl (ofLast hg J2.2.1 hj hk hx), ex_rt]
  · exact Or.inr ⟨σ2, τ2, v, by rw [f_X8_numberOfLast, ex_cl d1, ex_bt rfl, ex_rt], d2, d3⟩
-- the reference, piece by piece
def rj5 (v3 : Int32) : Sg → Option (Unit × Sg) := gd (inb ((6 * v3) + 5) 24 = true) (pI 65 ((6 * v3) + 5).toNatClampNeg 0 (cl (f_X11_isGood) (fun r10 => br (r10 = 0) (f_X11_readsJumper_b151) (cl (f_X11_knownWord) (fun r12 => br (r12 = 14) (cl (f_X11_goes) (fun _ => cl (f_X11_number 0 9) (fun r14 => gd (inb ((6 * v3) + 5) 24 = true) (pI 65 ((6 * v3) + 5).toNatClampNeg r14 (f_X11_readsJumper_b151))))) (f_X11_readsJumper_b151))))))
def rj4 (v3 : Int32) : Sg → Option (Unit × Sg) := cl (f_X11_number 0 60) (fun r9 => gd (inb ((6 * v3) + 4) 24 = true) (pI 65 ((6 * v3) + 4).toNatClampNeg r9 (rj5 v3)))
def rj3 (v3 : Int32) : Sg → Option (Unit × Sg) := cl (f_X11_number 0 99) (fun r8 => gd (inb ((6 * v3) + 3) 24 = true) (pI 65 ((6 * v3) + 3).toNatClampNeg r8 (rj4 v3)))
def rj2 (v3 : Int32) : Sg → Option (Unit × Sg) := dI 56 28 (fun v6 => cl (f_X11_signed v6) (fun r7 => gd (inb ((6 * v3) + 2) 24 = true) (pI 65 ((6 * v3) + 2).toNatClampNeg r7 (rj3 v3))))
def rj1 (v3 : Int32) : Sg → Option (Unit × Sg) := cl (f_X11_number 0 30) (fun r5 => gd (inb ((6 * v3) + 1) 24 = true) (pI 65 ((6 * v3) + 1).toNatClampNeg r5 (rj2 v3)))
def rj0 (v3 : Int32) : Sg → Option (Unit × Sg) := cl (f_X11_number 1 99) (fun r4 => gd (inb (6 * v3) 24 = true) (pI 65 (6 * v3).toNatClampNeg r4 (rj1 v3)))
theorem rj_eq : f_X11_readsJumper_b13 = cl (f_X11_isGood) (fun r1 => br (r1 = 0) (rt ()) (cl (f_X11_goes) (fun _ => dI 56 32 (fun v3 => rj0 v3)))) := rfl
theorem rj_put {α : Type} {nj k : Nat} {x v : Int32} {d : Sg → Option α} {τ : Sg} (hx : nI k = x) (hn : nj < 4) (hk : k < 6) : (gd (inb ((6 * nI nj) + x) 24 = true) (pI 65 ((6 * nI nj) + x).toNatClampNeg v d)) τ = d (sI τ 65 (6 * nj + k) v) := by
  subst hx
  have e : 6 * nI nj + nI k = nI (6 * nj + k) := nI_l6 rfl nj
  rw [e, ex_gd (inb_nI (by omega) (by omega)), ex_pI, nI_clamp (by omega)]
theorem rj_put0 {α : Type} {nj : Nat} {v : Int32} {d : Sg → Option α} {τ : Sg} (hn : nj < 4) : (gd (inb (6 * nI nj) 24 = true) (pI 65 (6 * nI nj).toNatClampNeg v d)) τ = d (sI τ 65 (6 * nj + 0) v) := by
  have e : 6 * nI nj = nI (6 * nj) := nI_mulL (x := 6) (k := 6) rfl nj
  rw [e, ex_gd (inb_nI (by omega) (by omega)), ex_pI, nI_clamp (by omega)]
  rfl
theorem rj151_bad {τ : Sg} (h : ¬ τ.1 56 16 = 0) : f_X11_readsJumper_b151 τ = some ((), τ) := by rw [f_X11_readsJumper_b151, ex_cl (good0 h), ex_bt rfl, ex_rt]
theorem rj5_bad {nj : Nat} {σ τ : Sg} (hn : nj < 4) (h : Bd σ τ) : ∃ τ', rj5 (nI nj) τ = some ((), τ') ∧ Bd σ τ' := by
  have b := bd_sI (a := 65) (b := 6 * nj + 5) (v := 0) h (by omega)
  exact ⟨_, by rw [rj5, rj_put (k := 5) (x := 5) rfl hn (by omega), ex_cl (good0 b.bad), ex_bt rfl, rj151_bad b.bad], b⟩
theorem rj4_bad {nj : Nat} {σ τ : Sg} (hn : nj < 4) (h : Bd σ τ) : ∃ τ', rj4 (nI nj) τ = some ((), τ') ∧ Bd σ τ' := by
  obtain ⟨τ', e, b⟩ := rj5_bad hn (bd_sI (a := 65) (b := 6 * nj + 4) (v := 0) h (by omega))
  exact ⟨τ', by rw [rj4, ex_cl (num_bad h.bad), rj_put (k := 4) (x := 4) rfl hn (by omega)]; exact e, b⟩
theorem rj3_bad {nj : Nat} {σ τ : Sg} (hn : nj < 4) (h : Bd σ τ) : ∃ τ', rj3 (nI nj) τ = some ((), τ') ∧ Bd σ τ' := by
  obtain ⟨τ', e, b⟩ := rj4_bad hn (bd_sI (a := 65) (b := 6 * nj + 3) (v := 0) h (by omega))
  exact ⟨τ', by rw [rj3, ex_cl (num_bad h.bad), rj_put (k := 3) (x := 3) rfl hn (by omega)]; exact e, b⟩
theorem rj2_bad {nj : Nat} {σ τ : Sg} (hn : nj < 4) (h : Bd σ τ) : ∃ τ', rj2 (nI nj) τ = some ((), τ') ∧ Bd σ τ' := by
  obtain ⟨τ', e, b⟩ := rj3_bad hn (bd_sI (a := 65) (b := 6 * nj + 2) (v := 0) h (by omega))
  exact ⟨τ', by rw [rj2, ex_dI, ex_cl (sgd_bad h.bad), rj_put (k := 2) (x := 2) rfl hn (by omega)]; exact e, b⟩
theorem rj1_bad {nj : Nat} {σ τ : Sg} (hn : nj < 4) (h : Bd σ τ) : ∃ τ', rj1 (nI nj) τ = some ((), τ') ∧ Bd σ τ' := by
  obtain ⟨τ', e, b⟩ := rj2_bad hn (bd_sI (a := 65) (b := 6 * nj + 1) (v := 0) h (by omega))
  exact ⟨τ', by rw [rj1, ex_cl (num_bad h.bad), rj_put (k := 1) (x := 1) rfl hn (by omega)]; exact e, b⟩
theorem JL.done {B : Nat → Nat} {n g nj e m a0 k0 u p p' : Nat} {w w' : Nat → Int32} {σ0 τ0 σ τ : Sg} (hg : isGd g = true) (hj : nj < 4) (N : LN B n g nj e 1 m a0 k0 u p σ0 τ0) (J : JL B n g nj p' w w' σ0 τ0 σ τ) (hw : ∀ k, k < 6 → w' k = w k) (b0 : ∃ v, 1 ≤ v ∧ v ≤ 99 ∧ w 0 = nI v) (b1 : ∃ v, v ≤ 30 ∧ w 1 = nI v) (b2 : -(e : Int) ≤ (w 2).toInt ∧ (w 2).toInt ≤ e) (b3 : ∃ v, v ≤ 99 ∧ w 3 = nI v) (b4 : ∃ v, v ≤ 60 ∧ w 4 = nI v) (b5 : ∃ v, v ≤ 9 ∧ w 5 = nI v) : ∃ τ', f_X11_readsJumper_b151 τ = some ((), τ') ∧ LN B n g (nj + 1) e 1 m a0 k0 u p' σ τ' := by
  obtain ⟨⟨K, M, r, h0⟩, j1, j2, j3, j4, j5, j6⟩ := J
  obtain ⟨-, G, R, s0, s1, s2⟩ := N
  have t32 : τ.1 56 32 = nI nj := (j6 _ _ (by omega) (by omega)).trans G.1.2.2
  have tq : ∀ {a b : Nat}, ¬ (a = 56 ∧ 20 ≤ b ∧ b ≤ 26) → ¬ (a = 65 ∧ 6 * nj ≤ b) → ¬ (a = 56 ∧ b = 32) → (sI τ 56 32 (nI (nj + 1))).1 a b = τ0.1 a b := fun h1 h2 h3 => by
    rw [sI_gt, if_neg h3]; exact j6 _ _ h1 h2
  have cq : ∀ d b, d ≤ 6 → ¬ (d = 0 ∧ b = 9) → ¬ (d = 1 ∧ 6 * nj ≤ b) → σ.1 (g + d) b = σ0.1 (g + d) b := fun d b hd h1 h2 => j4 _ _ (gd_ne hg hd (by omega)) (fun q => gd_ne hg hd (by omega) q.1) (by omega) (by omega)
  have c0 : ∀ b, ¬ b = 9 → σ.1 g b = σ0.1 g b := fun b hb => cq 0 b (by omega) (by omega) (by omega)
  refine ⟨sI τ 56 32 (nI (nj + 1)), by rw [f_X11_readsJumper_b151, ex_cl (good1 h0), ex_bf l1_0, ex_dI, t32, ex_pI, nI_1, ex_rt], ⟨K, M.of (fun b h1 h2 => sI_nf (by omega)) (fun b => sI_ne (by omega)) rfl, r, by rw [sI_nf (by omega)]; exact h0⟩, ?_, R.of (fun d b h1 h2 => cq d b (by omega) (by omega) (by omega)) (tq (by omega) (by omega) (by omega)) (tq (by omega) (by omega) (by omega)) (fun b => tq (by omega) (by omega) (by omega)) (fun b => tq (by omega) (by omega) (by omega)), s0, ?_, (tq (by omega) (by omega) (by omega)).trans s2⟩
  · obtain ⟨G1, G2, G3, G4, G5, G6, G7, G8, G9⟩ := G
    have c2 : σ.1 (g + 2) = σ0.1 (g + 2) := funext (fun b => cq 2 b (by omega) (by omega) (by omega))
    have t7 : (sI τ 56 32 (nI (nj + 1))).1 67 = τ0.1 67 := funext (fun b => tq (by omega) (by omega) (by omega))
    unfold GN
    rw [c0 0 (by omega), c0 1 (by omega), c0 2 (by omega), c0 3 (by omega), c0 4 (by omega), c0 5 (by omega), c0 6 (by omega), c0 7 (by omega), c0 11 (by omega), c2, t7, tq (a := 56) (b := 27) (by omega) (by omega) (by omega), tq (a := 56) (b := 28) (by omega) (by omega) (by omega), tq (a := 56) (b := 29) (by omega) (by omega) (by omega), tq (a := 56) (b := 30) (by omega) (by omega) (by omega), tq (a := 56) (b := 31) (by omega) (by omega) (by omega), tq (a := 56) (b := 34) (by omega) (by omega) (by omega), tq (a := 64) (b := 0) (by omega) (by omega) (by omega), tq (a := 64) (b := 1) (by omega) (by omega) (by omega), tq (a := 64) (b := 2) (by omega) (by omega) (by omega)]
    refine ⟨⟨by omega, j1, sI_eq⟩, G2, G3, G4, G5, G6, G7, ⟨fun j hjj k hk => ?_, fun j hjj => ?_⟩, G9⟩
    · rw [sI_ne (by omega)]
      by_cases z : j = nj
      · subst z; rw [j2 k hk, j3 k hk]; exact hw k hk
      · rw [j6 _ _ (by omega) (by omega), cq 1 _ (by omega) (by omega) (by omega)]
        exact G8.1 j (by omega) k hk
    · by_cases z : j = nj
      · subst z
        have e0 : σ.1 (g + 1) (6 * j) = w 0 := j2 0 (by omega)
        rw [e0, j2 1 (by omega), j2 2 (by omega), j2 3 (by omega), j2 4 (by omega), j2 5 (by omega)]
        exact ⟨b0, b1, b2, b3, b4, b5⟩
      · have := G8.2 j (by omega)
        rw [cq 1 _ (by omega) (by omega) (by omega), cq 1 _ (by omega) (by omega) (by omega), cq 1 _ (by omega) (by omega) (by omega), cq 1 _ (by omega) (by omega) (by omega), cq 1 _ (by omega) (by omega) (by omega), cq 1 _ (by omega) (by omega) (by omega)]
        exact this
  · rw [j4 _ _ (by omega) (by omega) (fun q => gd_0 hg (by omega) q.1.symm) (fun q => gd_ne (d := 1) hg (by omega) (by omega) q.1.symm)]; exact s1
theorem jumperl_rel {B : Nat → Nat} {n g nj e m a0 k0 u p : Nat} {σ τ : Sg} (hn : n ≤ 600) (hB : ∀ i, i < n → B i < 256) (hg : isGd g = true) (hp : p ≤ n) (N : LN B n g nj e 1 m a0 k0 u p σ τ) (ha : a0 ≤ p) (hk : k0 ≤ 2 * p + 8) (h : tK B n p = 256 ∧ tW B n p = 13) : LR B n g p (f_X8_tellJumper σ) (f_X11_line τ) := by
  have kn := knownM hn hp N.1.2.1
  rw [if_pos ⟨h.1, by omega⟩, h.2] at kn
  have tk := tok_at (B := B) hp
  have t5 := tk.2.2.2.2.1 (by omega)
  obtain ⟨G1, G2, ⟨e20, Ge1, Ge2⟩, -⟩ := N.2.1
  obtain ⟨j4, j9, j32⟩ := G1
  have l0 : f_X11_line τ = (cl (f_X11_readsJumper) (fun _ => f_X11_line_b292)) τ := by
    rw [f_X11_line, ex_cl kn, ex_bf (by decide), ex_bf (by decide), ex_bf (by decide), ex_bf (by decide), ex_bt (by decide)]
  rw [l0, f_X8_tellJumper, ex_dR, N.1.2.2.1, ex_gd hg, ex_dI, j9]
  have bad : ∀ (σ2 τ2 : Sg), f_X11_readsJumper τ = some ((), τ2) → Bd σ2 τ2 → LR B n g p (some (0, σ2)) ((cl (f_X11_readsJumper) (fun _ => f_X11_line_b292)) τ) := fun σ2 τ2 e1 e2 => by
    rw [ex_cl e1]; exact Or.inr ⟨_, _, rfl, b292_bad e2.bad, e2⟩
  by_cases z : nj < 4
  · rw [ex_bt ((nI_ltR (x := 4) (k := 4) rfl (by omega) (by omega)).mpr z)]
    obtain ⟨σ1, τ1, e1, e2, L1, o1, o2⟩ := next_rel hn hB hp N.1
    have r0 : f_X11_readsJumper τ = rj0 (nI nj) τ1 := by
      rw [f_X11_readsJumper, ex_dI, j32, ex_bf (fun q => by have := (nI_eqL (x := 4) (k := 4) rfl (by omega) (by omega)).mp q; omega), rj_eq, ex_cl (good1 N.1.2.2.2), ex_bf l1_0, ex_cl e2, ex_dI, o2.2.2 _ _ (by omega), j32]
    have g9 : σ1.1 g 9 = nI nj := by rw [o1.2 _ _ (gd_0 hg (by omega))]; exact j9
    rw [ex_cl e1, ex_dR, L1.2.2.1, ex_gd hg, ex_dI, g9, ex_pI, nI_1]
    have ne : ∀ c, c < 35 → ¬ c = g := fun c hc q => gd_0 hg hc q.symm
    have J1 : JL B n g nj (tE B n p) (fun k => σ.1 (g + 1) (6 * nj + k)) (fun k => τ.1 65 (6 * nj + k)) σ τ (sI σ1 g 9 (nI (nj + 1))) τ1 := by
      refine ⟨⟨L1.1.of (fun b => sI_ne (ne 15 (by omega))) rfl (fun b => sI_ne (ne 1 (by omega))), L1.2⟩, sI_eq, fun k _ => ?_, fun k _ => o2.2.2 _ _ (by omega), fun a b h1 h2 h3 h4 => ?_, o1.1, fun a b h1 h2 => o2.2.2 _ _ h1⟩
      · rw [sI_ne (by omega)]; exact o1.2 _ _ (gd_ne hg (by omega) (by omega))
      · rw [sI_gt, if_neg h3]; exact o1.2 _ _ h1
    rcases jnum (k := 0) (lo := 1) (hi := 99) (x := 0) (x1 := 1) (x2 := 99) hn hB hg tk.2.2.2.1 z J1 (by omega) rfl rfl rfl (by omega) (by omega) with ⟨σ2, τ2, v, p2, d1, d2, J2, d4, d5, d6, d7⟩ | ⟨σ2, τ2, v, d1, d2, d3⟩
    · rw [ex_cl d1, ex_bf l1_0]
      have r1 : f_X11_readsJumper τ = rj1 (nI nj) (sI τ2 65 (6 * nj + 0) (nI v)) := by rw [r0, rj0, ex_cl d2, rj_put0 z]
      rcases jnum (k := 1) (lo := 0) (hi := 30) (x := 1) (x1 := 0) (x2 := 30) hn hB hg d7 z J2 (by omega) rfl rfl rfl (by omega) (by omega) with ⟨σ3, τ3, v3, p3, f1, f2, J3, f4, f5, f6, f7⟩ | ⟨σ3, τ3, v3, f1, f2, f3⟩
      · have g1 : σ3.1 g 1 = nI e := by rw [J3.2.2.2.2.1 _ _ (gd_0 hg (by omega)) (fun q => gd_0 hg (by omega) q.1) (by omega) (by omega)]; exact Ge1
        have t28 : (sI τ3 65 (6 * nj + 1) (nI v3)).1 56 28 = nI e := by rw [J3.2.2.2.2.2.2 _ _ (by omega) (by omega)]; exact Ge2
        rw [ex_cl f1, ex_bf l1_0, ex_dR, J3.1.2.2.1, ex_gd hg, ex_dI, g1]
        have r2 : f_X11_readsJumper τ = rj2 (nI nj) (sI τ3 65 (6 * nj + 1) (nI v3)) := by rw [r1, rj1, ex_cl f2, rj_put (k := 1) (x := 1) rfl z (by omega)]
        rcases sgd_rel (hi := e) (x := nI e) hn hB f7 J3.1 rfl (by omega) with ⟨σ4, τ4, v4, p4, i1, i2, L4, i3, i4, i6, i7, i8⟩ | ⟨σ4, τ4, v4, i1, i2, i3⟩
        · have J4 := J3.sm hg L4 i6
          have r3 : f_X11_readsJumper τ = rj3 (nI nj) (sI τ4 65 (6 * nj + 2) v4) := by rw [r2, rj2, ex_dI, t28, ex_cl i2, rj_put (k := 2) (x := 2) rfl z (by omega)]
          have J5 := ((J4.wC (k := 2) (v := v4) hg).wC (k := 5) (v := 0) hg).wM (k := 2) (v := v4)
          have q1 : f_X2_tellOfLast g 2 v4 σ4 = some ((), sI σ4 (g + 1) (6 * nj + 2) v4) := ofLast hg J4.2.1 z (by omega) rfl
          have q2 : f_X2_tellOfLast g 5 0 (sI σ4 (g + 1) (6 * nj + 2) v4) = some ((), sI (sI σ4 (g + 1) (6 * nj + 2) v4) (g + 1) (6 * nj + 5) 0) := ofLast hg (by rw [sI_ne (by omega)]; exact J4.2.1) z (by omega) rfl
          have q3 : (sI σ4 (g + 1) (6 * nj + 2) v4).2.2 14 1 = g := L4.2.2.1
          rw [ex_cl i1, ex_bf l1_0, ex_dR, L4.2.2.1, ex_gd hg, ex_dI, i3, ex_cl q1, ex_dR, q3, ex_gd hg, ex_cl q2]
          rcases jnum (k := 3) (lo := 0) (hi := 99) (x := 3) (x1 := 0) (x2 := 99) hn hB hg i8 z J5 (by omega) rfl rfl rfl (by omega) (by omega) with ⟨σ6, τ6, v6, p6, y1, y2, J6, y4, y5, y6, y7⟩ | ⟨σ6, τ6, v6, y1, y2, y3⟩
          · rw [ex_cl y1, ex_bf l1_0]
            have r4 : f_X11_readsJumper τ = rj4 (nI nj) (sI τ6 65 (6 * nj + 3) (nI v6)) := by rw [r3, rj3, ex_cl y2, rj_put (k := 3) (x := 3) rfl z (by omega)]
            rcases jnum (k := 4) (lo := 0) (hi := 60) (x := 4) (x1 := 0) (x2 := 60) hn hB hg y7 z J6 (by omega) rfl rfl rfl (by omega) (by omega) with ⟨σ7, τ7, v7, p7, c1, c2, J7, c4, c5, c6, c7⟩ | ⟨σ7, τ7, v7, c1, c2, c3⟩
            · rw [ex_cl c1, ex_bf l1_0]
              have J8 := J7.wM (k := 5) (v := 0)
              generalize hτ8 : sI (sI τ7 65 (6 * nj + 4) (nI v7)) 65 (6 * nj + 5) 0 = τ8 at J8
              have kn8 := knownM hn c7 J8.1.2.1
              have r5 : f_X11_readsJumper τ = (br ((if tK B n p7 = 256 ∧ tW B n p7 < 19 then nI (tW B n p7) else -1) = 14) (cl (f_X11_goes) (fun _ => cl (f_X11_number 0 9) (fun r14 => gd (inb ((6 * nI nj) + 5) 24 = true) (pI 65 ((6 * nI nj) + 5).toNatClampNeg r14 (f_X11_readsJumper_b151))))) (f_X11_readsJumper_b151)) τ8 := by
                rw [r4, rj4, ex_cl c2, rj_put (k := 4) (x := 4) rfl z (by omega), rj5, rj_put (k := 5) (x := 5) rfl z (by omega), hτ8, ex_cl (good1 J8.1.2.2.2), ex_bf l1_0, ex_cl kn8]
              by_cases hw : tK B n p7 = 256 ∧ tW B n p7 = 14
              · rw [if_pos ⟨hw.1, by omega⟩, hw.2, ex_bt (by decide)] at r5
                obtain ⟨σ9, τ9, n1, n2, L9, -, o9⟩ := next_rel hn hB c7 J8.1
                have J9 := J8.sm hg L9 o9
                have tk7 := tok_at (B := B) c7
                rw [ex_cl (isW_t (q := 7) hn c7 J8.1.1 (by omega) (by omega) rfl hw), ex_bf l1_0, ex_cl n1]
                rw [ex_cl n2] at r5
                have t57 := tk7.2.2.2.2.1 (by omega)
                rcases jnum (k := 5) (lo := 0) (hi := 9) (x := 5) (x1 := 0) (x2 := 9) hn hB hg tk7.2.2.2.1 z J9 (by omega) rfl rfl rfl (by omega) (by omega) with ⟨σa, τa, va, pa, w1, w2, Ja, w4, w5, w6, w7⟩ | ⟨σa, τa, va, w1, w2, w3⟩
                · rw [ex_cl w2, rj_put (k := 5) (x := 5) rfl z (by omega)] at r5
                  obtain ⟨τb, b1, b2⟩ := Ja.done hg z N (fun k hk => by
                    rcases (by omega : k = 0 ∨ k = 1 ∨ k = 2 ∨ k = 3 ∨ k = 4 ∨ k = 5) with rfl | rfl | rfl | rfl | rfl | rfl <;> rfl) ⟨v, d4, d5, rfl⟩ ⟨v3, f5, rfl⟩ i4 ⟨v6, y5, rfl⟩ ⟨v7, c5, rfl⟩ ⟨va, w5, rfl⟩
                  rw [ex_cl w1, ex_gd (Or.inr rfl), ex_rt, ex_cl (r5.trans b1)]
                  exact Or.inl ⟨_, _, nj + 1, e, m, a0, k0, u, pa, rfl, rfl, b2, by omega, w7, by omega, by omega⟩
                · rw [ex_cl w2, rj_put (k := 5) (x := 5) rfl z (by omega)] at r5
                  have bd := bd_sI (a := 65) (b := 6 * nj + 5) (v := va) w3 (by omega)
                  rw [rj151_bad bd.bad] at r5
                  rw [ex_cl w1, ex_gd (Or.inl rfl), ex_rt]
                  exact bad _ _ r5 bd
              · rw [ex_bf (fun q => by
                  by_cases y : tK B n p7 = 256 ∧ tW B n p7 < 19
                  · rw [if_pos y] at q
                    exact hw ⟨y.1, (nI_eqL (x := 14) (k := 14) rfl (by omega) (by omega)).mp q⟩
                  · rw [if_neg y] at q
                    exact absurd q (by decide))] at r5
                rw [ex_cl (isW_f (q := 7) hn c7 J8.1.1 (by omega) (by omega) rfl hw), ex_bt rfl, ex_rt]
                obtain ⟨τb, b1, b2⟩ := J8.done hg z N (fun k hk => by
                    rcases (by omega : k = 0 ∨ k = 1 ∨ k = 2 ∨ k = 3 ∨ k = 4 ∨ k = 5) with rfl | rfl | rfl | rfl | rfl | rfl <;> rfl) ⟨v, d4, d5, rfl⟩ ⟨v3, f5, rfl⟩ i4 ⟨v6, y5, rfl⟩ ⟨v7, c5, rfl⟩ ⟨0, by omega, rfl⟩
                rw [ex_cl (r5.trans b1)]
                exact Or.inl ⟨_, _, nj + 1, e, m, a0, k0, u, p7, rfl, rfl, b2, by omega, c7, by omega, by omega⟩
            · rw [ex_cl c1, ex_bt rfl, ex_rt]
              obtain ⟨τ', q4, q5⟩ := rj5_bad z (bd_sI (a := 65) (b := 6 * nj + 4) (v := v7) c3 (by omega))
              exact bad _ τ' (by rw [r4, rj4, ex_cl c2, rj_put (k := 4) (x := 4) rfl z (by omega)]; exact q4) q5
          · rw [ex_cl y1, ex_bt rfl, ex_rt]
            obtain ⟨τ', q4, q5⟩ := rj4_bad z (bd_sI (a := 65) (b := 6 * nj + 3) (v := v6) y3 (by omega))
            exact bad _ τ' (by rw [r3, rj3, ex_cl y2, rj_put (k := 3) (x := 3) rfl z (by omega)]; exact q4) q5
        · rw [ex_cl i1, ex_bt rfl, ex_rt]
          obtain ⟨τ', q4, q5⟩ := rj3_bad z (bd_sI (a := 65) (b := 6 * nj + 2) (v := v4) i3 (by omega))
          exact bad _ τ' (by rw [r2, rj2, ex_dI, t28, ex_cl i2, rj_put (k := 2) (x := 2) rfl z (by omega)]; exact q4) q5
      · rw [ex_cl f1, ex_bt rfl, ex_rt]
        obtain ⟨τ', q4, q5⟩ := rj2_bad z (bd_sI (a := 65) (b := 6 * nj + 1) (v := v3) f3 (by omega))
        exact bad _ τ' (by rw [r1, rj1, ex_cl f2, rj_put (k := 1) (x := 1) rfl z (by omega)]; exact q4) q5
    · rw [ex_cl d1, ex_bt rfl, ex_rt]
      obtain ⟨τ', q4, q5⟩ := rj1_bad z (bd_sI (a := 65) (b := 6 * nj + 0) (v := v) d3 (by omega))
      exact bad _ τ' (by rw [r0, rj0, ex_cl d2, rj_put0 z]; exact q4) q5
  · have e4 : nj = 4 := by omega
    subst e4
    have bd := Bd.fw N.1.1 N.1.2.1 l2_0
    rw [ex_bf (by decide), faC]
    exact bad _ _ (by rw [f_X11_readsJumper, ex_dI, j32, ex_bt (by decide), ex_cl (wrong1 N.1.2.2.2), ← wrS, rj_eq, ex_cl (good0 bd.bad), ex_bt rfl, ex_rt]) bd
