-- ===== operations, both =====
theorem operand0 {τ : Sg} (h : τ.1 56 16 = 0) : f_X11_operand 0 τ = f_X11_operand_b75 (f_X11_operand_b4 8191) 0 τ := by
  rw [f_X11_operand, show FU = 8191 + 1 from rfl, f_X11_operand_b4, ex_bf l1_0, ex_cl (good1 h), ex_bf l1_0, show FU = 8191 + 1 from rfl, f_X11_operand_b18, ex_cl (good1 h), ex_bf l1_0, ex_bt rfl]
theorem st_op0 {fe : Nat} {τ : Sg} (h : τ.1 56 16 = 0) : (cl (f_X11_operand 0) (fun _ => f_X11_expression_b29 fe 1)) τ = stP 0 8191 fe τ := by
  rw [stP, cl, cl, operand0 h]
theorem st_op1 {fe : Nat} {τ : Sg} : (cl (f_X11_operand 1) (fun _ => f_X11_expression_b29 fe 1)) τ = stQ 8191 fe τ := rfl
theorem tp_mono {lv lv' : Nat} {S : List Nat} (h : tp lv S) (hl : lv ≤ lv') : tp lv' S := by
  rcases h with h | h | ⟨q, r, h1, h2, h3, h4⟩
  · exact Or.inl h
  · exact Or.inr (Or.inl h)
  · exact Or.inr (Or.inr ⟨q, r, h1, h2, h3, by omega⟩)
/-- the reference takes an operation: what is stronger drops, it waits -/
theorem op_wait {B : Nat → Nat} {n a0 k0 p q lv : Nat} {x y : Int32} {τ0 τ : Sg} {C P S : List Nat} {D : List Bool} (hn : n ≤ 600) (hp : p ≤ n) (hlv : lv ≤ 6) (hx : nI lv = x) (hy : nI (opW q) = y) (ht : tp lv S) (W : Wt a0 k0 p C (P ++ S)) (hP : ∀ q ∈ P, 1 ≤ q ∧ q ≤ 9 ∧ lv ≤ str q) (Y : ExM B n k0 τ0 p C (P ++ S) D τ) : ∃ τ1 τ2, f_X11_drops x τ = some ((), τ1) ∧ TkM B n p τ1 ∧ f_X11_waitsFor y τ1 = some ((), τ2) ∧ ExM B n k0 τ0 p (C ++ P) (q :: S) D τ2 := by
  have w := W.sum hp hn
  have l := w.1
  have l2 := w.2.1
  rw [List.length_append] at l l2
  obtain ⟨τ1, e1, Y1⟩ := ExM.drops (x := x) hlv hx ht P C (8191 - P.length) τ Y hP (by omega) (by rw [List.length_append]; omega)
  rw [show 8191 - P.length + P.length + 1 = FU by rw [Nat.sub_add_cancel (by omega)]; rfl] at e1
  obtain ⟨τ2, e2, Y2⟩ := Y1.wait (q := q) (x := y) (by omega) hy
  exact ⟨τ1, τ2, e1, Y1.1, e2, Y2⟩
theorem Wt.op {a0 k0 p p' q : Nat} {C P S : List Nat} (W : Wt a0 k0 p C (P ++ S)) (h : p < p') : Wt a0 k0 p' (C ++ P) (q :: S) := by
  obtain ⟨w1, w2⟩ := W
  rw [List.length_append] at w1 w2
  unfold Wt
  rw [List.length_append, List.length_cons]
  omega
theorem Wf_bin {bd q : Nat} {E E2 : List Nat} (h : Wf bd E) (h2 : Wf (bd + 1) E2) (q1 : 1 ≤ q) (q9 : q < 10) (q3 : ¬ q = 3) : Wf bd (E ++ (E2 ++ [q])) := fun d R hd hR => by
  rw [List.append_assoc, List.append_assoc]
  exact h d _ hd (h2 (d + 1) _ (by omega) (Or.inl ⟨q9, q1, Or.inr ⟨q3, by omega, hR⟩⟩))
theorem ra_product {B : Nat → Nat} {n a0 k0 p q fe : Nat} {τ0 τ : Sg} {C P S : List Nat} {b : Bool} {D : List Bool} (hn : n ≤ 600) (hB : ∀ i, i < n → B i < 256) (hp : p ≤ n) (hD : D.length ≤ 5) (ht : tp 6 S) (W : Wt a0 k0 p C (P ++ S)) (hP : ∀ q ∈ P, 1 ≤ q ∧ q ≤ 9 ∧ 6 ≤ str q) (h : (tK B n p = 42 ∧ q = 8) ∨ (tK B n p = 47 ∧ q = 9)) (Y : ExM B n k0 τ0 p C (P ++ S) (b :: D) τ) : ∃ τ', f_X11_expression_b29 (fe + 1) 1 τ = stP 0 8191 fe τ' ∧ ExM B n k0 τ0 (tE B n p) (C ++ P) (q :: S) (b :: D) τ' := by
  have K := Y.1
  rw [ra_head hn hp hD Y (fun q => by omega) (fun q => by omega) (Or.inl ⟨by omega, by omega⟩), f_X11_expression_b186]
  rcases h with ⟨h, rfl⟩ | ⟨h, rfl⟩
  · obtain ⟨τ1, τ2, e1, L, e2, Y2⟩ := op_wait (q := 8) (lv := 6) (x := 6) (y := 10) hn hp (by omega) rfl rfl ht W hP Y
    obtain ⟨τ3, e3, Y3⟩ := Y2.goes hn hB hp
    refine ⟨τ3, ?_, Y3⟩
    rw [ex_cl (sgn_f (c := 43) (x := 43) K rfl (by omega) (by omega)), ex_bt rfl, ex_cl (sgn_f (c := 45) (x := 45) K rfl (by omega) (by omega)), ex_bt rfl, ex_cl (sgn_t (c := 42) (x := 42) K rfl (by omega) h), ex_bf l1_0, f_X11_expression_b259, ex_cl e1, ex_cl (sgn_t (c := 42) (x := 42) L rfl (by omega) h), ex_bf l1_0, f_X11_expression_b282, ex_cl e2, ex_cl e3]
    exact st_op0 Y3.2.1
  · obtain ⟨τ1, τ2, e1, L, e2, Y2⟩ := op_wait (q := 9) (lv := 6) (x := 6) (y := 11) hn hp (by omega) rfl rfl ht W hP Y
    obtain ⟨τ3, e3, Y3⟩ := Y2.goes hn hB hp
    refine ⟨τ3, ?_, Y3⟩
    rw [ex_cl (sgn_f (c := 43) (x := 43) K rfl (by omega) (by omega)), ex_bt rfl, ex_cl (sgn_f (c := 45) (x := 45) K rfl (by omega) (by omega)), ex_bt rfl, ex_cl (sgn_f (c := 42) (x := 42) K rfl (by omega) (by omega)), ex_bt rfl, ex_cl (sgn_t (c := 47) (x := 47) K rfl (by omega) h), ex_bf l1_0, f_X11_expression_b259, ex_cl e1, ex_cl (sgn_f (c := 42) (x := 42) L rfl (by omega) (by omega)), ex_bt rfl, f_X11_expression_b282, ex_cl e2, ex_cl e3]
    exact st_op0 Y3.2.1
theorem product_loop {B : Nat → Nat} {n g a0 k0 a : Nat} {σ0 τ0 : Sg} {kE : Int32 → Sg → Option (Int32 × Sg)} (hn : n ≤ 600) (hB : ∀ i, i < n → B i < 256) (hg : isGd g = true) (hr : σ0.2.2 14 1 = g) (ha : a ≤ 5) (hs : ∀ x2, Cn B n g a0 k0 σ0 τ0 a 7 (5 * a + 5) false (stP x2) (f_X8_part kE (nI a))) {p0 : Nat} {C S : List Nat} {b : Bool} {D : List Bool} (hD : D.length = a) (ht : tp 6 S) : ∀ (m p fu fe i : Nat) (E Cm P : List Nat) (σ τ : Sg), n - p ≤ m → p ≤ n → p0 < p → n - p + 1 < fe → n - p < fu → i + (n - p) < 600 → ExC B n g a0 σ0 p (C ++ E) σ → ExM B n k0 τ0 p Cm (P ++ S) (b :: D) τ → Cm ++ P = C ++ E → (∀ q ∈ P, 1 ≤ q ∧ q ≤ 9 ∧ 6 ≤ str q) → Wt a0 k0 p Cm (P ++ S) → Wf (5 * a + 4) E → Fw B n 7 p b → CnG B n g a0 k0 σ0 τ0 6 (5 * a + 4) false p0 C S b D (f_X8_product_b12 kE fu (nI a) (nI i) σ) (f_X11_expression_b29 fe 1 τ) := by
  intro m
  induction m with
  | zero =>
    intro p fu fe i E Cm P σ τ hm hp h0 hfe hfu hi X Y hC hP W F H
    obtain ⟨fu, rfl⟩ : ∃ k, fu = k + 1 := ⟨fu - 1, by omega⟩
    have tk := tok_at (B := B) hp
    have k8 : tK B n p = 258 := by
      by_cases q : tK B n p = 258
      · exact q
      · have := tk.2.2.2.2.1 q; omega
    refine Or.inl ⟨σ, τ, p, E, Cm, P, b, fe, ?_, rfl, h0, hp, hfe, X, Y, hC, hP, W, F, fun _ => rfl, ?_⟩
    · rw [f_X8_product_b12, ex_bf (le600 (show i < 600 by omega) (Nat.le_refl _)), ex_dI, ex_bf (fun q => by have := (X.1.kind (k := 42) (x := 42) rfl (by omega)).mp q; omega), ex_dI, ex_bf (fun q => by have := (X.1.kind (k := 47) (x := 47) rfl (by omega)).mp q; omega), ex_rt]
    · exact ⟨fun _ => by omega, fun _ => by omega, fun q => absurd q (by omega), fun q => absurd q (by omega), fun q => absurd q (by omega)⟩
  | succ m ih =>
    intro p fu fe i E Cm P σ τ hm hp h0 hfe hfu hi X Y hC hP W F H
    obtain ⟨fu, rfl⟩ : ∃ k, fu = k + 1 := ⟨fu - 1, by omega⟩
    obtain ⟨fe, rfl⟩ : ∃ k, fe = k + 1 := ⟨fe - 1, by omega⟩
    have tk := tok_at (B := B) hp
    rw [f_X8_product_b12, ex_bf (le600 (show i < 600 by omega) (Nat.le_refl _)), ex_dI]
    have step : ∀ (q : Nat) (y : Int32), ((tK B n p = 42 ∧ q = 8) ∨ (tK B n p = 47 ∧ q = 9)) → clsT q = y → ∀ (v : Option (Int32 × Sg)), (∀ σ1 σ2 r, f_X5_next σ = some ((), σ1) → f_X8_part kE (nI a) σ1 = some (r, σ2) → (r = 0 → v = some (0, σ2)) ∧ (r = 1 → σ2.2.2 14 1 = g → v = f_X8_product_b88 kE (f_X8_product_b12 kE fu) (nI a) (nI i) y (g + 3) σ2)) → CnG B n g a0 k0 σ0 τ0 6 (5 * a + 4) false p0 C S b D v (f_X11_expression_b29 (fe + 1) 1 τ) := by
      intro q y hq hy v hv
      have qb : 1 ≤ q ∧ q < 10 ∧ ¬ q = 3 ∧ str q = 6 := by rcases hq with ⟨_, rfl⟩ | ⟨_, rfl⟩ <;> decide
      have t5 := tk.2.2.2.2.1 (by omega)
      obtain ⟨σ1, e1, X1, -⟩ := X.next hn hB hg hp
      obtain ⟨τ1, m1, Y1⟩ := ra_product (fe := fe) hn hB hp (by omega) ht W hP hq Y
      rw [m1]
      rw [hC] at Y1
      have W1 : Wt a0 k0 (tE B n p) (C ++ E) (q :: S) := by rw [← hC]; exact W.op (by omega)
      rcases hs 0 σ1 τ1 (tE B n p) (C ++ E) (q :: S) b D 8191 fe (by omega) hD W1 (Or.inr (Or.inr ⟨q, S, rfl, qb.1, by omega, by omega⟩)) (fun q => by cases q) (by omega) (by omega) X1 Y1 with ⟨σ2, τ2, p2, E2, Cm2, P2, b2, fe2, c1, c2, c3, c4, c5, X2, Y2, c6, c7, W2, c8, c9, c10⟩ | ⟨σ2, τ2, c1, c2, c3⟩
      · have hb2 := c9 rfl
        subst hb2
        have w2 := W2.sum c4 hn
        have l2 : (C ++ E ++ E2).length = Cm2.length + P2.length := by rw [← c6, List.length_append]
        have wl := W2.1
        rw [List.length_append, List.length_cons] at wl
        obtain ⟨σ3, e3, X3⟩ := X2.add (q := q) hg (by rw [l2]; omega)
        have hgr : σ2.2.2 14 1 = g := by rw [X2.2.2.2.1]; exact hr
        have ev := (hv σ1 σ2 1 e1 c1).2 rfl hgr
        rw [hy] at e3
        rw [ev, c2, f_X8_product_b88, ex_gd (isRu_g hg), ex_cl e3, nI_1]
        have eq1 : C ++ E ++ E2 ++ [q] = C ++ (E ++ (E2 ++ [q])) := by simp only [List.append_assoc]
        have eq2 : P2 ++ q :: S = (P2 ++ [q]) ++ S := by rw [List.append_assoc, List.singleton_append]
        rw [eq1] at X3
        rw [eq2] at Y2 W2
        refine ih p2 fu fe2 (i + 1) (E ++ (E2 ++ [q])) Cm2 (P2 ++ [q]) σ3 τ2 (by omega) c4 (by omega) c5 (by omega) (by omega) X3 Y2 (by rw [← List.append_assoc, c6, eq1]) (fun z hz => ?_) W2 (Wf_bin F c8 qb.1 qb.2.1 qb.2.2.1) c10
        rcases List.mem_append.mp hz with hz | hz
        · have := c7 z hz; exact ⟨this.1, this.2.1, by omega⟩
        · rw [List.mem_singleton.mp hz]; exact ⟨qb.1, by omega, by omega⟩
      · have ev := (hv σ1 σ2 0 e1 c1).1 rfl
        rw [ev, c2]
        exact Or.inr ⟨_, _, rfl, rfl, c3⟩
    by_cases z1 : tK B n p = 42
    · have v1 : σ.1 15 3 = 42 := (X.1.kind (k := 42) (x := 42) rfl (by omega)).mpr z1
      rw [ex_bt v1]
      refine step 8 (-8) (Or.inl ⟨z1, rfl⟩) (by decide) _ (fun σ1 σ2 r e1 e2 => ⟨fun h => ?_, fun h hgr => ?_⟩)
      · rw [f_X8_product_b43, ex_dI, ex_cl e1, ex_cl e2, h, ex_bt rfl, ex_rt]
      · rw [f_X8_product_b43, ex_dI, ex_cl e1, ex_cl e2, h, ex_bf l1_0, ex_dR, hgr, ex_gd hg, ex_bt v1]
    · rw [ex_bf (fun q => z1 ((X.1.kind (k := 42) (x := 42) rfl (by omega)).mp q)), ex_dI]
      by_cases z2 : tK B n p = 47
      · have v2 : σ.1 15 3 = 47 := (X.1.kind (k := 47) (x := 47) rfl (by omega)).mpr z2
        have v1 : ¬ σ.1 15 3 = 42 := fun q => z1 ((X.1.kind (k := 42) (x := 42) rfl (by omega)).mp q)
        rw [ex_bt v2]
        refine step 9 (-9) (Or.inr ⟨z2, rfl⟩) (by decide) _ (fun σ1 σ2 r e1 e2 => ⟨fun h => ?_, fun h hgr => ?_⟩)
        · rw [f_X8_product_b43, ex_dI, ex_cl e1, ex_cl e2, h, ex_bt rfl, ex_rt]
        · rw [f_X8_product_b43, ex_dI, ex_cl e1, ex_cl e2, h, ex_bf l1_0, ex_dR, hgr, ex_gd hg, ex_bf v1]
      · rw [ex_bf (fun q => z2 ((X.1.kind (k := 47) (x := 47) rfl (by omega)).mp q)), ex_rt]
        obtain ⟨H6, H5, H4, H2, H1⟩ := H
        exact Or.inl ⟨σ, τ, p, E, Cm, P, b, fe + 1, rfl, rfl, h0, hp, hfe, X, Y, hC, hP, W, F, fun _ => rfl, ⟨fun _ => ⟨z1, z2⟩, fun q => absurd q (by omega), fun q => absurd q (by omega), fun q => absurd q (by omega), fun q => absurd q (by omega)⟩⟩
theorem product_ok {B : Nat → Nat} {n g a0 k0 a : Nat} {σ0 τ0 : Sg} {kE : Int32 → Sg → Option (Int32 × Sg)} (hn : n ≤ 600) (hB : ∀ i, i < n → B i < 256) (hg : isGd g = true) (hr : σ0.2.2 14 1 = g) (ha : a ≤ 5) (hs : ∀ x2, Cn B n g a0 k0 σ0 τ0 a 7 (5 * a + 5) false (stP x2) (f_X8_part kE (nI a))) (x2 : Int32) : Cn B n g a0 k0 σ0 τ0 a 6 (5 * a + 4) false (stP x2) (f_X8_product kE (nI a)) := by
  intro σ τ p C S b D fo fe hp hD W T hb hfo hfe X Y
  rw [f_X8_product]
  rcases hs x2 σ τ p C S b D fo fe hp hD W (tp_mono T (by omega)) hb hfo hfe X Y with ⟨σ2, τ2, p2, E2, Cm2, P2, b2, fe2, c1, c2, c3, c4, c5, X2, Y2, c6, c7, W2, c8, c9, c10⟩ | ⟨σ2, τ2, c1, c2, c3⟩
  · have hb2 := c9 rfl
    subst hb2
    rw [ex_cl c1, ex_bf l1_0, c2]
    exact product_loop hn hB hg hr ha hs hD T (n - p2) p2 FU fe2 0 E2 Cm2 P2 σ2 τ2 (Nat.le_refl _) c4 c3 c5 (by show n - p2 < 8192; omega) (by omega) X2 Y2 c6 (fun q hq => by have := c7 q hq; exact ⟨this.1, this.2.1, by omega⟩) W2 (fun d R hd h => c8 d R (by omega) h) c10
  · rw [ex_cl c1, ex_bt rfl, ex_rt, c2]
    exact Or.inr ⟨_, _, rfl, rfl, c3⟩
theorem ra_sum {B : Nat → Nat} {n a0 k0 p q fe : Nat} {τ0 τ : Sg} {C P S : List Nat} {b : Bool} {D : List Bool} (hn : n ≤ 600) (hB : ∀ i, i < n → B i < 256) (hp : p ≤ n) (hD : D.length ≤ 5) (ht : tp 5 S) (W : Wt a0 k0 p C (P ++ S)) (hP : ∀ q ∈ P, 1 ≤ q ∧ q ≤ 9 ∧ 5 ≤ str q) (h : (tK B n p = 43 ∧ q = 6) ∨ (tK B n p = 45 ∧ q = 7)) (Y : ExM B n k0 τ0 p C (P ++ S) (b :: D) τ) : ∃ τ', f_X11_expression_b29 (fe + 1) 1 τ = stP 0 8191 fe τ' ∧ ExM B n k0 τ0 (tE B n p) (C ++ P) (q :: S) (b :: D) τ' := by
  have K := Y.1
  rw [ra_head hn hp hD Y (fun q => by omega) (fun q => by omega) (Or.inl ⟨by omega, by omega⟩), f_X11_expression_b186]
  rcases h with ⟨h, rfl⟩ | ⟨h, rfl⟩
  · obtain ⟨τ1, τ2, e1, L, e2, Y2⟩ := op_wait (q := 6) (lv := 5) (x := 5) (y := 8) hn hp (by omega) rfl rfl ht W hP Y
    obtain ⟨τ3, e3, Y3⟩ := Y2.goes hn hB hp
    refine ⟨τ3, ?_, Y3⟩
    rw [ex_cl (sgn_t (c := 43) (x := 43) K rfl (by omega) h), ex_bf l1_0, f_X11_expression_b204, ex_cl e1, ex_cl (sgn_t (c := 43) (x := 43) L rfl (by omega) h), ex_bf l1_0, f_X11_expression_b226, ex_cl e2, ex_cl e3]
    exact st_op0 Y3.2.1
  · obtain ⟨τ1, τ2, e1, L, e2, Y2⟩ := op_wait (q := 7) (lv := 5) (x := 5) (y := 9) hn hp (by omega) rfl rfl ht W hP Y
    obtain ⟨τ3, e3, Y3⟩ := Y2.goes hn hB hp
    refine ⟨τ3, ?_, Y3⟩
    rw [ex_cl (sgn_f (c := 43) (x := 43) K rfl (by omega) (by omega)), ex_bt rfl, ex_cl (sgn_t (c := 45) (x := 45) K rfl (by omega) h), ex_bf l1_0, f_X11_expression_b204, ex_cl e1, ex_cl (sgn_f (c := 43) (x := 43) L rfl (by omega) (by omega)), ex_bt rfl, f_X11_expression_b226, ex_cl e2, ex_cl e3]
    exact st_op0 Y3.2.1
theorem sum_loop {B : Nat → Nat} {n g a0 k0 a : Nat} {σ0 τ0 : Sg} {kE : Int32 → Sg → Option (Int32 × Sg)} (hn : n ≤ 600) (hB : ∀ i, i < n → B i < 256) (hg : isGd g = true) (hr : σ0.2.2 14 1 = g) (ha : a ≤ 5) (hs : ∀ x2, Cn B n g a0 k0 σ0 τ0 a 6 (5 * a + 4) false (stP x2) (f_X8_product kE (nI a))) {p0 : Nat} {C S : List Nat} {b : Bool} {D : List Bool} (hD : D.length = a) (ht : tp 5 S) : ∀ (m p fu fe i : Nat) (E Cm P : List Nat) (σ τ : Sg), n - p ≤ m → p ≤ n → p0 < p → n - p + 1 < fe → n - p < fu → i + (n - p) < 600 → ExC B n g a0 σ0 p (C ++ E) σ → ExM B n k0 τ0 p Cm (P ++ S) (b :: D) τ → Cm ++ P = C ++ E → (∀ q ∈ P, 1 ≤ q ∧ q ≤ 9 ∧ 5 ≤ str q) → Wt a0 k0 p Cm (P ++ S) → Wf (5 * a + 3) E → Fw B n 6 p b → CnG B n g a0 k0 σ0 τ0 5 (5 * a + 3) false p0 C S b D (f_X8_sum_b12 kE fu (nI a) (nI i) σ) (f_X11_expression_b29 fe 1 τ) := by
  intro m
  induction m with
  | zero =>
    intro p fu fe i E Cm P σ τ hm hp h0 hfe hfu hi X Y hC hP W F H
    obtain ⟨fu, rfl⟩ : ∃ k, fu = k + 1 := ⟨fu - 1, by omega⟩
    have tk := tok_at (B := B) hp
    have k8 : tK B n p = 258 := by
      by_cases q : tK B n p = 258
      · exact q
      · have := tk.2.2.2.2.1 q; omega
    refine Or.inl ⟨σ, τ, p, E, Cm, P, b, fe, ?_, rfl, h0, hp, hfe, X, Y, hC, hP, W, F, fun _ => rfl, ?_⟩
    · rw [f_X8_sum_b12, ex_bf (le600 (show i < 600 by omega) (Nat.le_refl _)), ex_dI, ex_bf (fun q => by have := (X.1.kind (k := 43) (x := 43) rfl (by omega)).mp q; omega), ex_dI, ex_bf (fun q => by have := (X.1.kind (k := 45) (x := 45) rfl (by omega)).mp q; omega), ex_rt]
    · exact ⟨fun _ => by omega, fun _ => by omega, fun q => absurd q (by omega), fun q => absurd q (by omega), fun q => absurd q (by omega)⟩
  | succ m ih =>
    intro p fu fe i E Cm P σ τ hm hp h0 hfe hfu hi X Y hC hP W F H
    obtain ⟨fu, rfl⟩ : ∃ k, fu = k + 1 := ⟨fu - 1, by omega⟩
    obtain ⟨fe, rfl⟩ : ∃ k, fe = k + 1 := ⟨fe - 1, by omega⟩
    have tk := tok_at (B := B) hp
    rw [f_X8_sum_b12, ex_bf (le600 (show i < 600 by omega) (Nat.le_refl _)), ex_dI]
    have step : ∀ (q : Nat) (y : Int32), ((tK B n p = 43 ∧ q = 6) ∨ (tK B n p = 45 ∧ q = 7)) → clsT q = y → ∀ (v : Option (Int32 × Sg)), (∀ σ1 σ2 r, f_X5_next σ = some ((), σ1) → f_X8_product kE (nI a) σ1 = some (r, σ2) → (r = 0 → v = some (0, σ2)) ∧ (r = 1 → σ2.2.2 14 1 = g → v = f_X8_sum_b88 kE (f_X8_sum_b12 kE fu) (nI a) (nI i) y (g + 3) σ2)) → CnG B n g a0 k0 σ0 τ0 5 (5 * a + 3) false p0 C S b D v (f_X11_expression_b29 (fe + 1) 1 τ) := by
      intro q y hq hy v hv
      have qb : 1 ≤ q ∧ q < 10 ∧ ¬ q = 3 ∧ str q = 5 := by rcases hq with ⟨_, rfl⟩ | ⟨_, rfl⟩ <;> decide
      have t5 := tk.2.2.2.2.1 (by omega)
      obtain ⟨σ1, e1, X1, -⟩ := X.next hn hB hg hp
      obtain ⟨τ1, m1, Y1⟩ := ra_sum (fe := fe) hn hB hp (by omega) ht W hP hq Y
      rw [m1]
      rw [hC] at Y1
      have W1 : Wt a0 k0 (tE B n p) (C ++ E) (q :: S) := by rw [← hC]; exact W.op (by omega)
      rcases hs 0 σ1 τ1 (tE B n p) (C ++ E) (q :: S) b D 8191 fe (by omega) hD W1 (Or.inr (Or.inr ⟨q, S, rfl, qb.1, by omega, by omega⟩)) (fun q => by cases q) (by omega) (by omega) X1 Y1 with ⟨σ2, τ2, p2, E2, Cm2, P2, b2, fe2, c1, c2, c3, c4, c5, X2, Y2, c6, c7, W2, c8, c9, c10⟩ | ⟨σ2, τ2, c1, c2, c3⟩
      · have hb2 := c9 rfl
        subst hb2
        have w2 := W2.sum c4 hn
        have l2 : (C ++ E ++ E2).length = Cm2.length + P2.length := by rw [← c6, List.length_append]
        have wl := W2.1
        rw [List.length_append, List.length_cons] at wl
        obtain ⟨σ3, e3, X3⟩ := X2.add (q := q) hg (by rw [l2]; omega)
        have hgr : σ2.2.2 14 1 = g := by rw [X2.2.2.2.1]; exact hr
        have ev := (hv σ1 σ2 1 e1 c1).2 rfl hgr
        rw [hy] at e3
        rw [ev, c2, f_X8_sum_b88, ex_gd (isRu_g hg), ex_cl e3, nI_1]
        have eq1 : C ++ E ++ E2 ++ [q] = C ++ (E ++ (E2 ++ [q])) := by simp only [List.append_assoc]
        have eq2 : P2 ++ q :: S = (P2 ++ [q]) ++ S := by rw [List.append_assoc, List.singleton_append]
        rw [eq1] at X3
        rw [eq2] at Y2 W2
        refine ih p2 fu fe2 (i + 1) (E ++ (E2 ++ [q])) Cm2 (P2 ++ [q]) σ3 τ2 (by omega) c4 (by omega) c5 (by omega) (by omega) X3 Y2 (by rw [← List.append_assoc, c6, eq1]) (fun z hz => ?_) W2 (Wf_bin F c8 qb.1 qb.2.1 qb.2.2.1) c10
        rcases List.mem_append.mp hz with hz | hz
        · have := c7 z hz; exact ⟨this.1, this.2.1, by omega⟩
        · rw [List.mem_singleton.mp hz]; exact ⟨qb.1, by omega, by omega⟩
      · have ev := (hv σ1 σ2 0 e1 c1).1 rfl
        rw [ev, c2]
        exact Or.inr ⟨_, _, rfl, rfl, c3⟩
    by_cases z1 : tK B n p = 43
    · have v1 : σ.1 15 3 = 43 := (X.1.kind (k := 43) (x := 43) rfl (by omega)).mpr z1
      rw [ex_bt v1]
      refine step 6 (-6) (Or.inl ⟨z1, rfl⟩) (by decide) _ (fun σ1 σ2 r e1 e2 => ⟨fun h => ?_, fun h hgr => ?_⟩)
      · rw [f_X8_sum_b43, ex_dI, ex_cl e1, ex_cl e2, h, ex_bt rfl, ex_rt]
      · rw [f_X8_sum_b43, ex_dI, ex_cl e1, ex_cl e2, h, ex_bf l1_0, ex_dR, hgr, ex_gd hg, ex_bt v1]
    · rw [ex_bf (fun q => z1 ((X.1.kind (k := 43) (x := 43) rfl (by omega)).mp q)), ex_dI]
      by_cases z2 : tK B n p = 45
      · have v2 : σ.1 15 3 = 45 := (X.1.kind (k := 45) (x := 45) rfl (by omega)).mpr z2
        have v1 : ¬ σ.1 15 3 = 43 := fun q => z1 ((X.1.kind (k := 43) (x := 43) rfl (by omega)).mp q)
        rw [ex_bt v2]
        refine step 7 (-7) (Or.inr ⟨z2, rfl⟩) (by decide) _ (fun σ1 σ2 r e1 e2 => ⟨fun h => ?_, fun h hgr => ?_⟩)
        · rw [f_X8_sum_b43, ex_dI, ex_cl e1, ex_cl e2, h, ex_bt rfl, ex_rt]
        · rw [f_X8_sum_b43, ex_dI, ex_cl e1, ex_cl e2, h, ex_bf l1_0, ex_dR, hgr, ex_gd hg, ex_bf v1]
      · rw [ex_bf (fun q => z2 ((X.1.kind (k := 45) (x := 45) rfl (by omega)).mp q)), ex_rt]
        obtain ⟨H6, H5, H4, H2, H1⟩ := H
        exact Or.inl ⟨σ, τ, p, E, Cm, P, b, fe + 1, rfl, rfl, h0, hp, hfe, X, Y, hC, hP, W, F, fun _ => rfl, ⟨fun _ => H6 (by omega), fun _ => ⟨z1, z2⟩, fun q => absurd q (by omega), fun q => absurd q (by omega), fun q => absurd q (by omega)⟩⟩
theorem sum_ok {B : Nat → Nat} {n g a0 k0 a : Nat} {σ0 τ0 : Sg} {kE : Int32 → Sg → Option (Int32 × Sg)} (hn : n ≤ 600) (hB : ∀ i, i < n → B i < 256) (hg : isGd g = true) (hr : σ0.2.2 14 1 = g) (ha : a ≤ 5) (hs : ∀ x2, Cn B n g a0 k0 σ0 τ0 a 6 (5 * a + 4) false (stP x2) (f_X8_product kE (nI a))) (x2 : Int32) : Cn B n g a0 k0 σ0 τ0 a 5 (5 * a + 3) false (stP x2) (f_X8_sum kE (nI a)) := by
  intro σ τ p C S b D fo fe hp hD W T hb hfo hfe X Y
  rw [f_X8_sum]
  rcases hs x2 σ τ p C S b D fo fe hp hD W (tp_mono T (by omega)) hb hfo hfe X Y with ⟨σ2, τ2, p2, E2, Cm2, P2, b2, fe2, c1, c2, c3, c4, c5, X2, Y2, c6, c7, W2, c8, c9, c10⟩ | ⟨σ2, τ2, c1, c2, c3⟩
  · have hb2 := c9 rfl
    subst hb2
    rw [ex_cl c1, ex_bf l1_0, c2]
    exact sum_loop hn hB hg hr ha hs hD T (n - p2) p2 FU fe2 0 E2 Cm2 P2 σ2 τ2 (Nat.le_refl _) c4 c3 c5 (by show n - p2 < 8192; omega) (by omega) X2 Y2 c6 (fun q hq => by have := c7 q hq; exact ⟨this.1, this.2.1, by omega⟩) W2 (fun d R hd h => c8 d R (by omega) h) c10
  · rw [ex_cl c1, ex_bt rfl, ex_rt, c2]
    exact Or.inr ⟨_, _, rfl, rfl, c3⟩
