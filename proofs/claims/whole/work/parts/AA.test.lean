-- ===== tests =====
theorem flagM {B : Nat → Nat} {n k0 p : Nat} {x : Int32} {τ0 τ : Sg} {C S : List Nat} {D : List Bool} {b b' : Bool} {α : Type} {d : Sg → Option α} (hD : D.length ≤ 5) (E : ExM B n k0 τ0 p C S (b :: D) τ) (hx : vp_nar .boolean x = if b' = true then 1 else 0) : ∃ τ', (dI 56 38 (fun v1 => gd (inb v1 9 = true) (pI 70 v1.toNatClampNeg (vp_nar .boolean x) d))) τ = d τ' ∧ ExM B n k0 τ0 p C S (b' :: D) τ' := by
  have h38 := E.2.2.2.2.2.2.1
  rw [List.length_cons] at h38
  exact ⟨_, by rw [ex_dI, h38, ex_gd (inb_nI (show D.length + 1 < 9 by omega) (by omega)), ex_pI, nI_clamp (show D.length + 1 < 2 ^ 31 by omega)], E.flag hx⟩
theorem ra_cmp {B : Nat → Nat} {n a0 k0 p q fe : Nat} {τ0 τ : Sg} {C P S : List Nat} {D : List Bool} (hn : n ≤ 600) (hB : ∀ i, i < n → B i < 256) (hp : p ≤ n) (hD : D.length ≤ 5) (ht : tp 4 S) (W : Wt a0 k0 p C (P ++ S)) (hP : ∀ q ∈ P, 1 ≤ q ∧ q ≤ 9 ∧ 4 ≤ str q) (h : (tK B n p = 60 ∧ q = 4) ∨ (tK B n p = 61 ∧ q = 5)) (Y : ExM B n k0 τ0 p C (P ++ S) (false :: D) τ) : ∃ τ', f_X11_expression_b29 (fe + 1) 1 τ = stP 0 8191 fe τ' ∧ ExM B n k0 τ0 (tE B n p) (C ++ P) (q :: S) (true :: D) τ' := by
  have K := Y.1
  have h0 := Y.2.1
  have kn := knownM hn hp K
  have h38 := Y.2.2.2.2.2.2.1
  have h70 := Y.2.2.2.2.2.2.2.1.1
  rw [List.length_cons] at h38
  rw [if_neg (by decide)] at h70
  rw [f_X11_expression_b29, ex_bf l1_0, ex_cl (good1 h0), ex_bf l1_0, ex_cl kn, ex_bf (known_ne (k := 16) (x := 16) rfl (by omega) (fun q => by omega)), ex_bf (known_ne (k := 17) (x := 17) rfl (by omega) (fun q => by omega))]
  rcases h with ⟨h, rfl⟩ | ⟨h, rfl⟩
  · obtain ⟨τ1, τ2, e1, L, e2, Y2⟩ := op_wait (q := 4) (lv := 4) (x := 4) (y := 6) hn hp (by omega) rfl rfl ht W hP Y
    obtain ⟨τ3, e3, Y3⟩ := flagM (b' := true) (x := 1) (d := cl (f_X11_goes) (fun _ => cl (f_X11_operand 0) (fun _ => f_X11_expression_b29 fe 1))) hD Y2 rfl
    obtain ⟨τ4, e4, Y4⟩ := Y3.goes hn hB hp
    refine ⟨τ4, ?_, Y4⟩
    rw [ex_cl (sgn_t (c := 60) (x := 60) K rfl (by omega) h), ex_bf l1_0, f_X11_expression_b127, ex_dI, h38, ex_gd (inb_nI (show D.length + 1 < 9 by omega) (by omega)), ex_dI, nI_clamp (show D.length + 1 < 2 ^ 31 by omega), h70, ex_bt rfl, ex_cl e1, ex_cl (sgn_t (c := 60) (x := 60) L rfl (by omega) h), ex_bf l1_0, f_X11_expression_b161, ex_cl e2, e3, ex_cl e4]
    exact st_op0 Y4.2.1
  · obtain ⟨τ1, τ2, e1, L, e2, Y2⟩ := op_wait (q := 5) (lv := 4) (x := 4) (y := 7) hn hp (by omega) rfl rfl ht W hP Y
    obtain ⟨τ3, e3, Y3⟩ := flagM (b' := true) (x := 1) (d := cl (f_X11_goes) (fun _ => cl (f_X11_operand 0) (fun _ => f_X11_expression_b29 fe 1))) hD Y2 rfl
    obtain ⟨τ4, e4, Y4⟩ := Y3.goes hn hB hp
    refine ⟨τ4, ?_, Y4⟩
    rw [ex_cl (sgn_f (c := 60) (x := 60) K rfl (by omega) (by omega)), ex_bt rfl, ex_cl (sgn_t (c := 61) (x := 61) K rfl (by omega) h), ex_bf l1_0, f_X11_expression_b127, ex_dI, h38, ex_gd (inb_nI (show D.length + 1 < 9 by omega) (by omega)), ex_dI, nI_clamp (show D.length + 1 < 2 ^ 31 by omega), h70, ex_bt rfl, ex_cl e1, ex_cl (sgn_f (c := 60) (x := 60) L rfl (by omega) (by omega)), ex_bt rfl, f_X11_expression_b161, ex_cl e2, e3, ex_cl e4]
    exact st_op0 Y4.2.1
theorem test_ok {B : Nat → Nat} {n g a0 k0 a : Nat} {σ0 τ0 : Sg} {kE : Int32 → Sg → Option (Int32 × Sg)} (hn : n ≤ 600) (hB : ∀ i, i < n → B i < 256) (hg : isGd g = true) (hr : σ0.2.2 14 1 = g) (ha : a ≤ 5) (hs : ∀ x2, Cn B n g a0 k0 σ0 τ0 a 5 (5 * a + 3) false (stP x2) (f_X8_sum kE (nI a))) (x2 : Int32) : Cn B n g a0 k0 σ0 τ0 a 4 (5 * a + 2) true (stP x2) (f_X8_test kE (nI a)) := by
  intro σ τ p C S b D fo fe hp hD W T hb hfo hfe X Y
  have hb := hb rfl
  subst hb
  rw [f_X8_test]
  rcases hs x2 σ τ p C S false D fo fe hp hD W (tp_mono T (by omega)) (fun q => by cases q) hfo hfe X Y with ⟨σ2, τ2, p2, E, Cm, P, b2, fe2, c1, c2, c3, c4, c5, X2, Y2, hC, hP, W2, F, c9, H⟩ | ⟨σ2, τ2, c1, c2, c3⟩
  · have hb2 := c9 rfl
    subst hb2
    rw [ex_cl c1, ex_bf l1_0, c2, ex_dI]
    obtain ⟨H6, H5, H4, H2, H1⟩ := H
    have tk := tok_at (B := B) c4
    have step : ∀ (q : Nat) (y : Int32), ((tK B n p2 = 60 ∧ q = 4) ∨ (tK B n p2 = 61 ∧ q = 5)) → clsT q = y → ∀ (v : Option (Int32 × Sg)), (∀ σ1 σ3 r, f_X5_next σ2 = some ((), σ1) → f_X8_sum kE (nI a) σ1 = some (r, σ3) → (r = 0 → v = some (0, σ3)) ∧ (r = 1 → σ3.2.2 14 1 = g → v = f_X8_test_b69 kE y (g + 3) σ3)) → CnG B n g a0 k0 σ0 τ0 4 (5 * a + 2) true p C S false D v (f_X11_expression_b29 fe2 1 τ2) := by
      intro q y hq hy v hv
      obtain ⟨fe2, rfl⟩ : ∃ k, fe2 = k + 1 := ⟨fe2 - 1, by omega⟩
      have qb : 1 ≤ q ∧ q < 10 ∧ ¬ q = 3 ∧ str q = 4 := by rcases hq with ⟨_, rfl⟩ | ⟨_, rfl⟩ <;> decide
      have t5 := tk.2.2.2.2.1 (by omega)
      obtain ⟨σ1, e1, X1, -⟩ := X2.next hn hB hg c4
      obtain ⟨τ1, m1, Y1⟩ := ra_cmp (fe := fe2) hn hB c4 (by omega) T W2 (fun z hz => by have := hP z hz; exact ⟨this.1, this.2.1, by omega⟩) hq Y2
      rw [m1]
      rw [hC] at Y1
      have W1 : Wt a0 k0 (tE B n p2) (C ++ E) (q :: S) := by rw [← hC]; exact W2.op (by omega)
      rcases hs 0 σ1 τ1 (tE B n p2) (C ++ E) (q :: S) true D 8191 fe2 (by omega) hD W1 (Or.inr (Or.inr ⟨q, S, rfl, qb.1, by omega, by omega⟩)) (fun q => by cases q) (by omega) (by omega) X1 Y1 with ⟨σ3, τ3, p3, E2, Cm2, P2, b3, fe3, d1, d2, d3, d4, d5, X3, Y3, d6, d7, W3, d8, d9, d10⟩ | ⟨σ3, τ3, d1, d2, d3⟩
      · have hb3 := d9 rfl
        subst hb3
        have l2 : (C ++ E ++ E2).length = Cm2.length + P2.length := by rw [← d6, List.length_append]
        have wl := W3.1
        rw [List.length_append, List.length_cons] at wl
        obtain ⟨σ4, e4, X4⟩ := X3.add (q := q) hg (by rw [l2]; omega)
        have hgr : σ3.2.2 14 1 = g := by rw [X3.2.2.2.1]; exact hr
        have ev := (hv σ1 σ3 1 e1 d1).2 rfl hgr
        rw [hy] at e4
        rw [ev, d2, f_X8_test_b69, ex_gd (isRu_g hg), ex_cl e4, ex_rt]
        have eq1 : C ++ E ++ E2 ++ [q] = C ++ (E ++ (E2 ++ [q])) := by simp only [List.append_assoc]
        have eq2 : P2 ++ q :: S = (P2 ++ [q]) ++ S := by rw [List.append_assoc, List.singleton_append]
        rw [eq1] at X4
        rw [eq2] at Y3 W3
        obtain ⟨G6, G5, G4, G2, G1⟩ := d10
        refine Or.inl ⟨σ4, τ3, p3, E ++ (E2 ++ [q]), Cm2, P2 ++ [q], true, fe3, rfl, rfl, by omega, d4, d5, X4, Y3, by rw [← List.append_assoc, d6, eq1], fun z hz => ?_, W3, Wf_bin (fun d R hd h => F d R (by omega) h) d8 qb.1 qb.2.1 qb.2.2.1, (fun q => by cases q), ⟨fun _ => G6 (by omega), fun _ => G5 (by omega), fun _ => Or.inr rfl, fun q => absurd q (by omega), fun q => absurd q (by omega)⟩⟩
        rcases List.mem_append.mp hz with hz | hz
        · have := d7 z hz; exact ⟨this.1, this.2.1, by omega⟩
        · rw [List.mem_singleton.mp hz]; exact ⟨qb.1, by omega, by omega⟩
      · have ev := (hv σ1 σ3 0 e1 d1).1 rfl
        rw [ev, d2]
        exact Or.inr ⟨_, _, rfl, rfl, d3⟩
    by_cases z1 : tK B n p2 = 60
    · have v1 : σ2.1 15 3 = 60 := (X2.1.kind (k := 60) (x := 60) rfl (by omega)).mpr z1
      rw [ex_bt v1]
      refine step 4 (-4) (Or.inl ⟨z1, rfl⟩) (by decide) _ (fun σ1 σ3 r e1 e2 => ⟨fun h => ?_, fun h hgr => ?_⟩)
      · rw [f_X8_test_b32, ex_cl e1, ex_cl e2, h, ex_bt rfl, ex_rt]
      · rw [f_X8_test_b32, ex_cl e1, ex_cl e2, h, ex_bf l1_0, ex_dR, hgr, ex_gd hg, ex_bt v1]
    · have v1 : ¬ σ2.1 15 3 = 60 := fun q => z1 ((X2.1.kind (k := 60) (x := 60) rfl (by omega)).mp q)
      rw [ex_bf v1]
      by_cases z2 : tK B n p2 = 61
      · have v2 : σ2.1 15 3 = 61 := (X2.1.kind (k := 61) (x := 61) rfl (by omega)).mpr z2
        rw [ex_bt v2]
        refine step 5 (-5) (Or.inr ⟨z2, rfl⟩) (by decide) _ (fun σ1 σ3 r e1 e2 => ⟨fun h => ?_, fun h hgr => ?_⟩)
        · rw [f_X8_test_b32, ex_cl e1, ex_cl e2, h, ex_bt rfl, ex_rt]
        · rw [f_X8_test_b32, ex_cl e1, ex_cl e2, h, ex_bf l1_0, ex_dR, hgr, ex_gd hg, ex_bf v1]
      · rw [ex_bf (fun q => z2 ((X2.1.kind (k := 61) (x := 61) rfl (by omega)).mp q)), ex_rt]
        exact Or.inl ⟨σ2, τ2, p2, E, Cm, P, false, fe2, rfl, rfl, c3, c4, c5, X2, Y2, hC, fun q hq => by have := hP q hq; exact ⟨this.1, this.2.1, by omega⟩, W2, fun d R hd h => F d R (by omega) h, (fun q => by cases q), ⟨fun _ => H6 (by omega), fun _ => H5 (by omega), fun _ => Or.inl ⟨z1, z2⟩, fun q => absurd q (by omega), fun q => absurd q (by omega)⟩⟩
  · rw [ex_cl c1, ex_bt rfl, ex_rt, c2]
    exact Or.inr ⟨_, _, rfl, rfl, c3⟩
-- ===== not =====
def n3 (k : Nat) : List Nat := List.replicate k 3
theorem n3_mem {k q : Nat} (h : q ∈ n3 k) : q = 3 := List.eq_of_mem_replicate h
theorem Wf_nots : ∀ (k d : Nat) (R : List Nat), wfT (d + 1) R → wfT (d + 1) (n3 k ++ R)
  | 0, _, _, h => h
  | k + 1, d, R, h => by
    show wfT (d + 1) (3 :: (n3 k ++ R))
    exact Or.inl ⟨by omega, by omega, Or.inl ⟨rfl, by omega, Wf_nots k d R h⟩⟩
theorem nots_add {B : Nat → Nat} {n g a0 p : Nat} {σ0 : Sg} {kE : Int32 → Sg → Option (Int32 × Sg)} (hg : isGd g = true) (hr : σ0.2.2 14 1 = g) : ∀ (d k fu : Nat) (C : List Nat) (σ : Sg), ExC B n g a0 σ0 p C σ → a0 + C.length + d ≤ 600 → k + d < 2 ^ 31 → ∃ σ', f_X8_denied_b62 kE (fu + d + 1) (nI (k + d)) (nI k) σ = some (1, σ') ∧ ExC B n g a0 σ0 p (C ++ n3 d) σ' := by
  intro d
  induction d with
  | zero =>
    intro k fu C σ X hl hk
    exact ⟨σ, by rw [f_X8_denied_b62, ex_bt (show nI (k + 0) ≤ nI k from Int32.le_refl _), ex_rt], by rw [n3, List.replicate_zero, List.append_nil]; exact X⟩
  | succ d ih =>
    intro k fu C σ X hl hk
    obtain ⟨σ1, e1, X1⟩ := X.add (q := 3) hg (by omega)
    obtain ⟨σ', e2, X2⟩ := ih (k + 1) fu (C ++ [3]) σ1 X1 (by rw [List.length_append, List.length_singleton]; omega) (by omega)
    have hgr : σ.2.2 14 1 = g := by rw [X.2.2.2.1]; exact hr
    have e1 : f_X6_add (g + 3) (-3) σ = some ((), σ1) := e1
    refine ⟨σ', ?_, ?_⟩
    · rw [show fu + (d + 1) + 1 = (fu + d + 1) + 1 by omega, f_X8_denied_b62, ex_bf (nI_ge (by omega) (by omega)), ex_dR, hgr, ex_gd hg, ex_cl e1, nI_1, show k + (d + 1) = (k + 1) + d by omega]
      exact e2
    · rw [List.append_assoc] at X2
      exact X2
theorem denied_ok {B : Nat → Nat} {n g a0 k0 a : Nat} {σ0 τ0 : Sg} {kE : Int32 → Sg → Option (Int32 × Sg)} (hn : n ≤ 600) (hB : ∀ i, i < n → B i < 256) (hg : isGd g = true) (hr : σ0.2.2 14 1 = g) (ha : a ≤ 5) (hs : ∀ x2, Cn B n g a0 k0 σ0 τ0 a 4 (5 * a + 2) true (stP x2) (f_X8_test kE (nI a))) : Cn B n g a0 k0 σ0 τ0 a 3 (5 * a + 2) true stQ (f_X8_denied kE (nI a)) := by
  intro σ τ p C S b D fo fe hp hD W T hb hfo hfe X Y
  have hb := hb rfl
  subst hb
  have st : stQ fo fe τ = (cl (f_X11_operand_b18 (f_X11_operand_b4 fo) FU 1 0) (fun _ => f_X11_expression_b29 fe 1)) τ := by
    rw [stQ, cl, cl, f_X11_operand_b4, ex_bf l1_0, ex_cl (good1 Y.2.1), ex_bf l1_0]
  rw [st, f_X8_denied]
  suffices lp : ∀ (r k fu fm q : Nat) (σ τ : Sg), k + r = 6 → p ≤ q → q ≤ n → ExC B n g a0 σ0 q C σ → ExM B n k0 τ0 q C (n3 k ++ S) (false :: D) τ → Wt a0 k0 q C (n3 k ++ S) → CnG B n g a0 k0 σ0 τ0 3 (5 * a + 2) true p C S false D (f_X8_denied_b4 kE (fu + r + 1) (nI a) (nI k) (nI k) σ) ((cl (f_X11_operand_b18 (f_X11_operand_b4 fo) (fm + r + 2) 1 (nI k)) (fun _ => f_X11_expression_b29 fe 1)) τ) by
    exact lp 6 0 8185 8184 p σ τ rfl (Nat.le_refl _) hp X Y W
  intro r
  have tail : ∀ (k fu fm q : Nat) (σ τ : Sg), k ≤ 6 → p ≤ q → q ≤ n → ExC B n g a0 σ0 q C σ → ExM B n k0 τ0 q C (n3 k ++ S) (false :: D) τ → Wt a0 k0 q C (n3 k ++ S) → ¬ (tK B n q = 256 ∧ tW B n q = 18) → CnG B n g a0 k0 σ0 τ0 3 (5 * a + 2) true p C S false D (f_X8_denied_b4 kE (fu + 1) (nI a) (nI k) (nI k) σ) ((cl (f_X11_operand_b18 (f_X11_operand_b4 fo) (fm + 1) 1 (nI k)) (fun _ => f_X11_expression_b29 fe 1)) τ) := by
    intro k fu fm q σ τ hk hpq hq X Y W nt
    have kn := knownM hn hq Y.1
    have st : (cl (f_X11_operand_b18 (f_X11_operand_b4 fo) (fm + 1) 1 (nI k)) (fun _ => f_X11_expression_b29 fe 1)) τ = stP 1 fo fe τ := by
      rw [stP, cl, cl, f_X11_operand_b18, ex_cl (good1 Y.2.1), ex_bf l1_0, ex_bf l1_0, ex_cl kn, ex_bf (known_ne (k := 18) (x := 18) rfl (by omega) nt)]
    rw [st, f_X8_denied_b4, ex_bf (lit_nlt (M := 6) (x := 6) rfl hk (by omega)), ex_cl (isW_f (k := 18) hn hq X.1 (by omega) (by omega) rfl nt), ex_bt rfl, f_X8_denied_b50]
    have tp4 : tp 4 (n3 k ++ S) := by
      cases k with
      | zero => exact tp_mono T (by omega)
      | succ k => exact Or.inr (Or.inr ⟨3, n3 k ++ S, rfl, by omega, by omega, by decide⟩)
    rcases hs 1 σ τ q C (n3 k ++ S) false D fo fe hq hD W tp4 (fun _ => rfl) (by omega) (by omega) X Y with ⟨σ2, τ2, p2, E, Cm, P, b2, fe2, c1, c2, c3, c4, c5, X2, Y2, hC, hP, W2, F, c9, H⟩ | ⟨σ2, τ2, c1, c2, c3⟩
    · have l2 : (C ++ E).length = Cm.length + P.length := by rw [← hC, List.length_append]
      have wl := W2.1
      rw [List.length_append, List.length_append] at wl
      have l3 : (n3 k).length = k := List.length_replicate
      obtain ⟨σ3, e3, X3⟩ := nots_add (kE := kE) hg hr k 0 (8191 - k) (C ++ E) σ2 X2 (by rw [l2]; omega) (by omega)
      rw [show 8191 - k + k + 1 = FU by rw [Nat.sub_add_cancel (by omega)]; rfl, Nat.zero_add] at e3
      rw [ex_cl c1, ex_bf l1_0, c2]
      have eq2 : P ++ (n3 k ++ S) = (P ++ n3 k) ++ S := by rw [List.append_assoc]
      rw [eq2] at Y2 W2
      rw [List.append_assoc] at X3
      refine Or.inl ⟨σ3, τ2, p2, E ++ n3 k, Cm, P ++ n3 k, b2, fe2, e3, rfl, by omega, c4, c5, X3, Y2, by rw [← List.append_assoc, hC, List.append_assoc], fun z hz => ?_, W2, fun d R hd h => ?_, (fun q => by cases q), ⟨fun _ => H.1 (by omega), fun _ => H.2.1 (by omega), fun _ => H.2.2.1 (by omega), fun q => absurd q (by omega), fun q => absurd q (by omega)⟩⟩
      · rcases List.mem_append.mp hz with hz | hz
        · have := hP z hz; exact ⟨this.1, this.2.1, by omega⟩
        · rw [n3_mem hz]; exact ⟨by omega, by omega, by decide⟩
      · rw [List.append_assoc]
        exact F d _ hd (Wf_nots k d R h)
    · rw [ex_cl c1, ex_bt rfl, ex_rt, c2]
      exact Or.inr ⟨_, _, rfl, rfl, c3⟩
  induction r with
  | zero =>
    intro k fu fm q σ τ hk hpq hq X Y W
    by_cases nt : tK B n q = 256 ∧ tW B n q = 18
    · have k6 : k = 6 := by omega
      subst k6
      have kn := knownM hn hq Y.1
      rw [if_pos ⟨nt.1, by omega⟩, nt.2] at kn
      obtain ⟨τ', d1, d2⟩ := fa_end (fe := fe) hn hq W l2_0 (by omega) X Y
      have bb := good0 (wrS_bad (τ := τ) l2_0)
      have pp : f_X11_part (wrS 2 τ) = some ((), wrS 2 τ) := by rw [f_X11_part, ex_cl bb, ex_bt rfl, ex_rt]
      obtain ⟨fo, rfl⟩ : ∃ k, fo = k + 1 := ⟨fo - 1, by omega⟩
      have e : f_X11_operand_b18 (f_X11_operand_b4 (fo + 1)) (fm + 0 + 2) 1 (nI 6) τ = some ((), wrS 2 τ) := by
        rw [show fm + 0 + 2 = (fm + 1) + 1 by omega, f_X11_operand_b18, ex_cl (good1 Y.2.1), ex_bf l1_0, ex_bf l1_0, ex_cl kn, ex_bt (show nI 18 = 18 from rfl), ex_bt (show nI 6 = 6 from rfl), ex_cl (wrong1 Y.2.1), ← wrS, f_X11_operand_b50, ex_cl bb, ex_bt rfl, f_X11_operand_b18, ex_cl bb, ex_bt rfl, f_X11_operand_b75, ex_cl bb, ex_bt rfl, f_X11_operand_b95, f_X11_operand_b96, ex_bt rfl, f_X11_operand_b4, ex_bt rfl, f_X11_operand_b120, ex_cl pp, ex_rt]
      refine Or.inr ⟨_, τ', ?_, ?_, d2⟩
      · rw [f_X8_denied_b4, ex_bf (by decide), ex_cl (isW_t (k := 18) hn hq X.1 (by omega) (by omega) rfl nt), ex_bf l1_0, ex_bt (show nI 6 = 6 from rfl), f_X8_denied_b28, faC]
      · rw [ex_cl e]; exact d1
    · exact tail k fu (fm + 1) q σ τ (by omega) hpq hq X Y W nt
  | succ r ih =>
    intro k fu fm q σ τ hk hpq hq X Y W
    by_cases nt : tK B n q = 256 ∧ tW B n q = 18
    · have tk := (tok_at (B := B) hq)
      have t5 := tk.2.2.2.2.1 (by omega)
      have kn := knownM hn hq Y.1
      rw [if_pos ⟨nt.1, by omega⟩, nt.2] at kn
      have w := W.sum hq hn
      obtain ⟨σ1, e1, X1, -⟩ := X.next hn hB hg hq
      obtain ⟨τ1, m1, Y1⟩ := Y.wait (q := 3) (x := 3) (by omega) rfl
      obtain ⟨τ2, m2, Y2⟩ := Y1.goes hn hB hq
      have k6 : ¬ nI k = 6 := fun q => by have := (nI_eqL (x := 6) (k := 6) rfl (by omega) (by omega)).mp q; omega
      have W1 : Wt a0 k0 (tE B n q) C (n3 (k + 1) ++ S) := by
        obtain ⟨w1, w2⟩ := W
        have l0 : (n3 (k + 1) ++ S).length = (n3 k ++ S).length + 1 := rfl
        unfold Wt
        rw [l0]; omega
      have i := ih (k + 1) fu fm (tE B n q) σ1 τ2 (by omega) (by omega) (by omega) X1 Y2 W1
      have c1 : f_X8_denied_b4 kE (fu + (r + 1) + 1) (nI a) (nI k) (nI k) σ = f_X8_denied_b4 kE (fu + r + 1) (nI a) (nI (k + 1)) (nI (k + 1)) σ1 := by
        rw [show fu + (r + 1) + 1 = (fu + r + 1) + 1 by omega, f_X8_denied_b4, ex_bf (lit_nlt (M := 6) (x := 6) rfl (show k ≤ 6 by omega) (by omega)), ex_cl (isW_t (k := 18) hn hq X.1 (by omega) (by omega) rfl nt), ex_bf l1_0, ex_bf k6, ex_cl e1, nI_1]
      have c2 : (cl (f_X11_operand_b18 (f_X11_operand_b4 fo) (fm + (r + 1) + 2) 1 (nI k)) (fun _ => f_X11_expression_b29 fe 1)) τ = (cl (f_X11_operand_b18 (f_X11_operand_b4 fo) (fm + r + 2) 1 (nI (k + 1))) (fun _ => f_X11_expression_b29 fe 1)) τ2 := by
        rw [cl, cl, show fm + (r + 1) + 2 = (fm + r + 2) + 1 by omega, f_X11_operand_b18, ex_cl (good1 Y.2.1), ex_bf l1_0, ex_bf l1_0, ex_cl kn, ex_bt (show nI 18 = 18 from rfl), ex_bf k6, f_X11_operand_b50, ex_cl (good1 Y.2.1), ex_bf l1_0, ex_cl m1, ex_cl m2, nI_1]
      rw [c1, c2]
      exact i
    · exact tail k (fu + r + 1) (fm + r + 2) q σ τ (by omega) hpq hq X Y W nt
