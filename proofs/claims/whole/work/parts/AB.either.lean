-- ===== and, or =====
theorem ra_both {B : Nat → Nat} {n a0 k0 p fe : Nat} {τ0 τ : Sg} {C P S : List Nat} {b : Bool} {D : List Bool} (hn : n ≤ 600) (hB : ∀ i, i < n → B i < 256) (hp : p ≤ n) (hD : D.length ≤ 5) (ht : tp 2 S) (W : Wt a0 k0 p C (P ++ S)) (hP : ∀ q ∈ P, 1 ≤ q ∧ q ≤ 9 ∧ 2 ≤ str q) (h : tK B n p = 256 ∧ tW B n p = 16) (Y : ExM B n k0 τ0 p C (P ++ S) (b :: D) τ) : ∃ τ', f_X11_expression_b29 (fe + 1) 1 τ = stQ 8191 fe τ' ∧ ExM B n k0 τ0 (tE B n p) (C ++ P) (2 :: S) (false :: D) τ' := by
  have kn := knownM hn hp Y.1
  rw [if_pos ⟨h.1, by omega⟩, h.2] at kn
  obtain ⟨τ1, τ2, e1, L, e2, Y2⟩ := op_wait (q := 2) (lv := 2) (x := 2) (y := 4) hn hp (by omega) rfl rfl ht W hP Y
  obtain ⟨τ3, e3, Y3⟩ := flagM (b' := false) (x := 0) (d := cl (f_X11_goes) (fun _ => cl (f_X11_operand 1) (fun _ => f_X11_expression_b29 fe 1))) hD Y2 rfl
  obtain ⟨τ4, e4, Y4⟩ := Y3.goes hn hB hp
  refine ⟨τ4, ?_, Y4⟩
  rw [f_X11_expression_b29, ex_bf l1_0, ex_cl (good1 Y.2.1), ex_bf l1_0, ex_cl kn, ex_bt (show nI 16 = 16 from rfl), f_X11_expression_b57, ex_bt (show nI 16 = 16 from rfl), f_X11_expression_b69, ex_cl e1, ex_bt (show nI 16 = 16 from rfl), f_X11_expression_b84, ex_cl e2, e3, ex_cl e4]
  exact st_op1
theorem both_loop {B : Nat → Nat} {n g a0 k0 a : Nat} {σ0 τ0 : Sg} {kE : Int32 → Sg → Option (Int32 × Sg)} (hn : n ≤ 600) (hB : ∀ i, i < n → B i < 256) (hg : isGd g = true) (hr : σ0.2.2 14 1 = g) (ha : a ≤ 5) (hs : Cn B n g a0 k0 σ0 τ0 a 3 (5 * a + 2) true stQ (f_X8_denied kE (nI a))) {p0 : Nat} {C S : List Nat} {b0 : Bool} {D : List Bool} (hD : D.length = a) (ht : tp 2 S) : ∀ (m p fu fe i : Nat) (E Cm P : List Nat) (b : Bool) (σ τ : Sg), n - p ≤ m → p ≤ n → p0 < p → n - p + 1 < fe → n - p < fu → i + (n - p) < 600 → ExC B n g a0 σ0 p (C ++ E) σ → ExM B n k0 τ0 p Cm (P ++ S) (b :: D) τ → Cm ++ P = C ++ E → (∀ q ∈ P, 1 ≤ q ∧ q ≤ 9 ∧ 2 ≤ str q) → Wt a0 k0 p Cm (P ++ S) → Wf (5 * a + 1) E → Fw B n 3 p b → CnG B n g a0 k0 σ0 τ0 2 (5 * a + 1) true p0 C S b0 D (f_X8_both_b12 kE fu (nI a) (nI i) σ) (f_X11_expression_b29 fe 1 τ) := by
  intro m
  induction m with
  | zero =>
    intro p fu fe i E Cm P b σ τ hm hp h0 hfe hfu hi X Y hC hP W F H
    obtain ⟨fu, rfl⟩ : ∃ k, fu = k + 1 := ⟨fu - 1, by omega⟩
    have tk := tok_at (B := B) hp
    have k8 : tK B n p = 258 := by
      by_cases q : tK B n p = 258
      · exact q
      · have := tk.2.2.2.2.1 q; omega
    refine Or.inl ⟨σ, τ, p, E, Cm, P, b, fe, ?_, rfl, h0, hp, hfe, X, Y, hC, hP, W, F, (fun q => by cases q), ?_⟩
    · rw [f_X8_both_b12, ex_bf (le600 (show i < 600 by omega) (Nat.le_refl _)), ex_cl (isW_f (k := 16) hn hp X.1 (by omega) (by omega) rfl (fun q => by omega)), ex_bt rfl, ex_rt]
    · exact ⟨fun _ => H.1 (by omega), fun _ => H.2.1 (by omega), fun _ => H.2.2.1 (by omega), fun _ q => by omega, fun _ q => by omega⟩
  | succ m ih =>
    intro p fu fe i E Cm P b σ τ hm hp h0 hfe hfu hi X Y hC hP W F H
    obtain ⟨fu, rfl⟩ : ∃ k, fu = k + 1 := ⟨fu - 1, by omega⟩
    obtain ⟨fe, rfl⟩ : ∃ k, fe = k + 1 := ⟨fe - 1, by omega⟩
    have tk := tok_at (B := B) hp
    rw [f_X8_both_b12, ex_bf (le600 (show i < 600 by omega) (Nat.le_refl _))]
    by_cases z : tK B n p = 256 ∧ tW B n p = 16
    · have t5 := tk.2.2.2.2.1 (by omega)
      obtain ⟨σ1, e1, X1, -⟩ := X.next hn hB hg hp
      obtain ⟨τ1, m1, Y1⟩ := ra_both (fe := fe) hn hB hp (by omega) ht W hP z Y
      rw [ex_cl (isW_t (k := 16) hn hp X.1 (by omega) (by omega) rfl z), ex_bf l1_0, ex_cl e1, m1]
      rw [hC] at Y1
      have W1 : Wt a0 k0 (tE B n p) (C ++ E) (2 :: S) := by rw [← hC]; exact W.op (by omega)
      rcases hs σ1 τ1 (tE B n p) (C ++ E) (2 :: S) false D 8191 fe (by omega) hD W1 (Or.inr (Or.inr ⟨2, S, rfl, by omega, by omega, by decide⟩)) (fun _ => rfl) (by omega) (by omega) X1 Y1 with ⟨σ2, τ2, p2, E2, Cm2, P2, b2, fe2, c1, c2, c3, c4, c5, X2, Y2, c6, c7, W2, c8, c9, c10⟩ | ⟨σ2, τ2, c1, c2, c3⟩
      · have l2 : (C ++ E ++ E2).length = Cm2.length + P2.length := by rw [← c6, List.length_append]
        have wl := W2.1
        rw [List.length_append, List.length_cons] at wl
        obtain ⟨σ3, e3, X3⟩ := X2.add (q := 2) hg (by rw [l2]; omega)
        have hgr : σ2.2.2 14 1 = g := by rw [X2.2.2.2.1]; exact hr
        have e3 : f_X6_add (g + 3) (-2) σ2 = some ((), σ3) := e3
        rw [ex_cl c1, ex_bf l1_0, ex_dR, hgr, ex_gd hg, ex_cl e3, nI_1, c2]
        have eq1 : C ++ E ++ E2 ++ [2] = C ++ (E ++ (E2 ++ [2])) := by simp only [List.append_assoc]
        have eq2 : P2 ++ 2 :: S = (P2 ++ [2]) ++ S := by rw [List.append_assoc, List.singleton_append]
        rw [eq1] at X3
        rw [eq2] at Y2 W2
        refine ih p2 fu fe2 (i + 1) (E ++ (E2 ++ [2])) Cm2 (P2 ++ [2]) b2 σ3 τ2 (by omega) c4 (by omega) c5 (by omega) (by omega) X3 Y2 (by rw [← List.append_assoc, c6, eq1]) (fun z hz => ?_) W2 (Wf_bin F c8 (by omega) (by omega) (by omega)) c10
        rcases List.mem_append.mp hz with hz | hz
        · have := c7 z hz; exact ⟨this.1, this.2.1, by omega⟩
        · rw [List.mem_singleton.mp hz]; exact ⟨by omega, by omega, by decide⟩
      · rw [ex_cl c1, ex_bt rfl, ex_rt, c2]
        exact Or.inr ⟨_, _, rfl, rfl, c3⟩
    · rw [ex_cl (isW_f (k := 16) hn hp X.1 (by omega) (by omega) rfl z), ex_bt rfl, ex_rt]
      exact Or.inl ⟨σ, τ, p, E, Cm, P, b, fe + 1, rfl, rfl, h0, hp, hfe, X, Y, hC, hP, W, F, (fun q => by cases q), ⟨fun _ => H.1 (by omega), fun _ => H.2.1 (by omega), fun _ => H.2.2.1 (by omega), fun _ => z, fun q => absurd q (by omega)⟩⟩
theorem both_ok {B : Nat → Nat} {n g a0 k0 a : Nat} {σ0 τ0 : Sg} {kE : Int32 → Sg → Option (Int32 × Sg)} (hn : n ≤ 600) (hB : ∀ i, i < n → B i < 256) (hg : isGd g = true) (hr : σ0.2.2 14 1 = g) (ha : a ≤ 5) (hs : Cn B n g a0 k0 σ0 τ0 a 3 (5 * a + 2) true stQ (f_X8_denied kE (nI a))) : Cn B n g a0 k0 σ0 τ0 a 2 (5 * a + 1) true stQ (f_X8_both kE (nI a)) := by
  intro σ τ p C S b D fo fe hp hD W T hb hfo hfe X Y
  rw [f_X8_both]
  rcases hs σ τ p C S b D fo fe hp hD W (tp_mono T (by omega)) hb hfo hfe X Y with ⟨σ2, τ2, p2, E2, Cm2, P2, b2, fe2, c1, c2, c3, c4, c5, X2, Y2, c6, c7, W2, c8, c9, c10⟩ | ⟨σ2, τ2, c1, c2, c3⟩
  · rw [ex_cl c1, ex_bf l1_0, c2]
    exact both_loop hn hB hg hr ha hs hD T (n - p2) p2 FU fe2 0 E2 Cm2 P2 b2 σ2 τ2 (Nat.le_refl _) c4 c3 c5 (by show n - p2 < 8192; omega) (by omega) X2 Y2 c6 (fun q hq => by have := c7 q hq; exact ⟨this.1, this.2.1, by omega⟩) W2 (fun d R hd h => c8 d R (by omega) h) c10
  · rw [ex_cl c1, ex_bt rfl, ex_rt, c2]
    exact Or.inr ⟨_, _, rfl, rfl, c3⟩
theorem ra_either {B : Nat → Nat} {n a0 k0 p fe : Nat} {τ0 τ : Sg} {C P S : List Nat} {b : Bool} {D : List Bool} (hn : n ≤ 600) (hB : ∀ i, i < n → B i < 256) (hp : p ≤ n) (hD : D.length ≤ 5) (ht : tp 1 S) (W : Wt a0 k0 p C (P ++ S)) (hP : ∀ q ∈ P, 1 ≤ q ∧ q ≤ 9 ∧ 1 ≤ str q) (h : tK B n p = 256 ∧ tW B n p = 17) (Y : ExM B n k0 τ0 p C (P ++ S) (b :: D) τ) : ∃ τ', f_X11_expression_b29 (fe + 1) 1 τ = stQ 8191 fe τ' ∧ ExM B n k0 τ0 (tE B n p) (C ++ P) (1 :: S) (false :: D) τ' := by
  have kn := knownM hn hp Y.1
  rw [if_pos ⟨h.1, by omega⟩, h.2] at kn
  obtain ⟨τ1, τ2, e1, L, e2, Y2⟩ := op_wait (q := 1) (lv := 1) (x := 1) (y := 5) hn hp (by omega) rfl rfl ht W hP Y
  obtain ⟨τ3, e3, Y3⟩ := flagM (b' := false) (x := 0) (d := cl (f_X11_goes) (fun _ => cl (f_X11_operand 1) (fun _ => f_X11_expression_b29 fe 1))) hD Y2 rfl
  obtain ⟨τ4, e4, Y4⟩ := Y3.goes hn hB hp
  refine ⟨τ4, ?_, Y4⟩
  rw [f_X11_expression_b29, ex_bf l1_0, ex_cl (good1 Y.2.1), ex_bf l1_0, ex_cl kn, ex_bf (show ¬ nI 17 = 16 by decide), ex_bt (show nI 17 = 17 from rfl), f_X11_expression_b57, ex_bf (show ¬ nI 17 = 16 by decide), f_X11_expression_b69, ex_cl e1, ex_bf (show ¬ nI 17 = 16 by decide), f_X11_expression_b84, ex_cl e2, e3, ex_cl e4]
  exact st_op1
theorem either_loop {B : Nat → Nat} {n g a0 k0 a : Nat} {σ0 τ0 : Sg} {kE : Int32 → Sg → Option (Int32 × Sg)} (hn : n ≤ 600) (hB : ∀ i, i < n → B i < 256) (hg : isGd g = true) (hr : σ0.2.2 14 1 = g) (ha : a ≤ 5) (hs : Cn B n g a0 k0 σ0 τ0 a 2 (5 * a + 1) true stQ (f_X8_both kE (nI a))) {p0 : Nat} {C S : List Nat} {b0 : Bool} {D : List Bool} (hD : D.length = a) (ht : tp 1 S) : ∀ (m p fu fe i : Nat) (E Cm P : List Nat) (b : Bool) (σ τ : Sg), n - p ≤ m → p ≤ n → p0 < p → n - p + 1 < fe → n - p < fu → i + (n - p) < 600 → ExC B n g a0 σ0 p (C ++ E) σ → ExM B n k0 τ0 p Cm (P ++ S) (b :: D) τ → Cm ++ P = C ++ E → (∀ q ∈ P, 1 ≤ q ∧ q ≤ 9 ∧ 1 ≤ str q) → Wt a0 k0 p Cm (P ++ S) → Wf (5 * a) E → Fw B n 2 p b → CnG B n g a0 k0 σ0 τ0 1 (5 * a) true p0 C S b0 D (f_X8_eitherB_b35 kE fu (nI a) (nI i) σ) (f_X11_expression_b29 fe 1 τ) := by
  intro m
  induction m with
  | zero =>
    intro p fu fe i E Cm P b σ τ hm hp h0 hfe hfu hi X Y hC hP W F H
    obtain ⟨fu, rfl⟩ : ∃ k, fu = k + 1 := ⟨fu - 1, by omega⟩
    have tk := tok_at (B := B) hp
    have k8 : tK B n p = 258 := by
      by_cases q : tK B n p = 258
      · exact q
      · have := tk.2.2.2.2.1 q; omega
    refine Or.inl ⟨σ, τ, p, E, Cm, P, b, fe, ?_, rfl, h0, hp, hfe, X, Y, hC, hP, W, F, (fun q => by cases q), ?_⟩
    · rw [f_X8_eitherB_b35, ex_bf (le600 (show i < 600 by omega) (Nat.le_refl _)), ex_cl (isW_f (k := 17) hn hp X.1 (by omega) (by omega) rfl (fun q => by omega)), ex_bt rfl, ex_rt]
    · exact ⟨fun _ => H.1 (by omega), fun _ => H.2.1 (by omega), fun _ => H.2.2.1 (by omega), fun _ q => by omega, fun _ q => by omega⟩
  | succ m ih =>
    intro p fu fe i E Cm P b σ τ hm hp h0 hfe hfu hi X Y hC hP W F H
    obtain ⟨fu, rfl⟩ : ∃ k, fu = k + 1 := ⟨fu - 1, by omega⟩
    obtain ⟨fe, rfl⟩ : ∃ k, fe = k + 1 := ⟨fe - 1, by omega⟩
    have tk := tok_at (B := B) hp
    rw [f_X8_eitherB_b35, ex_bf (le600 (show i < 600 by omega) (Nat.le_refl _))]
    by_cases z : tK B n p = 256 ∧ tW B n p = 17
    · have t5 := tk.2.2.2.2.1 (by omega)
      obtain ⟨σ1, e1, X1, -⟩ := X.next hn hB hg hp
      obtain ⟨τ1, m1, Y1⟩ := ra_either (fe := fe) hn hB hp (by omega) ht W hP z Y
      rw [ex_cl (isW_t (k := 17) hn hp X.1 (by omega) (by omega) rfl z), ex_bf l1_0, ex_cl e1, m1]
      rw [hC] at Y1
      have W1 : Wt a0 k0 (tE B n p) (C ++ E) (1 :: S) := by rw [← hC]; exact W.op (by omega)
      rcases hs σ1 τ1 (tE B n p) (C ++ E) (1 :: S) false D 8191 fe (by omega) hD W1 (Or.inr (Or.inr ⟨1, S, rfl, by omega, by omega, by decide⟩)) (fun _ => rfl) (by omega) (by omega) X1 Y1 with ⟨σ2, τ2, p2, E2, Cm2, P2, b2, fe2, c1, c2, c3, c4, c5, X2, Y2, c6, c7, W2, c8, c9, c10⟩ | ⟨σ2, τ2, c1, c2, c3⟩
      · have l2 : (C ++ E ++ E2).length = Cm2.length + P2.length := by rw [← c6, List.length_append]
        have wl := W2.1
        rw [List.length_append, List.length_cons] at wl
        obtain ⟨σ3, e3, X3⟩ := X2.add (q := 1) hg (by rw [l2]; omega)
        have hgr : σ2.2.2 14 1 = g := by rw [X2.2.2.2.1]; exact hr
        have e3 : f_X6_add (g + 3) (-1) σ2 = some ((), σ3) := e3
        rw [ex_cl c1, ex_bf l1_0, ex_dR, hgr, ex_gd hg, ex_cl e3, nI_1, c2]
        have eq1 : C ++ E ++ E2 ++ [1] = C ++ (E ++ (E2 ++ [1])) := by simp only [List.append_assoc]
        have eq2 : P2 ++ 1 :: S = (P2 ++ [1]) ++ S := by rw [List.append_assoc, List.singleton_append]
        rw [eq1] at X3
        rw [eq2] at Y2 W2
        refine ih p2 fu fe2 (i + 1) (E ++ (E2 ++ [1])) Cm2 (P2 ++ [1]) b2 σ3 τ2 (by omega) c4 (by omega) c5 (by omega) (by omega) X3 Y2 (by rw [← List.append_assoc, c6, eq1]) (fun z hz => ?_) W2 (Wf_bin F c8 (by omega) (by omega) (by omega)) c10
        rcases List.mem_append.mp hz with hz | hz
        · have := c7 z hz; exact ⟨this.1, this.2.1, by omega⟩
        · rw [List.mem_singleton.mp hz]; exact ⟨by omega, by omega, by decide⟩
      · rw [ex_cl c1, ex_bt rfl, ex_rt, c2]
        exact Or.inr ⟨_, _, rfl, rfl, c3⟩
    · rw [ex_cl (isW_f (k := 17) hn hp X.1 (by omega) (by omega) rfl z), ex_bt rfl, ex_rt]
      exact Or.inl ⟨σ, τ, p, E, Cm, P, b, fe + 1, rfl, rfl, h0, hp, hfe, X, Y, hC, hP, W, F, (fun q => by cases q), ⟨fun _ => H.1 (by omega), fun _ => H.2.1 (by omega), fun _ => H.2.2.1 (by omega), fun _ => H.2.2.2.1 (by omega), fun _ => z⟩⟩
theorem eitherB_ok {B : Nat → Nat} {n g a0 k0 a : Nat} {σ0 τ0 : Sg} {kE : Int32 → Sg → Option (Int32 × Sg)} (hn : n ≤ 600) (hB : ∀ i, i < n → B i < 256) (hg : isGd g = true) (hr : σ0.2.2 14 1 = g) (ha : a ≤ 5) (hs : Cn B n g a0 k0 σ0 τ0 a 2 (5 * a + 1) true stQ (f_X8_both kE (nI a))) : Cn B n g a0 k0 σ0 τ0 a 1 (5 * a) true stQ (f_X8_eitherB kE (nI a)) := by
  intro σ τ p C S b D fo fe hp hD W T hb hfo hfe X Y
  rw [f_X8_eitherB, ex_bt ((nI_ltR (x := 6) (k := 6) rfl (by omega) (by omega)).mpr (by omega))]
  rcases hs σ τ p C S b D fo fe hp hD W (tp_mono T (by omega)) hb hfo hfe X Y with ⟨σ2, τ2, p2, E2, Cm2, P2, b2, fe2, c1, c2, c3, c4, c5, X2, Y2, c6, c7, W2, c8, c9, c10⟩ | ⟨σ2, τ2, c1, c2, c3⟩
  · rw [ex_cl c1, ex_bf l1_0, c2]
    exact either_loop hn hB hg hr ha hs hD T (n - p2) p2 FU fe2 0 E2 Cm2 P2 b2 σ2 τ2 (Nat.le_refl _) c4 c3 c5 (by show n - p2 < 8192; omega) (by omega) X2 Y2 c6 (fun q hq => by have := c7 q hq; exact ⟨this.1, this.2.1, by omega⟩) W2 (fun d R hd h => c8 d R (by omega) h) c10
  · rw [ex_cl c1, ex_bt rfl, ex_rt, c2]
    exact Or.inr ⟨_, _, rfl, rfl, c3⟩
/-- a rule's expression, within a others -/
theorem either_ok {B : Nat → Nat} {n g a0 k0 : Nat} {σ0 τ0 : Sg} (hn : n ≤ 600) (hB : ∀ i, i < n → B i < 256) (hg : isGd g = true) (hr : σ0.2.2 14 1 = g) : ∀ (j a : Nat), a + j = 5 → Cn B n g a0 k0 σ0 τ0 a 1 (5 * a) true stQ (f_X8_either (j + 3) (nI a)) := by
  intro j
  induction j with
  | zero =>
    intro a ha
    have ha5 : a ≤ 5 := by omega
    have h6 : a = 5 → ∀ σ, f_X8_either 2 (nI 6) σ = (cl (f_X8_mayBeginPart) (fun r4 => br (r4 = 0) (f_X8_eitherB_b19 (f_X8_either 1) 1) (f_X8_eitherB_b19 (f_X8_either 1) 2))) σ := fun _ σ => by
      rw [f_X8_either, f_X8_eitherB, ex_bf (by decide)]
    have s1 : ∀ x2, Cn B n g a0 k0 σ0 τ0 a 7 (5 * a + 5) false (stP x2) (f_X8_part (f_X8_either 2) (nI a)) := fun x2 => part_ok hn hB hg hr ha5 (fun q => absurd q (by omega)) h6
    exact eitherB_ok hn hB hg hr ha5 (both_ok hn hB hg hr ha5 (denied_ok hn hB hg hr ha5 (test_ok hn hB hg hr ha5 (sum_ok hn hB hg hr ha5 (product_ok hn hB hg hr ha5 s1)))))
  | succ j ih =>
    intro a ha
    have ha5 : a ≤ 5 := by omega
    have s1 : ∀ x2, Cn B n g a0 k0 σ0 τ0 a 7 (5 * a + 5) false (stP x2) (f_X8_part (f_X8_either (j + 3)) (nI a)) := fun x2 => part_ok (kE' := f_X8_either 0) hn hB hg hr ha5 (fun _ => ih (a + 1) (by omega)) (fun q => absurd q (by omega))
    exact eitherB_ok hn hB hg hr ha5 (both_ok hn hB hg hr ha5 (denied_ok hn hB hg hr ha5 (test_ok hn hB hg hr ha5 (sum_ok hn hB hg hr ha5 (product_ok hn hB hg hr ha5 s1)))))
