-- ===== a part, both =====
theorem Wf_one {bd q : Nat} (hb : bd < 40) (hq : (10 ≤ q ∧ q < 18) ∨ (20 ≤ q ∧ q < 10020)) : Wf bd [q] := fun d R hd h => Or.inr ⟨hq, by omega, h⟩
theorem known_ne {B : Nat → Nat} {n p k : Nat} {x : Int32} (hx : nI k = x) (hk : k < 19) (h : ¬ (tK B n p = 256 ∧ tW B n p = k)) : ¬ (if tK B n p = 256 ∧ tW B n p < 19 then nI (tW B n p) else -1 : Int32) = x := by
  subst hx
  intro q
  by_cases z : tK B n p = 256 ∧ tW B n p < 19
  · rw [if_pos z] at q
    exact h ⟨z.1, nI_inj (by omega) (by omega) q⟩
  · rw [if_neg z] at q
    exact neg1_ne (by omega) q.symm
theorem ra_head {B : Nat → Nat} {n k0 p fe : Nat} {τ0 τ : Sg} {C S : List Nat} {b : Bool} {D : List Bool} (hn : n ≤ 600) (hp : p ≤ n) (hD : D.length ≤ 5) (E : ExM B n k0 τ0 p C S (b :: D) τ) (h16 : ¬ (tK B n p = 256 ∧ tW B n p = 16)) (h17 : ¬ (tK B n p = 256 ∧ tW B n p = 17)) (h : (¬ tK B n p = 60 ∧ ¬ tK B n p = 61) ∨ b = true) : f_X11_expression_b29 (fe + 1) 1 τ = f_X11_expression_b186 (f_X11_expression_b29 fe) 1 τ := by
  obtain ⟨K, h0, h36, hP, h37, hS, h38, hT, F⟩ := E
  have kn := knownM hn hp K
  rw [f_X11_expression_b29, ex_bf l1_0, ex_cl (good1 h0), ex_bf l1_0, ex_cl kn, ex_bf (known_ne (k := 16) (x := 16) rfl (by omega) h16), ex_bf (known_ne (k := 17) (x := 17) rfl (by omega) h17)]
  have b127 : b = true → f_X11_expression_b127 (f_X11_expression_b29 fe) 1 τ = f_X11_expression_b186 (f_X11_expression_b29 fe) 1 τ := by
    intro hb
    have h70 := hT.1
    rw [hb, if_pos rfl] at h70
    rw [List.length_cons] at h38
    rw [f_X11_expression_b127, ex_dI, h38, ex_gd (inb_nI (show D.length + 1 < 9 by omega) (by omega)), ex_dI, nI_clamp (show D.length + 1 < 2 ^ 31 by omega), h70, ex_bf l1_0]
  by_cases a : tK B n p = 60
  · rw [ex_cl (sgn_t (c := 60) (x := 60) K rfl (by omega) a), ex_bf l1_0]
    exact b127 (h.resolve_left (fun q => q.1 a))
  · rw [ex_cl (sgn_f (c := 60) (x := 60) K rfl (by omega) a), ex_bt rfl]
    by_cases c : tK B n p = 61
    · rw [ex_cl (sgn_t (c := 61) (x := 61) K rfl (by omega) c), ex_bf l1_0]
      exact b127 (h.resolve_left (fun q => q.2 c))
    · rw [ex_cl (sgn_f (c := 61) (x := 61) K rfl (by omega) c), ex_bt rfl]
theorem openedM {τ : Sg} : ∀ (P S : List Nat) (fu : Nat), Stk τ (P ++ S) → (∀ q ∈ P, 1 ≤ q ∧ q ≤ 9) → (P ++ S).length ≤ 800 → (S = [] → f_X11_isOpened_b7 (fu + P.length + 1) (nI (P ++ S).length - 1) τ = some (0, τ)) ∧ (∀ r, S = 0 :: r → f_X11_isOpened_b7 (fu + P.length + 1) (nI (P ++ S).length - 1) τ = some (1, τ)) := by
  intro P
  induction P with
  | nil =>
    intro S fu hS hP h8
    refine ⟨fun h => ?_, fun r h => ?_⟩
    · subst h
      rw [f_X11_isOpened_b7, ex_bt (by decide), f_X11_isOpened_b29, ex_bt (by decide), ex_rt]
    · subst h
      have h1 : τ.1 69 r.length = nI (opW 0) := hS.1
      rw [List.nil_append, List.length_cons] at h8 ⊢
      rw [nI_s1 (by omega), Nat.add_sub_cancel, f_X11_isOpened_b7, ex_bf (nI_pos (by omega)), ex_gd (inb_nI (show r.length < 800 by omega) (by omega)), ex_dI, nI_clamp (show r.length < 2 ^ 31 by omega), h1, ex_cl (openM (by omega)), if_pos rfl, ex_bf l1_0, f_X11_isOpened_b29, ex_bf (nI_pos (by omega)), ex_rt]
  | cons q P ih =>
    intro S fu hS hP h8
    have h1 : τ.1 69 (P ++ S).length = nI (opW q) := hS.1
    obtain ⟨q1, q9⟩ := hP q (List.mem_cons_self)
    rw [List.cons_append, List.length_cons] at h8
    have i := ih S fu hS.2 (fun z hz => hP z (List.mem_cons_of_mem _ hz)) (by omega)
    have e : f_X11_isOpened_b7 (fu + (q :: P).length + 1) (nI (q :: P ++ S).length - 1) τ = f_X11_isOpened_b7 (fu + P.length + 1) (nI (P ++ S).length - 1) τ := by
      rw [List.cons_append, List.length_cons, List.length_cons, show fu + (P.length + 1) + 1 = (fu + P.length + 1) + 1 by omega, nI_s1 (by omega), Nat.add_sub_cancel, f_X11_isOpened_b7, ex_bf (nI_pos (by omega)), ex_gd (inb_nI (show (P ++ S).length < 800 by omega) (by omega)), ex_dI, nI_clamp (show (P ++ S).length < 2 ^ 31 by omega), h1, ex_cl (openM q9), if_neg (by omega), ex_bt rfl, Int32.sub_eq_add_neg]
    rw [e]
    exact i
theorem opened_eq {τ : Sg} {P S : List Nat} (h37 : τ.1 56 37 = nI (P ++ S).length) (hS : Stk τ (P ++ S)) (hP : ∀ q ∈ P, 1 ≤ q ∧ q ≤ 9) (h8 : (P ++ S).length ≤ 800) : (S = [] → f_X11_isOpened τ = some (0, τ)) ∧ (∀ r, S = 0 :: r → f_X11_isOpened τ = some (1, τ)) := by
  have := openedM P S (8191 - P.length) hS hP h8
  rw [List.length_append] at h8
  rw [show 8191 - P.length + P.length + 1 = FU by rw [Nat.sub_add_cancel (by omega)]; rfl] at this
  refine ⟨fun h => ?_, fun r h => ?_⟩
  · rw [f_X11_isOpened, ex_dI, h37]; exact this.1 h
  · rw [f_X11_isOpened, ex_dI, h37]; exact this.2 r h
/-- it ends: neither an operation nor a parenthesis that closes -/
theorem ra_stop {B : Nat → Nat} {n k0 p fe : Nat} {τ0 τ : Sg} {C S : List Nat} {b : Bool} {D : List Bool} (hn : n ≤ 600) (hp : p ≤ n) (hD : D.length ≤ 5) (E : ExM B n k0 τ0 p C S (b :: D) τ) (h : Fw B n 1 p b) (ho : tK B n p = 41 → f_X11_isOpened τ = some (0, τ)) : f_X11_expression_b29 (fe + 2) 1 τ = f_X11_expression_b325 τ := by
  obtain ⟨f6, f5, f4, f2, f1⟩ := h
  have K := E.1
  rw [ra_head (fe := fe + 1) hn hp hD E (f2 (by omega)) (f1 (by omega)) (f4 (by omega)), f_X11_expression_b186, ex_cl (sgn_f (c := 43) (x := 43) K rfl (by omega) (f5 (by omega)).1), ex_bt rfl, ex_cl (sgn_f (c := 45) (x := 45) K rfl (by omega) (f5 (by omega)).2), ex_bt rfl, ex_cl (sgn_f (c := 42) (x := 42) K rfl (by omega) (f6 (by omega)).1), ex_bt rfl, ex_cl (sgn_f (c := 47) (x := 47) K rfl (by omega) (f6 (by omega)).2), ex_bt rfl]
  by_cases z : tK B n p = 41
  · rw [ex_cl (sgn_t (c := 41) (x := 41) K rfl (by omega) z), ex_bf l1_0, ex_cl (ho z), ex_bt rfl, f_X11_expression_b320, f_X11_expression_b29, ex_bt rfl]
  · rw [ex_cl (sgn_f (c := 41) (x := 41) K rfl (by omega) z), ex_bt rfl, f_X11_expression_b320, f_X11_expression_b29, ex_bt rfl]
theorem ExM.pop {B : Nat → Nat} {n k0 p : Nat} {τ0 τ : Sg} {C S : List Nat} {b b' : Bool} {D : List Bool} (E : ExM B n k0 τ0 p C (0 :: S) (b' :: b :: D) τ) : ExM B n k0 τ0 p C S (b :: D) (sI (sI τ 56 37 (nI S.length)) 56 38 (nI (b :: D).length)) := by
  obtain ⟨K, h16, h36, hP, h37, hS, h38, hD, F⟩ := E
  have m : ∀ {c d : Nat}, ¬ (c = 56 ∧ d = 37) → ¬ (c = 56 ∧ d = 38) → (sI (sI τ 56 37 (nI S.length)) 56 38 (nI (b :: D).length)).1 c d = τ.1 c d := fun h1 h2 => by rw [sI_gt, if_neg h2, sI_gt, if_neg h1]
  exact ⟨K.of (fun b b1 b2 => m (by omega) (by omega)) (fun b => m (by omega) (by omega)) rfl, (m (by omega) (by omega)).trans h16, (m (by omega) (by omega)).trans h36, MP.lt C k0 (fun b _ _ => m (by omega) (by omega)) hP, by rw [sI_nf (by omega), sI_eq], Stk.lt _ (fun b hb => m (by omega) (by omega)) hS.2, sI_eq, Tst.lt _ (fun b _ _ => m (by omega) (by omega)) hD.2, F.tr (fun a b q1 q2 q3 q4 => m (by omega) (by omega))⟩
theorem ra_close {B : Nat → Nat} {n k0 p fe : Nat} {τ0 τ : Sg} {C P S : List Nat} {b b' : Bool} {D : List Bool} (hn : n ≤ 600) (hB : ∀ i, i < n → B i < 256) (hp : p ≤ n) (hD : D.length ≤ 4) (E : ExM B n k0 τ0 p C (P ++ 0 :: S) (b' :: b :: D) τ) (h41 : tK B n p = 41) (hP : ∀ q ∈ P, 1 ≤ q ∧ q ≤ 9) (h8 : (P ++ 0 :: S).length ≤ 800) (hk : k0 + mlen C + P.length < 1600) : ∃ τ', f_X11_expression_b29 (fe + 1) 1 τ = f_X11_expression_b29 fe 1 τ' ∧ ExM B n k0 τ0 (tE B n p) (C ++ P) S (b :: D) τ' := by
  have K := E.1
  have op := (opened_eq E.2.2.2.2.1 E.2.2.2.2.2.1 hP h8).2 S rfl
  obtain ⟨τ1, e1, E1⟩ := ExM.drops (lv := 0) (x := 0) (by omega) rfl (Or.inr (Or.inl ⟨S, rfl⟩)) P C (8191 - P.length) τ E (fun q hq => ⟨(hP q hq).1, (hP q hq).2, Nat.zero_le _⟩) hk h8
  rw [List.length_append] at h8
  rw [show 8191 - P.length + P.length + 1 = FU by rw [Nat.sub_add_cancel (by omega)]; rfl] at e1
  have e1 : f_X11_drops 0 τ = some ((), τ1) := e1
  obtain ⟨τ', e2, E2⟩ := E1.pop.goes hn hB hp
  refine ⟨τ', ?_, E2⟩
  have h37 := E1.2.2.2.2.1
  have h38 := E1.2.2.2.2.2.2.1
  rw [List.length_cons] at h37
  rw [List.length_cons, List.length_cons] at h38
  have cls : f_X11_closes τ = some ((), τ') := by
    rw [f_X11_closes, ex_cl e1, ex_dI, h37, ex_pI, nI_s1 (by omega), Nat.add_sub_cancel, ex_dI, sI_nf (by omega), h38, ex_pI, nI_s1 (by omega), Nat.add_sub_cancel]
    rw [List.length_cons] at e2
    rw [ex_cl e2, ex_rt]
  rw [ra_head hn hp (by rw [List.length_cons]; omega) E (fun q => by omega) (fun q => by omega) (Or.inl ⟨by omega, by omega⟩), f_X11_expression_b186, ex_cl (sgn_f (c := 43) (x := 43) K rfl (by omega) (by omega)), ex_bt rfl, ex_cl (sgn_f (c := 45) (x := 45) K rfl (by omega) (by omega)), ex_bt rfl, ex_cl (sgn_f (c := 42) (x := 42) K rfl (by omega) (by omega)), ex_bt rfl, ex_cl (sgn_f (c := 47) (x := 47) K rfl (by omega) (by omega)), ex_bt rfl, ex_cl (sgn_t (c := 41) (x := 41) K rfl (by omega) h41), ex_bf l1_0, ex_cl op, ex_bf l1_0, ex_cl cls]
/-- one deeper -/
theorem ExM.deep {B : Nat → Nat} {n k0 p : Nat} {τ0 τ : Sg} {C S : List Nat} {D : List Bool} (hD : D.length < 6) (E : ExM B n k0 τ0 p C S D τ) : ∃ τ', f_X11_deeper τ = some ((), τ') ∧ ExM B n k0 τ0 p C S (false :: D) τ' := by
  obtain ⟨K, h16, h36, hP, h37, hS, h38, hT, F⟩ := E
  have e : f_X11_deeper τ = some ((), sI (sI τ 56 38 (nI (D.length + 1))) 70 (D.length + 1) 0) := by
    rw [f_X11_deeper, ex_dI, h38, ex_bf (fun q => by have := (nI_leL (x := 6) (k := 6) rfl (by omega) (by omega)).mp q; omega), ex_dI, h38, ex_pI, nI_1, ex_dI, sI_eq, ex_gd (inb_nI (show D.length + 1 < 9 by omega) (by omega)), ex_pI, nI_clamp (show D.length + 1 < 2 ^ 31 by omega), ex_rt]
    rfl
  have m : ∀ {c d : Nat}, ¬ (c = 56 ∧ d = 38) → ¬ (c = 70 ∧ d = D.length + 1) → (sI (sI τ 56 38 (nI (D.length + 1))) 70 (D.length + 1) 0).1 c d = τ.1 c d := fun h1 h2 => by rw [sI_gt, if_neg h2, sI_gt, if_neg h1]
  exact ⟨_, e, K.of (fun b b1 b2 => m (by omega) (by omega)) (fun b => m (by omega) (by omega)) rfl, (m (by omega) (by omega)).trans h16, (m (by omega) (by omega)).trans h36, MP.lt C k0 (fun b _ _ => m (by omega) (by omega)) hP, (m (by omega) (by omega)).trans h37, Stk.lt _ (fun b hb => m (by omega) (by omega)) hS, by rw [sI_ne (by omega), sI_eq, List.length_cons], ⟨by rw [sI_eq]; rfl, Tst.lt _ (fun b _ _ => m (by omega) (by omega)) hT⟩, F.tr (fun a b q1 q2 q3 q4 => m (by omega) (by omega))⟩
