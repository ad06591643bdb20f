-- ===== steps of both readers of rules =====
theorem gd_ne {g d k : Nat} (hg : isGd g = true) (hd : d ≤ 6) (hk : k < 35) : ¬ g + d = k := by rcases or3 hg with rfl | rfl | rfl <;> omega
theorem ExC.next {B : Nat → Nat} {n g a0 p : Nat} {σ0 σ : Sg} {C : List Nat} (hn : n ≤ 600) (hB : ∀ i, i < n → B i < 256) (hg : isGd g = true) (hp : p ≤ n) (E : ExC B n g a0 σ0 p C σ) : ∃ σ', f_X5_next σ = some ((), σ') ∧ ExC B n g a0 σ0 (tE B n p) C σ' ∧ Oc 15 σ σ' := by
  obtain ⟨K, h3, hC, F⟩ := E
  obtain ⟨σ', e, K', o⟩ := nextC hn hB (tok_at (B := B) hp).2.2.2.1 K.1 K.2.2.1
  exact ⟨σ', e, ⟨K', (o.2 _ _ (gd_ne hg (by omega) (by omega))).trans h3, CC.lt C a0 (fun b _ _ => o.2 _ _ (gd_ne hg (by omega) (by omega))) hC, F.tr ⟨o.1, fun a b q1 _ _ _ => o.2 a b q1⟩⟩, o⟩
theorem ExC.add {B : Nat → Nat} {n g a0 p q : Nat} {σ0 σ : Sg} {C : List Nat} (hg : isGd g = true) (E : ExC B n g a0 σ0 p C σ) (hl : a0 + C.length < 600) : ∃ σ', f_X6_add (g + 3) (clsT q) σ = some ((), σ') ∧ ExC B n g a0 σ0 p (C ++ [q]) σ' := by
  obtain ⟨K, h3, hC, F⟩ := E
  have e : f_X6_add (g + 3) (clsT q) σ = some ((), sI (sI σ (g + 4) (a0 + C.length) (clsT q)) (g + 3) 3 (nI (a0 + C.length + 1))) := by
    rw [f_X6_add, ex_gd (isRu_g hg), ex_dI, h3, ex_bf (nI_pos (by omega)), ex_dI, h3, ex_bf (le600 hl (Nat.le_refl _)), ex_dI, h3, ex_gd (inb_nI hl (by omega)), ex_pI, nI_clamp (show a0 + C.length < 2 ^ 31 by omega), ex_dI, sI_ne (by omega), h3, ex_pI, nI_1, ex_rt]
  have ne1 : ∀ d k, d ≤ 6 → k < 35 → ¬ k = g + d := fun d k h1 h2 q => gd_ne hg h1 h2 q.symm
  refine ⟨_, e, K.of (fun b => ?_) rfl (fun b => ?_), ?_, ?_, ?_⟩
  · rw [sI_ne (ne1 3 15 (by omega) (by omega)), sI_ne (ne1 4 15 (by omega) (by omega))]
  · rw [sI_ne (ne1 3 1 (by omega) (by omega)), sI_ne (ne1 4 1 (by omega) (by omega))]
  · rw [sI_eq, List.length_append, List.length_singleton, Nat.add_assoc]
  · refine CC.app C [q] a0 (CC.lt C a0 (fun b b1 b2 => ?_) hC) ⟨?_, trivial⟩
    · rw [sI_ne (by omega), sI_nf (by omega)]
    · rw [sI_ne (by omega), sI_eq]
  · refine F.tr ⟨rfl, fun a b q1 q2 q3 q4 => ?_⟩
    rw [sI_gt, if_neg q3, sI_gt, if_neg (fun q => q4 ⟨q.1, by omega⟩)]
theorem mtok_of {τ τ' : Sg} (o : off gs_mtok τ τ') {a b : Nat} (h : ¬ (a = 56 ∧ 20 ≤ b ∧ b ≤ 26)) : τ'.1 a b = τ.1 a b := (o a b (by
  cases q : gs_mtok a b with
  | false => rfl
  | true =>
    exfalso
    simp only [gs_mtok, Bool.and_eq_true, beq_iff_eq, Nat.ble_eq] at q
    omega)).1
theorem ExM.goes {B : Nat → Nat} {n k0 p : Nat} {τ0 τ : Sg} {C S : List Nat} {D : List Bool} (hn : n ≤ 600) (hB : ∀ i, i < n → B i < 256) (hp : p ≤ n) (E : ExM B n k0 τ0 p C S D τ) : ∃ τ', f_X11_goes τ = some ((), τ') ∧ ExM B n k0 τ0 (tE B n p) C S D τ' := by
  obtain ⟨K, h16, h36, hP, h37, hS, h38, hD, F⟩ := E
  obtain ⟨τ', e, K', o⟩ := goesM hn hB (tok_at (B := B) hp).2.2.2.1 K.1 K.2.1
  have m : ∀ {a b : Nat}, ¬ (a = 56 ∧ 20 ≤ b ∧ b ≤ 26) → τ'.1 a b = τ.1 a b := fun h => mtok_of o h
  exact ⟨τ', e, K', (m (by omega)).trans h16, (m (by omega)).trans h36, MP.lt C k0 (fun b _ _ => m (by omega)) hP, (m (by omega)).trans h37, Stk.lt S (fun b _ => m (by omega)) hS, (m (by omega)).trans h38, Tst.lt D (fun b _ _ => m (by omega)) hD, F.tr (fun a b q1 q2 q3 q4 => m (by omega))⟩
theorem ExM.wait {B : Nat → Nat} {n k0 p q : Nat} {x : Int32} {τ0 τ : Sg} {C S : List Nat} {D : List Bool} (E : ExM B n k0 τ0 p C S D τ) (hl : S.length < 800) (hx : nI (opW q) = x) : ∃ τ', f_X11_waitsFor x τ = some ((), τ') ∧ ExM B n k0 τ0 p C (q :: S) D τ' := by
  subst hx
  obtain ⟨K, h16, h36, hP, h37, hS, h38, hD, F⟩ := E
  have e : f_X11_waitsFor (nI (opW q)) τ = some ((), sI (sI τ 69 S.length (nI (opW q))) 56 37 (nI (S.length + 1))) := by
    rw [f_X11_waitsFor, ex_dI, h37, ex_gd (inb_nI hl (by omega)), ex_pI, nI_clamp (show S.length < 2 ^ 31 by omega), ex_dI, sI_ne (by omega), h37, ex_pI, nI_1, ex_rt]
  have m : ∀ {a b : Nat}, ¬ (a = 56 ∧ b = 37) → ¬ (a = 69 ∧ b = S.length) → (sI (sI τ 69 S.length (nI (opW q))) 56 37 (nI (S.length + 1))).1 a b = τ.1 a b := fun h1 h2 => by
    rw [sI_gt, if_neg h1, sI_gt, if_neg h2]
  refine ⟨_, e, K.of (fun b b1 b2 => m (by omega) (by omega)) (fun b => m (by omega) (by omega)) rfl, (m (by omega) (by omega)).trans h16, (m (by omega) (by omega)).trans h36, MP.lt C k0 (fun b _ _ => m (by omega) (by omega)) hP, ?_, ⟨?_, Stk.lt S (fun b hb => m (by omega) (by omega)) hS⟩, (m (by omega) (by omega)).trans h38, Tst.lt D (fun b _ _ => m (by omega) (by omega)) hD, F.tr (fun a b q1 q2 q3 q4 => m (by omega) (by omega))⟩
  · rw [sI_eq, List.length_cons]
  · rw [sI_ne (by omega), sI_eq]
theorem putsM {v : Int32} {t : Nat} {τ : Sg} (h36 : τ.1 56 36 = nI t) (ht : t < 1600) : f_X11_puts v τ = some ((), sI (sI τ 68 t v) 56 36 (nI (t + 1))) := by
  rw [f_X11_puts, ex_dI, h36, ex_gd (inb_nI ht (by omega)), ex_pI, nI_clamp (show t < 2 ^ 31 by omega), ex_dI, sI_ne (by omega), h36, ex_pI, nI_1, ex_rt]
theorem ExM.put1 {B : Nat → Nat} {n k0 p q : Nat} {τ0 τ : Sg} {C S : List Nat} {D : List Bool} (E : ExM B n k0 τ0 p C S D τ) (hl : k0 + mlen C < 1600) (hq : q < 10) : ∃ τ', f_X11_puts (nI (opM q)) τ = some ((), τ') ∧ ExM B n k0 τ0 p (C ++ [q]) S D τ' := by
  obtain ⟨K, h16, h36, hP, h37, hS, h38, hD, F⟩ := E
  have m : ∀ {a b : Nat}, ¬ (a = 56 ∧ b = 36) → ¬ (a = 68 ∧ b = k0 + mlen C) → (sI (sI τ 68 (k0 + mlen C) (nI (opM q))) 56 36 (nI (k0 + mlen C + 1))).1 a b = τ.1 a b := fun h1 h2 => by
    rw [sI_gt, if_neg h1, sI_gt, if_neg h2]
  refine ⟨_, putsM h36 hl, K.of (fun b b1 b2 => m (by omega) (by omega)) (fun b => m (by omega) (by omega)) rfl, (m (by omega) (by omega)).trans h16, ?_, MP.app C [q] k0 (MP.lt C k0 (fun b _ _ => m (by omega) (by omega)) hP) ⟨fun _ => ?_, fun z => absurd z (by omega), fun z => absurd z (by omega), trivial⟩, (m (by omega) (by omega)).trans h37, Stk.lt S (fun b hb => m (by omega) (by omega)) hS, (m (by omega) (by omega)).trans h38, Tst.lt D (fun b _ _ => m (by omega) (by omega)) hD, F.tr (fun a b q1 q2 q3 q4 => m (by omega) (by omega))⟩
  · rw [sI_eq, mlen_app, mlen, if_pos hq]; rfl
  · rw [sI_ne (by omega), sI_eq]
theorem ExM.put2 {B : Nat → Nat} {n k0 p q : Nat} {x y : Int32} {τ0 τ : Sg} {C S : List Nat} {D : List Bool} (E : ExM B n k0 τ0 p C S D τ) (hl : k0 + mlen C + 1 < 1600) (hq : 10 ≤ q) (h1 : q < 18 → x = 2 ∧ y = nI (q - 10)) (h2 : 18 ≤ q → x = 1 ∧ y = nI (q - 20)) : ∃ τ1 τ', f_X11_puts x τ = some ((), τ1) ∧ f_X11_puts y τ1 = some ((), τ') ∧ ExM B n k0 τ0 p (C ++ [q]) S D τ' := by
  obtain ⟨K, h16, h36, hP, h37, hS, h38, hD, F⟩ := E
  have e1 := putsM (v := x) h36 (show k0 + mlen C < 1600 by omega)
  have e2 := putsM (v := y) (τ := sI (sI τ 68 (k0 + mlen C) x) 56 36 (nI (k0 + mlen C + 1))) (t := k0 + mlen C + 1) sI_eq (by omega)
  refine ⟨_, _, e1, e2, ?_⟩
  generalize hτ' : sI (sI (sI (sI τ 68 (k0 + mlen C) x) 56 36 (nI (k0 + mlen C + 1))) 68 (k0 + mlen C + 1) y) 56 36 (nI (k0 + mlen C + 1 + 1)) = τ'
  have m : ∀ {a b : Nat}, ¬ (a = 56 ∧ b = 36) → ¬ (a = 68 ∧ b = k0 + mlen C) → ¬ (a = 68 ∧ b = k0 + mlen C + 1) → τ'.1 a b = τ.1 a b := fun h1 h2 h3 => by
    rw [← hτ', sI_gt, if_neg h1, sI_gt, if_neg h3, sI_gt, if_neg h1, sI_gt, if_neg h2]
  have c0 : τ'.1 68 (k0 + mlen C) = x := by rw [← hτ', sI_ne (by omega), sI_nf (by omega), sI_ne (by omega), sI_eq]
  have c1 : τ'.1 68 (k0 + mlen C + 1) = y := by rw [← hτ', sI_ne (by omega), sI_eq]
  refine ⟨K.of (fun b b1 b2 => m (by omega) (by omega) (by omega)) (fun b => m (by omega) (by omega) (by omega)) (by rw [← hτ']; rfl), (m (by omega) (by omega) (by omega)).trans h16, ?_, MP.app C [q] k0 (MP.lt C k0 (fun b _ _ => m (by omega) (by omega) (by omega)) hP) ⟨fun z => absurd z (by omega), fun _ z => ?_, fun z => ?_, trivial⟩, (m (by omega) (by omega) (by omega)).trans h37, Stk.lt S (fun b hb => m (by omega) (by omega) (by omega)) hS, (m (by omega) (by omega) (by omega)).trans h38, Tst.lt D (fun b _ _ => m (by omega) (by omega) (by omega)) hD, F.tr (fun a b q1 q2 q3 q4 => m (by omega) (by omega) (by omega))⟩
  · rw [← hτ', sI_eq, mlen_app, mlen, if_neg (by omega)]; rfl
  · rw [c0, c1]; exact h1 z
  · rw [c0, c1]; exact h2 z
theorem openM {q : Nat} {τ : Sg} (h : q ≤ 9) : f_X11_isOpen (nI (opW q)) τ = some (if q = 0 then 1 else 0, τ) := by
  rcases (by omega : q = 0 ∨ q = 1 ∨ q = 2 ∨ q = 3 ∨ q = 4 ∨ q = 5 ∨ q = 6 ∨ q = 7 ∨ q = 8 ∨ q = 9) with rfl | rfl | rfl | rfl | rfl | rfl | rfl | rfl | rfl | rfl <;> rfl
theorem strM {q : Nat} {τ : Sg} (h1 : 1 ≤ q) (h : q ≤ 9) : f_X11_strength (nI (opW q)) τ = some (nI (str q), τ) := by
  rcases (by omega : q = 1 ∨ q = 2 ∨ q = 3 ∨ q = 4 ∨ q = 5 ∨ q = 6 ∨ q = 7 ∨ q = 8 ∨ q = 9) with rfl | rfl | rfl | rfl | rfl | rfl | rfl | rfl | rfl <;> rfl
theorem str_le (q : Nat) : str q ≤ 6 := by
  unfold str
  split
  · omega
  · split
    · omega
    · split
      · omega
      · split
        · omega
        · split <;> omega
/-- the stack's top is no operation of this strength -/
def tp (lv : Nat) (S : List Nat) : Prop := S = [] ∨ (∃ r, S = 0 :: r) ∨ ∃ q r, S = q :: r ∧ 1 ≤ q ∧ q ≤ 9 ∧ str q < lv
theorem ExM.drops {B : Nat → Nat} {n k0 p lv : Nat} {x : Int32} {τ0 : Sg} {S : List Nat} {D : List Bool} (hlv : lv ≤ 6) (hx : nI lv = x) (ht : tp lv S) : ∀ (P C : List Nat) (fu : Nat) (τ : Sg), ExM B n k0 τ0 p C (P ++ S) D τ → (∀ q ∈ P, 1 ≤ q ∧ q ≤ 9 ∧ lv ≤ str q) → k0 + mlen C + P.length < 1600 → (P ++ S).length ≤ 800 → ∃ τ', f_X11_drops_b0 (fu + P.length + 1) x τ = some ((), τ') ∧ ExM B n k0 τ0 p (C ++ P) S D τ' := by
  subst hx
  intro P
  induction P with
  | nil =>
    intro C fu τ E hP hl h8
    rw [List.nil_append] at E h8
    rw [List.append_nil]
    obtain ⟨K, h16, h36, hPP, h37, hS, h38, hD, F⟩ := id E
    rcases ht with rfl | ⟨r, rfl⟩ | ⟨q, r, rfl, q1, q9, qs⟩
    · exact ⟨τ, by rw [f_X11_drops_b0, ex_dI, h37, ex_bt (by decide), ex_rt], E⟩
    · rw [List.length_cons] at h37 h8
      have p1 : ¬ nI (r.length + 1) ≤ 0 := fun z => by have := (nI_leR (x := 0) (k := 0) rfl (by omega) (by omega)).mp z; omega
      refine ⟨τ, ?_, E⟩
      rw [f_X11_drops_b0, ex_dI, h37, ex_bf p1, ex_dI, h37, nI_s1 (by omega), Nat.add_sub_cancel, ex_gd (inb_nI (show r.length < 800 by omega) (by omega)), ex_dI, nI_clamp (show r.length < 2 ^ 31 by omega), hS.1, ex_cl (openM (by omega)), if_pos rfl, ex_bf l1_0, ex_rt]
    · rw [List.length_cons] at h37 h8
      have p1 : ¬ nI (r.length + 1) ≤ 0 := fun z => by have := (nI_leR (x := 0) (k := 0) rfl (by omega) (by omega)).mp z; omega
      have sl := str_le q
      refine ⟨τ, ?_, E⟩
      rw [f_X11_drops_b0, ex_dI, h37, ex_bf p1, ex_dI, h37, nI_s1 (by omega), Nat.add_sub_cancel, ex_gd (inb_nI (show r.length < 800 by omega) (by omega)), ex_dI, nI_clamp (show r.length < 2 ^ 31 by omega), hS.1, ex_cl (openM (by omega)), if_neg (by omega), ex_bt rfl, ex_dI, h37, nI_s1 (by omega), Nat.add_sub_cancel, ex_gd (inb_nI (show r.length < 800 by omega) (by omega)), ex_dI, nI_clamp (show r.length < 2 ^ 31 by omega), hS.1, ex_cl (strM q1 q9), ex_bt ((nI_ltI (by omega) (by omega)).mpr qs), ex_rt]
  | cons q P ih =>
    intro C fu τ E hP hl h8
    obtain ⟨K, h16, h36, hPP, h37, hS, h38, hD, F⟩ := id E
    obtain ⟨q1, q9, qs⟩ := hP q (List.mem_cons_self)
    rw [List.cons_append, List.length_cons] at h37 h8
    rw [List.length_cons] at hl
    have hS1 : τ.1 69 (P ++ S).length = nI (opW q) := hS.1
    have p1 : ¬ nI ((P ++ S).length + 1) ≤ 0 := fun z => by have := (nI_leR (x := 0) (k := 0) rfl (by omega) (by omega)).mp z; omega
    have sl := str_le q
    have il := inb_nI (show (P ++ S).length < 800 by omega) (by omega)
    have cl' := nI_clamp (show (P ++ S).length < 2 ^ 31 by omega)
    have E1 : ExM B n k0 τ0 p C (P ++ S) D (sI τ 56 37 (nI (P ++ S).length)) := by
      have m : ∀ {a b : Nat}, ¬ (a = 56 ∧ b = 37) → (sI τ 56 37 (nI (P ++ S).length)).1 a b = τ.1 a b := fun h1 => by rw [sI_gt, if_neg h1]
      exact ⟨K.of (fun b b1 b2 => m (by omega)) (fun b => m (by omega)) rfl, (m (by omega)).trans h16, (m (by omega)).trans h36, MP.lt C k0 (fun b _ _ => m (by omega)) hPP, sI_eq, Stk.lt _ (fun b hb => m (by omega)) hS.2, (m (by omega)).trans h38, Tst.lt D (fun b _ _ => m (by omega)) hD, F.tr (fun a b q1 q2 q3 q4 => m (by omega))⟩
    have ow : opW q = opM q := if_neg (by omega)
    obtain ⟨τ2, e2, E2⟩ := E1.put1 (q := q) (by omega) (by omega)
    obtain ⟨τ', e3, E3⟩ := ih (C ++ [q]) fu τ2 E2 (fun z hz => hP z (List.mem_cons_of_mem _ hz)) (by rw [mlen_app, mlen, if_pos (by omega), mlen]; omega) (by omega)
    rw [List.append_assoc, List.singleton_append] at E3
    refine ⟨τ', ?_, E3⟩
    rw [List.length_cons, show fu + (P.length + 1) + 1 = (fu + P.length + 1) + 1 by omega, f_X11_drops_b0, ex_dI, h37, ex_bf p1, ex_dI, h37, nI_s1 (by omega), Nat.add_sub_cancel, ex_gd il, ex_dI, cl', hS1, ex_cl (openM q9), if_neg (by omega), ex_bt rfl, ex_dI, h37, nI_s1 (by omega), Nat.add_sub_cancel, ex_gd il, ex_dI, cl', hS1, ex_cl (strM q1 q9), ex_bf (fun z => by have := (nI_ltI (by omega) (by omega)).mp z; omega), ex_dI, h37, ex_pI, nI_s1 (by omega), Nat.add_sub_cancel, ex_dI, sI_eq, ex_gd il, ex_dI, cl', sI_ne (by omega), hS1, ow, ex_cl e2]
    exact e3
/-- the test's flag of this depth -/
theorem ExM.flag {B : Nat → Nat} {n k0 p : Nat} {x : Int32} {τ0 τ : Sg} {C S : List Nat} {D : List Bool} {b b' : Bool} (E : ExM B n k0 τ0 p C S (b :: D) τ) (hx : x = if b' = true then 1 else 0) : ExM B n k0 τ0 p C S (b' :: D) (sI τ 70 (D.length + 1) x) := by
  obtain ⟨K, h16, h36, hP, h37, hS, h38, hD, F⟩ := E
  have m : ∀ {c d : Nat}, ¬ (c = 70 ∧ d = D.length + 1) → (sI τ 70 (D.length + 1) x).1 c d = τ.1 c d := fun h1 => by rw [sI_gt, if_neg h1]
  exact ⟨K.of (fun b b1 b2 => m (by omega)) (fun b => m (by omega)) rfl, (m (by omega)).trans h16, (m (by omega)).trans h36, MP.lt C k0 (fun b _ _ => m (by omega)) hP, (m (by omega)).trans h37, Stk.lt _ (fun b hb => m (by omega)) hS, (m (by omega)).trans h38, ⟨by rw [sI_eq]; exact hx, Tst.lt D (fun b _ _ => m (by omega)) hD.2⟩, F.tr (fun a b q1 q2 q3 q4 => m (by omega))⟩
-- ===== once there is a fault =====
theorem str_any (x : Int32) (τ : Sg) : ∃ s, f_X11_strength x τ = some (s, τ) := by
  rw [f_X11_strength]
  by_cases a : x = 5
  · exact ⟨_, by rw [ex_bt a, ex_rt]⟩
  by_cases b : x = 4
  · exact ⟨_, by rw [ex_bf a, ex_bt b, ex_rt]⟩
  by_cases c : x = 3
  · exact ⟨_, by rw [ex_bf a, ex_bf b, ex_bt c, ex_rt]⟩
  by_cases d : x = 6
  · exact ⟨_, by rw [ex_bf a, ex_bf b, ex_bf c, ex_bt d]; rfl⟩
  by_cases e : x = 7
  · exact ⟨_, by rw [ex_bf a, ex_bf b, ex_bf c, ex_bf d, ex_bt e]; rfl⟩
  by_cases f : x = 8
  · exact ⟨_, by rw [ex_bf a, ex_bf b, ex_bf c, ex_bf d, ex_bf e, ex_bt f]; rfl⟩
  by_cases g : x = 9
  · exact ⟨_, by rw [ex_bf a, ex_bf b, ex_bf c, ex_bf d, ex_bf e, ex_bf f, ex_bt g]; rfl⟩
  · exact ⟨_, by rw [ex_bf a, ex_bf b, ex_bf c, ex_bf d, ex_bf e, ex_bf f, ex_bf g, ex_rt]⟩
theorem drops_any {x : Int32} : ∀ (w t fu : Nat) (τ : Sg), τ.1 56 37 = nI w → τ.1 56 36 = nI t → w ≤ 800 → t + w < 1600 → ∃ τ' t', f_X11_drops_b0 (fu + w + 1) x τ = some ((), τ') ∧ τ'.1 56 36 = nI t' ∧ t' ≤ t + w ∧ τ'.1 56 16 = τ.1 56 16 ∧ τ'.1 56 17 = τ.1 56 17 := by
  intro w
  induction w with
  | zero =>
    intro t fu τ h37 h36 hw ht
    exact ⟨τ, t, by rw [f_X11_drops_b0, ex_dI, h37, ex_bt (by decide), ex_rt], h36, by omega, rfl, rfl⟩
  | succ w ih =>
    intro t fu τ h37 h36 hw ht
    have p1 : ¬ nI (w + 1) ≤ 0 := fun z => by have := (nI_leR (x := 0) (k := 0) rfl (by omega) (by omega)).mp z; omega
    have il := inb_nI (show w < 800 by omega) (by omega)
    have cw := nI_clamp (show w < 2 ^ 31 by omega)
    rw [show fu + (w + 1) + 1 = (fu + w + 1) + 1 by omega, f_X11_drops_b0, ex_dI, h37, ex_bf p1, ex_dI, h37, nI_s1 (by omega), Nat.add_sub_cancel, ex_gd il, ex_dI, cw]
    by_cases z : τ.1 69 w < 14
    · have o : f_X11_isOpen (τ.1 69 w) τ = some (0, τ) := by rw [f_X11_isOpen, ex_bt z, ex_rt]
      obtain ⟨s, hs⟩ := str_any (τ.1 69 w) τ
      rw [ex_cl o, ex_bt rfl, ex_dI, h37, nI_s1 (by omega), Nat.add_sub_cancel, ex_gd il, ex_dI, cw, ex_cl hs]
      by_cases y : s < x
      · rw [ex_bt y, ex_rt]
        exact ⟨τ, t, rfl, h36, by omega, rfl, rfl⟩
      · have e := putsM (v := τ.1 69 w) (τ := sI τ 56 37 (nI w)) (t := t) (by rw [sI_nf (by omega)]; exact h36) (by omega)
        obtain ⟨τ', t', c1, c2, c3, c4, c5⟩ := ih (t + 1) fu (sI (sI (sI τ 56 37 (nI w)) 68 t (τ.1 69 w)) 56 36 (nI (t + 1))) (by rw [sI_nf (by omega), sI_ne (by omega), sI_eq]) sI_eq (by omega) (by omega)
        rw [ex_bf y, ex_dI, h37, ex_pI, nI_s1 (by omega), Nat.add_sub_cancel, ex_dI, sI_eq, ex_gd il, ex_dI, cw, sI_ne (by omega), ex_cl e]
        refine ⟨τ', t', c1, c2, by omega, ?_, ?_⟩
        · rw [c4, sI_nf (by omega), sI_ne (by omega), sI_nf (by omega)]
        · rw [c5, sI_nf (by omega), sI_ne (by omega), sI_nf (by omega)]
    · have o : f_X11_isOpen (τ.1 69 w) τ = some (1, τ) := by rw [f_X11_isOpen, ex_bf z, ex_rt]
      rw [ex_cl o, ex_bf l1_0, ex_rt]
      exact ⟨τ, t, rfl, h36, by omega, rfl, rfl⟩
theorem end_any {τ : Sg} {w t : Nat} (h37 : τ.1 56 37 = nI w) (h36 : τ.1 56 36 = nI t) (hw : w ≤ 800) (ht : t + w < 1599) : ∃ τ', f_X11_expression_b345 τ = some ((), τ') ∧ τ'.1 56 16 = τ.1 56 16 ∧ τ'.1 56 17 = τ.1 56 17 := by
  obtain ⟨τ1, t', c1, c2, c3, c4, c5⟩ := drops_any (x := 0) w t (8191 - w) τ h37 h36 hw (by omega)
  rw [show 8191 - w + w + 1 = FU by rw [Nat.sub_add_cancel (by omega)]; rfl] at c1
  have c1 : f_X11_drops 0 τ = some ((), τ1) := c1
  refine ⟨_, by rw [f_X11_expression_b345, ex_cl c1, ex_cl (putsM c2 (by omega)), ex_rt], ?_, ?_⟩
  · rw [sI_nf (by omega), sI_ne (by omega), c4]
  · rw [sI_nf (by omega), sI_ne (by omega), c5]
theorem bad_end {τ : Sg} {w t fe : Nat} (hb : ¬ τ.1 56 16 = 0) (h37 : τ.1 56 37 = nI w) (h36 : τ.1 56 36 = nI t) (hw : w ≤ 800) (ht : t + w < 1599) : ∃ τ', f_X11_expression_b29 (fe + 1) 1 τ = some ((), τ') ∧ τ'.1 56 16 = τ.1 56 16 ∧ τ'.1 56 17 = τ.1 56 17 := by
  rw [f_X11_expression_b29, ex_bf l1_0, ex_cl (good0 hb), ex_bt rfl, f_X11_expression_b325, ex_cl (good0 hb), ex_bt rfl]
  exact end_any h37 h36 hw ht
