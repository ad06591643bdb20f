-- ===== step =====
def okL (σ : Sg) (x : Int32) (i : Nat) : Bool := decide (σ.1 29 (5 * i + 1) = x ∧ ¬ σ.1 29 (5 * i + 2) = 4)
def ixL (P : Nat → Bool) (L i : Nat) : List Nat := (List.range' i (L - i)).filter P
theorem ixL_out {P : Nat → Bool} {L i : Nat} (h : L ≤ i) : ixL P L i = [] := by
  rw [ixL, Nat.sub_eq_zero_of_le h]; rfl
theorem ixL_t {P : Nat → Bool} {L i : Nat} (h : i < L) (p : P i = true) : ixL P L i = i :: ixL P L (i + 1) := by
  rw [ixL, show L - i = (L - (i + 1)) + 1 by omega, List.range'_succ, List.filter_cons_of_pos p]; rfl
theorem ixL_f {P : Nat → Bool} {L i : Nat} (h : i < L) (p : ¬ P i = true) : ixL P L i = ixL P L (i + 1) := by
  rw [ixL, show L - i = (L - (i + 1)) + 1 by omega, List.range'_succ, List.filter_cons_of_neg p]; rfl
theorem ixL_cons {P : Nat → Bool} {L a : Nat} {A : List Nat} : ∀ (d i : Nat), i + d = L → ixL P L i = a :: A → a < L ∧ i ≤ a ∧ A = ixL P L (a + 1) := by
  intro d
  induction d with
  | zero => intro i h e; rw [ixL_out (by omega)] at e; cases e
  | succ d ih =>
    intro i h e
    by_cases p : P i = true
    · rw [ixL_t (by omega) p] at e
      cases e
      exact ⟨by omega, by omega, rfl⟩
    · rw [ixL_f (by omega) p] at e
      obtain ⟨a1, a2, a3⟩ := ih (i + 1) (by omega) e
      exact ⟨a1, by omega, a3⟩
theorem ixL_len {P : Nat → Bool} {L i : Nat} : (ixL P L i).length ≤ L - i := by
  rw [ixL]
  have := List.length_filter_le P (List.range' i (L - i))
  rw [List.length_range'] at this
  exact this
theorem next_eq {L : Nat} {σ : Sg} {x : Int32} (hL : L ≤ 600) (h1 : σ.1 28 1 = nI L) : ∀ (d i fu : Nat), i + d = L → f_X3_nextOf_b2 (fu + d + 1) x (nI i) σ = some (nI ((ixL (okL σ x) L i).headD L), σ) := by
  intro d
  induction d with
  | zero =>
    intro i fu h
    have : i = L := by omega
    subst this
    rw [f_X3_nextOf_b2, ex_dI, h1, ex_bt (Int32.le_refl _), ex_dI, h1, ex_rt, ixL_out (Nat.le_refl _)]
    rfl
  | succ d ih =>
    intro i fu h
    have t1 : f_X3_told (nI i) 1 σ = some (σ.1 29 (5 * i + 1), σ) := ltold_eq (k := 1) (show i < L by omega) (by omega) hL
    have t2 : f_X3_told (nI i) 2 σ = some (σ.1 29 (5 * i + 2), σ) := ltold_eq (k := 2) (show i < L by omega) (by omega) hL
    have nx := ih (i + 1) fu (by omega)
    rw [show fu + (d + 1) + 1 = (fu + d + 1) + 1 by omega, f_X3_nextOf_b2, ex_dI, h1, ex_bf (nI_ge (by omega) (by omega)), ex_cl t1]
    by_cases y1 : σ.1 29 (5 * i + 1) = x
    · rw [ex_bt y1, ex_cl t2]
      by_cases y2 : σ.1 29 (5 * i + 2) = 4
      · rw [ex_bt y2, f_X3_nextOf_b32, nI_1, nx, ixL_f (show i < L by omega) (by rw [okL, decide_eq_true_eq]; exact fun q => q.2 y2)]
      · rw [ex_bf y2, ex_rt, ixL_t (show i < L by omega) (by rw [okL, decide_eq_true_eq]; exact ⟨y1, y2⟩)]
        rfl
    · rw [ex_bf y1, f_X3_nextOf_b32, nI_1, nx, ixL_f (show i < L by omega) (by rw [okL, decide_eq_true_eq]; exact fun q => y1 q.1)]
theorem nextOf_eq {L i : Nat} {σ : Sg} {x : Int32} (hL : L ≤ 600) (h1 : σ.1 28 1 = nI L) (hi : i ≤ L) : f_X3_nextOf x (nI i) σ = some (nI ((ixL (okL σ x) L i).headD L), σ) := by
  have := next_eq (x := x) hL h1 (L - i) i (8191 - (L - i)) (by omega)
  rw [show 8191 - (L - i) + (L - i) + 1 = FU by rw [Nat.sub_add_cancel (by omega)]; rfl] at this
  exact this
def gpN (a b : Nat) : Nat := if b ≤ a then a - b else b - a
theorem gpN_0 {a b : Nat} : gpN a b = 0 ↔ a = b := by unfold gpN; split <;> omega
theorem gp_abs {a b : Nat} (ha : a ≤ 600) (hb : b ≤ 600) : (if 0 ≤ nI a - nI b then nI a - nI b else 0 - (nI a - nI b)) = nI (gpN a b) := by
  rw [absd (by rw [nI_toInt (by omega)]; omega) (by rw [nI_toInt (by omega)]; omega)]
  unfold gpN
  by_cases h : b ≤ a
  · rw [if_pos (nI_le h (by omega)), if_pos h, nI_sub h]
  · rw [if_neg (nI_ge (by omega) (by omega)), if_neg h, nI_sub (by omega)]
theorem gp_off {a b : Nat} {τ : Sg} : a ≤ 600 → b ≤ 600 → f_X11_off (nI a) (nI b) τ = some (nI (gpN a b), τ) := by
  intro ha hb
  rw [f_X11_off]
  unfold gpN
  by_cases h : b ≤ a
  · rw [ex_bt (nI_le h (by omega)), if_pos h, ex_rt, nI_sub h]
  · rw [ex_bf (nI_ge (by omega) (by omega)), if_neg h, ex_rt, nI_sub (by omega)]
/-- in step from where, after k landings of both -/
def stN (G : Nat → Nat) : Nat → Int32
  | 0 => -1
  | k + 1 => if G k = 0 then (if stN G k = -1 then nI k else stN G k) else -1
theorem stN_tail {G : Nat → Nat} {x : Nat} : ∀ (d : Nat), x + d ≤ 600 → (∀ y, x ≤ y → y < x + d → G y = 0) → stN G (x + d) = if d = 0 then stN G x else if stN G x = -1 then nI x else stN G x := by
  intro d
  induction d with
  | zero => intro _ _; rw [if_pos rfl]; rfl
  | succ d ih =>
    intro hx h
    have e := ih (by omega) (fun y a b => h y a (by omega))
    rw [if_neg (by omega)]
    show stN G ((x + d) + 1) = _
    rw [stN, if_pos (h (x + d) (by omega) (by omega)), e]
    by_cases z : d = 0
    · subst z; rfl
    · rw [if_neg z]
      by_cases y : stN G x = -1
      · rw [if_pos y, if_neg (neg1_ne (by omega))]
      · rw [if_neg y, if_neg y]
def pcS (k : Nat) (G : Nat → Nat) (σ σ' : Sg) : Prop := σ'.1 28 2 = (if k = 0 then -1 else nI (G 0)) ∧ σ'.1 28 3 = (if k = 0 then -1 else nI (G (k - 1))) ∧ σ'.1 28 4 = stN G k ∧ (∀ a b, ¬ (a = 28 ∧ (b = 2 ∨ b = 3 ∨ b = 4)) → σ'.1 a b = σ.1 a b) ∧ σ'.2 = σ.2
theorem okL_of {σ σ' : Sg} {x : Int32} (h : ∀ b, σ'.1 29 b = σ.1 29 b) : okL σ' x = okL σ x := by
  funext i
  unfold okL
  rw [h, h]
theorem getD_el {A : List Nat} {k : Nat} (h : k < A.length) : A.getD k 0 = A[k] := by
  rw [List.getD_eq_getElem?_getD, List.getElem?_eq_getElem h]; rfl
theorem drop_hd {A : List Nat} {k L : Nat} (h : k < A.length) : (A.drop k).headD L = A.getD k 0 := by
  rw [List.drop_eq_getElem_cons h, List.headD_cons, getD_el h]
theorem drop_co {A : List Nat} {k : Nat} (h : k < A.length) : A.drop k = A.getD k 0 :: A.drop (k + 1) := by
  rw [List.drop_eq_getElem_cons h, getD_el h]
theorem pace_loop {L m : Nat} {σ0 : Sg} {x y : Int32} {A B : List Nat} {tN : Nat → Nat} (hL : L ≤ 600) (h1 : σ0.1 28 1 = nI L) (ht : ∀ i, i < L → tN i ≤ 600 ∧ σ0.1 29 (5 * i) = nI (tN i)) (hA : A.length ≤ 600) (hB : B.length ≤ 600) (hm : m = min A.length B.length) : ∀ (d k fu i j : Nat) (σ : Sg), k + d = m → i ≤ L → j ≤ L → A.drop k = ixL (okL σ0 x) L i → B.drop k = ixL (okL σ0 y) L j → pcS k (fun q => gpN (tN (A.getD q 0)) (tN (B.getD q 0))) σ0 σ → ∃ σ', f_X3_pace_b33 (fu + d + 1) x y (nI ((A.drop k).headD L)) (nI ((B.drop k).headD L)) (nI k) σ = some ((), σ') ∧ pcS m (fun q => gpN (tN (A.getD q 0)) (tN (B.getD q 0))) σ0 σ' := by
  intro d
  induction d with
  | zero =>
    intro k fu i j σ h hi hj eA eB hS
    have : k = m := by omega
    subst this
    refine ⟨σ, ?_, hS⟩
    have h28 : σ.1 28 1 = nI L := by rw [hS.2.2.2.1 _ _ (by omega)]; exact h1
    by_cases z : (600 : Int32) ≤ nI k
    · rw [f_X3_pace_b33, ex_bt z, ex_rt]
    · rw [f_X3_pace_b33, ex_bf z, ex_dI, h28]
      by_cases y1 : A.length ≤ k
      · rw [List.drop_eq_nil_of_le y1, ex_bt (by exact Int32.le_refl _), ex_rt]
      · have y2 : B.length ≤ k := by omega
        rw [List.drop_eq_nil_of_le y2]
        by_cases q : nI L ≤ nI ((A.drop k).headD L)
        · rw [ex_bt q, ex_rt]
        · rw [ex_bf q, ex_dI, h28, ex_bt (by exact Int32.le_refl _), ex_rt]
  | succ d ih =>
    intro k fu i j σ h hi hj eA eB hS
    have hkA : k < A.length := by omega
    have hkB : k < B.length := by omega
    have h28 : σ.1 28 1 = nI L := by rw [hS.2.2.2.1 _ _ (by omega)]; exact h1
    have h29 : ∀ b, σ.1 29 b = σ0.1 29 b := fun b => hS.2.2.2.1 _ _ (by omega)
    have a0 : ¬ (600 : Int32) ≤ nI k := fun q => by have := (nI_leL (x := 600) (k := 600) rfl (by omega) (by omega)).mp q; omega
    rw [drop_co hkA] at eA
    rw [drop_co hkB] at eB
    obtain ⟨a1, a2, a3⟩ := ixL_cons (L - i) i (by omega) eA.symm
    obtain ⟨b1, b2, b3⟩ := ixL_cons (L - j) j (by omega) eB.symm
    generalize hGd : (fun q => gpN (tN (A.getD q 0)) (tN (B.getD q 0))) = G at hS ⊢
    have ih' := ih (k + 1) fu (A.getD k 0 + 1) (B.getD k 0 + 1)
    rw [hGd] at ih'
    have gk : G k = gpN (tN (A.getD k 0)) (tN (B.getD k 0)) := by rw [← hGd]
    rw [drop_hd hkA, drop_hd hkB]
    generalize A.getD k 0 = a at *
    generalize B.getD k 0 = b at *
    have tA : f_X3_told (nI a) 0 σ = some (nI (tN a), σ) := by
      have := ltold_eq (k := 0) (σ := σ) a1 (by omega) hL
      rw [Nat.add_zero, h29, (ht a a1).2] at this
      exact this
    have tB : f_X3_told (nI b) 0 σ = some (nI (tN b), σ) := by
      have := ltold_eq (k := 0) (σ := σ) b1 (by omega) hL
      rw [Nat.add_zero, h29, (ht b b1).2] at this
      exact this
    have go : ∀ σ1, pcS (k + 1) G σ0 σ1 → ∃ σ', f_X3_pace_b128 (f_X3_pace_b33 (fu + d + 1)) x y (nI a) (nI b) (nI k) σ1 = some ((), σ') ∧ pcS m G σ0 σ' := by
      intro σ1 hS1
      have k28 : σ1.1 28 1 = nI L := by rw [hS1.2.2.2.1 _ _ (by omega)]; exact h1
      have k29 : ∀ b, σ1.1 29 b = σ0.1 29 b := fun b => hS1.2.2.2.1 _ _ (by omega)
      obtain ⟨σ', c1, c2⟩ := ih' σ1 (by omega) (by omega) (by omega) a3 b3 hS1
      refine ⟨σ', ?_, c2⟩
      rw [f_X3_pace_b128, nI_1, ex_cl (nextOf_eq hL k28 (show a + 1 ≤ L by omega)), nI_1, ex_cl (nextOf_eq hL k28 (show b + 1 ≤ L by omega)), nI_1, okL_of k29, okL_of k29, ← a3, ← b3]
      exact c1
    have hg : (if 0 ≤ nI (tN a) - nI (tN b) then nI (tN a) - nI (tN b) else 0 - (nI (tN a) - nI (tN b))) = nI (G k) := by
      rw [gk]
      exact gp_abs (ht a a1).1 (ht b b1).1
    have gk6 : G k ≤ 600 := by
      rw [gk]; unfold gpN
      have := (ht a a1).1
      have := (ht b b1).1
      split <;> omega
    obtain ⟨p2, p3, p4, p5, p6⟩ := hS
    have fin : ∀ f, (f = nI (G 0)) → ∃ σ', f_X3_pace_b96 (f_X3_pace_b33 (fu + d + 1)) x y (nI a) (nI b) (nI k) f (sI σ 28 3 (nI (G k))) = some ((), σ') ∧ pcS m G σ0 σ' := by
      intro f hf
      have s3 : (sI (sI σ 28 3 (nI (G k))) 28 2 f).1 28 3 = nI (G k) := by rw [sI_nf (by omega), sI_eq]
      have s4 : (sI (sI σ 28 3 (nI (G k))) 28 2 f).1 28 4 = stN G k := by rw [sI_nf (by omega), sI_nf (by omega)]; exact p4
      have fr : ∀ a b, ¬ (a = 28 ∧ (b = 2 ∨ b = 3 ∨ b = 4)) → (sI (sI σ 28 3 (nI (G k))) 28 2 f).1 a b = σ0.1 a b := fun a b q => by
        rw [sI_gt, if_neg (by omega), sI_gt, if_neg (by omega)]; exact p5 a b q
      have fr4 : ∀ v a b, ¬ (a = 28 ∧ (b = 2 ∨ b = 3 ∨ b = 4)) → (sI (sI (sI σ 28 3 (nI (G k))) 28 2 f) 28 4 v).1 a b = σ0.1 a b := fun v a b q => by
        rw [sI_gt, if_neg (by omega)]; exact fr a b q
      have s2 : (sI (sI σ 28 3 (nI (G k))) 28 2 f).1 28 2 = nI (G 0) := by rw [sI_eq]; exact hf
      have w2 : ∀ v, (sI (sI (sI σ 28 3 (nI (G k))) 28 2 f) 28 4 v).1 28 2 = nI (G 0) := fun v => by rw [sI_nf (by omega)]; exact s2
      have w3 : ∀ v, (sI (sI (sI σ 28 3 (nI (G k))) 28 2 f) 28 4 v).1 28 3 = nI (G k) := fun v => by rw [sI_nf (by omega)]; exact s3
      rw [f_X3_pace_b96, ex_pI, ex_dI, s3]
      by_cases z : G k = 0
      · rw [z, ex_bt (show nI 0 = 0 from rfl), ex_dI]
        rw [z] at s3 s4 fr fr4 s2 w2 w3
        rw [s4]
        by_cases q : stN G k = -1
        · rw [ex_bt q, ex_pI]
          exact go _ ⟨by rw [if_neg (by omega)]; exact w2 _, by rw [if_neg (by omega)]; exact (w3 _).trans (by rw [Nat.add_sub_cancel, z]), by rw [sI_eq, stN, if_pos z, if_pos q], fr4 _, p6⟩
        · rw [ex_bf q]
          exact go _ ⟨by rw [if_neg (by omega)]; exact s2, by rw [if_neg (by omega)]; exact s3.trans (by rw [Nat.add_sub_cancel, z]), by rw [s4, stN, if_pos z, if_neg q], fr, p6⟩
      · rw [ex_bf (nI_ne0 (by omega) (by omega)), ex_pI]
        exact go _ ⟨by rw [if_neg (by omega)]; exact w2 _, by rw [if_neg (by omega)]; exact (w3 _).trans (by rw [Nat.add_sub_cancel]), by rw [sI_eq, stN, if_neg z], fr4 _, p6⟩
    have rA : ¬ nI L ≤ nI a := nI_ge a1 (by omega)
    have rB : ¬ nI L ≤ nI b := nI_ge b1 (by omega)
    rw [show fu + (d + 1) + 1 = (fu + d + 1) + 1 by omega, f_X3_pace_b33, ex_bf a0, ex_dI, h28, ex_bf rA, ex_dI, h28, ex_bf rB, ex_cl tA, ex_cl tB, ex_lt, hg, ex_pI]
    by_cases z : k = 0
    · subst z
      rw [ex_bt (show nI 0 = 0 from rfl), ex_dI, sI_eq]
      exact fin _ rfl
    · rw [ex_bf (nI_ne0 (by omega) (by omega)), ex_dI, sI_nf (by omega)]
      exact fin _ (by rw [p2, if_neg z])
theorem ticks86_loop {L : Nat} {σ τ0 : Sg} {x : Int32} (hL : L ≤ 600) (hE : ∀ i, i < 5 * L → τ0.1 85 i = σ.1 29 i) : ∀ (d i c fm : Nat) (τ : Sg), i + d = L → c + (ixL (okL σ x) L i).length ≤ 600 → (∀ b, τ.1 85 b = τ0.1 85 b) → τ.1 56 64 = nI L → ∃ τ', f_X11_ticksOf_86_b5 (fm + d + 1) x (nI c) (nI i) τ = some (nI (c + (ixL (okL σ x) L i).length), τ') ∧ (∀ q, q < (ixL (okL σ x) L i).length → τ'.1 86 (c + q) = τ0.1 85 (5 * (ixL (okL σ x) L i).getD q 0)) ∧ (∀ a b, ¬ (a = 86 ∧ c ≤ b) → τ'.1 a b = τ.1 a b) ∧ τ'.2 = τ.2 := by
  intro d
  induction d with
  | zero =>
    intro i c fm τ h hc h85 h64
    have : i = L := by omega
    subst this
    rw [ixL_out (Nat.le_refl _)]
    exact ⟨τ, by rw [f_X11_ticksOf_86_b5, ex_dI, h64, ex_bt (Int32.le_refl _), ex_rt]; rfl, fun q hq => absurd hq (Nat.not_lt_zero _), fun _ _ _ => rfl, rfl⟩
  | succ d ih =>
    intro i c fm τ h hc h85 h64
    have e1 : (5 * nI i) + 1 = nI (5 * i + 1) := by rw [nI_mulL (x := 5) (k := 5) rfl, nI_1]
    have e2 : (5 * nI i) + 2 = nI (5 * i + 2) := by rw [nI_mulL (x := 5) (k := 5) rfl, nI_addR (x := 2) (k := 2) rfl]
    have e0 : 5 * nI i = nI (5 * i) := nI_mulL (x := 5) (k := 5) rfl _
    rw [show fm + (d + 1) + 1 = (fm + d + 1) + 1 by omega, f_X11_ticksOf_86_b5, ex_dI, h64, ex_bf (nI_ge (by omega) (by omega)), e1, ex_gd (inb_nI (show 5 * i + 1 < 6500 by omega) (by omega)), ex_dI, nI_clamp (show 5 * i + 1 < 2 ^ 31 by omega), h85, hE _ (by omega)]
    by_cases y1 : σ.1 29 (5 * i + 1) = x
    · rw [ex_bt y1, e2, ex_gd (inb_nI (show 5 * i + 2 < 6500 by omega) (by omega)), ex_dI, nI_clamp (show 5 * i + 2 < 2 ^ 31 by omega), h85, hE _ (by omega)]
      by_cases y2 : σ.1 29 (5 * i + 2) = 4
      · have f := ixL_f (P := okL σ x) (show i < L by omega) (by rw [okL, decide_eq_true_eq]; exact fun q => q.2 y2)
        rw [ex_bt y2, f_X11_ticksOf_86_b62, nI_1, f]
        rw [f] at hc
        exact ih (i + 1) c fm τ (by omega) hc h85 h64
      · have f := ixL_t (P := okL σ x) (show i < L by omega) (by rw [okL, decide_eq_true_eq]; exact ⟨y1, y2⟩)
        rw [f, List.length_cons] at hc
        rw [ex_bf y2, e0, ex_gd (inb_nI (show 5 * i < 6500 by omega) (by omega)), ex_dI, nI_clamp (show 5 * i < 2 ^ 31 by omega), h85, ex_gd (inb_nI (show c < 1300 by omega) (by omega)), ex_pI, nI_clamp (show c < 2 ^ 31 by omega), f_X11_ticksOf_86_b62, nI_1, nI_1, f]
        obtain ⟨τ', t1, t2, t3, t4⟩ := ih (i + 1) (c + 1) fm (sI τ 86 c (τ0.1 85 (5 * i))) (by omega) (by omega) (fun b => by rw [sI_ne (by decide)]; exact h85 b) (by rw [sI_ne (by decide)]; exact h64)
        refine ⟨τ', ?_, ?_, ?_, t4⟩
        · rw [t1, List.length_cons, show c + 1 + (ixL (okL σ x) L (i + 1)).length = c + ((ixL (okL σ x) L (i + 1)).length + 1) by omega]
        · intro q hq
          cases q with
          | zero => rw [t3 _ _ (by omega), Nat.add_zero, sI_eq]; rfl
          | succ q =>
            rw [show c + (q + 1) = c + 1 + q by omega, t2 q (by rw [List.length_cons] at hq; omega)]
            rfl
        · intro a b z
          rw [t3 a b (by omega), sI_gt, if_neg (by omega)]
    · have f := ixL_f (P := okL σ x) (show i < L by omega) (by rw [okL, decide_eq_true_eq]; exact fun q => y1 q.1)
      rw [ex_bf y1, f_X11_ticksOf_86_b62, nI_1, f]
      rw [f] at hc
      exact ih (i + 1) c fm τ (by omega) hc h85 h64
theorem ticks86_eq {L : Nat} {σ τ : Sg} {x : Int32} (hL : L ≤ 600) (hE : ∀ i, i < 5 * L → τ.1 85 i = σ.1 29 i) (h64 : τ.1 56 64 = nI L) : ∃ τ', f_X11_ticksOf_86 x τ = some (nI (ixL (okL σ x) L 0).length, τ') ∧ (∀ q, q < (ixL (okL σ x) L 0).length → τ'.1 86 q = τ.1 85 (5 * (ixL (okL σ x) L 0).getD q 0)) ∧ (∀ a b, ¬ a = 86 → τ'.1 a b = τ.1 a b) ∧ τ'.2 = τ.2 := by
  have hl := ixL_len (P := okL σ x) (L := L) (i := 0)
  obtain ⟨τ', t1, t2, t3, t4⟩ := ticks86_loop (x := x) hL hE L 0 0 (8191 - L) τ (by omega) (by omega) (fun _ => rfl) h64
  rw [show 8191 - L + L + 1 = FU by rw [Nat.sub_add_cancel (by omega)]; rfl, Nat.zero_add] at t1
  refine ⟨τ', t1, fun q hq => ?_, fun a b z => t3 a b (fun q => z q.1), t4⟩
  have := t2 q hq
  rw [Nat.zero_add] at this
  exact this
theorem ticks87_loop {L : Nat} {σ τ0 : Sg} {x : Int32} (hL : L ≤ 600) (hE : ∀ i, i < 5 * L → τ0.1 85 i = σ.1 29 i) : ∀ (d i c fm : Nat) (τ : Sg), i + d = L → c + (ixL (okL σ x) L i).length ≤ 600 → (∀ b, τ.1 85 b = τ0.1 85 b) → τ.1 56 64 = nI L → ∃ τ', f_X11_ticksOf_87_b5 (fm + d + 1) x (nI c) (nI i) τ = some (nI (c + (ixL (okL σ x) L i).length), τ') ∧ (∀ q, q < (ixL (okL σ x) L i).length → τ'.1 87 (c + q) = τ0.1 85 (5 * (ixL (okL σ x) L i).getD q 0)) ∧ (∀ a b, ¬ (a = 87 ∧ c ≤ b) → τ'.1 a b = τ.1 a b) ∧ τ'.2 = τ.2 := by
  intro d
  induction d with
  | zero =>
    intro i c fm τ h hc h85 h64
    have : i = L := by omega
    subst this
    rw [ixL_out (Nat.le_refl _)]
    exact ⟨τ, by rw [f_X11_ticksOf_87_b5, ex_dI, h64, ex_bt (Int32.le_refl _), ex_rt]; rfl, fun q hq => absurd hq (Nat.not_lt_zero _), fun _ _ _ => rfl, rfl⟩
  | succ d ih =>
    intro i c fm τ h hc h85 h64
    have e1 : (5 * nI i) + 1 = nI (5 * i + 1) := by rw [nI_mulL (x := 5) (k := 5) rfl, nI_1]
    have e2 : (5 * nI i) + 2 = nI (5 * i + 2) := by rw [nI_mulL (x := 5) (k := 5) rfl, nI_addR (x := 2) (k := 2) rfl]
    have e0 : 5 * nI i = nI (5 * i) := nI_mulL (x := 5) (k := 5) rfl _
    rw [show fm + (d + 1) + 1 = (fm + d + 1) + 1 by omega, f_X11_ticksOf_87_b5, ex_dI, h64, ex_bf (nI_ge (by omega) (by omega)), e1, ex_gd (inb_nI (show 5 * i + 1 < 6500 by omega) (by omega)), ex_dI, nI_clamp (show 5 * i + 1 < 2 ^ 31 by omega), h85, hE _ (by omega)]
    by_cases y1 : σ.1 29 (5 * i + 1) = x
    · rw [ex_bt y1, e2, ex_gd (inb_nI (show 5 * i + 2 < 6500 by omega) (by omega)), ex_dI, nI_clamp (show 5 * i + 2 < 2 ^ 31 by omega), h85, hE _ (by omega)]
      by_cases y2 : σ.1 29 (5 * i + 2) = 4
      · have f := ixL_f (P := okL σ x) (show i < L by omega) (by rw [okL, decide_eq_true_eq]; exact fun q => q.2 y2)
        rw [ex_bt y2, f_X11_ticksOf_87_b62, nI_1, f]
        rw [f] at hc
        exact ih (i + 1) c fm τ (by omega) hc h85 h64
      · have f := ixL_t (P := okL σ x) (show i < L by omega) (by rw [okL, decide_eq_true_eq]; exact ⟨y1, y2⟩)
        rw [f, List.length_cons] at hc
        rw [ex_bf y2, e0, ex_gd (inb_nI (show 5 * i < 6500 by omega) (by omega)), ex_dI, nI_clamp (show 5 * i < 2 ^ 31 by omega), h85, ex_gd (inb_nI (show c < 1300 by omega) (by omega)), ex_pI, nI_clamp (show c < 2 ^ 31 by omega), f_X11_ticksOf_87_b62, nI_1, nI_1, f]
        obtain ⟨τ', t1, t2, t3, t4⟩ := ih (i + 1) (c + 1) fm (sI τ 87 c (τ0.1 85 (5 * i))) (by omega) (by omega) (fun b => by rw [sI_ne (by decide)]; exact h85 b) (by rw [sI_ne (by decide)]; exact h64)
        refine ⟨τ', ?_, ?_, ?_, t4⟩
        · rw [t1, List.length_cons, show c + 1 + (ixL (okL σ x) L (i + 1)).length = c + ((ixL (okL σ x) L (i + 1)).length + 1) by omega]
        · intro q hq
          cases q with
          | zero => rw [t3 _ _ (by omega), Nat.add_zero, sI_eq]; rfl
          | succ q =>
            rw [show c + (q + 1) = c + 1 + q by omega, t2 q (by rw [List.length_cons] at hq; omega)]
            rfl
        · intro a b z
          rw [t3 a b (by omega), sI_gt, if_neg (by omega)]
    · have f := ixL_f (P := okL σ x) (show i < L by omega) (by rw [okL, decide_eq_true_eq]; exact fun q => y1 q.1)
      rw [ex_bf y1, f_X11_ticksOf_87_b62, nI_1, f]
      rw [f] at hc
      exact ih (i + 1) c fm τ (by omega) hc h85 h64
theorem ticks87_eq {L : Nat} {σ τ : Sg} {x : Int32} (hL : L ≤ 600) (hE : ∀ i, i < 5 * L → τ.1 85 i = σ.1 29 i) (h64 : τ.1 56 64 = nI L) : ∃ τ', f_X11_ticksOf_87 x τ = some (nI (ixL (okL σ x) L 0).length, τ') ∧ (∀ q, q < (ixL (okL σ x) L 0).length → τ'.1 87 q = τ.1 85 (5 * (ixL (okL σ x) L 0).getD q 0)) ∧ (∀ a b, ¬ a = 87 → τ'.1 a b = τ.1 a b) ∧ τ'.2 = τ.2 := by
  have hl := ixL_len (P := okL σ x) (L := L) (i := 0)
  obtain ⟨τ', t1, t2, t3, t4⟩ := ticks87_loop (x := x) hL hE L 0 0 (8191 - L) τ (by omega) (by omega) (fun _ => rfl) h64
  rw [show 8191 - L + L + 1 = FU by rw [Nat.sub_add_cancel (by omega)]; rfl, Nat.zero_add] at t1
  refine ⟨τ', t1, fun q hq => ?_, fun a b z => t3 a b (fun q => z q.1), t4⟩
  have := t2 q hq
  rw [Nat.zero_add] at this
  exact this
theorem nI_inj {a b : Nat} (ha : a < 2 ^ 31) (hb : b < 2 ^ 31) (h : nI a = nI b) : a = b := by
  have h1 := nI_toInt ha
  have h2 := nI_toInt hb
  rw [h] at h1
  omega
theorem nI_m1 (x : Nat) : nI (x + 1) + (-1) = nI x := by
  rw [← nI_1, Int32.add_assoc]
  show nI x + 0 = nI x
  exact Int32.add_zero _
theorem nI_s1 {m : Nat} (h : 0 < m) : nI m - 1 = nI (m - 1) := nI_sub (a := m) (b := 1) h
theorem b198_eq {m : Nat} {G a b : Nat → Nat} {τ : Sg} (hm : m ≤ 600) (h0 : 0 < m) (hG : ∀ q, q < m → (G q = 0 ↔ a q = b q)) (ha : ∀ q, q < m → a q ≤ 600 ∧ τ.1 86 q = nI (a q)) (hb : ∀ q, q < m → b q ≤ 600 ∧ τ.1 87 q = nI (b q)) : ∀ (x fu : Nat), x ≤ m → (∀ y, x ≤ y → y < m → G y = 0) → f_X11_step_b198 (fu + x + 1) (nI m) (nI x) τ = some (stN G m, τ) := by
  intro x
  induction x with
  | zero =>
    intro fu hx hy
    have e := stN_tail (G := G) (x := 0) m (by omega) (fun y a b => hy y a (by omega))
    rw [Nat.zero_add, if_neg (by omega), if_pos (show stN G 0 = -1 from rfl)] at e
    rw [f_X11_step_b198, ex_bt (show nI 0 ≤ 0 by decide), f_X11_step_b230, ex_bf (fun q => nI_ne0 h0 (by omega) q.symm), ex_rt, e]
  | succ x ih =>
    intro fu hx hy
    have p1 : ¬ nI (x + 1) ≤ 0 := fun q => by have := (nI_leR (x := 0) (k := 0) rfl (by omega) (by omega)).mp q; omega
    have gi := inb_nI (show x < 1300 by omega) (by omega)
    rw [show fu + (x + 1) + 1 = (fu + x + 1) + 1 by omega, f_X11_step_b198, ex_bf p1, nI_s1 (show 0 < x + 1 by omega), Nat.add_sub_cancel, ex_gd gi, ex_dI, nI_clamp (show x < 2 ^ 31 by omega), ex_gd gi, ex_dI, (ha x (by omega)).2, (hb x (by omega)).2, nI_m1]
    by_cases z : a x = b x
    · rw [ex_bt (by rw [z])]
      refine ih fu (by omega) (fun y q1 q2 => ?_)
      by_cases w : y = x
      · subst w; exact (hG y q2).mpr z
      · exact hy y (by omega) q2
    · have nz : ¬ G x = 0 := fun q => z ((hG x (by omega)).mp q)
      have e := stN_tail (G := G) (x := x + 1) (m - (x + 1)) (by omega) (fun y q1 q2 => hy y q1 (by omega))
      have s1 : stN G (x + 1) = -1 := by rw [stN, if_neg nz]
      rw [s1, if_pos rfl, show x + 1 + (m - (x + 1)) = m by omega] at e
      have nn : ¬ nI (a x) = nI (b x) := fun q => z (nI_inj (by have := (ha x (by omega)).1; omega) (by have := (hb x (by omega)).1; omega) q)
      rw [ex_bf nn, f_X11_step_b230, e]
      by_cases w : m = x + 1
      · rw [if_pos (by omega), ex_bt (by rw [w]), ex_rt]
      · rw [if_neg (by omega), ex_bf (fun q => w (nI_inj (by omega) (by omega) q.symm)), ex_rt]
theorem getD_mem {P : Nat → Bool} {L q : Nat} (h : q < (ixL P L 0).length) : (ixL P L 0).getD q 0 < L := by
  rw [getD_el h]
  have := List.getElem_mem h
  have := (List.mem_filter.mp this).1
  have := (List.mem_range'_1.mp this).2
  omega
theorem pace_eq {L : Nat} {σ : Sg} {x y : Int32} {tN : Nat → Nat} (hL : L ≤ 600) (h1 : σ.1 28 1 = nI L) (ht : ∀ i, i < L → tN i ≤ 600 ∧ σ.1 29 (5 * i) = nI (tN i)) : ∃ σ', f_X3_pace x y σ = some ((), σ') ∧ pcS (min (ixL (okL σ x) L 0).length (ixL (okL σ y) L 0).length) (fun q => gpN (tN ((ixL (okL σ x) L 0).getD q 0)) (tN ((ixL (okL σ y) L 0).getD q 0))) σ σ' := by
  have lA := ixL_len (P := okL σ x) (L := L) (i := 0)
  have lB := ixL_len (P := okL σ y) (L := L) (i := 0)
  have fr : ∀ a b, ¬ (a = 28 ∧ (b = 2 ∨ b = 3 ∨ b = 4)) → (sI (sI (sI σ 28 2 (-1)) 28 3 (-1)) 28 4 (-1)).1 a b = σ.1 a b := fun a b q => by
    rw [sI_gt, if_neg (by omega), sI_gt, if_neg (by omega), sI_gt, if_neg (by omega)]
  have k28 : (sI (sI (sI σ 28 2 (-1)) 28 3 (-1)) 28 4 (-1)).1 28 1 = nI L := by rw [fr _ _ (by omega)]; exact h1
  have k29 : ∀ b, (sI (sI (sI σ 28 2 (-1)) 28 3 (-1)) 28 4 (-1)).1 29 b = σ.1 29 b := fun b => fr _ _ (by omega)
  have n1 := nextOf_eq (i := 0) (x := x) hL k28 (by omega)
  have n2 := nextOf_eq (i := 0) (x := y) hL k28 (by omega)
  rw [okL_of k29] at n1 n2
  have hS : pcS 0 (fun q => gpN (tN ((ixL (okL σ x) L 0).getD q 0)) (tN ((ixL (okL σ y) L 0).getD q 0))) σ (sI (sI (sI σ 28 2 (-1)) 28 3 (-1)) 28 4 (-1)) := ⟨by rw [if_pos rfl, sI_nf (by omega), sI_nf (by omega), sI_eq], by rw [if_pos rfl, sI_nf (by omega), sI_eq], by rw [sI_eq]; rfl, fr, rfl⟩
  obtain ⟨σ', a1, a2⟩ := pace_loop (x := x) (y := y) (A := ixL (okL σ x) L 0) (B := ixL (okL σ y) L 0) hL h1 ht (by omega) (by omega) rfl (min (ixL (okL σ x) L 0).length (ixL (okL σ y) L 0).length) 0 (8191 - (min (ixL (okL σ x) L 0).length (ixL (okL σ y) L 0).length)) 0 0 _ (by omega) (by omega) (by omega) rfl rfl hS
  rw [show 8191 - (min (ixL (okL σ x) L 0).length (ixL (okL σ y) L 0).length) + (min (ixL (okL σ x) L 0).length (ixL (okL σ y) L 0).length) + 1 = FU by rw [Nat.sub_add_cancel (by omega)]; rfl] at a1
  refine ⟨σ', ?_, a2⟩
  rw [f_X3_pace, ex_pI, ex_pI, ex_pI, ex_cl (f := f_X3_nextOf x 0) n1, ex_cl (f := f_X3_nextOf y 0) n2]
  exact a1
theorem ok_step {g n s e m : Nat} {σ τ : Sg} (J : Jr g n s e m σ τ) (x y z : Int32) : OkX (f_X10_step x y z) (f_X11_step x y z) cB σ τ := by
  obtain ⟨J0, t0⟩ := thr0 J
  have hn4 := J.1.2.1
  have hnC := J.2.2.1.1
  have hnM : (sI τ 56 0 0).1 56 6 = nI n := J0.1.2.2.1
  rcases jumper_cases x hn4 with ⟨j, hj, rfl⟩ | hx
  · have hj4 : j < 4 := by omega
    rcases jumper_cases y hn4 with ⟨k, hk, rfl⟩ | hy
    · rcases what_cases z (M := 3) (y := 3) rfl (by omega) with ⟨w, hw, rfl⟩ | hz
      · have b1 : ¬ nI w < 0 := nI_pos (by omega)
        have b2 : ¬ (3 : Int32) < nI w := fun q => by
          have := (nI_ltL (x := 3) (k := 3) rfl (by omega) (by omega)).mp q; omega
        by_cases u : nI j = nI k
        · refine ok_thr J true 0 (y := 2) ?_ ?_ rfl
          · rw [f_X10_step, ex_cl (isJC_t hnC hj hn4), ex_bf l1_0, ex_cl (isJC_t hnC hk hn4), ex_bf l1_0, ex_bf b1, ex_bf b2, f_X10_step_b30, ex_xv need1, ex_bt u, f_X10_step_b43, ex_xt dem0]
          · rw [f_X11_step, ex_pI, ex_cl (isJM_t t0 hnM hj hn4), ex_bf l1_0, ex_cl (isJM_t t0 hnM hk hn4), ex_bf l1_0, ex_cl (isWhat_t (M := 3) (y := 3) rfl t0 hw (by omega)), ex_bf l1_0, ex_bt u, f_X11_step_b41, ex_cl (right0 t0 l2_0), ex_bt rfl, ex_rt]
        · obtain ⟨N, S, τ', n1, n2, n3, n4, p1, p2, p3, p4, I, p5, o1, o2, ome⟩ := J0.playAll
          have J1 : Jr g n s e m (S N) τ' := J0.frame (off_mono fc_play (o2 N (Nat.le_refl N))) (run_off o1) I.me
          obtain ⟨L, hL, r1, r2, r3⟩ := I.lands
          obtain ⟨L', l1, l2, l3⟩ := J0.ticks p1 p2 n2
          have : L' = L := nI_inj (by omega) (by omega) (l2.symm.trans r1)
          subst this
          have ht : ∀ i, i < L' → ((S N).1 29 (5 * i)).toNatClampNeg ≤ 600 ∧ (S N).1 29 (5 * i) = nI ((S N).1 29 (5 * i)).toNatClampNeg := fun i hi => by
            obtain ⟨t, t1, t2⟩ := l3 i hi
            rw [t2, nI_clamp (by omega)]
            exact ⟨t1, rfl⟩
          obtain ⟨σ', c1, c2⟩ := pace_eq (x := nI j) (y := nI k) (tN := fun i => ((S N).1 29 (5 * i)).toNatClampNeg) hL r1 ht
          obtain ⟨τ1, d1, d2, d3, d4⟩ := ticks86_eq (x := nI j) hL r3 r2
          obtain ⟨τ2, e1, e2, e3, e4⟩ := ticks87_eq (τ := τ1) (x := nI k) hL (fun i hi => by rw [d3 _ _ (by decide)]; exact r3 i hi) (by rw [d3 _ _ (by decide)]; exact r2)
          have lA := ixL_len (P := okL (S N) (nI j)) (L := L') (i := 0)
          have lB := ixL_len (P := okL (S N) (nI k)) (L := L') (i := 0)
          have qA : ∀ q, q < (ixL (okL (S N) (nI j)) L' 0).length → ((S N).1 29 (5 * (ixL (okL (S N) (nI j)) L' 0).getD q 0)).toNatClampNeg ≤ 600 ∧ τ2.1 86 q = nI ((S N).1 29 (5 * (ixL (okL (S N) (nI j)) L' 0).getD q 0)).toNatClampNeg := fun q hq => by
            have hl := getD_mem hq
            refine ⟨(ht _ hl).1, ?_⟩
            rw [e3 _ _ (by decide), d2 q hq, r3 _ (by omega)]
            exact (ht _ hl).2
          have qB : ∀ q, q < (ixL (okL (S N) (nI k)) L' 0).length → ((S N).1 29 (5 * (ixL (okL (S N) (nI k)) L' 0).getD q 0)).toNatClampNeg ≤ 600 ∧ τ2.1 87 q = nI ((S N).1 29 (5 * (ixL (okL (S N) (nI k)) L' 0).getD q 0)).toNatClampNeg := fun q hq => by
            have hl := getD_mem hq
            refine ⟨(ht _ hl).1, ?_⟩
            rw [e2 q hq, d3 _ _ (by decide), r3 _ (by omega)]
            exact (ht _ hl).2
          generalize hM : min (ixL (okL (S N) (nI j)) L' 0).length (ixL (okL (S N) (nI k)) L' 0).length = M at c2
          generalize ixL (okL (S N) (nI j)) L' 0 = A at *
          generalize ixL (okL (S N) (nI k)) L' 0 = B at *
          generalize hGd : (fun q => gpN ((S N).1 29 (5 * A.getD q 0)).toNatClampNeg ((S N).1 29 (5 * B.getD q 0)).toNatClampNeg) = G at c2
          have gq : ∀ q, G q = gpN ((S N).1 29 (5 * A.getD q 0)).toNatClampNeg ((S N).1 29 (5 * B.getD q 0)).toNatClampNeg := fun q => by rw [← hGd]
          have th2 : τ2.1 56 0 = 0 := by rw [e3 _ _ (by decide), d3 _ _ (by decide)]; exact run_thr o1 t0
          have J2 : Jr g n s e m σ' τ2 := by
            refine J1.frame (fun a b q => ⟨c2.2.2.2.1 a b (fun z => ?_), ?_⟩) (fun a b q => ⟨?_, ?_⟩) (fun i hi => ?_)
            · rw [z.1] at q; exact Bool.noConfusion q
            · rw [c2.2.2.2.2]; exact ⟨rfl, rfl⟩
            · rw [e3 _ _ (fun z => by rw [z] at q; exact Bool.noConfusion q), d3 _ _ (fun z => by rw [z] at q; exact Bool.noConfusion q)]
            · rw [e4, d4]; exact ⟨rfl, rfl⟩
            · rw [c2.2.2.2.1 _ _ (fun z => by unfold fl at z; omega)]; exact I.me i hi
          have eM : f_X11_step (nI j) (nI k) (nI w) τ = f_X11_step_b90 (nI w) (nI M) τ2 := by
            rw [f_X11_step, ex_pI, ex_cl (isJM_t t0 hnM hj hn4), ex_bf l1_0, ex_cl (isJM_t t0 hnM hk hn4), ex_bf l1_0, ex_cl (isWhat_t (M := 3) (y := 3) rfl t0 hw (by omega)), ex_bf l1_0, ex_bf u, f_X11_step_b41, ex_cl (right1 t0), ex_bf l1_0, ex_cl p4, ex_cl d1, ex_cl e1]
            by_cases q : B.length ≤ A.length
            · rw [ex_bt (nI_le q (by omega)), show B.length = M by omega]
            · rw [ex_bf (nI_ge (by omega) (by omega)), show A.length = M by omega]
          have eC : f_X10_step (nI j) (nI k) (nI w) σ = (br (nI w = 0) (dI 28 2 (fun v2 => rtX v2)) (br (nI w = 1) (dI 28 3 (fun v4 => rtX v4)) (br (nI w = 2) (dI 28 3 (fun v6 => dI 28 2 (fun v7 => cl (f_J6_compare_7cf53 v6 v7) (fun r8 => rtX r8)))) (dI 28 4 (fun v9 => rtX v9))))) σ' := by
            rw [f_X10_step, ex_cl (isJC_t hnC hj hn4), ex_bf l1_0, ex_cl (isJC_t hnC hk hn4), ex_bf l1_0, ex_bf b1, ex_bf b2, f_X10_step_b30, ex_xv need1, ex_bf u, f_X10_step_b43, ex_xv dem1, ex_cl p3, ex_cl c1]
          have fin : ∀ v, f_X10_step (nI j) (nI k) (nI w) σ = some (.inl v, σ') → f_X11_step_b90 (nI w) (nI M) τ2 = some (v, τ2) → OkX (f_X10_step (nI j) (nI k) (nI w)) (f_X11_step (nI j) (nI k) (nI w)) cB σ τ := fun v h1 h2 => ⟨_, _, _, _, h1, eM.trans h2, ⟨th2, rfl⟩, g, n, s, e, m, J2⟩
          obtain ⟨v2, v3, v4, -⟩ := c2
          by_cases hM0 : M = 0
          · rw [hM0, if_pos rfl] at v2 v3
            have v4' : σ'.1 28 4 = -1 := by rw [v4, hM0]; rfl
            have eM0 : f_X11_step_b90 (nI w) (nI M) τ2 = (br (nI w = 2) (rt (0 : Int32)) (rt ((-1) : Int32))) τ2 := by
              rw [f_X11_step_b90, hM0, ex_bt (show nI 0 = 0 from rfl)]
            rcases (by omega : w = 0 ∨ w = 1 ∨ w = 2 ∨ w = 3) with rfl | rfl | rfl | rfl
            · exact fin (-1) (by rw [eC, ex_bt (show nI 0 = 0 from rfl), ex_dI, v2]; rfl) (by rw [eM0, ex_bf (by decide), ex_rt])
            · exact fin (-1) (by rw [eC, ex_bf (by decide), ex_bt (show nI 1 = 1 from rfl), ex_dI, v3]; rfl) (by rw [eM0, ex_bf (by decide), ex_rt])
            · exact fin 0 (by rw [eC, ex_bf (by decide), ex_bf (by decide), ex_bt (show nI 2 = 2 from rfl), ex_dI, ex_dI, v2, v3]; rfl) (by rw [eM0, ex_bt (show nI 2 = 2 from rfl), ex_rt])
            · exact fin (-1) (by rw [eC, ex_bf (by decide), ex_bf (by decide), ex_bf (by decide), ex_dI, v4']; rfl) (by rw [eM0, ex_bf (by decide), ex_rt])
          · rw [if_neg hM0] at v2 v3
            have a0 := qA 0 (by omega)
            have b0 := qB 0 (by omega)
            have a9 := qA (M - 1) (by omega)
            have b9 := qB (M - 1) (by omega)
            have of0 := gp_off (τ := τ2) a0.1 b0.1
            have of9 := gp_off (τ := τ2) a9.1 b9.1
            rw [← gq] at of0 of9
            have g6 : ∀ q, q < M → G q ≤ 600 := fun q hq => by
              rw [gq]; unfold gpN
              have := (qA q (by omega)).1
              have := (qB q (by omega)).1
              split <;> omega
            have hi := inb_nI (show M - 1 < 1300 by omega) (by omega)
            have eM0 : f_X11_step_b90 (nI w) (nI M) τ2 = (br (2 ≤ nI w) (br (nI w = 2) (br (nI (G 0) ≤ nI (G (M - 1))) (br (nI (G (M - 1)) ≤ nI (G 0)) (rt (0 : Int32)) (rt (1 : Int32))) (rt ((-1) : Int32))) (f_X11_step_b198 FU (nI M) (nI M))) (br (nI w = 0) (rt (nI (G 0))) (rt (nI (G (M - 1)))))) τ2 := by
              rw [f_X11_step_b90, ex_bf (nI_ne0 (by omega) (by omega)), ex_dI, ex_dI, show (0 : Int32).toNatClampNeg = 0 from rfl, a0.2, b0.2, ex_cl of0, nI_s1 (by omega), ex_gd hi, ex_dI, nI_clamp (by omega), ex_gd hi, ex_dI, a9.2, b9.2, ex_cl of9]
            rcases (by omega : w = 0 ∨ w = 1 ∨ w = 2 ∨ w = 3) with rfl | rfl | rfl | rfl
            · exact fin (nI (G 0)) (by rw [eC, ex_bt (show nI 0 = 0 from rfl), ex_dI, v2]; rfl) (by rw [eM0, ex_bf (by decide), ex_bt (show nI 0 = 0 from rfl), ex_rt])
            · exact fin (nI (G (M - 1))) (by rw [eC, ex_bf (by decide), ex_bt (show nI 1 = 1 from rfl), ex_dI, v3]; rfl) (by rw [eM0, ex_bf (by decide), ex_bf (by decide), ex_rt])
            · have eC2 : f_X10_step (nI j) (nI k) (nI 2) σ = (cl (f_J6_compare_7cf53 (nI (G (M - 1))) (nI (G 0))) (fun r8 => rtX r8)) σ' := by
                rw [eC, ex_bf (by decide), ex_bf (by decide), ex_bt (show nI 2 = 2 from rfl), ex_dI, ex_dI, v2, v3]
              by_cases q1 : nI (G 0) ≤ nI (G (M - 1))
              · by_cases q2 : nI (G (M - 1)) ≤ nI (G 0)
                · have q3 := Int32.le_antisymm q2 q1
                  have f : f_J6_compare_7cf53 (nI (G (M - 1))) (nI (G 0)) σ' = some (0, σ') := by rw [f_J6_compare_7cf53, ex_bt q1, ex_bt q3, ex_rt]
                  exact fin 0 (by rw [eC2, ex_cl f, ex_rtX]) (by rw [eM0, ex_bt (by decide), ex_bt (show nI 2 = 2 from rfl), ex_bt q1, ex_bt q2, ex_rt])
                · have f : f_J6_compare_7cf53 (nI (G (M - 1))) (nI (G 0)) σ' = some (1, σ') := by rw [f_J6_compare_7cf53, ex_bt q1, ex_bf (fun q => q2 (by rw [q]; exact Int32.le_refl _)), ex_rt]
                  exact fin 1 (by rw [eC2, ex_cl f, ex_rtX]) (by rw [eM0, ex_bt (by decide), ex_bt (show nI 2 = 2 from rfl), ex_bt q1, ex_bf q2, ex_rt])
              · have f : f_J6_compare_7cf53 (nI (G (M - 1))) (nI (G 0)) σ' = some (-1, σ') := by rw [f_J6_compare_7cf53, ex_bf q1, ex_rt]
                exact fin (-1) (by rw [eC2, ex_cl f, ex_rtX]) (by rw [eM0, ex_bt (by decide), ex_bt (show nI 2 = 2 from rfl), ex_bf q1, ex_rt])
            · have bb := b198_eq (τ := τ2) (G := G) (show M ≤ 600 by omega) (by omega) (fun q _ => by rw [gq]; exact gpN_0) (fun q hq => qA q (by omega)) (fun q hq => qB q (by omega)) M (8191 - M) (Nat.le_refl _) (fun y q1 q2 => absurd q2 (by omega))
              rw [show 8191 - M + M + 1 = FU by rw [Nat.sub_add_cancel (by omega)]; rfl] at bb
              exact fin (stN G M) (by rw [eC, ex_bf (by decide), ex_bf (by decide), ex_bf (by decide), ex_dI, v4]; rfl) (by rw [eM0, ex_bt (by decide), ex_bf (by decide), bb])
      · refine ok_thr J false 0 (y := 1) ?_ ?_ rfl
        · rw [f_X10_step, ex_cl (isJC_t hnC hj hn4), ex_bf l1_0, ex_cl (isJC_t hnC hk hn4), ex_bf l1_0]
          rcases hz with q | ⟨q1, q2⟩
          · rw [ex_bt q, f_X10_step_b29, f_X10_step_b30, ex_xt need0]
          · rw [ex_bf q1, ex_bt q2, f_X10_step_b29, f_X10_step_b30, ex_xt need0]
        · rw [f_X11_step, ex_pI, ex_cl (isJM_t t0 hnM hj hn4), ex_bf l1_0, ex_cl (isJM_t t0 hnM hk hn4), ex_bf l1_0, ex_cl (isWhat_f t0 hz), ex_bt rfl, ex_rt]
    · refine ok_thr J false 0 (y := 1) ?_ ?_ rfl
      · rw [f_X10_step, ex_cl (isJC_t hnC hj hn4), ex_bf l1_0, ex_cl (isJC_f hnC hy), ex_bt rfl, f_X10_step_b29, f_X10_step_b30, ex_xt need0]
      · rw [f_X11_step, ex_pI, ex_cl (isJM_t t0 hnM hj hn4), ex_bf l1_0, ex_cl (isJM_f t0 hnM hy), ex_bt rfl, ex_rt]
  · refine ok_thr J false 0 (y := 1) ?_ ?_ rfl
    · rw [f_X10_step, ex_cl (isJC_f hnC hx), ex_bt rfl, f_X10_step_b29, f_X10_step_b30, ex_xt need0]
    · rw [f_X11_step, ex_pI, ex_cl (isJM_f t0 hnM hx), ex_bt rfl, ex_rt]
