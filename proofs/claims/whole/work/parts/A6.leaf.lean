-- ===== numbers and values, both =====
def faS (x : Int32) (σ : Sg) : Sg := sI (sI σ 14 4 x) 14 5 (σ.1 15 4)
def wrS (x : Int32) (τ : Sg) : Sg := sI (sI τ 56 16 x) 56 17 (τ.1 56 22)
theorem faC {x : Int32} {σ : Sg} : (cl (f_X8_fail x) (fun r => gd (r = 0 ∨ r = 1) (rt r))) σ = some (0, faS x σ) := by
  rw [ex_cl failC, ex_gd (Or.inl rfl), ex_rt, faS]
theorem numC_ok {B : Nat → Nat} {n p lo hi : Nat} {x1 x2 : Int32} {σ : Sg} (hn : n ≤ 600) (hB : ∀ i, i < n → B i < 256) (hp : p ≤ n) (K : TkC B n p σ) (h7 : tK B n p = 257) (h1 : nI lo = x1) (h2 : nI hi = x2) (hh : hi < 2 ^ 31) (hl : lo ≤ tV B n p) (hu : tV B n p ≤ hi) : ∃ σ', f_X8_number x1 x2 σ = some (1, σ') ∧ TkC B n (tE B n p) σ' ∧ σ'.1 14 3 = nI (tV B n p) ∧ σ'.2 = σ.2 ∧ ∀ a b, ¬ a = 15 → ¬ (a = 14 ∧ b = 3) → σ'.1 a b = σ.1 a b := by
  subst h1
  subst h2
  have v5 := K.2.2.2.2 h7
  have v10 := (tV_le h7).1
  have K1 : TkC B n p (sI σ 14 3 (nI (tV B n p))) := K.of (fun b => sI_ne (by omega)) rfl (fun b => sI_ne (by omega))
  obtain ⟨σ', e, K', o⟩ := nextC hn hB (tok_at (B := B) hp).2.2.2.1 K1.1 K1.2.2.1
  refine ⟨σ', ?_, K', ?_, o.1, fun a b q1 q2 => ?_⟩
  · rw [f_X8_number, ex_dI, ex_bt ((K.kind (k := 257) (x := 257) rfl (by omega)).mpr h7), ex_dI, v5, ex_bf (nI_nlt hl (by omega)), ex_dI, v5, ex_bt (nI_le hu hh), ex_dI, v5, ex_pI, ex_cl e, ex_rt]
  · rw [o.2 14 3 (by omega), sI_eq]
  · rw [o.2 a b q1, sI_gt, if_neg q2]
theorem numC_1 {B : Nat → Nat} {n p : Nat} {x1 x2 : Int32} {σ : Sg} (K : TkC B n p σ) (h7 : ¬ tK B n p = 257) : f_X8_number x1 x2 σ = some (0, faS 1 σ) := by
  rw [f_X8_number, ex_dI, ex_bf (fun q => h7 ((K.kind (k := 257) (x := 257) rfl (by omega)).mp q)), faC]
theorem numC_2 {B : Nat → Nat} {n p lo hi : Nat} {x1 x2 : Int32} {σ : Sg} (K : TkC B n p σ) (h7 : tK B n p = 257) (h1 : nI lo = x1) (h2 : nI hi = x2) (hl : lo < 2 ^ 31) (hh : hi < 2 ^ 31) (h : tV B n p < lo ∨ hi < tV B n p) : f_X8_number x1 x2 σ = some (0, faS 2 σ) := by
  subst h1
  subst h2
  have v5 := K.2.2.2.2 h7
  have v10 := (tV_le h7).1
  rw [f_X8_number, ex_dI, ex_bt ((K.kind (k := 257) (x := 257) rfl (by omega)).mpr h7), ex_dI, v5]
  by_cases z : tV B n p < lo
  · rw [ex_bt ((nI_ltI (by omega) hl).mpr z), f_X8_number_b41, faC]
  · rw [ex_bf (fun q => z ((nI_ltI (by omega) hl).mp q)), ex_dI, v5, ex_bf (nI_ge (by omega) (by omega)), f_X8_number_b41, faC]
theorem numM_ok {B : Nat → Nat} {n p lo hi : Nat} {x1 x2 : Int32} {τ : Sg} (hn : n ≤ 600) (hB : ∀ i, i < n → B i < 256) (hp : p ≤ n) (K : TkM B n p τ) (h0 : τ.1 56 16 = 0) (h7 : tK B n p = 257) (h1 : nI lo = x1) (h2 : nI hi = x2) (hh : hi < 10000) (hl : lo ≤ tV B n p) (hu : tV B n p ≤ hi) : ∃ τ', f_X11_number x1 x2 τ = some (nI (tV B n p), τ') ∧ TkM B n (tE B n p) τ' ∧ off gs_mtok τ τ' := by
  subst h1
  subst h2
  have tk := tok_at (B := B) hp
  have s4 : ¬ 4 < tE B n p - tS B n p := fun q => by
    have : tV B n p = 10000 := if_pos q
    omega
  have v4 := K.2.2.2.2.2.2.1 h7 s4
  obtain ⟨τ', e, K', o⟩ := goesM hn hB tk.2.2.2.1 K.1 K.2.1
  refine ⟨τ', ?_, K', o⟩
  rw [f_X11_number, ex_cl (good1 h0), ex_bf l1_0, ex_dI, ex_bt (K.sort.1.mpr h7), ex_dI, K.2.2.2.2.1, ex_bf (fun q => s4 ((nI_ltL (x := 4) (k := 4) rfl (by omega) (by omega)).mp q)), ex_dI, v4, ex_bf (nI_nlt hl (by omega)), ex_dI, v4, ex_bt (nI_le hu (by omega)), f_X11_number_b54, ex_dI, v4, ex_cl (good1 h0), ex_bf l1_0, ex_cl e, ex_rt]
theorem wrS_bad {x : Int32} {τ : Sg} (hx : ¬ x = 0) : ¬ (wrS x τ).1 56 16 = 0 := by
  rw [wrS, sI_nf (by omega), sI_eq]; exact hx
theorem l3_0 : ¬ (3 : Int32) = 0 := by decide
theorem l4_0 : ¬ (4 : Int32) = 0 := by decide
theorem l5_0 : ¬ (5 : Int32) = 0 := by decide
theorem numM_1 {B : Nat → Nat} {n p : Nat} {x1 x2 : Int32} {τ : Sg} (K : TkM B n p τ) (h0 : τ.1 56 16 = 0) (h7 : ¬ tK B n p = 257) : ∃ v, f_X11_number x1 x2 τ = some (v, wrS 1 τ) := by
  refine ⟨(wrS 1 τ).1 56 24, ?_⟩
  rw [f_X11_number, ex_cl (good1 h0), ex_bf l1_0, ex_dI, ex_bf (fun q => h7 (K.sort.1.mp q)), ex_cl (wrong1 h0), ← wrS, f_X11_number_b54, ex_dI, ex_cl (good0 (wrS_bad l1_0)), ex_bt rfl, ex_rt]
theorem numM_2 {B : Nat → Nat} {n p lo hi : Nat} {x1 x2 : Int32} {τ : Sg} (hn : n ≤ 600) (hp : p ≤ n) (K : TkM B n p τ) (h0 : τ.1 56 16 = 0) (h7 : tK B n p = 257) (h1 : nI lo = x1) (h2 : nI hi = x2) (hl : lo < 2 ^ 31) (hh : hi < 10000) (h : tV B n p < lo ∨ hi < tV B n p) : ∃ v, f_X11_number x1 x2 τ = some (v, wrS 2 τ) := by
  subst h1
  subst h2
  have tk := tok_at (B := B) hp
  have b49 : ∃ v, f_X11_number_b49 τ = some (v, wrS 2 τ) := by
    refine ⟨(wrS 2 τ).1 56 24, ?_⟩
    rw [f_X11_number_b49, ex_cl (wrong1 h0), ← wrS, f_X11_number_b54, ex_dI, ex_cl (good0 (wrS_bad l2_0)), ex_bt rfl, ex_rt]
  rw [f_X11_number, ex_cl (good1 h0), ex_bf l1_0, ex_dI, ex_bt (K.sort.1.mpr h7), ex_dI, K.2.2.2.2.1]
  by_cases s4 : 4 < tE B n p - tS B n p
  · rw [ex_bt ((nI_ltL (x := 4) (k := 4) rfl (by omega) (by omega)).mpr s4)]
    exact b49
  · have v4 := K.2.2.2.2.2.2.1 h7 s4
    have v9 := (tV_le h7).2 s4
    rw [ex_bf (fun q => s4 ((nI_ltL (x := 4) (k := 4) rfl (by omega) (by omega)).mp q)), ex_dI, v4]
    by_cases z : tV B n p < lo
    · rw [ex_bt ((nI_ltI (by omega) hl).mpr z)]; exact b49
    · rw [ex_bf (fun q => z ((nI_ltI (by omega) hl).mp q)), ex_dI, v4, ex_bf (nI_ge (by omega) (by omega))]
      exact b49
theorem Bd.fw {B : Nat → Nat} {n p : Nat} {x : Int32} {σ τ : Sg} (K : TkC B n p σ) (L : TkM B n p τ) (h : ¬ x = 0) : Bd (faS x σ) (wrS x τ) := Bd.mk K L h
/-- which value a word is, for the class -/
theorem valTold {B : Nat → Nat} {n p : Nat} {σ : Sg} (hn : n ≤ 600) (hp : p ≤ n) (K : TkC B n p σ) (h6 : tK B n p = 256) : f_X8_valueTold σ = some (if tW B n p ≤ 7 then nI (tW B n p) else -1, σ) := by
  have t : ∀ q k, 2 ≤ q → q < 21 → wk q = k → tW B n p = k → f_X5_isWord q σ = some (1, σ) := fun q k a b c d => isW_t hn hp K a b c ⟨h6, d⟩
  have f : ∀ q k, 2 ≤ q → q < 21 → wk q = k → ¬ tW B n p = k → f_X5_isWord q σ = some (0, σ) := fun q k a b c d => isW_f hn hp K a b c (fun z => d z.2)
  rw [f_X8_valueTold]
  by_cases a0 : tW B n p = 0
  · rw [ex_cl (t 10 0 (by omega) (by omega) rfl a0), ex_bf l1_0, ex_rt, a0]; rfl
  rw [ex_cl (f 10 0 (by omega) (by omega) rfl a0), ex_bt rfl]
  by_cases a1 : tW B n p = 1
  · rw [ex_cl (t 11 1 (by omega) (by omega) rfl a1), ex_bf l1_0, ex_rt, a1]; rfl
  rw [ex_cl (f 11 1 (by omega) (by omega) rfl a1), ex_bt rfl]
  by_cases a2 : tW B n p = 2
  · rw [ex_cl (t 12 2 (by omega) (by omega) rfl a2), ex_bf l1_0, ex_rt, a2]; rfl
  rw [ex_cl (f 12 2 (by omega) (by omega) rfl a2), ex_bt rfl]
  by_cases a3 : tW B n p = 3
  · rw [ex_cl (t 13 3 (by omega) (by omega) rfl a3), ex_bf l1_0, ex_rt, a3]; rfl
  rw [ex_cl (f 13 3 (by omega) (by omega) rfl a3), ex_bt rfl]
  by_cases a4 : tW B n p = 4
  · rw [ex_cl (t 14 4 (by omega) (by omega) rfl a4), ex_bf l1_0, ex_rt, a4]; rfl
  rw [ex_cl (f 14 4 (by omega) (by omega) rfl a4), ex_bt rfl]
  by_cases a5 : tW B n p = 5
  · rw [ex_cl (t 15 5 (by omega) (by omega) rfl a5), ex_bf l1_0, ex_rt, a5]; rfl
  rw [ex_cl (f 15 5 (by omega) (by omega) rfl a5), ex_bt rfl]
  by_cases a6 : tW B n p = 6
  · rw [ex_cl (t 16 6 (by omega) (by omega) rfl a6), ex_bf l1_0, ex_rt, a6]; rfl
  rw [ex_cl (f 16 6 (by omega) (by omega) rfl a6), ex_bt rfl]
  by_cases a7 : tW B n p = 7
  · rw [ex_cl (t 17 7 (by omega) (by omega) rfl a7), ex_bf l1_0, ex_rt, a7]; rfl
  rw [ex_cl (f 17 7 (by omega) (by omega) rfl a7), ex_bt rfl, ex_rt, if_neg (by omega)]
-- ===== what a reading of a piece of a rule does, both =====
def Wf (bd : Nat) (E : List Nat) : Prop := ∀ d R, d ≤ bd → wfT (d + 1) R → wfT d (E ++ R)
def Wt (a0 k0 p : Nat) (C S : List Nat) : Prop := a0 + C.length + S.length ≤ p ∧ k0 + 2 * (C.length + S.length) ≤ 2 * p + 8
def Fw (B : Nat → Nat) (n lv p : Nat) (b : Bool) : Prop := (lv ≤ 6 → ¬ tK B n p = 42 ∧ ¬ tK B n p = 47) ∧ (lv ≤ 5 → ¬ tK B n p = 43 ∧ ¬ tK B n p = 45) ∧ (lv ≤ 4 → (¬ tK B n p = 60 ∧ ¬ tK B n p = 61) ∨ b = true) ∧ (lv ≤ 2 → ¬ (tK B n p = 256 ∧ tW B n p = 16)) ∧ (lv ≤ 1 → ¬ (tK B n p = 256 ∧ tW B n p = 17))
/-- the reference stands where a part may begin; where a 'not' may stand, too -/
def stP (x2 : Int32) (fo fe : Nat) : Sg → Option (Unit × Sg) := cl (f_X11_operand_b75 (f_X11_operand_b4 fo) x2) (fun _ => f_X11_expression_b29 fe 1)
def stQ (fo fe : Nat) : Sg → Option (Unit × Sg) := cl (f_X11_operand_b4 (fo + 1) 1 1) (fun _ => f_X11_expression_b29 fe 1)
def CnG (B : Nat → Nat) (n g a0 k0 : Nat) (σ0 τ0 : Sg) (lv bd : Nat) (nf : Bool) (p : Nat) (C S : List Nat) (b : Bool) (D : List Bool) (rs : Option (Int32 × Sg)) (rt' : Option (Unit × Sg)) : Prop :=
  (∃ σ' τ' p' E Cm P b' fe', rs = some (1, σ') ∧ rt' = f_X11_expression_b29 fe' 1 τ' ∧ p < p' ∧ p' ≤ n ∧ n - p' + 1 < fe' ∧ ExC B n g a0 σ0 p' (C ++ E) σ' ∧ ExM B n k0 τ0 p' Cm (P ++ S) (b' :: D) τ' ∧ Cm ++ P = C ++ E ∧ (∀ q ∈ P, 1 ≤ q ∧ q ≤ 9 ∧ lv ≤ str q) ∧ Wt a0 k0 p' Cm (P ++ S) ∧ Wf bd E ∧ (nf = false → b' = b) ∧ Fw B n lv p' b') ∨
  (∃ σ' τ', rs = some (0, σ') ∧ rt' = some ((), τ') ∧ Bd σ' τ')
def Cn (B : Nat → Nat) (n g a0 k0 : Nat) (σ0 τ0 : Sg) (dl lv bd : Nat) (nf : Bool) (st : Nat → Nat → Sg → Option (Unit × Sg)) (f : Sg → Option (Int32 × Sg)) : Prop :=
  ∀ (σ τ : Sg) (p : Nat) (C S : List Nat) (b : Bool) (D : List Bool) (fo fe : Nat), p ≤ n → D.length = dl → Wt a0 k0 p C S → tp lv S → (nf = true → b = false) → n - p < fo → n - p + 1 < fe → ExC B n g a0 σ0 p C σ → ExM B n k0 τ0 p C S (b :: D) τ → CnG B n g a0 k0 σ0 τ0 lv bd nf p C S b D (f σ) (st fo fe τ)
theorem stP_part {B : Nat → Nat} {n p : Nat} {x2 : Int32} {fo fe : Nat} {τ τ' : Sg} (K : TkM B n p τ) (h0 : τ.1 56 16 = 0) (h : ¬ tK B n p = 40) (hp : f_X11_part τ = some ((), τ')) : stP x2 (fo + 1) fe τ = f_X11_expression_b29 fe 1 τ' := by
  have e : f_X11_operand_b75 (f_X11_operand_b4 (fo + 1)) x2 τ = some ((), τ') := by
    rw [f_X11_operand_b75, ex_cl (good1 h0), ex_bf l1_0, ex_cl (sgn_f (c := 40) (x := 40) K rfl (by omega) h), ex_bt rfl, f_X11_operand_b95, f_X11_operand_b96, ex_bt rfl, f_X11_operand_b4, ex_bt rfl, f_X11_operand_b120, ex_cl hp, ex_rt]
  rw [stP, ex_cl e]
/-- what is not there any more when a fault came -/
theorem ExM.nums {B : Nat → Nat} {n k0 p : Nat} {τ0 τ : Sg} {C S : List Nat} {D : List Bool} (E : ExM B n k0 τ0 p C S D τ) : τ.1 56 37 = nI S.length ∧ τ.1 56 36 = nI (k0 + mlen C) := ⟨E.2.2.2.2.1, E.2.2.1⟩
theorem wr_end {x : Int32} {fe w t : Nat} {σ τ : Sg} (hx : ¬ x = 0) (h37 : τ.1 56 37 = nI w) (h36 : τ.1 56 36 = nI t) (hw : w ≤ 800) (ht : t + w < 1599) (hb : Bd σ (wrS x τ)) : ∃ τ', f_X11_expression_b29 (fe + 1) 1 (wrS x τ) = some ((), τ') ∧ Bd σ τ' := by
  obtain ⟨τ', e, a, b⟩ := bad_end (fe := fe) (wrS_bad (τ := τ) hx) (w := w) (t := t) (by rw [wrS, sI_nf (by omega), sI_nf (by omega)]; exact h37) (by rw [wrS, sI_nf (by omega), sI_nf (by omega)]; exact h36) hw ht
  exact ⟨τ', e, hb.of a b⟩
