-- ===== lines: numbers one behind the other, both =====
def LK (B : Nat → Nat) (n g p : Nat) (σ τ : Sg) : Prop := TkC B n p σ ∧ TkM B n p τ ∧ σ.2.2 14 1 = g ∧ τ.1 56 16 = 0
/-- what stays while tokens are read -/
def Sm (σ τ σ' τ' : Sg) : Prop := (∀ a b, ¬ a = 15 → ¬ (a = 14 ∧ b = 3) → σ'.1 a b = σ.1 a b) ∧ σ'.2 = σ.2 ∧ ∀ a b, ¬ (a = 56 ∧ 20 ≤ b ∧ b ≤ 26) → τ'.1 a b = τ.1 a b
theorem Sm.tr {σ τ σ1 τ1 σ2 τ2 : Sg} (h : Sm σ τ σ1 τ1) (k : Sm σ1 τ1 σ2 τ2) : Sm σ τ σ2 τ2 := ⟨fun a b q r => (k.1 a b q r).trans (h.1 a b q r), k.2.1.trans h.2.1, fun a b q => (k.2.2 a b q).trans (h.2.2 a b q)⟩
theorem next_rel {B : Nat → Nat} {n g p : Nat} {σ τ : Sg} (hn : n ≤ 600) (hB : ∀ i, i < n → B i < 256) (hp : p ≤ n) (L : LK B n g p σ τ) : ∃ σ' τ', f_X5_next σ = some ((), σ') ∧ f_X11_goes τ = some ((), τ') ∧ LK B n g (tE B n p) σ' τ' ∧ Oc 15 σ σ' ∧ Sm σ τ σ' τ' := by
  obtain ⟨K, M, r, h0⟩ := L
  have tk := tok_at (B := B) hp
  obtain ⟨σ', e1, K', o1⟩ := nextC hn hB tk.2.2.2.1 K.1 K.2.2.1
  obtain ⟨τ', e2, M', o2⟩ := goesM hn hB tk.2.2.2.1 M.1 M.2.1
  exact ⟨σ', τ', e1, e2, ⟨K', M', by rw [o1.1]; exact r, by rw [mtok_of o2 (by omega)]; exact h0⟩, o1, fun a b q _ => o1.2 a b q, o1.1, fun a b q => mtok_of o2 q⟩
theorem num_rel {B : Nat → Nat} {n g p lo hi : Nat} {x1 x2 : Int32} {σ τ : Sg} (hn : n ≤ 600) (hB : ∀ i, i < n → B i < 256) (hp : p ≤ n) (L : LK B n g p σ τ) (h1 : nI lo = x1) (h2 : nI hi = x2) (hl : lo ≤ hi) (hh : hi < 10000) : (∃ σ' τ' v p', f_X8_number x1 x2 σ = some (1, σ') ∧ f_X11_number x1 x2 τ = some (nI v, τ') ∧ LK B n g p' σ' τ' ∧ σ'.1 14 3 = nI v ∧ lo ≤ v ∧ v ≤ hi ∧ Sm σ τ σ' τ' ∧ p < p' ∧ p' ≤ n) ∨ (∃ σ' τ' v, f_X8_number x1 x2 σ = some (0, σ') ∧ f_X11_number x1 x2 τ = some (v, τ') ∧ Bd σ' τ') := by
  obtain ⟨K, M, r, h0⟩ := L
  have tk := tok_at (B := B) hp
  by_cases h7 : tK B n p = 257
  · by_cases h : lo ≤ tV B n p ∧ tV B n p ≤ hi
    · obtain ⟨σ', e1, K', c3, c2, o1⟩ := numC_ok hn hB hp K h7 h1 h2 (by omega) h.1 h.2
      obtain ⟨τ', e2, M', o2⟩ := numM_ok hn hB hp M h0 h7 h1 h2 hh h.1 h.2
      have t5 := tk.2.2.2.2.1 (by omega)
      exact Or.inl ⟨σ', τ', tV B n p, tE B n p, e1, e2, ⟨K', M', by rw [c2]; exact r, by rw [mtok_of o2 (by omega)]; exact h0⟩, c3, h.1, h.2, ⟨o1, c2, fun a b q => mtok_of o2 q⟩, by omega, tk.2.2.2.1⟩
    · obtain ⟨v, e2⟩ := numM_2 hn hp M h0 h7 h1 h2 (by omega) hh (by omega)
      exact Or.inr ⟨_, _, v, numC_2 K h7 h1 h2 (by omega) (by omega) (by omega), e2, Bd.fw K M l2_0⟩
  · obtain ⟨v, e2⟩ := numM_1 (x1 := x1) (x2 := x2) M h0 h7
    exact Or.inr ⟨_, _, v, numC_1 K h7, e2, Bd.fw K M l1_0⟩
theorem sgd_rel {B : Nat → Nat} {n g p hi : Nat} {x : Int32} {σ τ : Sg} (hn : n ≤ 600) (hB : ∀ i, i < n → B i < 256) (hp : p ≤ n) (L : LK B n g p σ τ) (h2 : nI hi = x) (hh : hi < 10000) : (∃ σ' τ' v p', f_X8_signed x σ = some (1, σ') ∧ f_X11_signed x τ = some (v, τ') ∧ LK B n g p' σ' τ' ∧ σ'.1 14 3 = v ∧ (-(hi : Int) ≤ v.toInt ∧ v.toInt ≤ hi) ∧ Sm σ τ σ' τ' ∧ p < p' ∧ p' ≤ n) ∨ (∃ σ' τ' v, f_X8_signed x σ = some (0, σ') ∧ f_X11_signed x τ = some (v, τ') ∧ Bd σ' τ') := by
  have tk := tok_at (B := B) hp
  by_cases z : tK B n p = 45
  · have t5 := tk.2.2.2.2.1 (by omega)
    obtain ⟨σ1, τ1, e1, e2, L1, o1, o2⟩ := next_rel hn hB hp L
    have c0 : f_X8_signed x σ = f_X8_signed_b29 x 1 σ1 := by
      rw [f_X8_signed, ex_dI, ex_bt ((L.1.kind (k := 45) (x := 45) rfl (by omega)).mpr z), f_X8_signed_b17, ex_bf l1_0, ex_cl e1]
    have m0 : f_X11_signed x τ = f_X11_signed_b30 x 1 τ1 := by
      rw [f_X11_signed, ex_cl (good1 L.2.2.2), ex_bf l1_0, ex_cl (sgn_t (c := 45) (x := 45) L.2.1 rfl (by omega) z), ex_bf l1_0, f_X11_signed_b21, ex_bf l1_0, ex_cl e2]
    rcases num_rel (lo := 0) (x1 := 0) hn hB tk.2.2.2.1 L1 rfl h2 (by omega) hh with ⟨σ2, τ2, v, p', d1, d2, L2, d3, d4, d5, d6, d7, d8⟩ | ⟨σ2, τ2, v, d1, d2, d3⟩
    · have nv : -(nI v) = 0 - nI v := by rw [Int32.zero_sub]
      have nt : (0 - nI v).toInt = -(v : Int) := by
        have h := nI_toInt (show v < 2 ^ 31 by omega)
        rw [toInt_sub_s (by rw [toInt_0, h]; omega), toInt_0, h]
        omega
      refine Or.inl ⟨sI σ2 14 3 (0 - nI v), τ2, 0 - nI v, p', ?_, ?_, ⟨L2.1.of (fun b => sI_ne (by omega)) rfl (fun b => sI_ne (by omega)), L2.2.1, L2.2.2.1, L2.2.2.2⟩, sI_eq, by omega, o2.tr (d6.tr ⟨fun a b q r => by rw [sI_gt, if_neg r], rfl, fun _ _ _ => rfl⟩), by omega, d8⟩
      · rw [c0, f_X8_signed_b29, ex_cl d1, ex_bf l1_0, ex_bf l1_0, ex_dI, d3, nv, f_X8_signed_b57, ex_pI, ex_rt]
      · rw [m0, f_X11_signed_b30, ex_cl d2, ex_bf l1_0, ex_rt]
    · refine Or.inr ⟨σ2, τ2, 0 - v, ?_, ?_, d3⟩
      · rw [c0, f_X8_signed_b29, ex_cl d1, ex_bt rfl, ex_rt]
      · rw [m0, f_X11_signed_b30, ex_cl d2, ex_bf l1_0, ex_rt]
  · have c0 : f_X8_signed x σ = f_X8_signed_b29 x 0 σ := by
      rw [f_X8_signed, ex_dI, ex_bf (fun q => z ((L.1.kind (k := 45) (x := 45) rfl (by omega)).mp q)), f_X8_signed_b17, ex_bt rfl]
    have m0 : f_X11_signed x τ = f_X11_signed_b30 x 0 τ := by
      rw [f_X11_signed, ex_cl (good1 L.2.2.2), ex_bf l1_0, ex_cl (sgn_f (c := 45) (x := 45) L.2.1 rfl (by omega) z), ex_bt rfl, f_X11_signed_b20, f_X11_signed_b21, ex_bt rfl]
    rcases num_rel (lo := 0) (x1 := 0) hn hB hp L rfl h2 (by omega) hh with ⟨σ2, τ2, v, p', d1, d2, L2, d3, d4, d5, d6, d7, d8⟩ | ⟨σ2, τ2, v, d1, d2, d3⟩
    · have nt := nI_toInt (show v < 2 ^ 31 by omega)
      refine Or.inl ⟨sI σ2 14 3 (nI v), τ2, nI v, p', ?_, ?_, ⟨L2.1.of (fun b => sI_ne (by omega)) rfl (fun b => sI_ne (by omega)), L2.2.1, L2.2.2.1, L2.2.2.2⟩, sI_eq, by omega, d6.tr ⟨fun a b q r => by rw [sI_gt, if_neg r], rfl, fun _ _ _ => rfl⟩, d7, d8⟩
      · rw [c0, f_X8_signed_b29, ex_cl d1, ex_bf l1_0, ex_bt rfl, ex_dI, d3, f_X8_signed_b57, ex_pI, ex_rt]
      · rw [m0, f_X11_signed_b30, ex_cl d2, ex_bt rfl, ex_rt]
    · refine Or.inr ⟨σ2, τ2, v, ?_, ?_, d3⟩
      · rw [c0, f_X8_signed_b29, ex_cl d1, ex_bt rfl, ex_rt]
      · rw [m0, f_X11_signed_b30, ex_cl d2, ex_bt rfl, ex_rt]
-- ===== what may be told once =====
def Se (u : Nat) (σ τ : Sg) : Prop := u < 32 ∧ σ.1 14 2 = nI u ∧ τ.1 56 35 = nI (256 * u)
theorem se_bits : ∀ u, u < 32 → ∀ i, i < 5 → (nI u &&& nI (2 ^ i) = 0 ↔ ¬ ((nI (256 * u) >>> (nI (8 + i) &&& 31)) &&& 1 = 1)) ∧ (u ||| 2 ^ i) < 32 ∧ nI u ||| nI (2 ^ i) = nI (u ||| 2 ^ i) ∧ nI (256 * u) ||| ((1 : Int32) <<< (nI (8 + i) &&& 31)) = nI (256 * (u ||| 2 ^ i)) := by decide +kernel
theorem once_rel {B : Nat → Nat} {n g p u i : Nat} {x y : Int32} {σ τ : Sg} (hn : n ≤ 600) (hB : ∀ i, i < n → B i < 256) (hp : p ≤ n) (h8 : ¬ tK B n p = 258) (L : LK B n g p σ τ) (S : Se u σ τ) (hi : i < 5) (hx : nI (2 ^ i) = x) (hy : nI (8 + i) = y) : (∃ σ' τ', f_X8_passOnce x σ = some (1, σ') ∧ f_X11_begins y τ = some (1, τ') ∧ LK B n g (tE B n p) σ' τ' ∧ Se (u ||| 2 ^ i) σ' τ' ∧ (∀ a b, ¬ a = 15 → ¬ (a = 14 ∧ (b = 2 ∨ b = 3)) → σ'.1 a b = σ.1 a b) ∧ σ'.2 = σ.2 ∧ (∀ a b, ¬ (a = 56 ∧ ((20 ≤ b ∧ b ≤ 26) ∨ b = 35)) → τ'.1 a b = τ.1 a b) ∧ p < tE B n p) ∨ (∃ σ' τ', f_X8_passOnce x σ = some (0, σ') ∧ f_X11_begins y τ = some (0, τ') ∧ Bd σ' τ') := by
  subst hx
  subst hy
  obtain ⟨s0, s1, s2⟩ := S
  obtain ⟨q1, q2, q3, q4⟩ := se_bits u s0 i hi
  have tk := tok_at (B := B) hp
  have t5 := tk.2.2.2.2.1 h8
  by_cases z : nI u &&& nI (2 ^ i) = 0
  · have L1 : LK B n g p (sI σ 14 2 (nI (u ||| 2 ^ i))) (sI τ 56 35 (nI (256 * (u ||| 2 ^ i)))) := ⟨L.1.of (fun b => sI_ne (by omega)) rfl (fun b => sI_ne (by omega)), L.2.1.of (fun b _ _ => sI_nf (by omega)) (fun b => sI_ne (by omega)) rfl, L.2.2.1, by rw [sI_nf (by omega)]; exact L.2.2.2⟩
    obtain ⟨σ', τ', e1, e2, L2, o1, o2⟩ := next_rel hn hB hp L1
    refine Or.inl ⟨σ', τ', ?_, ?_, L2, ⟨q2, ?_, ?_⟩, fun a b c d => ?_, o1.1, fun a b c => ?_, by omega⟩
    · rw [f_X8_passOnce, ex_dI, s1, ex_bt z, ex_dI, s1, ex_pI, q3, ex_cl e1, ex_rt]
    · rw [f_X11_begins, ex_dI, s2, ex_bf (q1.mp z), f_X11_begins_b17, ex_dI, s2, ex_pI, q4, ex_cl (good1 L1.2.2.2), ex_bf l1_0, ex_cl e2, f_X11_begins_b40, ex_cl (good1 L2.2.2.2), ex_gd (Or.inr rfl), ex_rt]
    · rw [o1.2 _ _ (by omega), sI_eq]
    · rw [o2.2.2 _ _ (by omega), sI_eq]
    · rw [o1.2 _ _ c, sI_gt, if_neg (by omega)]
    · rw [o2.2.2 _ _ (by omega), sI_gt, if_neg (by omega)]
  · have z' : ((nI (256 * u) >>> (nI (8 + i) &&& 31)) &&& 1) = 1 := by
      by_cases w : ((nI (256 * u) >>> (nI (8 + i) &&& 31)) &&& 1) = 1
      · exact w
      · exact absurd (q1.mpr w) z
    have bd := Bd.fw L.1 L.2.1 l5_0
    have h35 : (wrS 5 τ).1 56 35 = nI (256 * u) := by rw [wrS, sI_nf (by omega), sI_nf (by omega)]; exact s2
    have hb : ¬ (sI (wrS 5 τ) 56 35 (nI (256 * (u ||| 2 ^ i)))).1 56 16 = 0 := by rw [sI_nf (by omega)]; exact wrS_bad l5_0
    refine Or.inr ⟨_, sI (wrS 5 τ) 56 35 (nI (256 * (u ||| 2 ^ i))), ?_, ?_, bd.of (by rw [sI_nf (by omega)]) (by rw [sI_nf (by omega)])⟩
    · rw [f_X8_passOnce, ex_dI, s1, ex_bf z, faC]
    · rw [f_X11_begins, ex_dI, s2, ex_bt z', ex_cl (wrong1 L.2.2.2), ← wrS, f_X11_begins_b17, ex_dI, h35, ex_pI, q4, ex_cl (good0 hb), ex_bt rfl, f_X11_begins_b40, ex_cl (good0 hb), ex_gd (Or.inl rfl), ex_rt]
-- ===== once there is a fault =====
theorem num_bad {x1 x2 : Int32} {τ : Sg} (h : ¬ τ.1 56 16 = 0) : f_X11_number x1 x2 τ = some (0, τ) := by
  rw [f_X11_number, ex_cl (good0 h), ex_bt rfl, ex_rt]
theorem sgd_bad {x : Int32} {τ : Sg} (h : ¬ τ.1 56 16 = 0) : f_X11_signed x τ = some (0, τ) := by
  rw [f_X11_signed, ex_cl (good0 h), ex_bt rfl, f_X11_signed_b20, f_X11_signed_b21, ex_bt rfl, f_X11_signed_b30, ex_cl (num_bad h), ex_bt rfl, ex_rt]
theorem sgn_any (x : Int32) (τ : Sg) : ∃ r, f_X11_isSign x τ = some (r, τ) := by
  rw [f_X11_isSign, ex_dI]
  by_cases a : τ.1 56 21 = 3
  · rw [ex_bt a, ex_dI]
    by_cases b : τ.1 56 25 = x
    · exact ⟨1, by rw [ex_bt b, ex_rt]⟩
    · exact ⟨0, by rw [ex_bf b, ex_rt]⟩
  · exact ⟨0, by rw [ex_bf a, ex_rt]⟩
theorem b292_bad {τ : Sg} (h : ¬ τ.1 56 16 = 0) : f_X11_line_b292 τ = some ((), τ) := by
  obtain ⟨r, e⟩ := sgn_any 59 τ
  have n : f_X11_need r τ = some ((), τ) := by rw [f_X11_need, ex_cl (good0 h), ex_bt rfl, ex_rt]
  rw [f_X11_line_b292, ex_cl e, ex_cl n, ex_rt]
