-- ===== signs, words, faults, both =====
theorem TkC.of {B : Nat → Nat} {n p : Nat} {σ σ' : Sg} (K : TkC B n p σ) (h15 : ∀ b, σ'.1 15 b = σ.1 15 b) (hr : σ'.2.2 15 0 = σ.2.2 15 0) (h1 : ∀ b, σ'.1 1 b = σ.1 1 b) : TkC B n p σ' := by
  obtain ⟨T, a, b, c, d⟩ := K
  exact ⟨T.of (h15 1) hr h1, (h15 4).trans a, (h15 2).trans b, (h15 3).trans c, fun q => (h15 5).trans (d q)⟩
theorem TkM.of {B : Nat → Nat} {n p : Nat} {τ τ' : Sg} (K : TkM B n p τ) (h : ∀ b, 19 ≤ b → b ≤ 25 → τ'.1 56 b = τ.1 56 b) (h2 : ∀ b, τ'.1 62 b = τ.1 62 b) (hl : τ'.2.1 56 26 = τ.2.1 56 26) : TkM B n p τ' := by
  obtain ⟨T, a, b, c, d, e, f, g⟩ := K
  exact ⟨T.of (h 19 (by omega) (by omega)) h2, (h 20 (by omega) (by omega)).trans a, (h 22 (by omega) (by omega)).trans b, (h 21 (by omega) (by omega)).trans c, (h 23 (by omega) (by omega)).trans d, fun q => (h 25 (by omega) (by omega)).trans (e q), fun q r => (h 24 (by omega) (by omega)).trans (f q r), fun q r => hl.trans (g q r)⟩
def wk (q : Nat) : Nat := [19, 19, 8, 9, 10, 11, 13, 14, 15, 18, 0, 1, 2, 3, 4, 5, 6, 7, 16, 17, 12].getD q 19
theorem wk_ok : ∀ q, q < 21 → 2 ≤ q → lenJS.getD q 0 = (wds.getD (wk q) []).length ∧ wk q < 19 ∧ (wds.getD (wk q) []).length ≤ 8 ∧ ∀ i, i < (wds.getD (wk q) []).length → (bytJS.getD q []).getD i 0 &&& 255 = nI ((wds.getD (wk q) []).getD i 0) ∧ (wds.getD (wk q) []).getD i 0 < 128 := by decide +kernel
theorem isWq {B : Nat → Nat} {n p q : Nat} {σ : Sg} (hn : n ≤ 600) (hp : p ≤ n) (K : TkC B n p σ) (h2 : 2 ≤ q) (h20 : q < 21) : f_X5_isWord q σ = some (if tK B n p = 256 ∧ tW B n p = wk q then 1 else 0, σ) := by
  obtain ⟨a, b, c, d⟩ := wk_ok q h20 h2
  exact isWordC hn hp K (wds_at b) (by omega) a d c
theorem isW_t {B : Nat → Nat} {n p q k : Nat} {σ : Sg} (hn : n ≤ 600) (hp : p ≤ n) (K : TkC B n p σ) (h2 : 2 ≤ q) (h20 : q < 21) (hk : wk q = k) (h : tK B n p = 256 ∧ tW B n p = k) : f_X5_isWord q σ = some (1, σ) := by
  rw [isWq hn hp K h2 h20, hk, if_pos h]
theorem isW_f {B : Nat → Nat} {n p q k : Nat} {σ : Sg} (hn : n ≤ 600) (hp : p ≤ n) (K : TkC B n p σ) (h2 : 2 ≤ q) (h20 : q < 21) (hk : wk q = k) (h : ¬ (tK B n p = 256 ∧ tW B n p = k)) : f_X5_isWord q σ = some (0, σ) := by
  rw [isWq hn hp K h2 h20, hk, if_neg h]
theorem srt_lt (K : Nat) : srt K < 5 := by
  unfold srt
  split
  · omega
  · split
    · omega
    · split
      · omega
      · split <;> omega
theorem srt_3 {K : Nat} (h : K < 260) : srt K = 3 ↔ K < 256 := by
  unfold srt
  by_cases a : K = 258
  · rw [if_pos a]; omega
  · rw [if_neg a]
    by_cases b : K = 256
    · rw [if_pos b]; omega
    · rw [if_neg b]
      by_cases c : K = 257
      · rw [if_pos c]; omega
      · rw [if_neg c]
        by_cases d : K = 259
        · rw [if_pos d]; omega
        · rw [if_neg d]; omega
theorem srt_2 {K : Nat} : srt K = 2 ↔ K = 257 := by
  unfold srt
  by_cases a : K = 258
  · rw [if_pos a]; omega
  · rw [if_neg a]
    by_cases b : K = 256
    · rw [if_pos b]; omega
    · rw [if_neg b]
      by_cases c : K = 257
      · rw [if_pos c]; omega
      · rw [if_neg c]
        by_cases d : K = 259
        · rw [if_pos d]; omega
        · rw [if_neg d]; omega
theorem srt_1 {K : Nat} : srt K = 1 ↔ K = 256 := by
  unfold srt
  by_cases a : K = 258
  · rw [if_pos a]; omega
  · rw [if_neg a]
    by_cases b : K = 256
    · rw [if_pos b]; omega
    · rw [if_neg b]
      by_cases c : K = 257
      · rw [if_pos c]; omega
      · rw [if_neg c]
        by_cases d : K = 259
        · rw [if_pos d]; omega
        · rw [if_neg d]; omega
theorem srt_0 {K : Nat} : srt K = 0 ↔ K = 258 := by
  unfold srt
  by_cases a : K = 258
  · rw [if_pos a]; omega
  · rw [if_neg a]
    by_cases b : K = 256
    · rw [if_pos b]; omega
    · rw [if_neg b]
      by_cases c : K = 257
      · rw [if_pos c]; omega
      · rw [if_neg c]
        by_cases d : K = 259
        · rw [if_pos d]; omega
        · rw [if_neg d]; omega
/-- what the token is, in the reference's field -/
theorem TkM.sort {B : Nat → Nat} {n p : Nat} {τ : Sg} (K : TkM B n p τ) : (τ.1 56 21 = 2 ↔ tK B n p = 257) ∧ (τ.1 56 21 = 1 ↔ tK B n p = 256) ∧ (τ.1 56 21 = 0 ↔ tK B n p = 258) ∧ (τ.1 56 21 = 3 ↔ tK B n p < 256) := by
  have h := K.2.2.2.1
  have l := srt_lt (tK B n p)
  rw [h, nI_eqL (x := 2) (k := 2) rfl (by omega) (by omega), nI_eqL (x := 1) (k := 1) rfl (by omega) (by omega), nI_eqL (x := 0) (k := 0) rfl (by omega) (by omega), nI_eqL (x := 3) (k := 3) rfl (by omega) (by omega)]
  exact ⟨srt_2, srt_1, srt_0, srt_3 tK_lt⟩
/-- what the token is, in the class's field -/
theorem TkC.kind {B : Nat → Nat} {n p k : Nat} {x : Int32} {σ : Sg} (K : TkC B n p σ) (hx : Int32.ofNat k = x) (hk : k < 2 ^ 31) : σ.1 15 3 = x ↔ tK B n p = k := by
  have := tK_lt (B := B) (n := n) (p := p)
  rw [K.2.2.2.1]
  exact nI_eqL hx hk (by omega)
theorem isSgn {B : Nat → Nat} {n p c : Nat} {x : Int32} {τ : Sg} (K : TkM B n p τ) (hx : Int32.ofNat c = x) (hc : c < 256) : f_X11_isSign x τ = some (if tK B n p = c then 1 else 0, τ) := by
  have := tK_lt (B := B) (n := n) (p := p)
  rw [f_X11_isSign, ex_dI]
  by_cases z : tK B n p < 256
  · rw [ex_bt (K.sort.2.2.2.mpr z), ex_dI, K.2.2.2.2.2.1 z]
    by_cases y : tK B n p = c
    · rw [ex_bt ((nI_eqL hx (by omega) (by omega)).mpr y), ex_rt, if_pos y]
    · rw [ex_bf (fun q => y ((nI_eqL hx (by omega) (by omega)).mp q)), ex_rt, if_neg y]
  · rw [ex_bf (fun q => z (K.sort.2.2.2.mp q)), ex_rt, if_neg (by omega)]
theorem sgn_t {B : Nat → Nat} {n p c : Nat} {x : Int32} {τ : Sg} (K : TkM B n p τ) (hx : Int32.ofNat c = x) (hc : c < 256) (h : tK B n p = c) : f_X11_isSign x τ = some (1, τ) := by
  rw [isSgn K hx hc, if_pos h]
theorem sgn_f {B : Nat → Nat} {n p c : Nat} {x : Int32} {τ : Sg} (K : TkM B n p τ) (hx : Int32.ofNat c = x) (hc : c < 256) (h : ¬ tK B n p = c) : f_X11_isSign x τ = some (0, τ) := by
  rw [isSgn K hx hc, if_neg h]
theorem good1 {τ : Sg} (h : τ.1 56 16 = 0) : f_X11_isGood τ = some (1, τ) := by rw [f_X11_isGood, ex_dI, ex_bt h, ex_rt]
theorem good0 {τ : Sg} (h : ¬ τ.1 56 16 = 0) : f_X11_isGood τ = some (0, τ) := by rw [f_X11_isGood, ex_dI, ex_bf h, ex_rt]
theorem wrong1 {x : Int32} {τ : Sg} (h : τ.1 56 16 = 0) : f_X11_wrong x τ = some ((), sI (sI τ 56 16 x) 56 17 (τ.1 56 22)) := by
  rw [f_X11_wrong, ex_dI, ex_bt h, ex_pI, ex_dI, sI_nf (by omega), ex_pI, ex_rt]
theorem wrong0 {x : Int32} {τ : Sg} (h : ¬ τ.1 56 16 = 0) : f_X11_wrong x τ = some ((), τ) := by
  rw [f_X11_wrong, ex_dI, ex_bf h, ex_rt]
theorem failC {x : Int32} {σ : Sg} : f_X8_fail x σ = some (0, sI (sI σ 14 4 x) 14 5 (σ.1 15 4)) := by
  rw [f_X8_fail, ex_pI, ex_dI, sI_ne (by omega), ex_pI, ex_rt]
/-- a fault, both -/
def Bd (σ τ : Sg) : Prop := ∃ k : Int32, ¬ k = 0 ∧ σ.1 14 4 = k ∧ τ.1 56 16 = k ∧ τ.1 56 17 = σ.1 14 5
theorem Bd.mk {B : Nat → Nat} {n p : Nat} {x : Int32} {σ τ : Sg} (K : TkC B n p σ) (L : TkM B n p τ) (h : ¬ x = 0) : Bd (sI (sI σ 14 4 x) 14 5 (σ.1 15 4)) (sI (sI τ 56 16 x) 56 17 (τ.1 56 22)) := by
  refine ⟨x, h, by rw [sI_nf (by omega), sI_eq], by rw [sI_nf (by omega), sI_eq], ?_⟩
  rw [sI_eq, sI_eq, K.2.1, L.2.2.1]
theorem Bd.of {σ τ τ' : Sg} (h : Bd σ τ) (a : τ'.1 56 16 = τ.1 56 16) (b : τ'.1 56 17 = τ.1 56 17) : Bd σ τ' := by
  obtain ⟨k, h1, h2, h3, h4⟩ := h
  exact ⟨k, h1, h2, a.trans h3, b.trans h4⟩
theorem Bd.bad {σ τ : Sg} (h : Bd σ τ) : ¬ τ.1 56 16 = 0 := by
  obtain ⟨k, h1, h2, h3, h4⟩ := h
  rw [h3]; exact h1
-- ===== rules as they are read: what both have =====
def mlen : List Nat → Nat
  | [] => 0
  | q :: r => (if q < 10 then 1 else 2) + mlen r
def MP (τ : Sg) (c : Nat) : Nat → List Nat → Prop
  | _, [] => True
  | k, q :: r => (q < 10 → τ.1 c k = nI (opM q)) ∧ (10 ≤ q → q < 18 → τ.1 c k = 2 ∧ τ.1 c (k + 1) = nI (q - 10)) ∧ (18 ≤ q → τ.1 c k = 1 ∧ τ.1 c (k + 1) = nI (q - 20)) ∧ MP τ c (k + (if q < 10 then 1 else 2)) r
theorem mlen_app : ∀ (l m : List Nat), mlen (l ++ m) = mlen l + mlen m
  | [], m => by rw [List.nil_append, mlen, Nat.zero_add]
  | q :: r, m => by rw [List.cons_append, mlen, mlen, mlen_app r m, Nat.add_assoc]
theorem mlen_le : ∀ (l : List Nat), mlen l ≤ 2 * l.length
  | [] => Nat.le_refl _
  | q :: r => by
    have := mlen_le r
    rw [mlen, List.length_cons]
    by_cases h : q < 10
    · rw [if_pos h]; omega
    · rw [if_neg h]; omega
theorem MP.lt {τ τ' : Sg} {c : Nat} : ∀ (l : List Nat) (k : Nat), (∀ b, k ≤ b → b < k + mlen l → τ'.1 c b = τ.1 c b) → MP τ c k l → MP τ' c k l
  | [], _, _, _ => trivial
  | q :: r, k, h, ⟨h1, h2, h3, h4⟩ => by
    rw [mlen] at h
    by_cases z : q < 10
    · rw [if_pos z] at h
      refine ⟨fun w => (h k (Nat.le_refl _) (by omega)).trans (h1 w), fun w => absurd w (by omega), fun w => absurd w (by omega), ?_⟩
      rw [if_pos z] at h4 ⊢
      exact MP.lt r _ (fun b b1 b2 => h b (by omega) (by omega)) h4
    · rw [if_neg z] at h
      refine ⟨fun w => absurd w z, fun w v => ⟨(h k (Nat.le_refl _) (by omega)).trans (h2 w v).1, (h (k + 1) (by omega) (by omega)).trans (h2 w v).2⟩, fun w => ⟨(h k (Nat.le_refl _) (by omega)).trans (h3 w).1, (h (k + 1) (by omega) (by omega)).trans (h3 w).2⟩, ?_⟩
      rw [if_neg z] at h4 ⊢
      exact MP.lt r _ (fun b b1 b2 => h b (by omega) (by omega)) h4
theorem MP.app {τ : Sg} {c : Nat} : ∀ (l m : List Nat) (k : Nat), MP τ c k l → MP τ c (k + mlen l) m → MP τ c k (l ++ m)
  | [], m, k, _, h => by rw [mlen] at h; exact h
  | q :: r, m, k, ⟨h1, h2, h3, h4⟩, h => by
    refine ⟨h1, h2, h3, MP.app r m _ h4 ?_⟩
    rw [mlen, ← Nat.add_assoc] at h
    exact h
theorem MP.stop {τ : Sg} {c : Nat} : ∀ (l : List Nat) (k : Nat), MP τ c k l → τ.1 c (k + mlen l) = 0 → MC τ c k l
  | [], k, _, h => by rw [mlen] at h; exact h
  | q :: r, k, ⟨h1, h2, h3, h4⟩, h => by
    rw [mlen, ← Nat.add_assoc] at h
    have i := MP.stop r _ h4 h
    refine ⟨fun z => ⟨h1 z, ?_⟩, fun z y => ⟨(h2 z y).1, (h2 z y).2, ?_⟩, fun z => ⟨(h3 z).1, (h3 z).2, ?_⟩⟩
    · rw [if_pos z] at i; exact i
    · rw [if_neg (by omega)] at i; exact i
    · rw [if_neg (by omega)] at i; exact i
theorem CC.lt {σ σ' : Sg} {c : Nat} : ∀ (l : List Nat) (a : Nat), (∀ b, a ≤ b → b < a + l.length → σ'.1 c b = σ.1 c b) → CC σ c a l → CC σ' c a l
  | [], _, _, _ => trivial
  | q :: r, a, h, ⟨h1, h2⟩ => by
    rw [List.length_cons] at h
    exact ⟨(h a (Nat.le_refl _) (by omega)).trans h1, CC.lt r _ (fun b b1 b2 => h b (by omega) (by omega)) h2⟩
theorem CC.app {σ : Sg} {c : Nat} : ∀ (l m : List Nat) (a : Nat), CC σ c a l → CC σ c (a + l.length) m → CC σ c a (l ++ m)
  | [], m, a, _, h => h
  | q :: r, m, a, ⟨h1, h2⟩, h => by
    refine ⟨h1, CC.app r m _ h2 ?_⟩
    rw [List.length_cons] at h
    rw [show a + 1 + r.length = a + (r.length + 1) by omega]; exact h
def opW (q : Nat) : Nat := if q = 0 then 14 else opM q
def str (q : Nat) : Nat := if q = 1 then 1 else if q = 2 then 2 else if q = 3 then 3 else if q = 4 ∨ q = 5 then 4 else if q = 6 ∨ q = 7 then 5 else 6
/-- what waits, the last one first; 0 is a parenthesis -/
def Stk (τ : Sg) : List Nat → Prop
  | [] => True
  | q :: r => τ.1 69 r.length = nI (opW q) ∧ Stk τ r
def Tst (τ : Sg) : List Bool → Prop
  | [] => True
  | b :: r => τ.1 70 (r.length + 1) = (if b = true then 1 else 0) ∧ Tst τ r
theorem Stk.lt {τ τ' : Sg} : ∀ (S : List Nat), (∀ b, b < S.length → τ'.1 69 b = τ.1 69 b) → Stk τ S → Stk τ' S
  | [], _, _ => trivial
  | q :: r, h, ⟨h1, h2⟩ => by
    rw [List.length_cons] at h
    exact ⟨(h _ (by omega)).trans h1, Stk.lt r (fun b hb => h b (by omega)) h2⟩
theorem Tst.lt {τ τ' : Sg} : ∀ (D : List Bool), (∀ b, 1 ≤ b → b ≤ D.length → τ'.1 70 b = τ.1 70 b) → Tst τ D → Tst τ' D
  | [], _, _ => trivial
  | q :: r, h, ⟨h1, h2⟩ => by
    rw [List.length_cons] at h
    exact ⟨(h _ (by omega) (by omega)).trans h1, Tst.lt r (fun b h0 hb => h b h0 (by omega)) h2⟩
def FrC (g a0 : Nat) (σ0 σ : Sg) : Prop := σ.2 = σ0.2 ∧ ∀ a b, ¬ a = 15 → ¬ (a = 14 ∧ 3 ≤ b ∧ b ≤ 5) → ¬ (a = g + 3 ∧ b = 3) → ¬ (a = g + 4 ∧ a0 ≤ b) → σ.1 a b = σ0.1 a b
def FrM (k0 : Nat) (τ0 τ : Sg) : Prop := ∀ a b, ¬ (a = 56 ∧ ((16 ≤ b ∧ b ≤ 26) ∨ (36 ≤ b ∧ b ≤ 38))) → ¬ (a = 68 ∧ k0 ≤ b) → ¬ a = 69 → ¬ a = 70 → τ.1 a b = τ0.1 a b
def ExC (B : Nat → Nat) (n g a0 : Nat) (σ0 : Sg) (p : Nat) (C : List Nat) (σ : Sg) : Prop := TkC B n p σ ∧ σ.1 (g + 3) 3 = nI (a0 + C.length) ∧ CC σ (g + 4) a0 C ∧ FrC g a0 σ0 σ
def ExM (B : Nat → Nat) (n k0 : Nat) (τ0 : Sg) (p : Nat) (C S : List Nat) (D : List Bool) (τ : Sg) : Prop := TkM B n p τ ∧ τ.1 56 16 = 0 ∧ τ.1 56 36 = nI (k0 + mlen C) ∧ MP τ 68 k0 C ∧ τ.1 56 37 = nI S.length ∧ Stk τ S ∧ τ.1 56 38 = nI D.length ∧ Tst τ D ∧ FrM k0 τ0 τ
theorem FrC.tr {g a0 : Nat} {σ0 σ σ' : Sg} (h : FrC g a0 σ0 σ) (k : FrC g a0 σ σ') : FrC g a0 σ0 σ' := ⟨k.1.trans h.1, fun a b q1 q2 q3 q4 => (k.2 a b q1 q2 q3 q4).trans (h.2 a b q1 q2 q3 q4)⟩
theorem FrM.tr {k0 : Nat} {τ0 τ τ' : Sg} (h : FrM k0 τ0 τ) (k : FrM k0 τ τ') : FrM k0 τ0 τ' := fun a b q1 q2 q3 q4 => (k a b q1 q2 q3 q4).trans (h a b q1 q2 q3 q4)
theorem FrC.rf {g a0 : Nat} {σ : Sg} : FrC g a0 σ σ := ⟨rfl, fun _ _ _ _ _ _ => rfl⟩
theorem FrM.rf {k0 : Nat} {τ : Sg} : FrM k0 τ τ := fun _ _ _ _ _ _ => rfl
