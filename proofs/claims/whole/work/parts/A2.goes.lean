-- ===== the reference's reader =====
def enL : List Nat → Nat → Nat
  | [], a => a
  | c :: r, a => enL r (a * 32 + (c - 96))
theorem enL_app : ∀ (l : List Nat) (c a : Nat), enL (l ++ [c]) a = enL l a * 32 + (c - 96)
  | [], _, _ => rfl
  | _ :: r, c, a => enL_app r c _
theorem enL_inj : ∀ (k : Nat) (l m : List Nat), l.length ≤ k → (∀ c ∈ l, 97 ≤ c ∧ c ≤ 122) → (∀ c ∈ m, 97 ≤ c ∧ c ≤ 122) → enL l 0 = enL m 0 → l = m := by
  intro k
  induction k with
  | zero =>
    intro l m hk hl hm h
    have : l = [] := List.length_eq_zero_iff.mp (by omega)
    subst this
    rcases List.eq_nil_or_concat m with rfl | ⟨m', c, rfl⟩
    · rfl
    · rw [List.concat_eq_append, enL_app] at h
      have := hm c (by simp)
      have h' : 0 = enL m' 0 * 32 + (c - 96) := h
      omega
  | succ k ih =>
    intro l m hk hl hm h
    rcases List.eq_nil_or_concat l with rfl | ⟨l', c, rfl⟩
    · rcases List.eq_nil_or_concat m with rfl | ⟨m', c, rfl⟩
      · rfl
      · rw [List.concat_eq_append, enL_app] at h
        have := hm c (by simp)
        have h' : 0 = enL m' 0 * 32 + (c - 96) := h
        omega
    · have hc := hl c (by simp)
      rcases List.eq_nil_or_concat m with rfl | ⟨m', c', rfl⟩
      · rw [List.concat_eq_append, enL_app] at h
        have h' : enL l' 0 * 32 + (c - 96) = 0 := h
        omega
      · have hc' := hm c' (by simp)
        rw [List.concat_eq_append, List.concat_eq_append, enL_app, enL_app] at h
        rw [List.concat_eq_append, List.length_append, List.length_singleton] at hk
        have : l' = m' := ih l' m' (by omega) (fun x hx => hl x (by simp [hx])) (fun x hx => hm x (by simp [hx])) (by omega)
        rw [this, show c = c' by omega]
theorem shl5 {a d : Nat} (ha : a < 2 ^ 50) (hd : d < 32) : (zL a <<< ((5 : Int32).toInt64 &&& 63)) ||| zL d = zL (a * 32 + d) := by
  apply Int64.toBitVec_inj.mp
  have sm : ((5 : Int32).toInt64 &&& 63).toBitVec.smod 64 = 5#64 := by decide
  rw [Int64.toBitVec_or, Int64.toBitVec_shiftLeft, sm]
  apply BitVec.eq_of_toNat_eq
  rw [BitVec.toNat_or, BitVec.shiftLeft_eq', BitVec.toNat_shiftLeft]
  have e1 : (zL a).toBitVec.toNat = a := by
    show a % 2 ^ 64 = a
    exact Nat.mod_eq_of_lt (by omega)
  have e2 : (zL d).toBitVec.toNat = d := by
    show d % 2 ^ 64 = d
    exact Nat.mod_eq_of_lt (by omega)
  have e3 : (zL (a * 32 + d)).toBitVec.toNat = a * 32 + d := by
    show (a * 32 + d) % 2 ^ 64 = a * 32 + d
    exact Nat.mod_eq_of_lt (by omega)
  have e5 : (5#64).toNat = 5 := rfl
  rw [e1, e2, e3, e5]
  have s := Nat.shiftLeft_add_eq_or_of_lt (b := d) (i := 5) (by omega) a
  have w : a <<< 5 = a * 32 := Nat.shiftLeft_eq a 5
  rw [w] at s ⊢
  rw [Nat.mod_eq_of_lt (by omega), ← s]
def TxM (B : Nat → Nat) (n : Nat) (τ : Sg) : Prop := τ.1 56 19 = nI n ∧ ∀ i, i < n → τ.1 62 i = nI (B i)
def srt (K : Nat) : Nat := if K = 258 then 0 else if K = 256 then 1 else if K = 257 then 2 else if K = 259 then 4 else 3
def TkM (B : Nat → Nat) (n p : Nat) (τ : Sg) : Prop := TxM B n τ ∧ τ.1 56 20 = nI (tE B n p) ∧ τ.1 56 22 = nI (tS B n p) ∧ τ.1 56 21 = nI (srt (tK B n p)) ∧ τ.1 56 23 = nI (tE B n p - tS B n p) ∧ (tK B n p < 256 → τ.1 56 25 = nI (tK B n p)) ∧ (tK B n p = 257 → ¬ 4 < tE B n p - tS B n p → τ.1 56 24 = nI (tV B n p)) ∧ (tK B n p = 256 → tE B n p - tS B n p ≤ 8 → τ.2.1 56 26 = zL (enL (rng B (tE B n p - tS B n p) (tS B n p)) 0))
theorem TxM.of {B : Nat → Nat} {n : Nat} {τ τ' : Sg} (T : TxM B n τ) (h1 : τ'.1 56 19 = τ.1 56 19) (h2 : ∀ b, τ'.1 62 b = τ.1 62 b) : TxM B n τ' := ⟨h1.trans T.1, fun i hi => (h2 i).trans (T.2 i hi)⟩
theorem TxM.sI {B : Nat → Nat} {n : Nat} {τ : Sg} (T : TxM B n τ) {k : Nat} (v : Int32) (h : ¬ k = 19) : TxM B n (sI τ 56 k v) := T.of (sI_nf (by omega)) (fun b => sI_ne (by omega))
theorem byteM {B : Nat → Nat} {n k : Nat} {τ : Sg} (hn : n ≤ 600) (T : TxM B n τ) (h : k < n) : f_X11_byteAt (nI k) τ = some (nI (B k), τ) := by
  rw [f_X11_byteAt, ex_dI, T.1, ex_bf (nI_ge h (by omega)), ex_gd (inb_nI (show k < 600 by omega) (by omega)), ex_dI, nI_clamp (show k < 2 ^ 31 by omega), T.2 k h, ex_rt]
theorem byteM_n {B : Nat → Nat} {n k : Nat} {τ : Sg} (hn : n ≤ 600) (T : TxM B n τ) (h : n ≤ k) (hk : k < 2 ^ 31) : f_X11_byteAt (nI k) τ = some (0, τ) := by
  rw [f_X11_byteAt, ex_dI, T.1, ex_bt (nI_le h hk), ex_rt]
theorem letM {v : Nat} {τ : Sg} (hv : v < 256) : f_X11_isLetter (nI v) τ = some (if 97 ≤ v ∧ v ≤ 122 then 1 else 0, τ) := by
  rw [f_X11_isLetter]
  by_cases a : v < 97
  · rw [ex_bt ((nI_ltR (x := 97) (k := 97) rfl (by omega) (by omega)).mpr a), ex_rt, if_neg (by omega)]
  · rw [ex_bf (fun q => a ((nI_ltR (x := 97) (k := 97) rfl (by omega) (by omega)).mp q))]
    by_cases b : 122 < v
    · rw [ex_bt ((nI_ltL (x := 122) (k := 122) rfl (by omega) (by omega)).mpr b), ex_rt, if_neg (by omega)]
    · rw [ex_bf (fun q => b ((nI_ltL (x := 122) (k := 122) rfl (by omega) (by omega)).mp q)), ex_rt, if_pos ⟨by omega, by omega⟩]
theorem digM {v : Nat} {τ : Sg} (hv : v < 256) : f_X11_isDigit (nI v) τ = some (if 48 ≤ v ∧ v ≤ 57 then 1 else 0, τ) := by
  rw [f_X11_isDigit]
  by_cases a : v < 48
  · rw [ex_bt ((nI_ltR (x := 48) (k := 48) rfl (by omega) (by omega)).mpr a), ex_rt, if_neg (by omega)]
  · rw [ex_bf (fun q => a ((nI_ltR (x := 48) (k := 48) rfl (by omega) (by omega)).mp q))]
    by_cases b : 57 < v
    · rw [ex_bt ((nI_ltL (x := 57) (k := 57) rfl (by omega) (by omega)).mpr b), ex_rt, if_neg (by omega)]
    · rw [ex_bf (fun q => b ((nI_ltL (x := 57) (k := 57) rfl (by omega) (by omega)).mp q)), ex_rt, if_pos ⟨by omega, by omega⟩]
theorem blanksM {B : Nat → Nat} {n : Nat} (hn : n ≤ 600) (hB : ∀ i, i < n → B i < 256) : ∀ (d p fu : Nat) (τ : Sg), p + d = n → TxM B n τ → τ.1 56 20 = nI p → ∃ τ', f_X11_goes_b0 (fu + d + 1) τ = f_X11_goes_b50 τ' ∧ TxM B n τ' ∧ τ'.1 56 20 = nI (sk B d p) := by
  intro d
  induction d with
  | zero =>
    intro p fu τ hp T h
    have : p = n := by omega
    subst this
    exact ⟨τ, by rw [f_X11_goes_b0, ex_dI, h, ex_dI, T.1, ex_bt (Int32.le_refl _)], T, h⟩
  | succ d ih =>
    intro p fu τ hp T h
    have hb := hB p (by omega)
    have by' := byteM hn T (show p < n by omega)
    obtain ⟨τ', c1, c2, c3⟩ := ih (p + 1) fu (sI τ 56 20 (nI (p + 1))) (by omega) (T.sI _ (by omega)) sI_eq
    rw [show fu + (d + 1) + 1 = (fu + d + 1) + 1 by omega, f_X11_goes_b0, ex_dI, h, ex_dI, T.1, ex_bf (nI_ge (by omega) (by omega)), ex_dI, h, ex_cl by', sk]
    by_cases z : B p = 32
    · rw [ex_bt (by rw [z]; rfl), f_X11_goes_b37, ex_dI, h, ex_pI, nI_1, if_pos (Or.inl z)]
      exact ⟨τ', c1, c2, c3⟩
    · rw [ex_bf (show ¬ nI (B p) = 32 from fun q => z ((nI_eqL (x := 32) (k := 32) rfl (by omega) (by omega)).mp q)), ex_dI, h, ex_cl by']
      by_cases y : B p = 10
      · rw [ex_bt (by rw [y]; rfl), f_X11_goes_b37, ex_dI, h, ex_pI, nI_1, if_pos (Or.inr y)]
        exact ⟨τ', c1, c2, c3⟩
      · rw [ex_bf (show ¬ nI (B p) = 10 from fun q => y ((nI_eqL (x := 10) (k := 10) rfl (by omega) (by omega)).mp q)), if_neg (fun q => q.elim z y)]
        exact ⟨τ, rfl, T, h⟩
theorem wordM {B : Nat → Nat} {n s : Nat} (hn : n ≤ 600) (hB : ∀ i, i < n → B i < 256) : ∀ (d p fu : Nat) (τ : Sg), p + d = n → s ≤ p → TxM B n τ → τ.1 56 20 = nI p → τ.1 56 22 = nI s → ∃ τ', f_X11_goes_b108 (fu + d + 1) τ = f_X11_goes_b172 τ' ∧ TxM B n τ' ∧ τ'.1 56 20 = nI (ro B 97 122 d p) ∧ τ'.1 56 22 = nI s ∧ ∀ a, a < 32 ^ (p - s) → τ.2.1 56 26 = zL a → ro B 97 122 d p - s ≤ 8 → τ'.2.1 56 26 = zL (enL (rng B (ro B 97 122 d p - p) p) a) := by
  intro d
  induction d with
  | zero =>
    intro p fu τ hp hs T h h22
    have : p = n := by omega
    subst this
    have l0 : f_X11_isLetter 0 τ = some (0, τ) := letM (v := 0) (by omega)
    exact ⟨τ, by rw [f_X11_goes_b108, ex_dI, h, ex_cl (byteM_n hn T (Nat.le_refl _) (by omega)), ex_cl l0, ex_bt rfl], T, h, h22, fun a _ ha _ => by rw [ro, Nat.sub_self, rng, enL]; exact ha⟩
  | succ d ih =>
    intro p fu τ hp hs T h h22
    have hb := hB p (by omega)
    have by' := byteM hn T (show p < n by omega)
    rw [show fu + (d + 1) + 1 = (fu + d + 1) + 1 by omega, f_X11_goes_b108, ex_dI, h, ex_cl by', ex_cl (letM hb), ro]
    by_cases z : 97 ≤ B p ∧ B p ≤ 122
    · rw [if_pos z, ex_bf l1_0, ex_dI, h, ex_dI, h22, nI_sub hs, if_pos z]
      have rg := ro_ge (B := B) (lo := 97) (hi := 122) d (p + 1)
      by_cases y : 8 ≤ p - s
      · obtain ⟨τ', c1, c2, c3, c4, c5⟩ := ih (p + 1) fu (sI τ 56 20 (nI (p + 1))) (by omega) (by omega) (T.sI _ (by omega)) sI_eq (by rw [sI_nf (by omega)]; exact h22)
        rw [ex_bt ((nI_leL (x := 8) (k := 8) rfl (by omega) (by omega)).mpr y), f_X11_goes_b159, ex_dI, h, ex_pI, nI_1]
        exact ⟨τ', c1, c2, c3, c4, fun a _ _ q => by omega⟩
      · obtain ⟨τ', c1, c2, c3, c4, c5⟩ := ih (p + 1) fu (sI (sL τ 56 26 ((τ.2.1 56 26 <<< ((5 : Int32).toInt64 &&& 63)) ||| ((nI (B p) - 96).toInt64))) 56 20 (nI (p + 1))) (by omega) (by omega) (TxM.sI (T.of rfl (fun b => rfl)) _ (by omega)) sI_eq (by rw [sI_nf (by omega)]; exact h22)
        have h20' : (sL τ 56 26 ((τ.2.1 56 26 <<< ((5 : Int32).toInt64 &&& 63)) ||| ((nI (B p) - 96).toInt64))).1 56 20 = nI p := h
        rw [ex_bf (fun q => y ((nI_leL (x := 8) (k := 8) rfl (by omega) (by omega)).mp q)), ex_dL, ex_dI, h, ex_cl by', ex_pL, f_X11_goes_b159, ex_dI, h20', ex_pI, nI_1]
        refine ⟨τ', c1, c2, c3, c4, fun a ha hw q => ?_⟩
        have p7 : 32 ^ (p - s) ≤ 32 ^ 7 := Nat.pow_le_pow_right (by omega) (by omega)
        have sub : (nI (B p) - 96).toInt64 = zL (B p - 96) := by
          have : nI (B p) - 96 = nI (B p) - nI 96 := rfl
          rw [this, nI_sub (by omega), toL_nI (by omega)]
        have e := c5 (a * 32 + (B p - 96)) (by rw [show p + 1 - s = (p - s) + 1 by omega, Nat.pow_succ]; omega) (by
          show (sL τ 56 26 _).2.1 56 26 = _
          rw [sL_at, if_pos ⟨rfl, rfl⟩, hw, sub, shl5 (by omega) (by omega)]) q
        rw [e, show ro B 97 122 d (p + 1) - p = (ro B 97 122 d (p + 1) - (p + 1)) + 1 by omega, rng, enL]
    · rw [if_neg z, ex_bt rfl, if_neg z]
      exact ⟨τ, rfl, T, h, h22, fun a _ ha _ => by rw [Nat.sub_self, rng, enL]; exact ha⟩
theorem numM {B : Nat → Nat} {n s : Nat} (hn : n ≤ 600) (hB : ∀ i, i < n → B i < 256) : ∀ (d p fu : Nat) (τ : Sg), p + d = n → s ≤ p → TxM B n τ → τ.1 56 20 = nI p → τ.1 56 22 = nI s → ∃ τ', f_X11_goes_b187 (fu + d + 1) τ = f_X11_goes_b250 τ' ∧ TxM B n τ' ∧ τ'.1 56 20 = nI (ro B 48 57 d p) ∧ τ'.1 56 22 = nI s ∧ ∀ a, τ.1 56 24 = nI a → ro B 48 57 d p - s ≤ 4 → τ'.1 56 24 = nI (nv B (ro B 48 57 d p - p) p a) := by
  intro d
  induction d with
  | zero =>
    intro p fu τ hp hs T h h22
    have : p = n := by omega
    subst this
    have l0 : f_X11_isDigit 0 τ = some (0, τ) := digM (v := 0) (by omega)
    exact ⟨τ, by rw [f_X11_goes_b187, ex_dI, h, ex_cl (byteM_n hn T (Nat.le_refl _) (by omega)), ex_cl l0, ex_bt rfl], T, h, h22, fun a ha _ => by rw [ro, Nat.sub_self, nv]; exact ha⟩
  | succ d ih =>
    intro p fu τ hp hs T h h22
    have hb := hB p (by omega)
    have by' := byteM hn T (show p < n by omega)
    rw [show fu + (d + 1) + 1 = (fu + d + 1) + 1 by omega, f_X11_goes_b187, ex_dI, h, ex_cl by', ex_cl (digM hb), ro]
    by_cases z : 48 ≤ B p ∧ B p ≤ 57
    · rw [if_pos z, ex_bf l1_0, ex_dI, h, ex_dI, h22, nI_sub hs, if_pos z]
      have rg := ro_ge (B := B) (lo := 48) (hi := 57) d (p + 1)
      by_cases y : 4 ≤ p - s
      · obtain ⟨τ', c1, c2, c3, c4, c5⟩ := ih (p + 1) fu (sI τ 56 20 (nI (p + 1))) (by omega) (by omega) (T.sI _ (by omega)) sI_eq (by rw [sI_nf (by omega)]; exact h22)
        rw [ex_bt ((nI_leL (x := 4) (k := 4) rfl (by omega) (by omega)).mpr y), f_X11_goes_b237, ex_dI, h, ex_pI, nI_1]
        exact ⟨τ', c1, c2, c3, c4, fun a _ q => by omega⟩
      · obtain ⟨τ', c1, c2, c3, c4, c5⟩ := ih (p + 1) fu (sI (sI τ 56 24 (10 * τ.1 56 24 + nI (B p) - 48)) 56 20 (nI (p + 1))) (by omega) (by omega) ((T.sI _ (by omega)).sI _ (by omega)) sI_eq (by rw [sI_nf (by omega), sI_nf (by omega)]; exact h22)
        rw [ex_bf (fun q => y ((nI_leL (x := 4) (k := 4) rfl (by omega) (by omega)).mp q)), ex_dI, ex_dI, h, ex_cl by', ex_pI, f_X11_goes_b237, ex_dI, sI_nf (by omega), h, ex_pI, nI_1]
        refine ⟨τ', c1, c2, c3, c4, fun a ha q => ?_⟩
        have v : 10 * nI a + nI (B p) - 48 = nI (10 * a + (B p - 48)) := by
          rw [nI_mulL (x := 10) (k := 10) rfl, nI_add]
          have : nI (10 * a + B p) - 48 = nI (10 * a + B p) - nI 48 := rfl
          rw [this, nI_sub (by omega)]
          congr 1; omega
        have e := c5 (10 * a + (B p - 48)) (by rw [sI_nf (by omega), sI_eq, ha, v]) q
        rw [e, show ro B 48 57 d (p + 1) - p = (ro B 48 57 d (p + 1) - (p + 1)) + 1 by omega, nv]
    · rw [if_neg z, ex_bt rfl, if_neg z]
      exact ⟨τ, rfl, T, h, h22, fun a ha _ => by rw [Nat.sub_self, nv]; exact ha⟩
