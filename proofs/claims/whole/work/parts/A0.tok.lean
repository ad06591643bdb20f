-- ===== tokens: what both readers see =====
def sk (B : Nat → Nat) : Nat → Nat → Nat
  | 0, p => p
  | d + 1, p => if B p = 32 ∨ B p = 10 then sk B d (p + 1) else p
def ro (B : Nat → Nat) (lo hi : Nat) : Nat → Nat → Nat
  | 0, p => p
  | d + 1, p => if lo ≤ B p ∧ B p ≤ hi then ro B lo hi d (p + 1) else p
def rng (B : Nat → Nat) : Nat → Nat → List Nat
  | 0, _ => []
  | d + 1, p => B p :: rng B d (p + 1)
def nv (B : Nat → Nat) : Nat → Nat → Nat → Nat
  | 0, _, a => a
  | d + 1, p, a => nv B d (p + 1) (10 * a + (B p - 48))
def sgn (c : Nat) : Bool := c == 59 || (c == 40 || (c == 41 || (c == 43 || (c == 45 || (c == 42 || (c == 47 || (c == 60 || c == 61)))))))
def kwI : List (List Nat) → Nat → List Nat → Nat
  | [], k, _ => k
  | w :: ws, k, l => if l = w then k else kwI ws (k + 1) l
/-- the known words: 0 me, 1 weight, 2 height, 3 place, 4 tick, 5 up, 6 on, 7 heavier, 8 mat, 9 broken, 10 near, 11 slips, 12 egg, 13 jumper, 14 corrects, 15 rule, 16 and, 17 or, 18 not -/
def wds : List (List Nat) := [[109, 101], [119, 101, 105, 103, 104, 116], [104, 101, 105, 103, 104, 116], [112, 108, 97, 99, 101], [116, 105, 99, 107], [117, 112], [111, 110], [104, 101, 97, 118, 105, 101, 114], [109, 97, 116], [98, 114, 111, 107, 101, 110], [110, 101, 97, 114], [115, 108, 105, 112, 115], [101, 103, 103], [106, 117, 109, 112, 101, 114], [99, 111, 114, 114, 101, 99, 116, 115], [114, 117, 108, 101], [97, 110, 100], [111, 114], [110, 111, 116]]
def tS (B : Nat → Nat) (n p : Nat) : Nat := sk B (n - p) p
def tE (B : Nat → Nat) (n p : Nat) : Nat := if n ≤ tS B n p then n else if 97 ≤ B (tS B n p) ∧ B (tS B n p) ≤ 122 then ro B 97 122 (n - tS B n p) (tS B n p) else if 48 ≤ B (tS B n p) ∧ B (tS B n p) ≤ 57 then ro B 48 57 (n - tS B n p) (tS B n p) else tS B n p + 1
def tK (B : Nat → Nat) (n p : Nat) : Nat := if n ≤ tS B n p then 258 else if 97 ≤ B (tS B n p) ∧ B (tS B n p) ≤ 122 then 256 else if 48 ≤ B (tS B n p) ∧ B (tS B n p) ≤ 57 then 257 else if sgn (B (tS B n p)) = true then B (tS B n p) else 259
def tV (B : Nat → Nat) (n p : Nat) : Nat := if 4 < tE B n p - tS B n p then 10000 else nv B (tE B n p - tS B n p) (tS B n p) 0
def tW (B : Nat → Nat) (n p : Nat) : Nat := kwI wds 0 (rng B (tE B n p - tS B n p) (tS B n p))
theorem sk_ge {B : Nat → Nat} : ∀ d p, p ≤ sk B d p ∧ sk B d p ≤ p + d := by
  intro d
  induction d with
  | zero => intro p; exact ⟨Nat.le_refl _, Nat.le_refl _⟩
  | succ d ih =>
    intro p
    rw [sk]
    by_cases z : B p = 32 ∨ B p = 10
    · rw [if_pos z]; have := ih (p + 1); omega
    · rw [if_neg z]; omega
theorem ro_ge {B : Nat → Nat} {lo hi : Nat} : ∀ d p, p ≤ ro B lo hi d p ∧ ro B lo hi d p ≤ p + d ∧ ∀ j, p ≤ j → j < ro B lo hi d p → lo ≤ B j ∧ B j ≤ hi := by
  intro d
  induction d with
  | zero => intro p; exact ⟨Nat.le_refl _, Nat.le_refl _, fun j h1 h2 => absurd (show j < p from h2) (by omega)⟩
  | succ d ih =>
    intro p
    rw [ro]
    by_cases z : lo ≤ B p ∧ B p ≤ hi
    · rw [if_pos z]
      have := ih (p + 1)
      refine ⟨by omega, by omega, fun j h1 h2 => ?_⟩
      by_cases y : j = p
      · rw [y]; exact z
      · exact this.2.2 j (by omega) h2
    · rw [if_neg z]; exact ⟨Nat.le_refl _, by omega, fun j h1 h2 => absurd h2 (by omega)⟩
theorem ro_gt {B : Nat → Nat} {lo hi d p : Nat} (hd : 0 < d) (h : lo ≤ B p ∧ B p ≤ hi) : p < ro B lo hi d p := by
  obtain ⟨k, rfl⟩ : ∃ k, d = k + 1 := ⟨d - 1, by omega⟩
  rw [ro, if_pos h]
  have := (ro_ge (B := B) (lo := lo) (hi := hi) k (p + 1)).1
  omega
theorem kwI_ge : ∀ (ws : List (List Nat)) (k : Nat) (l : List Nat), k ≤ kwI ws k l ∧ kwI ws k l ≤ k + ws.length
  | [], k, _ => ⟨Nat.le_refl _, Nat.le_refl _⟩
  | w :: ws, k, l => by
    rw [kwI]
    have := kwI_ge ws (k + 1) l
    by_cases z : l = w
    · rw [if_pos z]; exact ⟨Nat.le_refl _, by omega⟩
    · rw [if_neg z, List.length_cons]; omega
theorem kwI_iff : ∀ (ws : List (List Nat)) (k0 k : Nat) (l w : List Nat), ws.Nodup → ws[k]? = some w → (kwI ws k0 l = k0 + k ↔ l = w)
  | [], _, _, _, _, _, h => by cases h
  | v :: ws, k0, 0, l, w, _, h => by
    rw [List.getElem?_cons_zero] at h
    cases h
    rw [kwI]
    have := kwI_ge ws (k0 + 1) l
    by_cases z : l = v
    · rw [if_pos z]; exact ⟨fun _ => z, fun _ => rfl⟩
    · rw [if_neg z]; exact ⟨fun q => absurd q (by omega), fun q => absurd q z⟩
  | v :: ws, k0, k + 1, l, w, hn, h => by
    rw [List.getElem?_cons_succ] at h
    rw [kwI]
    rw [List.nodup_cons] at hn
    by_cases z : l = v
    · rw [if_pos z]
      refine ⟨fun q => absurd q (by omega), fun q => ?_⟩
      exact absurd (List.mem_of_getElem? h) (by rw [← q, z]; exact hn.1)
    · rw [if_neg z]
      have := kwI_iff ws (k0 + 1) k l w hn.2 h
      rw [← this]; omega
theorem wds_nd : wds.Nodup := by decide +kernel
theorem tW_iff {B : Nat → Nat} {n p k : Nat} {w : List Nat} (h : wds[k]? = some w) : tW B n p = k ↔ rng B (tE B n p - tS B n p) (tS B n p) = w := by
  have := kwI_iff wds 0 k (rng B (tE B n p - tS B n p) (tS B n p)) w wds_nd h
  rw [Nat.zero_add] at this
  exact this
theorem tW_le {B : Nat → Nat} {n p : Nat} : tW B n p ≤ 19 := by
  have := (kwI_ge wds 0 (rng B (tE B n p - tS B n p) (tS B n p))).2
  exact this
/-- where a token lies -/
theorem tok_at {B : Nat → Nat} {n p : Nat} (hp : p ≤ n) : p ≤ tS B n p ∧ tS B n p ≤ n ∧ tS B n p ≤ tE B n p ∧ tE B n p ≤ n ∧ (¬ tK B n p = 258 → tS B n p < tE B n p ∧ tS B n p < n) ∧ (tK B n p = 258 → tS B n p = n ∧ tE B n p = n) := by
  have a := sk_ge (B := B) (n - p) p
  have a1 : p ≤ tS B n p := a.1
  have a2 : tS B n p ≤ n := by have := a.2; unfold tS; omega
  unfold tE tK
  generalize tS B n p = s at *
  by_cases z : n ≤ s
  · rw [if_pos z, if_pos z]
    exact ⟨a1, a2, by omega, Nat.le_refl _, fun q => absurd rfl q, fun _ => ⟨by omega, rfl⟩⟩
  · rw [if_neg z, if_neg z]
    by_cases z1 : 97 ≤ B s ∧ B s ≤ 122
    · rw [if_pos z1, if_pos z1]
      have r := ro_ge (B := B) (lo := 97) (hi := 122) (n - s) s
      have g := ro_gt (B := B) (lo := 97) (hi := 122) (d := n - s) (p := s) (by omega) z1
      exact ⟨a1, a2, r.1, by omega, fun _ => ⟨g, by omega⟩, fun q => absurd q (by omega)⟩
    · rw [if_neg z1, if_neg z1]
      by_cases z2 : 48 ≤ B s ∧ B s ≤ 57
      · rw [if_pos z2, if_pos z2]
        have r := ro_ge (B := B) (lo := 48) (hi := 57) (n - s) s
        have g := ro_gt (B := B) (lo := 48) (hi := 57) (d := n - s) (p := s) (by omega) z2
        exact ⟨a1, a2, r.1, by omega, fun _ => ⟨g, by omega⟩, fun q => absurd q (by omega)⟩
      · rw [if_neg z2, if_neg z2]
        refine ⟨a1, a2, by omega, by omega, fun _ => by omega, fun q => ?_⟩
        by_cases z3 : sgn (B s) = true
        · rw [if_pos z3] at q
          rw [q] at z3
          exact absurd z3 (by decide)
        · rw [if_neg z3] at q; omega
theorem tok_let {B : Nat → Nat} {n p : Nat} (h : tK B n p = 256) : ∀ j, tS B n p ≤ j → j < tE B n p → 97 ≤ B j ∧ B j ≤ 122 := by
  unfold tK at h
  unfold tE
  generalize tS B n p = s at *
  by_cases z : n ≤ s
  · rw [if_pos z] at h; omega
  · rw [if_neg z] at h ⊢
    by_cases z1 : 97 ≤ B s ∧ B s ≤ 122
    · rw [if_pos z1]; exact (ro_ge _ _).2.2
    · rw [if_neg z1] at h
      by_cases z2 : 48 ≤ B s ∧ B s ≤ 57
      · rw [if_pos z2] at h; omega
      · rw [if_neg z2] at h
        by_cases z3 : sgn (B s) = true
        · rw [if_pos z3] at h; rw [h] at z3; exact absurd z3 (by decide)
        · rw [if_neg z3] at h; omega
theorem tok_dig {B : Nat → Nat} {n p : Nat} (h : tK B n p = 257) : ∀ j, tS B n p ≤ j → j < tE B n p → 48 ≤ B j ∧ B j ≤ 57 := by
  unfold tK at h
  unfold tE
  generalize tS B n p = s at *
  by_cases z : n ≤ s
  · rw [if_pos z] at h; omega
  · rw [if_neg z] at h ⊢
    by_cases z1 : 97 ≤ B s ∧ B s ≤ 122
    · rw [if_pos z1] at h; omega
    · rw [if_neg z1] at h ⊢
      by_cases z2 : 48 ≤ B s ∧ B s ≤ 57
      · rw [if_pos z2]; exact (ro_ge _ _).2.2
      · rw [if_neg z2] at h
        by_cases z3 : sgn (B s) = true
        · rw [if_pos z3] at h; rw [h] at z3; exact absurd z3 (by decide)
        · rw [if_neg z3] at h; omega
theorem nv_le {B : Nat → Nat} : ∀ d p a M, (∀ j, p ≤ j → j < p + d → B j ≤ 57) → a < M → nv B d p a < M * 10 ^ d := by
  intro d
  induction d with
  | zero => intro p a M _ h; rw [nv, Nat.pow_zero, Nat.mul_one]; exact h
  | succ d ih =>
    intro p a M hB h
    have b := hB p (by omega) (by omega)
    rw [nv, Nat.pow_succ, Nat.mul_comm (10 ^ d), ← Nat.mul_assoc]
    exact ih (p + 1) _ _ (fun j h1 h2 => hB j (by omega) (by omega)) (by omega)
theorem tV_le {B : Nat → Nat} {n p : Nat} (h : tK B n p = 257) : tV B n p ≤ 10000 ∧ (¬ 4 < tE B n p - tS B n p → tV B n p ≤ 9999) := by
  unfold tV
  by_cases z : 4 < tE B n p - tS B n p
  · rw [if_pos z]; exact ⟨Nat.le_refl _, fun q => absurd z q⟩
  · rw [if_neg z]
    have := nv_le (B := B) (tE B n p - tS B n p) (tS B n p) 0 1 (fun j h1 h2 => (tok_dig h j h1 (by omega)).2) (by omega)
    have q : 10 ^ (tE B n p - tS B n p) ≤ 10 ^ 4 := Nat.pow_le_pow_right (by omega) (by omega)
    rw [Nat.one_mul] at this
    omega
-- ===== bytes =====
theorem b_32 : ∀ v, v < 256 → (byt v = 32 ↔ v = 32) := by decide +kernel
theorem b_10 : ∀ v, v < 256 → (byt v = 10 ↔ v = 10) := by decide +kernel
theorem b_let : ∀ v, v < 256 → (byt v < 97 → ¬ (97 ≤ v ∧ v ≤ 122)) ∧ (¬ byt v < 97 → (byt v ≤ 122 ↔ (97 ≤ v ∧ v ≤ 122))) := by decide +kernel
theorem b_dig : ∀ v, v < 256 → (byt v < 48 → ¬ (48 ≤ v ∧ v ≤ 57)) ∧ (¬ byt v < 48 → (byt v ≤ 57 ↔ (48 ≤ v ∧ v ≤ 57))) := by decide +kernel
theorem b_chr : ∀ v, v < 256 → ((byt v &&& 255).toUInt32 % 65536).toInt32 = nI v := by decide +kernel
theorem b_idx : ∀ v, v < 256 → (ixF (nI v) (bytJS.getD 1 []) 0 < 0 ↔ ¬ sgn v = true) := by decide +kernel
-- ===== the class's reader =====
def TxC (B : Nat → Nat) (n : Nat) (σ : Sg) : Prop := σ.1 15 1 = nI n ∧ σ.2.2 15 0 = 1 ∧ ∀ i, i < n → σ.1 1 i = byt (B i)
def TkC (B : Nat → Nat) (n p : Nat) (σ : Sg) : Prop := TxC B n σ ∧ σ.1 15 4 = nI (tS B n p) ∧ σ.1 15 2 = nI (tE B n p) ∧ σ.1 15 3 = nI (tK B n p) ∧ (tK B n p = 257 → σ.1 15 5 = nI (tV B n p))
theorem le600 {p n : Nat} (h : p < n) (hn : n ≤ 600) : ¬ (600 : Int32) ≤ nI p := fun q => by
  have := (nI_leL (x := 600) (k := 600) rfl (by omega) (by omega)).mp q; omega
theorem blanksC {B : Nat → Nat} {n : Nat} {σ : Sg} (hn : n ≤ 600) (hB : ∀ i, i < n → B i < 256) (T : TxC B n σ) : ∀ (d p fu : Nat), p + d = n → f_X5_behindBlanks_b5 (fu + d + 1) (nI p) σ = some (nI (sk B d p), σ) := by
  obtain ⟨t1, t2, t3⟩ := T
  intro d
  induction d with
  | zero =>
    intro p fu hp
    have : p = n := by omega
    subst this
    rw [f_X5_behindBlanks_b5, ex_bf (nI_pos (by omega)), ex_dI, t1, ex_bt (Int32.le_refl _), ex_dI, t1, ex_rt, sk]
  | succ d ih =>
    intro p fu hp
    have hb := hB p (by omega)
    have ip := inb_nI (show p < 600 by omega) (by omega)
    have cp := nI_clamp (show p < 2 ^ 31 by omega)
    have ge : ¬ nI n ≤ nI p := nI_ge (by omega) (by omega)
    have i := ih (p + 1) fu (by omega)
    rw [show fu + (d + 1) + 1 = (fu + d + 1) + 1 by omega, f_X5_behindBlanks_b5, ex_bf (nI_pos (by omega)), ex_dI, t1, ex_bf ge, ex_dR, t2, ex_gd rfl, ex_bf (le600 (show p < n by omega) hn), ex_dR, t2, ex_gd rfl, ex_gd ip, ex_dI, cp, t3 p (by omega), sk]
    by_cases z : B p = 32
    · rw [ex_bt ((b_32 _ hb).mpr z), f_X5_behindBlanks_b50, nI_1, if_pos (Or.inl z)]; exact i
    · rw [ex_bf (fun q => z ((b_32 _ hb).mp q)), ex_dR, t2, ex_gd rfl, ex_gd ip, ex_dI, t3 p (by omega)]
      by_cases y : B p = 10
      · rw [ex_bt ((b_10 _ hb).mpr y), f_X5_behindBlanks_b50, nI_1, if_pos (Or.inr y)]; exact i
      · rw [ex_bf (fun q => y ((b_10 _ hb).mp q)), ex_rt, if_neg (fun q => q.elim z y)]
theorem rowC {B : Nat → Nat} {n lo hi : Nat} {x1 x2 : Int32} {σ : Sg} (hn : n ≤ 600) (hB : ∀ i, i < n → B i < 256) (T : TxC B n σ) (H : ∀ v, v < 256 → (byt v < x1 → ¬ (lo ≤ v ∧ v ≤ hi)) ∧ (¬ byt v < x1 → (byt v ≤ x2 ↔ (lo ≤ v ∧ v ≤ hi)))) : ∀ (d p fu : Nat), p + d = n → f_X5_behindRow_b5 (fu + d + 1) x1 x2 (nI p) σ = some (nI (ro B lo hi d p), σ) := by
  obtain ⟨t1, t2, t3⟩ := T
  intro d
  induction d with
  | zero =>
    intro p fu hp
    have : p = n := by omega
    subst this
    rw [f_X5_behindRow_b5, ex_bf (nI_pos (by omega)), ex_dI, t1, ex_bt (Int32.le_refl _), ex_dI, t1, ex_rt, ro]
  | succ d ih =>
    intro p fu hp
    have hb := hB p (by omega)
    have ip := inb_nI (show p < 600 by omega) (by omega)
    have cp := nI_clamp (show p < 2 ^ 31 by omega)
    have ge : ¬ nI n ≤ nI p := nI_ge (by omega) (by omega)
    have i := ih (p + 1) fu (by omega)
    obtain ⟨H1, H2⟩ := H _ hb
    rw [show fu + (d + 1) + 1 = (fu + d + 1) + 1 by omega, f_X5_behindRow_b5, ex_bf (nI_pos (by omega)), ex_dI, t1, ex_bf ge, ex_dR, t2, ex_gd rfl, ex_bf (le600 (show p < n by omega) hn), ex_dR, t2, ex_gd rfl, ex_gd ip, ex_dI, cp, t3 p (by omega), ro]
    by_cases z : byt (B p) < x1
    · rw [ex_bt z, ex_rt, if_neg (H1 z)]
    · rw [ex_bf z, ex_dR, t2, ex_gd rfl, ex_gd ip, ex_dI, t3 p (by omega)]
      by_cases y : lo ≤ B p ∧ B p ≤ hi
      · rw [ex_bt ((H2 z).mpr y), nI_1, if_pos y]; exact i
      · rw [ex_bf (fun q => y ((H2 z).mp q)), ex_rt, if_neg y]
theorem byt_lo {v : Nat} (h : v < 128) : byt v = nI v := if_pos h
theorem valC {B : Nat → Nat} {n e : Nat} {σ : Sg} (hn : n ≤ 600) (T : TxC B n σ) (he : e ≤ n) (h2 : σ.1 15 2 = nI e) : ∀ (d p fu a : Nat), p + d = e → (∀ j, p ≤ j → j < e → 48 ≤ B j ∧ B j ≤ 57) → f_X5_valueOfRow_b24 (fu + d + 1) (nI a) (nI p) σ = some (nI (nv B d p a), σ) := by
  obtain ⟨t1, t2, t3⟩ := T
  intro d
  induction d with
  | zero =>
    intro p fu a hp hd
    have : p = e := by omega
    subst this
    rw [f_X5_valueOfRow_b24, ex_bf (nI_pos (by omega)), ex_dI, h2, ex_bt (Int32.le_refl _), ex_rt, nv]
  | succ d ih =>
    intro p fu a hp hd
    have hb := hd p (by omega) (by omega)
    have ip := inb_nI (show p < 600 by omega) (by omega)
    have cp := nI_clamp (show p < 2 ^ 31 by omega)
    have ge : ¬ nI e ≤ nI p := nI_ge (by omega) (by omega)
    have i := ih (p + 1) fu (10 * a + (B p - 48)) (by omega) (fun j h1 h3 => hd j (by omega) h3)
    have v : nI a * 10 + nI (B p) - 48 = nI (10 * a + (B p - 48)) := by
      rw [nI_mulR (x := 10) (k := 10) rfl, nI_add]
      have : nI (a * 10 + B p) - 48 = nI (a * 10 + B p) - nI 48 := rfl
      rw [this, nI_sub (by omega)]
      congr 1; omega
    rw [show fu + (d + 1) + 1 = (fu + d + 1) + 1 by omega, f_X5_valueOfRow_b24, ex_bf (nI_pos (by omega)), ex_dI, h2, ex_bf ge, ex_dR, t2, ex_gd rfl, ex_bf (le600 (show p < n by omega) hn), ex_dR, t2, ex_gd rfl, ex_gd ip, ex_dI, cp, t3 p (by omega), byt_lo (by omega), ex_lt, v, nI_1, nv]
    exact i
