-- ===== other starts: second, afternoons =====
def w58 (τ : Sg) (W : Nat → Int32) : Sg := (fun a b => if a = 58 then W b else τ.1 a b, τ.2)
theorem w58_at {τ : Sg} {W : Nat → Int32} {b : Nat} : (w58 τ W).1 58 b = W b := by
  show (if 58 = 58 then W b else τ.1 58 b) = W b
  exact if_pos rfl
theorem w58_ne {τ : Sg} {W : Nat → Int32} {a b : Nat} (h : ¬ a = 58) : (w58 τ W).1 a b = τ.1 a b := if_neg h
theorem w58_sI {τ : Sg} {W : Nat → Int32} {q : Nat} {v : Int32} : w58 (sI τ 58 q v) W = w58 τ W := by
  refine Prod.ext (funext fun a => funext fun b => ?_) rfl
  show (w58 (sI τ 58 q v) W).1 a b = (w58 τ W).1 a b
  by_cases h : a = 58
  · subst h; rw [w58_at, w58_at]
  · rw [w58_ne h, w58_ne h, sI_ne h]
theorem w58_self {τ : Sg} {W : Nat → Int32} (h : ∀ b, τ.1 58 b = W b) : w58 τ W = τ := by
  refine Prod.ext (funext fun a => funext fun b => ?_) rfl
  show (w58 τ W).1 a b = τ.1 a b
  by_cases z : a = 58
  · subst z; rw [w58_at, h]
  · rw [w58_ne z]
theorem w58_off {τ τ' : Sg} {W : Nat → Int32} (h : off gs_mrun τ τ') : off gs_fm (w58 τ W) (w58 τ' W) := by
  intro i k hik
  have hm : gs_mrun i k = false := by
    cases z : gs_mrun i k with
    | false => rfl
    | true => rw [fm_run i k z] at hik; cases hik
  obtain ⟨a1, a2, a3⟩ := h i k hm
  refine ⟨?_, a2, a3⟩
  by_cases z : i = 58
  · subst z; rw [w58_at, w58_at]
  · rw [w58_ne z, w58_ne z, a1]
theorem run_K {g n s e m : Nat} {K W : Nat → Int32} {σ σ1 τ : Sg} (J : Jr g n s e m σ (w58 τ W)) (hσ : off gs_play σ σ1) (hB : BgA g n (fun _ => true) K (σ.1 2 2) σ1) (hK : JB e n K) (h58 : ∀ j, j < n → ∀ k, k < 6 → τ.1 58 (6 * j + k) = K (6 * j + k)) : ∃ (N : Nat) (S : Nat → Sg) (τ' : Sg), 1 ≤ N ∧ N ≤ 600 ∧ σ.1 2 3 = nI N ∧ σ1.1 2 3 = nI N ∧ S 0 = σ1 ∧ Chain 0 N S ∧ f_X11_runsAll τ = some ((), τ') ∧ Iv g n s e N (S N) τ' ∧ (∀ k, k < N → ∀ j, j < n → ∃ v, f_X1_heightIn (fl j) (nI k) (S (k + 1)) = some (v, S (k + 1)) ∧ τ'.1 84 (600 * j + k) = v) ∧ off gs_mrun τ τ' ∧ (∀ k, k ≤ N → Jr g n s e m (S k) (w58 τ' W)) ∧ Jr g n s e m σ (w58 τ' W) := by
  obtain ⟨jG, jR, ⟨s1, s2, s3, s4, s5, s6⟩, -⟩ := id J
  have hn4 := jG.2.1
  have h46 : τ.1 56 46 = σ.1 2 2 := by have := s4.1; rw [w58_ne (by omega)] at this; exact this
  have h6 : τ.1 56 6 = nI n := by have := jG.2.2.1; rw [w58_ne (by omega)] at this; exact this
  obtain ⟨N, S, τ', n1, n2, n3, n3', n4, b1, b2, b3, b4, b5, b6, b7, b8, b9⟩ := run_any (x := ((1 : Int32) <<< (nI n &&& 31)) - 1) (τ1 := τ) J hσ hB hK s4.2 h46 (fun a b h1 _ => (w58_ne h1).symm) h58 (fun i hi => bit_all hn4 hi)
  refine ⟨N, S, τ', n1, n2, n3, n3', b1, b2, ?_, b5, b6, b7, fun k hk => J.frame (off_mono fc_play (b8 k hk)) (w58_off b7) (b9 k hk), J.none (w58_off b7)⟩
  rw [f_X11_runsAll, ex_cl (all_eq h6), ex_cl b4, ex_rt]
-- second
theorem second_one {g n s e m i k a b : Nat} {W : Nat → Int32} {σ τ : Sg} (J : Jr g n s e m σ (w58 τ W)) (hi : i < n) (hk : k < n) (ha : a < 24) (hb : b < 24) (hW : ∀ c, ¬ c = 6 * i + 3 → ¬ c = 6 * k + 3 → τ.1 58 c = W c) (hik : ¬ i = k) : ∃ (N : Nat) (S : Nat → Sg) (σ0 τ' : Sg), 1 ≤ N ∧ N ≤ 600 ∧ σ.1 2 3 = nI N ∧ f_X10_prepare σ = some ((), σ0) ∧ S 0 = sI (sI σ0 (fl i) 9 (nI a)) (fl k) 9 (nI b) ∧ Chain 0 N S ∧ f_X11_runsAll (sI (sI τ 58 (6 * i + 3) (nI a)) 58 (6 * k + 3) (nI b)) = some ((), τ') ∧ (∀ t, t < N → ∀ j, j < n → ∃ v, f_X1_heightIn (fl j) (nI t) (S (t + 1)) = some (v, S (t + 1)) ∧ τ'.1 84 (600 * j + t) = v) ∧ (∀ t, t ≤ N → Jr g n s e m (S t) (w58 τ' W)) ∧ Jr g n s e m σ (w58 τ' W) ∧ τ'.1 56 0 = τ.1 56 0 ∧ (∀ c, ¬ c = 6 * i + 3 → ¬ c = 6 * k + 3 → τ'.1 58 c = W c) := by
  obtain ⟨jG, jR, ⟨s1, s2, s3, s4, s5, s6⟩, -⟩ := id J
  have hn4 := jG.2.1
  obtain ⟨σ0, a1, a2, a3⟩ := J.prep
  have pf : ∀ {j c : Nat}, j < n → gs_play (fl j) c = true := fun h => play_fl.resolve_right (by omega)
  obtain ⟨N, S, τ', n1, n2, n3, n3', b1, b2, b3, b4, b5, b6, b7, b8⟩ := run_K (τ := sI (sI τ 58 (6 * i + 3) (nI a)) 58 (6 * k + 3) (nI b)) (W := W) (K := upd (upd (σ.1 3) (6 * i + 3) (nI a)) (6 * k + 3) (nI b)) (by rw [w58_sI, w58_sI]; exact J) (off_trans a3 (off_trans (off_sI (v := nI a) (pf hi)) (off_sI (v := nI b) (pf hk)))) ((a2.start (show i < 4 by omega)).start (show k < 4 by omega)) ((s3.up hi (Or.inl ⟨rfl, by omega⟩)).up hk (Or.inl ⟨rfl, by omega⟩)) (fun j hj c hc => by
    by_cases z1 : 6 * j + c = 6 * k + 3
    · rw [z1, sI_eq, upd, if_pos rfl]
    · rw [sI_nf z1, upd, if_neg z1]
      by_cases z2 : 6 * j + c = 6 * i + 3
      · rw [z2, sI_eq, upd, if_pos rfl]
      · rw [sI_nf z2, upd, if_neg z2, hW _ z2 z1]
        have := s2 j hj c hc
        rw [w58_at] at this
        exact this)
  refine ⟨N, S, σ0, τ', n1, n2, n3, a1, b1, b2, b3, b5, b7, b8, ?_, fun c c1 c2 => ?_⟩
  · rw [(b6 56 0 rfl).1, sI_ne (by omega), sI_ne (by omega)]
  · rw [(b6 58 c rfl).1, sI_nf c2, sI_nf c1]; exact hW c c1 c2
theorem second_in {g n s e m i k t N0 a : Nat} {W : Nat → Int32} {x7 x8 h1 h2 : Int32} {wh : Nat} {k62 : Int32 → Int32 → Int32 → Int32 → Int32 → Int32 → Int32 → Int32 → Sg → Option ((Int32 ⊕ Bool) × Sg)} (hi : i < n) (hk : k < n) (hik : ¬ i = k) (ha : a < 24) (ht : t < N0) (hN0 : N0 ≤ 600) (hw : wh ≤ 1) : ∀ (d b fu fm : Nat) (p q : Int32) (σ τ : Sg), b + d = 24 → Jr g n s e m σ (w58 τ W) → τ.1 56 0 = 0 → σ.1 2 3 = nI N0 → (∀ c, ¬ c = 6 * i + 3 → ¬ c = 6 * k + 3 → τ.1 58 c = W c) → ∃ p' q' σ' τ', f_X10_second_b72 k62 (fu + d + 1) (nI i) (nI k) (nI t) h1 h2 (nI wh) (if wh = 0 then p else q) (nI a) (nI b) σ = k62 (nI i) (nI k) (nI t) h1 h2 (nI wh) (if wh = 0 then p' else q') (nI (a + 1)) σ' ∧ f_X11_second_b111 (fm + d) (nI i) (nI k) (nI t) h1 h2 (nI wh) x7 x8 p q (nI (24 * a + b)) τ = f_X11_second_b111 fm (nI i) (nI k) (nI t) h1 h2 (nI wh) x7 x8 p' q' (nI (24 * (a + 1))) τ' ∧ Jr g n s e m σ' (w58 τ' W) ∧ τ'.1 56 0 = 0 ∧ σ'.1 2 3 = nI N0 ∧ (∀ c, ¬ c = 6 * i + 3 → ¬ c = 6 * k + 3 → τ'.1 58 c = W c) := by
  intro d
  induction d with
  | zero =>
    intro b fu fm p q σ τ h J t0 hN hW
    have : b = 24 := by omega
    subst this
    refine ⟨p, q, σ, τ, ?_, by rw [show 24 * (a + 1) = 24 * a + 24 by omega]; rfl, J, t0, hN, hW⟩
    rw [f_X10_second_b72, ex_bt (by decide), f_X10_second_b179, nI_1]
  | succ d ih =>
    intro b fu fm p q σ τ h J t0 hN hW
    have hn4 := J.1.2.1
    have hb : b < 24 := by omega
    obtain ⟨N, S, σ0, τ', n1, n2, n3, c1, c2, c3, c4, c5, c6, c7, c8, c9⟩ := second_one J hi hk ha hb hW hik
    have : N = N0 := nI_inj (by omega) (by omega) (n3.symm.trans hN)
    subst this
    obtain ⟨v1, e1, e2⟩ := c5 t ht i hi
    obtain ⟨v2, e3, e4⟩ := c5 t ht k hk
    have J1 := c6 (t + 1) (by omega)
    have hN1 : (S (t + 1)).1 2 3 = nI N := by
      obtain ⟨N', -, q2, q3, q4⟩ := J1.2.2.1.2.2.2.2.1
      have r4 : (w58 τ' W).1 56 47 = nI N := by
        obtain ⟨N'', -, y2, y3, y4⟩ := c7.2.2.1.2.2.2.2.1
        rw [y4, ← y3, hN]
      rw [q3, ← q4, r4]
    have a24 : ¬ (24 : Int32) ≤ nI b := fun h => by have := (nI_leL (x := 24) (k := 24) rfl (by omega) (by omega)).mp h; omega
    have a576 : ¬ (576 : Int32) ≤ nI (24 * a + b) := fun h => by have := (nI_leL (x := 576) (k := 576) rfl (by omega) (by omega)).mp h; omega
    have dv : nI (24 * a + b) / 24 = nI a := by
      have := nI_div (a := 24 * a + b) (b := 24) (by omega) (by omega) (by omega)
      rw [show (24 * a + b) / 24 = a by omega] at this
      exact this
    have rm : nI (24 * a + b) - nI a * 24 = nI b := by
      rw [nI_mulR (x := 24) (k := 24) rfl, nI_sub (by omega), show 24 * a + b - a * 24 = b by omega]
    have ei : 6 * nI i + 3 = nI (6 * i + 3) := nI_l6 (x := 3) (k := 3) rfl i
    have ek : 6 * nI k + 3 = nI (6 * k + 3) := nI_l6 (x := 3) (k := 3) rfl k
    have fi : 600 * nI i + nI t = nI (600 * i + t) := by rw [nI_mulL (x := 600) (k := 600) rfl, nI_add]
    have fk : 600 * nI k + nI t = nI (600 * k + t) := by rw [nI_mulL (x := 600) (k := 600) rfl, nI_add]
    have nx : nI (24 * a + b) + 1 = nI (24 * a + (b + 1)) := by rw [nI_1]; rfl
    -- the reference
    have eM : ∃ y : Bool, f_X11_second_b111 (fm + (d + 1)) (nI i) (nI k) (nI t) h1 h2 (nI wh) x7 x8 p q (nI (24 * a + b)) τ = f_X11_second_b111 (fm + d) (nI i) (nI k) (nI t) h1 h2 (nI wh) x7 x8 (if y = true then p + 1 else p) (if y = true ∧ b < a then q + 1 else q) (nI (24 * a + (b + 1))) τ' ∧ (y = true ↔ (v1 = h1 ∧ v2 = h2)) := by
      have e0 : f_X11_second_b111 (fm + (d + 1)) (nI i) (nI k) (nI t) h1 h2 (nI wh) x7 x8 p q (nI (24 * a + b)) τ = (br (v1 = h1) (gd (inb ((600 * nI k) + nI t) 2400 = true) (dI 84 ((600 * nI k) + nI t).toNatClampNeg (fun v4 => br (v4 = h2) (br ((nI (24 * a + b) / 24) ≤ (nI (24 * a + b) - nI (24 * a + b) / 24 * 24)) (f_X11_second_b215 (f_X11_second_b111 (fm + d)) (nI i) (nI k) (nI t) h1 h2 (nI wh) x7 x8 (p + 1) (nI (24 * a + b)) 0 q) (f_X11_second_b215 (f_X11_second_b111 (fm + d)) (nI i) (nI k) (nI t) h1 h2 (nI wh) x7 x8 (p + 1) (nI (24 * a + b)) 1 q)) (f_X11_second_b218 (f_X11_second_b111 (fm + d)) (nI i) (nI k) (nI t) h1 h2 (nI wh) x7 x8 p q (nI (24 * a + b)))))) (f_X11_second_b218 (f_X11_second_b111 (fm + d)) (nI i) (nI k) (nI t) h1 h2 (nI wh) x7 x8 p q (nI (24 * a + b)))) τ' := by
        rw [show fm + (d + 1) = (fm + d) + 1 by omega, f_X11_second_b111, ex_bf a576, ei, ex_gd (inb_nI (show 6 * i + 3 < 24 by omega) (by omega)), ex_pI, nI_clamp (show 6 * i + 3 < 2 ^ 31 by omega), ek, ex_gd (inb_nI (show 6 * k + 3 < 24 by omega) (by omega)), ex_pI, nI_clamp (show 6 * k + 3 < 2 ^ 31 by omega), dv, rm, ex_cl c4, fi, ex_gd (inb_nI (show 600 * i + t < 2400 by omega) (by omega)), ex_dI, nI_clamp (show 600 * i + t < 2 ^ 31 by omega), e2]
      rw [e0, dv, rm, fk]
      by_cases z1 : v1 = h1
      · rw [ex_bt z1, ex_gd (inb_nI (show 600 * k + t < 2400 by omega) (by omega)), ex_dI, nI_clamp (show 600 * k + t < 2 ^ 31 by omega), e4]
        by_cases z2 : v2 = h2
        · rw [ex_bt z2]
          refine ⟨true, ?_, by simp [z1, z2]⟩
          rw [if_pos rfl]
          by_cases z3 : b < a
          · rw [ex_bf (nI_ge z3 (by omega)), f_X11_second_b215, f_X11_second_b218, nx, if_pos ⟨rfl, z3⟩]
          · rw [ex_bt (nI_le (by omega) (by omega)), f_X11_second_b215, f_X11_second_b218, nx, if_neg (fun q => z3 q.2), Int32.add_zero]
        · rw [ex_bf z2, f_X11_second_b218, nx]
          exact ⟨false, by simp, by simp [z2]⟩
      · rw [ex_bf z1, f_X11_second_b218, nx]
        exact ⟨false, by simp, by simp [z1]⟩
    obtain ⟨y, eM, hy⟩ := eM
    rw [eM]
    have hi4 : i < 4 := by omega
    have hk4 : k < 4 := by omega
    -- the class
    have go : f_X4_go 0 (nI t + 1) (sI (sI σ0 (fl i) 9 (nI a)) (fl k) 9 (nI b)) = some ((), S (t + 1)) := by
      have := go_to (T := t + 1) c3 (by omega) n2
      rw [c2] at this
      rw [nI_1]
      exact this
    have eC : ∀ x : Int32, f_X10_second_b95 k62 (f_X10_second_b72 k62 (fu + d + 1)) (nI i) (nI k) (nI t) h1 h2 (nI wh) x (nI a) (nI b) σ = f_X10_second_b72 k62 (fu + d + 1) (nI i) (nI k) (nI t) h1 h2 (nI wh) (if y = true then x + 1 else x) (nI a) (nI (b + 1)) (S (t + 1)) := by
      intro x
      rw [f_X10_second_b95, ex_cl c1, ex_cl (flyer_eq hi4), ex_gd (isFl_l hi4), ex_cl (startIn_eq hi4), ex_cl (flyer_eq hk4), ex_gd (isFl_l hk4), ex_cl (startIn_eq hk4), ex_cl go, ex_cl (flyer_eq hi4), ex_gd (isFl_l hi4), ex_cl e1]
      by_cases z1 : v1 = h1
      · rw [ex_bt z1, ex_cl (flyer_eq hk4), ex_gd (isFl_l hk4), ex_cl e3]
        by_cases z2 : v2 = h2
        · rw [ex_bt z2, f_X10_second_b173, nI_1, if_pos (hy.mpr ⟨z1, z2⟩)]
        · rw [ex_bf z2, f_X10_second_b173, nI_1, if_neg (fun q => z2 (hy.mp q).2)]
      · rw [ex_bf z1, f_X10_second_b173, nI_1, if_neg (fun q => z1 (hy.mp q).1)]
    have th : τ'.1 56 0 = 0 := c8.trans t0
    rw [show fu + (d + 1) + 1 = (fu + d + 1) + 1 by omega, f_X10_second_b72, ex_bf a24]
    rcases (by omega : wh = 0 ∨ wh = 1) with rfl | rfl
    · rw [ex_bf (by decide), eC, if_pos rfl]
      obtain ⟨p', q', σ', τ2, g1, g2, g3⟩ := ih (b + 1) fu fm (if y = true then p + 1 else p) (if y = true ∧ b < a then q + 1 else q) (S (t + 1)) τ' (by omega) J1 th hN1 c9
      rw [if_pos rfl] at g1
      exact ⟨p', q', σ', τ2, g1, g2, g3⟩
    · rw [ex_bt (show nI 1 = 1 from rfl), if_neg (by omega)]
      by_cases z3 : b < a
      · rw [ex_bt ((nI_ltI (by omega) (by omega)).mpr z3), eC]
        obtain ⟨p', q', σ', τ2, g1, g2, g3⟩ := ih (b + 1) fu fm (if y = true then p + 1 else p) (if y = true ∧ b < a then q + 1 else q) (S (t + 1)) τ' (by omega) J1 th hN1 c9
        rw [if_neg (by omega)] at g1
        refine ⟨p', q', σ', τ2, ?_, g2, g3⟩
        rw [← g1]
        by_cases w : y = true
        · rw [if_pos w, if_pos ⟨w, z3⟩]
        · rw [if_neg w, if_neg (fun q => w q.1)]
      · rw [ex_bf (fun q => z3 ((nI_ltI (by omega) (by omega)).mp q)), f_X10_second_b173, nI_1]
        obtain ⟨p', q', σ', τ2, g1, g2, g3⟩ := ih (b + 1) fu fm (if y = true then p + 1 else p) (if y = true ∧ b < a then q + 1 else q) σ τ' (by omega) c7 th hN c9
        rw [if_neg (by omega), if_neg (fun q => z3 q.2)] at g1
        exact ⟨p', q', σ', τ2, g1, g2, g3⟩
theorem second_out {g n s e m i k t N0 : Nat} {W : Nat → Int32} {h1 h2 : Int32} {wh : Nat} (hi : i < n) (hk : k < n) (hik : ¬ i = k) (ht : t < N0) (hN0 : N0 ≤ 600) (hw : wh ≤ 1) : ∀ (d a fu fm : Nat) (p q : Int32) (σ τ : Sg), a + d = 24 → Jr g n s e m σ (w58 τ W) → τ.1 56 0 = 0 → σ.1 2 3 = nI N0 → (∀ c, ¬ c = 6 * i + 3 → ¬ c = 6 * k + 3 → τ.1 58 c = W c) → ∃ v σ' τ', f_X10_second_b62 (fu + d + 1) (nI i) (nI k) (nI t) h1 h2 (nI wh) (if wh = 0 then p else q) (nI a) σ = some (.inl v, σ') ∧ f_X11_second_b111 (fm + 24 * d + 1) (nI i) (nI k) (nI t) h1 h2 (nI wh) (W (6 * i + 3)) (W (6 * k + 3)) p q (nI (24 * a)) τ = some (v, τ') ∧ Jr g n s e m σ' τ' ∧ τ'.1 56 0 = 0 := by
  intro d
  induction d with
  | zero =>
    intro a fu fm p q σ τ h J t0 hN hW
    have : a = 24 := by omega
    subst this
    have hn4 := J.1.2.1
    refine ⟨if wh = 0 then p else q, σ, w58 τ W, ?_, ?_, J, by rw [w58_ne (by omega)]; exact t0⟩
    · rw [f_X10_second_b62, ex_bt (by decide), ex_rtX]
    · have ei : 6 * nI i + 3 = nI (6 * i + 3) := nI_l6 (x := 3) (k := 3) rfl i
      have ek : 6 * nI k + 3 = nI (6 * k + 3) := nI_l6 (x := 3) (k := 3) rfl k
      have ew : sI (sI τ 58 (6 * i + 3) (W (6 * i + 3))) 58 (6 * k + 3) (W (6 * k + 3)) = w58 τ W := by
        have := w58_self (τ := sI (sI τ 58 (6 * i + 3) (W (6 * i + 3))) 58 (6 * k + 3) (W (6 * k + 3))) (W := W) (fun b => by
          by_cases z1 : b = 6 * k + 3
          · rw [z1, sI_eq]
          · rw [sI_nf z1]
            by_cases z2 : b = 6 * i + 3
            · rw [z2, sI_eq]
            · rw [sI_nf z2]; exact hW b z2 z1)
        rw [w58_sI, w58_sI] at this
        exact this.symm
      rw [f_X11_second_b111, ex_bt (by decide), f_X11_second_b224, ei, ex_gd (inb_nI (show 6 * i + 3 < 24 by omega) (by omega)), ex_pI, nI_clamp (show 6 * i + 3 < 2 ^ 31 by omega), ek, ex_gd (inb_nI (show 6 * k + 3 < 24 by omega) (by omega)), ex_pI, nI_clamp (show 6 * k + 3 < 2 ^ 31 by omega), ew]
      rcases (by omega : wh = 0 ∨ wh = 1) with rfl | rfl
      · rw [ex_bt (show nI 0 = 0 from rfl), ex_rt, if_pos rfl]
      · rw [ex_bf (by decide), ex_rt, if_neg (by omega)]
  | succ d ih =>
    intro a fu fm p q σ τ h J t0 hN hW
    have a24 : ¬ (24 : Int32) ≤ nI a := fun h => by have := (nI_leL (x := 24) (k := 24) rfl (by omega) (by omega)).mp h; omega
    obtain ⟨p', q', σ1, τ1, b1, b2, b3, b4, b5, b6⟩ := second_in (x7 := W (6 * i + 3)) (x8 := W (6 * k + 3)) (h1 := h1) (h2 := h2) (k62 := f_X10_second_b62 (fu + d + 1)) hi hk hik (show a < 24 by omega) ht hN0 hw 24 0 (8191 - 24) (fm + 24 * d + 1) p q σ τ rfl J t0 hN hW
    obtain ⟨v, σ2, τ2, c1, c2, c3⟩ := ih (a + 1) fu fm p' q' σ1 τ1 (by omega) b3 b4 b5 b6
    refine ⟨v, σ2, τ2, ?_, ?_, c3⟩
    · rw [show fu + (d + 1) + 1 = (fu + d + 1) + 1 by omega, f_X10_second_b62, ex_bf a24]
      exact b1.trans c1
    · rw [show fm + 24 * (d + 1) + 1 = fm + 24 * d + 1 + 24 by omega]
      exact b2.trans c2
theorem ok_second {g n s e m : Nat} {σ τ : Sg} (J : Jr g n s e m σ τ) (x y t h1 h2 w : Int32) : OkX (f_X10_second x y t h1 h2 w) (f_X11_second x y t h1 h2 w) cB σ τ := by
  obtain ⟨J0, t0⟩ := thr0 J
  have hn4 := J.1.2.1
  have hnC := J.2.2.1.1
  have hnM : (sI τ 56 0 0).1 56 6 = nI n := J0.1.2.2.1
  obtain ⟨N, n1, n2, n3, n4⟩ := J0.2.2.1.2.2.2.2.1
  rcases jumper_cases x hn4 with ⟨i, hi, rfl⟩ | hx
  · rcases jumper_cases y hn4 with ⟨k, hk, rfl⟩ | hy
    · rcases tick_cases t n2 with ⟨q, hq, rfl⟩ | ht
      · have tM : f_X11_second (nI i) (nI k) (nI q) h1 h2 w τ = f_X11_second_b39 (nI i) (nI k) (nI q) h1 h2 w 1 (sI τ 56 0 0) := by
          rw [f_X11_second, ex_pI, ex_cl (isJM_t t0 hnM hi hn4), ex_bf l1_0, ex_cl (isJM_t t0 hnM hk hn4), ex_bf l1_0, ex_bf (nI_pos (by omega)), ex_dI, n4, ex_bf (nI_ge hq (by omega))]
        rcases what_cases w (M := 1) (y := 1) rfl (by omega) with ⟨v, hv, rfl⟩ | hw
        · have iw := isWhat_t (M := 1) (y := 1) rfl t0 hv (by omega)
          have eC : f_X10_second (nI i) (nI k) (nI q) h1 h2 (nI v) σ = f_X10_second_b40 (nI i) (nI k) (nI q) h1 h2 (nI v) 1 σ := by
            rw [f_X10_second, ex_cl (isJC_t hnC hi hn4), ex_bf l1_0, ex_cl (isJC_t hnC hk hn4), ex_bf l1_0, ex_cl (isT_t n3 hq n2), ex_bf l1_0]
            rcases (by omega : v = 0 ∨ v = 1) with rfl | rfl
            · rw [ex_bt (show nI 0 = 0 from rfl), f_X10_second_b35]
            · rw [ex_bf (by decide), ex_bt (show nI 1 = 1 from rfl), f_X10_second_b35]
          by_cases u : i = k
          · subst u
            refine ok_thr J true 0 (y := 2) ?_ ?_ rfl
            · rw [eC, f_X10_second_b40, ex_xv need1, ex_bt rfl, f_X10_second_b53, ex_xt dem0]
            · rw [tM, f_X11_second_b39, ex_cl (right1 t0), ex_bf l1_0, ex_cl iw, ex_bf l1_0, ex_bt rfl, f_X11_second_b67, ex_cl (right0 t0 l2_0), ex_bt rfl, ex_rt]
          · have u' : ¬ nI i = nI k := fun z => u (nI_inj (by omega) (by omega) z)
            have ei : 6 * nI i + 3 = nI (6 * i + 3) := nI_l6 (x := 3) (k := 3) rfl i
            have ek : 6 * nI k + 3 = nI (6 * k + 3) := nI_l6 (x := 3) (k := 3) rfl k
            have Jw : Jr g n s e m σ (w58 (sI τ 56 0 0) ((sI τ 56 0 0).1 58)) := by rw [w58_self (fun _ => rfl)]; exact J0
            obtain ⟨r, σ', τ', c1, c2, c3, c4⟩ := second_out (h1 := h1) (h2 := h2) (wh := v) hi hk u hq n2 hv 24 0 (8191 - 24) 7615 0 0 σ (sI τ 56 0 0) rfl Jw t0 n3 (fun _ _ _ => rfl)
            rw [ite_self] at c1
            refine ⟨.inl r, σ', r, τ', ?_, ?_, ⟨c4, rfl⟩, g, n, s, e, m, c3⟩
            · rw [eC, f_X10_second_b40, ex_xv need1, ex_bf u', f_X10_second_b53, ex_xv dem1]
              exact c1
            · rw [tM, f_X11_second_b39, ex_cl (right1 t0), ex_bf l1_0, ex_cl iw, ex_bf l1_0, ex_bf u', f_X11_second_b67, ex_cl (right1 t0), ex_bf l1_0, ei, ex_gd (inb_nI (show 6 * i + 3 < 24 by omega) (by omega)), ex_dI, nI_clamp (show 6 * i + 3 < 2 ^ 31 by omega), ek, ex_gd (inb_nI (show 6 * k + 3 < 24 by omega) (by omega)), ex_dI, nI_clamp (show 6 * k + 3 < 2 ^ 31 by omega)]
              exact c2
        · have y0 : ¬ w = 0 := fun q => by
            rcases hw with h | ⟨-, h⟩ <;> rw [q] at h <;> exact absurd h (by decide)
          have y1 : ¬ w = 1 := fun q => by
            rcases hw with h | ⟨-, h⟩ <;> rw [q] at h <;> exact absurd h (by decide)
          refine ok_thr J false 0 (y := 1) ?_ ?_ rfl
          · rw [f_X10_second, ex_cl (isJC_t hnC hi hn4), ex_bf l1_0, ex_cl (isJC_t hnC hk hn4), ex_bf l1_0, ex_cl (isT_t n3 hq n2), ex_bf l1_0, ex_bf y0, ex_bf y1, f_X10_second_b39, f_X10_second_b40, ex_xt need0]
          · rw [tM, f_X11_second_b39, ex_cl (right1 t0), ex_bf l1_0, ex_cl (isWhat_f t0 hw), ex_bt rfl, ex_rt]
      · refine ok_thr J false 0 (y := 1) ?_ ?_ rfl
        · rw [f_X10_second, ex_cl (isJC_t hnC hi hn4), ex_bf l1_0, ex_cl (isJC_t hnC hk hn4), ex_bf l1_0, ex_cl (isT_f n3 ht), ex_bt rfl, f_X10_second_b39, f_X10_second_b40, ex_xt need0]
        · rw [f_X11_second, ex_pI, ex_cl (isJM_t t0 hnM hi hn4), ex_bf l1_0, ex_cl (isJM_t t0 hnM hk hn4), ex_bf l1_0]
          rcases ht with q | ⟨q1, q2⟩
          · rw [ex_bt q, f_X11_second_b38, f_X11_second_b39, ex_cl (right0 t0 l1_0), ex_bt rfl, ex_rt]
          · rw [ex_bf q1, ex_dI, n4, ex_bt q2, f_X11_second_b38, f_X11_second_b39, ex_cl (right0 t0 l1_0), ex_bt rfl, ex_rt]
    · refine ok_thr J false 0 (y := 1) ?_ ?_ rfl
      · rw [f_X10_second, ex_cl (isJC_t hnC hi hn4), ex_bf l1_0, ex_cl (isJC_f hnC hy), ex_bt rfl, f_X10_second_b39, f_X10_second_b40, ex_xt need0]
      · rw [f_X11_second, ex_pI, ex_cl (isJM_t t0 hnM hi hn4), ex_bf l1_0, ex_cl (isJM_f t0 hnM hy), ex_bt rfl, ex_rt]
  · refine ok_thr J false 0 (y := 1) ?_ ?_ rfl
    · rw [f_X10_second, ex_cl (isJC_f hnC hx), ex_bt rfl, f_X10_second_b39, f_X10_second_b40, ex_xt need0]
    · rw [f_X11_second, ex_pI, ex_cl (isJM_f t0 hnM hx), ex_bt rfl, ex_rt]
