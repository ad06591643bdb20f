-- ===== afternoons =====
def drw (w : Int32) : Int32 := ((w >>> ((16 : Int32) &&& 31)) &&& 32767) - ((w >>> ((16 : Int32) &&& 31)) &&& 32767) / 40 * 40
theorem and15 (y : Int32) : ∃ r, r < 32768 ∧ y &&& 32767 = nI r := by
  refine ⟨y.toBitVec.toNat % 32768, Nat.mod_lt _ (by omega), ?_⟩
  apply Int32.toBitVec_inj.mp
  apply BitVec.eq_of_toNat_eq
  rw [Int32.toBitVec_and, BitVec.toNat_and]
  show y.toBitVec.toNat &&& 32767 = _
  have h := Nat.and_two_pow_sub_one_eq_mod y.toBitVec.toNat 15
  rw [show 2 ^ 15 - 1 = 32767 by decide, show 2 ^ 15 = 32768 by decide] at h
  rw [h]
  show _ = (BitVec.ofNat 32 (y.toBitVec.toNat % 32768)).toNat
  rw [BitVec.toNat_ofNat]
  omega
theorem drw_eq (w : Int32) : ∃ q, q ≤ 39 ∧ drw w = nI q := by
  obtain ⟨r, r1, r2⟩ := and15 (w >>> ((16 : Int32) &&& 31))
  refine ⟨r % 40, by omega, ?_⟩
  have := nI_div (a := r) (b := 40) (by omega) (by omega) (by omega)
  rw [drw, r2, show nI r / 40 = nI (r / 40) from this, nI_mulR (x := 40) (k := 40) rfl, nI_sub (by omega), show r - r / 40 * 40 = r % 40 by omega]
theorem aft_in {g n s e m : Nat} {r : Int32} {σ : Sg} {x2 x3 x5 x6 x7 x8 : Int32} {k50 : Int32 → Int32 → Int32 → Int32 → Int32 → Int32 → Int32 → Sg → Option ((Int32 ⊕ Bool) × Sg)} {k80 : Int32 → Int32 → Int32 → Int32 → Int32 → Int32 → Int32 → Sg → Option (Int32 × Sg)} (hn4 : n ≤ 4) (hn : σ.1 2 1 = nI n) : ∀ (d j fu fm : Nat) (x4 : Int32) (K : Nat → Int32) (σ1 τ : Sg), j + d = n → BgA g n (fun _ => true) K r σ1 → off gs_play σ σ1 → JB e n K → τ.1 56 6 = nI n → (∀ i, i < n → ∀ k, k < 6 → (¬ k = 3 ∨ i < j) → τ.1 58 (6 * i + k) = K (6 * i + k)) → ∃ x4' K' σ1' τ', f_X10_afternoons_b63 k50 (fu + d + 1) x2 x3 x4 x5 x6 x7 x8 (nI j) σ1 = f_X10_afternoons_b117 k50 x2 x3 x4' x5 x6 x7 x8 σ1' ∧ f_X11_afternoons_b89 k80 (fm + d + 1) x2 x3 x4 x5 x6 x7 x8 (nI j) τ = f_X11_afternoons_b140 k80 x2 x3 x4' x5 x6 x7 x8 τ' ∧ BgA g n (fun _ => true) K' r σ1' ∧ off gs_play σ σ1' ∧ JB e n K' ∧ (∀ i, i < n → ∀ k, k < 6 → τ'.1 58 (6 * i + k) = K' (6 * i + k)) ∧ (∀ a b, ¬ a = 58 → τ'.1 a b = τ.1 a b) ∧ (∀ c, (∀ j, j < 4 → ¬ c = 6 * j + 3) → τ'.1 58 c = τ.1 58 c) ∧ τ'.2 = τ.2 := by
  intro d
  induction d with
  | zero =>
    intro j fu fm x4 K σ1 τ h hB ho hK h6 h58
    have : j = n := by omega
    subst this
    refine ⟨x4, K, σ1, τ, ?_, ?_, hB, ho, hK, fun i hi k hk => h58 i hi k hk (Or.inr hi), fun _ _ _ => rfl, fun _ _ => rfl, rfl⟩
    · rw [f_X10_afternoons_b63, ex_dI, (ho 2 1 rfl).1, hn, ex_bt (Int32.le_refl _)]
    · rw [f_X11_afternoons_b89, ex_dI, h6, ex_bt (Int32.le_refl _)]
  | succ d ih =>
    intro j fu fm x4 K σ1 τ h hB ho hK h6 h58
    have hj4 : j < 4 := by omega
    obtain ⟨q, q1, q2⟩ := drw_eq (x4 * 1103515245 + 12345)
    have ej : 6 * nI j + 3 = nI (6 * j + 3) := nI_l6 (x := 3) (k := 3) rfl j
    obtain ⟨x4', K', σ1', τ', c1, c2, c3, c4, c5, c6, c7, c8, c9⟩ := ih (j + 1) fu fm (x4 * 1103515245 + 12345) (upd K (6 * j + 3) (nI q)) (sI σ1 (fl j) 9 (nI q)) (sI τ 58 (6 * j + 3) (nI q)) (by omega) (hB.start hj4) (off_trans ho (off_sI (play_fl.resolve_right (by omega)))) (hK.up (by omega) (Or.inl ⟨rfl, by omega⟩)) (by rw [sI_ne (by omega)]; exact h6) (fun i hi k hk hh => by
      by_cases z : 6 * i + k = 6 * j + 3
      · rw [z, sI_eq, upd, if_pos rfl]
      · rw [sI_nf z, upd, if_neg z]
        exact h58 i hi k hk (by omega))
    refine ⟨x4', K', σ1', τ', ?_, ?_, c3, c4, c5, c6, fun a b z => by rw [c7 a b z, sI_ne z], fun c z => by rw [c8 c z, sI_nf (z j hj4)], c9⟩
    · have st : f_X1_startIn (fl j) (((x4 * 1103515245 + 12345) >>> ((16 : Int32) &&& 31) &&& 32767) - ((x4 * 1103515245 + 12345) >>> ((16 : Int32) &&& 31) &&& 32767) / 40 * 40) σ1 = some ((), sI σ1 (fl j) 9 (nI q)) := by
        have := startIn_eq (j := j) (σ := σ1) (v := drw (x4 * 1103515245 + 12345)) hj4
        rw [q2] at this
        rw [← this, ← q2]
        rfl
      rw [show fu + (d + 1) + 1 = (fu + d + 1) + 1 by omega, f_X10_afternoons_b63, ex_dI, (ho 2 1 rfl).1, hn, ex_bf (nI_ge (by omega) (by omega)), ex_lt, ex_cl (flyer_eq hj4), ex_gd (isFl_l hj4), ex_cl st, nI_1]
      exact c1
    · have q2' : ((x4 * 1103515245 + 12345) >>> ((16 : Int32) &&& 31) &&& 32767) - ((x4 * 1103515245 + 12345) >>> ((16 : Int32) &&& 31) &&& 32767) / 40 * 40 = nI q := q2
      rw [show fm + (d + 1) + 1 = (fm + d + 1) + 1 by omega, f_X11_afternoons_b89, ex_dI, h6, ex_bf (nI_ge (by omega) (by omega)), ex_lt, ej, ex_gd (inb_nI (show 6 * j + 3 < 24 by omega) (by omega)), ex_pI, nI_clamp (show 6 * j + 3 < 2 ^ 31 by omega), q2', nI_1]
      exact c2
theorem aft_end {W : Nat → Int32} {τ : Sg} {x3 x5 x6 x7 : Int32} (hW : ∀ c, (∀ j, j < 4 → ¬ c = 6 * j + 3) → τ.1 58 c = W c) (h86 : ∀ j, j < 4 → τ.1 86 j = W (6 * j + 3)) : f_X11_afternoons_b196 x3 x5 x6 x7 τ = f_X11_afternoons_b230 x3 x5 x6 x7 (w58 τ W) := by
  have ew : sI (sI (sI (sI τ 58 3 (W 3)) 58 9 (W 9)) 58 15 (W 15)) 58 21 (W 21) = w58 τ W := by
    have := w58_self (τ := sI (sI (sI (sI τ 58 3 (W 3)) 58 9 (W 9)) 58 15 (W 15)) 58 21 (W 21)) (W := W) (fun b => by
      by_cases z1 : b = 21
      · rw [z1, sI_eq]
      · rw [sI_nf z1]
        by_cases z2 : b = 15
        · rw [z2, sI_eq]
        · rw [sI_nf z2]
          by_cases z3 : b = 9
          · rw [z3, sI_eq]
          · rw [sI_nf z3]
            by_cases z4 : b = 3
            · rw [z4, sI_eq]
            · rw [sI_nf z4]; exact hW b (fun j hj => by omega))
    rw [w58_sI, w58_sI, w58_sI, w58_sI] at this
    exact this.symm
  have h0 : τ.1 86 0 = W 3 := h86 0 (by omega)
  have h1 : τ.1 86 1 = W 9 := h86 1 (by omega)
  have h2 : τ.1 86 2 = W 15 := h86 2 (by omega)
  have h3 : τ.1 86 3 = W 21 := h86 3 (by omega)
  rw [f_X11_afternoons_b196, show FU = 8187 + 1 + 1 + 1 + 1 + 1 from rfl]
  rw [f_X11_afternoons_b199, ex_bf (by decide), ex_gd (by decide), ex_dI, ex_gd (by decide), ex_pI, show (0 : Int32).toNatClampNeg = 0 from rfl, show (6 * (0 : Int32) + 3).toNatClampNeg = 3 by decide, h0]
  rw [f_X11_afternoons_b199, ex_bf (by decide), ex_gd (by decide), ex_dI, ex_gd (by decide), ex_pI, show (0 + 1 : Int32).toNatClampNeg = 1 by decide, show (6 * (0 + 1 : Int32) + 3).toNatClampNeg = 9 by decide, sI_ne (by omega), h1]
  rw [f_X11_afternoons_b199, ex_bf (by decide), ex_gd (by decide), ex_dI, ex_gd (by decide), ex_pI, show (0 + 1 + 1 : Int32).toNatClampNeg = 2 by decide, show (6 * (0 + 1 + 1 : Int32) + 3).toNatClampNeg = 15 by decide, sI_ne (by omega), sI_ne (by omega), h2]
  rw [f_X11_afternoons_b199, ex_bf (by decide), ex_gd (by decide), ex_dI, ex_gd (by decide), ex_pI, show (0 + 1 + 1 + 1 : Int32).toNatClampNeg = 3 by decide, show (6 * (0 + 1 + 1 + 1 : Int32) + 3).toNatClampNeg = 21 by decide, sI_ne (by omega), sI_ne (by omega), sI_ne (by omega), h3]
  rw [f_X11_afternoons_b199, ex_bt (by decide), ew]
theorem aft_loop {g n s e m M : Nat} {W : Nat → Int32} {x3 : Int32} (hM : M ≤ 40) : ∀ (d i fu fm : Nat) (x4 x5 x6 x7 : Int32) (σ τ : Sg), i + d = M → Jr g n s e m σ (w58 τ W) → τ.1 56 0 = 0 → (∀ c, (∀ j, j < 4 → ¬ c = 6 * j + 3) → τ.1 58 c = W c) → (∀ j, j < 4 → τ.1 86 j = W (6 * j + 3)) → ∃ v σ' τ', f_X10_afternoons_b50 (fu + d + 1) (nI M) x3 x4 x5 x6 x7 (nI i) σ = some (.inl v, σ') ∧ f_X11_afternoons_b80 (fm + d + 1) (nI M) x3 x4 x5 x6 x7 (nI i) τ = some (v, τ') ∧ Jr g n s e m σ' τ' ∧ τ'.1 56 0 = 0 := by
  intro d
  induction d with
  | zero =>
    intro i fu fm x4 x5 x6 x7 σ τ h J t0 hW h86
    have : i = M := by omega
    subst this
    refine ⟨if x3 = 0 then x5 else if x3 = 1 then x6 else x7, σ, w58 τ W, ?_, ?_, J, by rw [w58_ne (by omega)]; exact t0⟩
    · rw [f_X10_afternoons_b50, ex_bt (Int32.le_refl _), f_X10_afternoons_b185]
      by_cases z : x3 = 0
      · rw [ex_bt z, if_pos z, ex_rtX]
      · rw [ex_bf z, if_neg z]
        by_cases y : x3 = 1
        · rw [ex_bt y, if_pos y, ex_rtX]
        · rw [ex_bf y, if_neg y, ex_rtX]
    · rw [f_X11_afternoons_b80, ex_bt (Int32.le_refl _), aft_end hW h86, f_X11_afternoons_b230]
      by_cases z : x3 = 0
      · rw [ex_bt z, if_pos z, ex_rt]
      · rw [ex_bf z, if_neg z]
        by_cases y : x3 = 1
        · rw [ex_bt y, if_pos y, ex_rt]
        · rw [ex_bf y, if_neg y, ex_rt]
  | succ d ih =>
    intro i fu fm x4 x5 x6 x7 σ τ h J t0 hW h86
    obtain ⟨jG, jR, ⟨s1, s2, s3, s4, s5, s6⟩, -⟩ := id J
    have hn4 := jG.2.1
    have h6 : τ.1 56 6 = nI n := by have := jG.2.2.1; rw [w58_ne (by omega)] at this; exact this
    obtain ⟨σ0, a1, a2, a3⟩ := J.prep
    obtain ⟨x4', K', σ1, τ1, c1, c2, c3, c4, c5, c6, c7, c8, c9⟩ := aft_in (x2 := nI M) (x3 := x3) (x5 := x5) (x6 := x6) (x7 := x7) (x8 := nI i) (k50 := f_X10_afternoons_b50 (fu + d + 1)) (k80 := f_X11_afternoons_b80 (fm + d + 1)) (e := e) (m := m) (s := s) hn4 s1 n 0 (8191 - n) (8191 - n) x4 (σ.1 3) σ0 τ (by omega) a2 a3 s3 h6 (fun i hi k hk hh => by
      have := s2 i hi k hk
      rw [w58_at] at this
      rw [hW _ (fun j hj => by omega)]
      exact this)
    rw [show 8191 - n + n + 1 = FU by rw [Nat.sub_add_cancel (by omega)]; rfl] at c1 c2
    have J1 : Jr g n s e m σ (w58 τ1 W) := by
      have : w58 τ1 W = w58 τ W := by
        refine Prod.ext (funext fun a => funext fun b => ?_) c9
        show (w58 τ1 W).1 a b = (w58 τ W).1 a b
        by_cases z : a = 58
        · subst z; rw [w58_at, w58_at]
        · rw [w58_ne z, w58_ne z, c7 a b z]
      rw [this]; exact J
    obtain ⟨N, S, τ2, n1, n2, n3, n3', b1, b2, b3, b4, b5, b6, b7, b8⟩ := run_K J1 c4 c3 c5 c6
    have go : f_X4_go 0 (nI N) σ1 = some ((), S N) := by
      have := go_to b2 (Nat.le_refl N) n2
      rw [b1] at this
      exact this
    obtain ⟨hv, h1, h2⟩ := hurts_rel b4 (τ' := τ2) rfl (fun _ => rfl)
    obtain ⟨fv, f1, f2⟩ := funs_rel b4 (τ' := τ2) rfl (fun _ => rfl)
    have hh := isHurt_eq b4
    have nM : ¬ nI M ≤ nI i := nI_ge (by omega) (by omega)
    obtain ⟨v, σ', τ', g1, g2, g3, g4⟩ := ih (i + 1) fu fm x4' (x5 + hv) (if x6 < fv then fv else x6) (x7 + (if (S N).1 17 14 = -1 then 1 else 0)) (S N) τ2 (by omega) (b7 N (Nat.le_refl N)) (by rw [(b6 56 0 rfl).1, c7 _ _ (by omega)]; exact t0) (fun c hc => by rw [(b6 58 c rfl).1, c8 c hc]; exact hW c hc) (fun j hj => by rw [(b6 86 j rfl).1, c7 _ _ (by omega)]; exact h86 j hj)
    refine ⟨v, σ', τ', ?_, ?_, g3, g4⟩
    · rw [show fu + (d + 1) + 1 = (fu + d + 1) + 1 by omega, f_X10_afternoons_b50, ex_bf nM, ex_cl a1]
      refine c1.trans ?_
      rw [f_X10_afternoons_b117, ex_dI, n3', ex_cl go, ex_cl h1, ex_cl f1, ex_lt, ex_dI]
      by_cases z : (S N).1 17 14 = -1
      · rw [ex_bt z, f_X10_afternoons_b176, nI_1]
        rw [if_pos z] at g1
        exact g1
      · rw [ex_bf z, f_X10_afternoons_b176, nI_1]
        rw [if_neg z] at g1
        exact g1
    · rw [show fm + (d + 1) + 1 = (fm + d + 1) + 1 by omega, f_X11_afternoons_b80, ex_bf nM]
      refine c2.trans ?_
      have e171 : ∀ y, y = (if x6 < fv then fv else x6) → f_X11_afternoons_b171 (f_X11_afternoons_b80 (fm + d + 1)) (nI M) x3 x4' (x5 + hv) x7 (nI i) y τ2 = some (v, τ') := by
        intro y hy
        subst hy
        rw [f_X11_afternoons_b171, ex_cl hh]
        by_cases z : (S N).1 17 14 = -1
        · rw [if_pos z] at g2 ⊢
          rw [ex_bt rfl, f_X11_afternoons_b187, nI_1]
          exact g2
        · rw [if_neg z] at g2 ⊢
          rw [ex_bf l1_0, f_X11_afternoons_b187, nI_1]
          exact g2
      rw [f_X11_afternoons_b140, ex_cl b3, ex_cl h2, ex_cl f2]
      by_cases z : fv ≤ x6
      · rw [ex_bt z]
        exact e171 _ (by rw [if_neg (Int32.not_lt.mpr z)])
      · rw [ex_bf z, ex_cl f2]
        exact e171 _ (by rw [if_pos (Int32.not_le.mp z)])
theorem aft_save {x1 x2 x3 : Int32} {τ : Sg} : f_X11_afternoons_b34 FU x1 x2 x3 0 τ = f_X11_afternoons_b65 x1 x2 x3 (sI (sI (sI (sI τ 86 0 (τ.1 58 3)) 86 1 (τ.1 58 9)) 86 2 (τ.1 58 15)) 86 3 (τ.1 58 21)) := by
  rw [show FU = 8187 + 1 + 1 + 1 + 1 + 1 from rfl]
  rw [f_X11_afternoons_b34, ex_bf (by decide), ex_gd (by decide), ex_dI, ex_gd (by decide), ex_pI, show (0 : Int32).toNatClampNeg = 0 from rfl, show (6 * (0 : Int32) + 3).toNatClampNeg = 3 by decide]
  rw [f_X11_afternoons_b34, ex_bf (by decide), ex_gd (by decide), ex_dI, ex_gd (by decide), ex_pI, show (0 + 1 : Int32).toNatClampNeg = 1 by decide, show (6 * (0 + 1 : Int32) + 3).toNatClampNeg = 9 by decide, sI_ne (by omega)]
  rw [f_X11_afternoons_b34, ex_bf (by decide), ex_gd (by decide), ex_dI, ex_gd (by decide), ex_pI, show (0 + 1 + 1 : Int32).toNatClampNeg = 2 by decide, show (6 * (0 + 1 + 1 : Int32) + 3).toNatClampNeg = 15 by decide, sI_ne (by omega), sI_ne (by omega)]
  rw [f_X11_afternoons_b34, ex_bf (by decide), ex_gd (by decide), ex_dI, ex_gd (by decide), ex_pI, show (0 + 1 + 1 + 1 : Int32).toNatClampNeg = 3 by decide, show (6 * (0 + 1 + 1 + 1 : Int32) + 3).toNatClampNeg = 21 by decide, sI_ne (by omega), sI_ne (by omega), sI_ne (by omega)]
  rw [f_X11_afternoons_b34, ex_bt (by decide)]
theorem ok_afternoons {g n s e m : Nat} {σ τ : Sg} (J : Jr g n s e m σ τ) (x1 x2 x3 : Int32) : OkX (f_X10_afternoons x1 x2 x3) (f_X11_afternoons x1 x2 x3) cB σ τ := by
  obtain ⟨J0, t0⟩ := thr0 J
  rcases what_cases x3 (M := 2) (y := 2) rfl (by omega) with ⟨w, hw, rfl⟩ | hw
  · have b1 : ¬ nI w < 0 := nI_pos (by omega)
    have b2 : ¬ (2 : Int32) < nI w := fun q => by
      have := (nI_ltL (x := 2) (k := 2) rfl (by omega) (by omega)).mp q; omega
    have iw := isWhat_t (M := 2) (y := 2) rfl t0 hw (by omega)
    rcases what_cases x2 (M := 40) (y := 40) rfl (by omega) with ⟨M, hM, rfl⟩ | hM
    · have b3 : ¬ nI M < 0 := nI_pos (by omega)
      have b4 : ¬ (40 : Int32) < nI M := fun q => by
        have := (nI_ltL (x := 40) (k := 40) rfl (by omega) (by omega)).mp q; omega
      have wi : f_X11_within (nI M) 0 40 (sI τ 56 0 0) = some (1, sI τ 56 0 0) := by rw [f_X11_within, ex_bf b3, ex_bf b4, ex_rt]
      generalize hT : sI (sI (sI (sI (sI τ 56 0 0) 86 0 ((sI τ 56 0 0).1 58 3)) 86 1 ((sI τ 56 0 0).1 58 9)) 86 2 ((sI τ 56 0 0).1 58 15)) 86 3 ((sI τ 56 0 0).1 58 21) = T
      have T58 : ∀ b, T.1 58 b = (sI τ 56 0 0).1 58 b := fun b => by rw [← hT, sI_ne (by omega), sI_ne (by omega), sI_ne (by omega), sI_ne (by omega)]
      have JT : Jr g n s e m σ T := J0.none (by rw [← hT]; exact off_trans (off_sI rfl) (off_trans (off_sI rfl) (off_trans (off_sI rfl) (off_sI rfl))))
      obtain ⟨v, σ', τ', c1, c2, c3, c4⟩ := aft_loop (M := M) (x3 := nI w) (W := T.1 58) hM M 0 (8191 - M) (8191 - M) x1 0 0 0 σ T (by omega) (by rw [w58_self (fun _ => rfl)]; exact JT) (by rw [← hT, sI_ne (by omega), sI_ne (by omega), sI_ne (by omega), sI_ne (by omega)]; exact t0) (fun _ _ => rfl) (fun j hj => by
        rw [T58, ← hT]
        rcases (by omega : j = 0 ∨ j = 1 ∨ j = 2 ∨ j = 3) with rfl | rfl | rfl | rfl
        · rw [sI_nf (by omega), sI_nf (by omega), sI_nf (by omega), sI_eq]
        · rw [sI_nf (by omega), sI_nf (by omega), sI_eq]
        · rw [sI_nf (by omega), sI_eq]
        · rw [sI_eq])
      rw [show 8191 - M + M + 1 = FU by rw [Nat.sub_add_cancel (by omega)]; rfl] at c1 c2
      refine ⟨.inl v, σ', v, τ', ?_, ?_, ⟨c4, rfl⟩, g, n, s, e, m, c3⟩
      · rw [f_X10_afternoons, ex_bf b1, ex_bf b2, f_X10_afternoons_b14, ex_xv need1, ex_bf b3, ex_bf b4, f_X10_afternoons_b32, ex_xv dem1]
        exact c1
      · rw [f_X11_afternoons, ex_pI, ex_cl iw, ex_bf l1_0, ex_cl wi, ex_cl (right1 t0), ex_bf l1_0, aft_save, hT, f_X11_afternoons_b65]
        exact c2
    · have wi : f_X11_within x2 0 40 (sI τ 56 0 0) = some (0, sI τ 56 0 0) := by
        rcases hM with q | ⟨q1, q2⟩
        · rw [f_X11_within, ex_bt q, ex_rt]
        · rw [f_X11_within, ex_bf q1, ex_bt q2, ex_rt]
      refine ok_thr J true 0 (y := 2) ?_ ?_ rfl
      · rw [f_X10_afternoons, ex_bf b1, ex_bf b2, f_X10_afternoons_b14, ex_xv need1]
        rcases hM with q | ⟨q1, q2⟩
        · rw [ex_bt q, f_X10_afternoons_b31, f_X10_afternoons_b32, ex_xt dem0]
        · rw [ex_bf q1, ex_bt q2, f_X10_afternoons_b31, f_X10_afternoons_b32, ex_xt dem0]
      · rw [f_X11_afternoons, ex_pI, ex_cl iw, ex_bf l1_0, ex_cl wi, ex_cl (right0 t0 l2_0), ex_bt rfl, ex_rt]
  · refine ok_thr J false 0 (y := 1) ?_ ?_ rfl
    · rcases hw with q | ⟨q1, q2⟩
      · rw [f_X10_afternoons, ex_bt q, f_X10_afternoons_b13, f_X10_afternoons_b14, ex_xt need0]
      · rw [f_X10_afternoons, ex_bf q1, ex_bt q2, f_X10_afternoons_b13, f_X10_afternoons_b14, ex_xt need0]
    · rw [f_X11_afternoons, ex_pI, ex_cl (isWhat_f t0 hw), ex_bt rfl, ex_rt]
