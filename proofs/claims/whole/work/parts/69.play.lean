-- ===== a whole run, both =====
theorem i_and1 (y : Int32) : y &&& 1 = 0 ∨ y &&& 1 = 1 := by
  have h : (y &&& 1).toBitVec.toNat = y.toBitVec.toNat % 2 := by
    rw [Int32.toBitVec_and, BitVec.toNat_and]; exact Nat.and_one_is_mod _
  have h2 : (y &&& 1).toBitVec.toNat = 0 ∨ (y &&& 1).toBitVec.toNat = 1 := by omega
  rcases h2 with h2 | h2
  · left; apply Int32.toBitVec_inj.mp; apply BitVec.eq_of_toNat_eq; rw [h2]; rfl
  · right; apply Int32.toBitVec_inj.mp; apply BitVec.eq_of_toNat_eq; rw [h2]; rfl
def Gd (g n s e : Nat) (σ τ : Sg) : Prop := isGd g = true ∧ n ≤ 4 ∧ τ.1 56 6 = nI n ∧ (1 ≤ s ∧ s ≤ 9 ∧ σ.1 g 0 = nI s ∧ τ.1 56 1 = nI s) ∧ (τ.1 56 2 = σ.1 g 1 ∧ τ.1 56 3 = σ.1 g 2 ∧ τ.1 56 4 = σ.1 g 3 ∧ τ.1 56 5 = σ.1 g 4) ∧ NuG g e σ
theorem Gd.of {g n s e : Nat} {σ σ' τ τ' : Sg} (G : Gd g n s e σ τ) (h : ∀ b, σ'.1 g b = σ.1 g b) (k : ∀ b, 1 ≤ b → b ≤ 6 → τ'.1 56 b = τ.1 56 b) : Gd g n s e σ' τ' := by
  unfold Gd NuG
  simp only [h, k 6 (by omega) (by omega), k 1 (by omega) (by omega), k 2 (by omega) (by omega), k 3 (by omega) (by omega), k 4 (by omega) (by omega), k 5 (by omega) (by omega)]
  exact G
theorem mrunF_56 {b : Nat} (h : b ≤ 63) : gs_mrunF 56 b = false := by
  have : Nat.ble 64 b = false := by rw [← Bool.not_eq_true, Nat.ble_eq]; omega
  simp [gs_mrunF, this]
theorem mrun_56 {b : Nat} (h : b ≤ 63) : gs_mrun 56 b = false := by
  have : Nat.ble 64 b = false := by rw [← Bool.not_eq_true, Nat.ble_eq]; omega
  simp [gs_mrun, this]
theorem start_rel {g n s e : Nat} {A : Nat → Bool} {J : Nat → Int32} {r x : Int32} {σ τ : Sg} (G : Gd g n s e σ τ) (U : Ru g σ τ) (hB : BgA g n A J r σ) (hJ : JB e n J) (hr : τ.1 56 46 = r) (h58 : ∀ j, j < n → ∀ k, k < 6 → τ.1 58 (6 * j + k) = J (6 * j + k)) (hx : ∀ j, j < n → bitB x j = A j) : ∃ τ1, f_X11_clears x τ = some ((), τ1) ∧ Iv g n s e 0 σ τ1 ∧ off gs_mrunF τ τ1 := by
  obtain ⟨g1, g2, g3, g4, g5, g6⟩ := id G
  obtain ⟨τ1, a1, a2, a3⟩ := clears_eq (x := x) g2 g3
  have k : ∀ b, b ≤ 63 → τ1.1 56 b = τ.1 56 b := fun b hb => (a3 56 b (mrunF_56 hb)).1
  have k58 : τ1.1 58 = τ.1 58 := funext fun b => (a3 58 b rfl).1
  rw [← k58] at a2
  refine ⟨τ1, a1, ?_, a3⟩
  exact start_Iv g1 g2 (by rw [k 6 (by omega)]; exact g3) (by rw [k 1 (by omega)]; exact g4) (by rw [k 2 (by omega), k 3 (by omega), k 4 (by omega), k 5 (by omega)]; exact g5) g6 (by rw [k 46 (by omega)]; exact hr) hB hJ a2 hx (by rw [k58]; exact h58) (U.off g1 off_rfl a3)
/-- the run, whole: the class's states S, the reference's end -/
theorem play_rel {g n s e N : Nat} {A : Nat → Bool} {J : Nat → Int32} {r x : Int32} {σ τ : Sg} (G : Gd g n s e σ τ) (U : Ru g σ τ) (hB : BgA g n A J r σ) (hJ : JB e n J) (hr : τ.1 56 46 = r) (h58 : ∀ j, j < n → ∀ k, k < 6 → τ.1 58 (6 * j + k) = J (6 * j + k)) (hx : ∀ j, j < n → bitB x j = A j) (hN : N ≤ 600) (h47 : τ.1 56 47 = nI N) : ∃ (S : Nat → Sg) (τ' : Sg), S 0 = σ ∧ Chain 0 N S ∧ f_X11_runs x τ = some ((), τ') ∧ Iv g n s e N (S N) τ' ∧ (∀ k, k < N → ∀ j, j < n → ∃ v, f_X1_heightIn (fl j) (nI k) (S (k + 1)) = some (v, S (k + 1)) ∧ τ'.1 84 (600 * j + k) = v) ∧ off gs_mrun τ τ' ∧ (∀ k, k ≤ N → off gs_play σ (S k)) ∧ (∀ k, k ≤ N → ∀ j, j < 4 → (S k).1 (fl j) 0 = nI j) := by
  obtain ⟨τ1, a1, a2, a3⟩ := start_rel G U hB hJ hr h58 hx
  obtain ⟨S, τ', b1, b2, b3, b4, b5, -, b7⟩ := run_rel hN N 0 (8191 - N) σ τ1 (by omega) a2 (by rw [(a3 56 47 rfl).1]; exact h47)
  rw [show 8191 - N + N + 1 = FU by rw [Nat.sub_add_cancel (by omega)]; rfl] at b3
  have hr' : f_X11_runs x τ = some ((), τ') := by rw [f_X11_runs, ex_cl a1]; exact b3
  refine ⟨S, τ', b1, b2, hr', b4, fun k hk j hj => b5 k (by omega) hk j hj, fr_X11_runs _ _ _ hr', fun k hk => ?_, fun k hk => b7 k (by omega) hk⟩
  have := go_to b2 hk hN
  rw [b1] at this
  exact fr_X4_go _ _ _ _ this
-- who is there
theorem bit_all {n j : Nat} (hn : n ≤ 4) (hj : j < n) : bitB (((1 : Int32) <<< (nI n &&& 31)) - 1) j = true := by
  have : n = 1 ∧ j = 0 ∨ n = 2 ∧ (j = 0 ∨ j = 1) ∨ n = 3 ∧ (j = 0 ∨ j = 1 ∨ j = 2) ∨ n = 4 ∧ (j = 0 ∨ j = 1 ∨ j = 2 ∨ j = 3) := by omega
  rcases this with ⟨rfl, rfl⟩ | ⟨rfl, rfl | rfl⟩ | ⟨rfl, rfl | rfl | rfl⟩ | ⟨rfl, rfl | rfl | rfl | rfl⟩ <;> decide
theorem all_eq {n : Nat} {τ : Sg} (h : τ.1 56 6 = nI n) : f_X11_all τ = some (((1 : Int32) <<< (nI n &&& 31)) - 1, τ) := by
  rw [f_X11_all, ex_dI, h, ex_rt]
-- changes ahead of a run
theorem BgA.start {g n j : Nat} {A : Nat → Bool} {J : Nat → Int32} {r v : Int32} {σ : Sg} (h : BgA g n A J r σ) (hj : j < 4) : BgA g n A (upd J (6 * j + 3) v) r (sI σ (fl j) 9 v) := by
  obtain ⟨h1, h2, h3, h4⟩ := h
  refine ⟨by rw [sI_2]; exact h1, by rw [sI_ne (of_eq_false e17_fl)]; exact h2, fun i hi => ?_, ?_⟩
  · have u : ∀ k, k < 6 → ¬ (i = j ∧ k = 3) → upd J (6 * j + 3) v (6 * i + k) = J (6 * i + k) := fun k hk hne => by
      rw [upd, if_neg]; omega
    obtain ⟨c0, c5, c1, c2, c6, c9, c3, c7, c4, c8, c10, c11, c12, c13, c14, ck⟩ := h3 i hi
    rw [show upd J (6 * j + 3) v (6 * i) = J (6 * i) from u 0 (by omega) (by omega), u 1 (by omega) (by omega), u 2 (by omega) (by omega), u 4 (by omega) (by omega), u 5 (by omega) (by omega)]
    refine ⟨by rw [sI_nf (by omega)]; exact c0, by rw [sI_nf (by omega)]; exact c5, by rw [sI_nf (by omega)]; exact c1, by rw [sI_nf (by omega)]; exact c2, by rw [sI_nf (by omega)]; exact c6, ?_, by rw [sI_nf (by omega)]; exact c3, by rw [sI_nf (by omega)]; exact c7, by rw [sI_nf (by omega)]; exact c4, by rw [sI_nf (by omega)]; exact c8, by rw [sI_nf (by omega)]; exact c10, by rw [sI_nf (by omega)]; exact c11, by rw [sI_nf (by omega)]; exact c12, by rw [sI_nf (by omega)]; exact c13, by rw [sI_nf (by omega)]; exact c14, fun k hk => by rw [sI_ne (of_eq_false fk_fl)]; exact ck k hk⟩
    by_cases z : i = j
    · subst z; rw [sI_eq, upd, if_pos rfl]
    · rw [sI_ne (fun q => z (fl_eq.mp q)), u 3 (by omega) (fun q => z q.1)]; exact c9
  · simpa [sI_gt, e17_fl, e28_fl] using h4
theorem BgA.drop {g n j : Nat} {A : Nat → Bool} {J : Nat → Int32} {r v : Int32} {σ : Sg} (h : BgA g n A J r σ) (hj : j < 4) : BgA g n A (upd J (6 * j + 4) v) r (sI (sI σ (fl j) 3 v) (fl j) 7 v) := by
  obtain ⟨h1, h2, h3, h4⟩ := h
  refine ⟨by rw [sI_2, sI_2]; exact h1, by rw [sI_ne (of_eq_false e17_fl), sI_ne (of_eq_false e17_fl)]; exact h2, fun i hi => ?_, ?_⟩
  · have u : ∀ k, k < 6 → ¬ (i = j ∧ k = 4) → upd J (6 * j + 4) v (6 * i + k) = J (6 * i + k) := fun k hk hne => by
      rw [upd, if_neg]; omega
    have o : ∀ b, ¬ b = 3 → ¬ b = 7 → (sI (sI σ (fl j) 3 v) (fl j) 7 v).1 (fl i) b = σ.1 (fl i) b := fun b b1 b2 => by rw [sI_nf b2, sI_nf b1]
    obtain ⟨c0, c5, c1, c2, c6, c9, c3, c7, c4, c8, c10, c11, c12, c13, c14, ck⟩ := h3 i hi
    rw [show upd J (6 * j + 4) v (6 * i) = J (6 * i) from u 0 (by omega) (by omega), u 1 (by omega) (by omega), u 2 (by omega) (by omega), u 3 (by omega) (by omega), u 5 (by omega) (by omega)]
    refine ⟨by rw [o _ (by omega) (by omega)]; exact c0, by rw [o _ (by omega) (by omega)]; exact c5, by rw [o _ (by omega) (by omega)]; exact c1, by rw [o _ (by omega) (by omega)]; exact c2, by rw [o _ (by omega) (by omega)]; exact c6, by rw [o _ (by omega) (by omega)]; exact c9, ?_, ?_, by rw [o _ (by omega) (by omega)]; exact c4, by rw [o _ (by omega) (by omega)]; exact c8, by rw [o _ (by omega) (by omega)]; exact c10, by rw [o _ (by omega) (by omega)]; exact c11, by rw [o _ (by omega) (by omega)]; exact c12, by rw [o _ (by omega) (by omega)]; exact c13, by rw [o _ (by omega) (by omega)]; exact c14, fun k hk => by rw [sI_ne (of_eq_false fk_fl), sI_ne (of_eq_false fk_fl)]; exact ck k hk⟩
    · by_cases z : i = j
      · subst z; rw [sI_nf (by omega), sI_eq, upd, if_pos rfl]
      · rw [sI_ne (fun q => z (fl_eq.mp q)), sI_ne (fun q => z (fl_eq.mp q)), u 4 (by omega) (fun q => z q.1)]; exact c3
    · by_cases z : i = j
      · subst z; rw [sI_eq, upd, if_pos rfl]
      · rw [sI_ne (fun q => z (fl_eq.mp q)), sI_ne (fun q => z (fl_eq.mp q)), u 4 (by omega) (fun q => z q.1)]; exact c7
  · simpa [sI_gt, e17_fl, e28_fl] using h4
theorem BgA.rule {g n : Nat} {A : Nat → Bool} {J : Nat → Int32} {r v : Int32} {σ : Sg} (h : BgA g n A J r σ) : BgA g n A J v (sI σ 17 4 v) := by
  obtain ⟨h1, h2, h3, h4⟩ := h
  refine ⟨by rw [sI_2]; exact h1, sI_eq, fun i hi => ?_, ?_⟩
  · have o : ∀ b, (sI σ 17 4 v).1 (fl i) b = σ.1 (fl i) b := fun b => sI_ne (of_eq_false fl_17)
    have o2 : ∀ b, (sI σ 17 4 v).1 (fk i) b = σ.1 (fk i) b := fun b => sI_ne (of_eq_false fk_17)
    simp only [o, o2]
    exact h3 i hi
  · simpa [sI_gt] using h4
theorem keep_loop {g n fu : Nat} {J : Nat → Int32} {r x : Int32} : ∀ (d i : Nat) (A : Nat → Bool) (σ : Sg), i + d = 4 → BgA g n A J r σ → ∃ σ', f_X4_keepOnly_b2 (fu + d + 1) x (nI i) σ = some ((), σ') ∧ BgA g n (fun j => A j && (decide (j < i) || bitB x j)) J r σ' := by
  intro d
  induction d with
  | zero =>
    intro i A σ h hB
    have : i = 4 := by omega
    subst this
    refine ⟨σ, by rw [f_X4_keepOnly_b2, ex_bt (show (4 : Int32) ≤ nI 4 by decide), ex_rt], ?_⟩
    obtain ⟨h1, h2, h3, h4⟩ := hB
    refine ⟨h1, h2, fun j hj => ?_, h4⟩
    have := h3 j hj
    simpa [hj] using this
  | succ d ih =>
    intro i A σ h hB
    have hi : i < 4 := by omega
    have a : ¬ (4 : Int32) ≤ nI i := fun h => by have := (nI_leL (x := 4) (k := 4) rfl (by omega) (by omega)).mp h; omega
    have i2 : ((x >>> (nI i &&& 31)) &&& 1) = 0 ∨ ((x >>> (nI i &&& 31)) &&& 1) = 1 := by
      exact i_and1 _
    by_cases z : ((x >>> (nI i &&& 31)) &&& 1) = 0
    · have hb : bitB x i = false := by rw [bitB, z]; decide
      have hB' : BgA g n (fun j => A j && !decide (j = i)) J r (sI σ (fl i) 5 4) := by
        obtain ⟨h1, h2, h3, h4⟩ := hB
        refine ⟨by rw [sI_2]; exact h1, by rw [sI_ne (of_eq_false e17_fl)]; exact h2, fun j hj => ?_, ?_⟩
        · obtain ⟨c0, c5, c⟩ := h3 j hj
          have o : ∀ b, ¬ b = 5 → (sI σ (fl i) 5 4).1 (fl j) b = σ.1 (fl j) b := fun b b1 => sI_nf b1
          have o2 : ∀ b, (sI σ (fl i) 5 4).1 (fk j) b = σ.1 (fk j) b := fun b => sI_ne (of_eq_false fk_fl)
          refine ⟨by rw [o _ (by omega)]; exact c0, ?_, ?_⟩
          · by_cases y : j = i
            · subst y
              rw [sI_eq, if_neg]
              simp
            · rw [sI_ne (fun q => y (fl_eq.mp q)), c5]
              simp [y]
          · simp only [o 1 (by omega), o 2 (by omega), o 6 (by omega), o 9 (by omega), o 3 (by omega), o 7 (by omega), o 4 (by omega), o 8 (by omega), o 10 (by omega), o 11 (by omega), o 12 (by omega), o 13 (by omega), o 14 (by omega), o2]
            exact c
        · simpa [sI_gt, e17_fl, e28_fl] using h4
      obtain ⟨σ', b1, b2⟩ := ih (i + 1) _ _ (by omega) hB'
      refine ⟨σ', ?_, ?_⟩
      · rw [show fu + (d + 1) + 1 = (fu + d + 1) + 1 by omega, f_X4_keepOnly_b2, ex_bf a, ex_bt z, ex_gd (inb_nI hi (by omega)), ex_lt, nI_clamp (show i < 2 ^ 31 by omega), fl_at, ex_gd (isFl_l hi), ex_pI, f_X4_keepOnly_b29, nI_1]
        exact b1
      · have e : (fun j => (A j && !decide (j = i)) && (decide (j < i + 1) || bitB x j)) = fun j => A j && (decide (j < i) || bitB x j) := funext fun j => by
          by_cases y : j = i
          · subst y; simp [hb]
          · by_cases w : j < i
            · simp [y, w, show j < i + 1 by omega]
            · simp [y, w, show ¬ j < i + 1 by omega]
        rw [e] at b2
        exact b2
    · have z1 := i2.resolve_left z
      have hb : bitB x i = true := decide_eq_true z1
      obtain ⟨σ', b1, b2⟩ := ih (i + 1) A σ (by omega) hB
      refine ⟨σ', ?_, ?_⟩
      · rw [show fu + (d + 1) + 1 = (fu + d + 1) + 1 by omega, f_X4_keepOnly_b2, ex_bf a, ex_bf z, f_X4_keepOnly_b29, nI_1]
        exact b1
      · have e : (fun j => A j && (decide (j < i + 1) || bitB x j)) = fun j => A j && (decide (j < i) || bitB x j) := funext fun j => by
          by_cases y : j = i
          · subst y; simp [hb]
          · by_cases w : j < i
            · simp [w, show j < i + 1 by omega]
            · simp [w, show ¬ j < i + 1 by omega]
        rw [e] at b2
        exact b2
theorem keep_eq {g n : Nat} {J : Nat → Int32} {r x : Int32} {σ : Sg} (hB : BgA g n (fun _ => true) J r σ) : ∃ σ', f_X4_keepOnly x σ = some ((), σ') ∧ BgA g n (bitB x) J r σ' := by
  obtain ⟨σ', b1, b2⟩ := keep_loop (fu := 8187) (x := x) 4 0 _ σ rfl hB
  refine ⟨σ', b1, ?_⟩
  have e : (fun j => true && (decide (j < 0) || bitB x j)) = bitB x := funext fun j => by simp
  rw [e] at b2
  exact b2
