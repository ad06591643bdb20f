-- ===== the reference's reader goes on; its words =====
theorem goesM {B : Nat → Nat} {n p : Nat} {τ : Sg} (hn : n ≤ 600) (hB : ∀ i, i < n → B i < 256) (hp : p ≤ n) (T : TxM B n τ) (h20 : τ.1 56 20 = nI p) : ∃ τ', f_X11_goes τ = some ((), τ') ∧ TkM B n p τ' ∧ off gs_mtok τ τ' := by
  suffices h : ∃ τ', f_X11_goes τ = some ((), τ') ∧ TkM B n p τ' by
    obtain ⟨τ', a, b⟩ := h
    exact ⟨τ', a, b, fr_X11_goes τ _ a⟩
  obtain ⟨τ0, e0, T0, h0⟩ := blanksM hn hB (n - p) p (8191 - (n - p)) τ (by omega) T h20
  rw [show 8191 - (n - p) + (n - p) + 1 = FU by rw [Nat.sub_add_cancel (by omega)]; rfl] at e0
  have h0 : τ0.1 56 20 = nI (tS B n p) := h0
  have tk := tok_at (B := B) hp
  obtain ⟨τ1, hτ1⟩ : ∃ τ1, τ1 = sI (sL (sI τ0 56 22 (nI (tS B n p))) 56 26 0) 56 24 0 := ⟨_, rfl⟩
  have T1 : TxM B n τ1 := by rw [hτ1]; exact TxM.sI (TxM.of (T0.sI _ (by omega)) rfl (fun b => rfl)) _ (by omega)
  have a20 : τ1.1 56 20 = nI (tS B n p) := by
    rw [hτ1, sI_nf (by omega)]
    show (sI τ0 56 22 (nI (tS B n p))).1 56 20 = _
    rw [sI_nf (by omega)]; exact h0
  have a22 : τ1.1 56 22 = nI (tS B n p) := by
    rw [hτ1, sI_nf (by omega)]
    show (sI τ0 56 22 (nI (tS B n p))).1 56 22 = _
    rw [sI_eq]
  have a24 : τ1.1 56 24 = nI 0 := by rw [hτ1, sI_eq]; rfl
  have a26 : τ1.2.1 56 26 = zL 0 := by
    rw [hτ1]
    show (sL (sI τ0 56 22 (nI (tS B n p))) 56 26 0).2.1 56 26 = _
    rw [sL_at, if_pos ⟨rfl, rfl⟩]; rfl
  rw [f_X11_goes, e0, f_X11_goes_b50, ex_dI, h0, ex_pI, ex_pL, ex_pI, ← hτ1, ex_dI, a20]
  by_cases z : n ≤ tS B n p
  · have eK : tK B n p = 258 := if_pos z
    have eE : tE B n p = n := if_pos z
    have sn : tS B n p = n := by omega
    rw [ex_cl (byteM_n hn T1 z (by omega)), ex_pI, ex_dI, sI_nf (by omega), a20, ex_dI, sI_nf (by omega), T1.1, ex_bf (nI_nlt z (by omega)), ex_pI, f_X11_goes_b331, ex_dI, sI_nf (by omega), sI_nf (by omega), a20, ex_dI, sI_nf (by omega), sI_nf (by omega), a22, ex_pI, ex_rt]
    refine ⟨_, rfl, ((T1.sI _ (by omega)).sI _ (by omega)).sI _ (by omega), ?_, ?_, ?_, ?_, fun q => absurd q (by omega), fun q => absurd q (by omega), fun q => absurd q (by omega)⟩
    · rw [sI_nf (by omega), sI_nf (by omega), sI_nf (by omega), a20, eE, sn]
    · rw [sI_nf (by omega), sI_nf (by omega), sI_nf (by omega), a22]
    · rw [sI_nf (by omega), sI_eq, eK]; rfl
    · rw [sI_eq, nI_sub (Nat.le_refl _), eE, sn]
  · have hb := hB (tS B n p) (by omega)
    obtain ⟨τ2, hτ2⟩ : ∃ τ2, τ2 = sI τ1 56 25 (nI (B (tS B n p))) := ⟨_, rfl⟩
    have T2 : TxM B n τ2 := by rw [hτ2]; exact T1.sI _ (by omega)
    have b20 : τ2.1 56 20 = nI (tS B n p) := by rw [hτ2, sI_nf (by omega)]; exact a20
    have b22 : τ2.1 56 22 = nI (tS B n p) := by rw [hτ2, sI_nf (by omega)]; exact a22
    have b24 : τ2.1 56 24 = nI 0 := by rw [hτ2, sI_nf (by omega)]; exact a24
    have b25 : τ2.1 56 25 = nI (B (tS B n p)) := by rw [hτ2, sI_eq]
    have b26 : τ2.2.1 56 26 = zL 0 := by rw [hτ2]; exact a26
    rw [ex_cl (byteM hn T1 (show tS B n p < n by omega)), ex_pI, ← hτ2, ex_dI, b20, ex_dI, T2.1, ex_bt ((nI_ltI (by omega) (by omega)).mpr (show tS B n p < n by omega)), ex_cl (letM hb)]
    by_cases y : 97 ≤ B (tS B n p) ∧ B (tS B n p) ≤ 122
    · have eE : tE B n p = ro B 97 122 (n - tS B n p) (tS B n p) := by unfold tE; rw [if_neg z, if_pos y]
      have eK : tK B n p = 256 := by unfold tK; rw [if_neg z, if_pos y]
      obtain ⟨τ3, c1, c2, c3, c4, c5⟩ := wordM hn hB (n - tS B n p) (tS B n p) (8191 - (n - tS B n p)) τ2 (by omega) (Nat.le_refl _) T2 b20 b22
      rw [show 8191 - (n - tS B n p) + (n - tS B n p) + 1 = FU by rw [Nat.sub_add_cancel (by omega)]; rfl] at c1
      rw [← eE] at c3 c5
      rw [if_pos y, ex_bf l1_0, c1, f_X11_goes_b172, ex_pI, f_X11_goes_b331, ex_dI, sI_nf (by omega), c3, ex_dI, sI_nf (by omega), c4, ex_pI, nI_sub tk.2.2.1, ex_rt]
      refine ⟨_, rfl, (c2.sI _ (by omega)).sI _ (by omega), ?_, ?_, ?_, sI_eq, fun q => absurd q (by omega), fun q => absurd q (by omega), fun _ q => ?_⟩
      · rw [sI_nf (by omega), sI_nf (by omega)]; exact c3
      · rw [sI_nf (by omega), sI_nf (by omega)]; exact c4
      · rw [sI_nf (by omega), sI_eq, eK]; rfl
      · show τ3.2.1 56 26 = _
        exact c5 0 (by rw [Nat.sub_self]; omega) b26 q
    · rw [if_neg y, ex_bt rfl, ex_cl (digM hb)]
      by_cases w : 48 ≤ B (tS B n p) ∧ B (tS B n p) ≤ 57
      · have eE : tE B n p = ro B 48 57 (n - tS B n p) (tS B n p) := by unfold tE; rw [if_neg z, if_neg y, if_pos w]
        have eK : tK B n p = 257 := by unfold tK; rw [if_neg z, if_neg y, if_pos w]
        obtain ⟨τ3, c1, c2, c3, c4, c5⟩ := numM hn hB (n - tS B n p) (tS B n p) (8191 - (n - tS B n p)) τ2 (by omega) (Nat.le_refl _) T2 b20 b22
        rw [show 8191 - (n - tS B n p) + (n - tS B n p) + 1 = FU by rw [Nat.sub_add_cancel (by omega)]; rfl] at c1
        rw [← eE] at c3 c5
        rw [if_pos w, ex_bf l1_0, c1, f_X11_goes_b250, ex_pI, f_X11_goes_b331, ex_dI, sI_nf (by omega), c3, ex_dI, sI_nf (by omega), c4, ex_pI, nI_sub tk.2.2.1, ex_rt]
        refine ⟨_, rfl, (c2.sI _ (by omega)).sI _ (by omega), ?_, ?_, ?_, sI_eq, fun q => absurd q (by omega), fun _ q => ?_, fun q => absurd q (by omega)⟩
        · rw [sI_nf (by omega), sI_nf (by omega)]; exact c3
        · rw [sI_nf (by omega), sI_nf (by omega)]; exact c4
        · rw [sI_nf (by omega), sI_eq, eK]; rfl
        · rw [sI_nf (by omega), sI_nf (by omega), c5 0 b24 (by omega), tV, if_neg q]
      · have eE : tE B n p = tS B n p + 1 := by unfold tE; rw [if_neg z, if_neg y, if_neg w]
        have eK : tK B n p = if sgn (B (tS B n p)) = true then B (tS B n p) else 259 := by unfold tK; rw [if_neg z, if_neg y, if_neg w]
        rw [if_neg w, ex_bt rfl, ex_dI, b20, ex_pI, nI_1]
        obtain ⟨τ3, hτ3⟩ : ∃ τ3, τ3 = sI τ2 56 20 (nI (tS B n p + 1)) := ⟨_, rfl⟩
        rw [← hτ3]
        have fin : ∀ so : Nat, srt (tK B n p) = so → ∃ τ', f_X11_goes_b328 (nI so) τ3 = some ((), τ') ∧ TkM B n p τ' := by
          intro so hs
          have c20 : τ3.1 56 20 = nI (tE B n p) := by rw [hτ3, sI_eq, eE]
          have c22 : τ3.1 56 22 = nI (tS B n p) := by rw [hτ3, sI_nf (by omega)]; exact b22
          have c25 : τ3.1 56 25 = nI (B (tS B n p)) := by rw [hτ3, sI_nf (by omega)]; exact b25
          have T3 : TxM B n τ3 := by rw [hτ3]; exact T2.sI _ (by omega)
          rw [f_X11_goes_b328, ex_pI, f_X11_goes_b331, ex_dI, sI_nf (by omega), c20, ex_dI, sI_nf (by omega), c22, ex_pI, nI_sub tk.2.2.1, ex_rt]
          refine ⟨_, rfl, (T3.sI _ (by omega)).sI _ (by omega), ?_, ?_, ?_, sI_eq, fun q => ?_, fun q => ?_, fun q => ?_⟩
          · rw [sI_nf (by omega), sI_nf (by omega)]; exact c20
          · rw [sI_nf (by omega), sI_nf (by omega)]; exact c22
          · rw [sI_nf (by omega), sI_eq, hs]
          · rw [sI_nf (by omega), sI_nf (by omega), c25]
            by_cases u : sgn (B (tS B n p)) = true
            · rw [eK, if_pos u]
            · rw [eK, if_neg u] at q; omega
          · by_cases u : sgn (B (tS B n p)) = true
            · rw [eK, if_pos u] at q; omega
            · rw [eK, if_neg u] at q; omega
          · by_cases u : sgn (B (tS B n p)) = true
            · rw [eK, if_pos u] at q; omega
            · rw [eK, if_neg u] at q; omega
        have cr : ∀ (k : Nat) (x : Int32), Int32.ofNat k = x → k < 2 ^ 31 → (nI (B (tS B n p)) = x ↔ B (tS B n p) = k) := fun k x hx hk => nI_eqL hx hk (by omega)
        by_cases u : sgn (B (tS B n p)) = true
        · obtain ⟨τ', f1, f2⟩ := fin 3 (by
            rw [eK, if_pos u]
            simp only [sgn, Bool.or_eq_true, beq_iff_eq] at u
            unfold srt
            rw [if_neg (by omega), if_neg (by omega), if_neg (by omega), if_neg (by omega)])
          refine ⟨τ', ?_, f2⟩
          simp only [sgn, Bool.or_eq_true, beq_iff_eq] at u
          have f1 : f_X11_goes_b323 τ3 = some ((), τ') := f1
          by_cases u1 : B (tS B n p) = 59
          · rw [ex_bt ((cr 59 59 rfl (by omega)).mpr u1)]; exact f1
          rw [ex_bf (fun q => u1 ((cr 59 59 rfl (by omega)).mp q))]
          by_cases u2 : B (tS B n p) = 40
          · rw [ex_bt ((cr 40 40 rfl (by omega)).mpr u2)]; exact f1
          rw [ex_bf (fun q => u2 ((cr 40 40 rfl (by omega)).mp q))]
          by_cases u3 : B (tS B n p) = 41
          · rw [ex_bt ((cr 41 41 rfl (by omega)).mpr u3)]; exact f1
          rw [ex_bf (fun q => u3 ((cr 41 41 rfl (by omega)).mp q))]
          by_cases u4 : B (tS B n p) = 43
          · rw [ex_bt ((cr 43 43 rfl (by omega)).mpr u4)]; exact f1
          rw [ex_bf (fun q => u4 ((cr 43 43 rfl (by omega)).mp q))]
          by_cases u5 : B (tS B n p) = 45
          · rw [ex_bt ((cr 45 45 rfl (by omega)).mpr u5)]; exact f1
          rw [ex_bf (fun q => u5 ((cr 45 45 rfl (by omega)).mp q))]
          by_cases u6 : B (tS B n p) = 42
          · rw [ex_bt ((cr 42 42 rfl (by omega)).mpr u6)]; exact f1
          rw [ex_bf (fun q => u6 ((cr 42 42 rfl (by omega)).mp q))]
          by_cases u7 : B (tS B n p) = 47
          · rw [ex_bt ((cr 47 47 rfl (by omega)).mpr u7)]; exact f1
          rw [ex_bf (fun q => u7 ((cr 47 47 rfl (by omega)).mp q))]
          by_cases u8 : B (tS B n p) = 60
          · rw [ex_bt ((cr 60 60 rfl (by omega)).mpr u8)]; exact f1
          rw [ex_bf (fun q => u8 ((cr 60 60 rfl (by omega)).mp q)), ex_bt ((cr 61 61 rfl (by omega)).mpr (by omega))]
          exact f1
        · obtain ⟨τ', f1, f2⟩ := fin 4 (by rw [eK, if_neg u]; rfl)
          refine ⟨τ', ?_, f2⟩
          have no : ∀ k, sgn k = true → ¬ B (tS B n p) = k := fun k hk q => u (by rw [q]; exact hk)
          rw [ex_bf (fun q => no 59 rfl ((cr 59 59 rfl (by omega)).mp q)), ex_bf (fun q => no 40 rfl ((cr 40 40 rfl (by omega)).mp q)), ex_bf (fun q => no 41 rfl ((cr 41 41 rfl (by omega)).mp q)), ex_bf (fun q => no 43 rfl ((cr 43 43 rfl (by omega)).mp q)), ex_bf (fun q => no 45 rfl ((cr 45 45 rfl (by omega)).mp q)), ex_bf (fun q => no 42 rfl ((cr 42 42 rfl (by omega)).mp q)), ex_bf (fun q => no 47 rfl ((cr 47 47 rfl (by omega)).mp q)), ex_bf (fun q => no 60 rfl ((cr 60 60 rfl (by omega)).mp q)), ex_bf (fun q => no 61 rfl ((cr 61 61 rfl (by omega)).mp q))]
          exact f1
theorem rng_mem {B : Nat → Nat} {lo hi : Nat} : ∀ d p, (∀ j, p ≤ j → j < p + d → lo ≤ B j ∧ B j ≤ hi) → ∀ c ∈ rng B d p, lo ≤ c ∧ c ≤ hi := by
  intro d
  induction d with
  | zero => intro p _ c hc; cases hc
  | succ d ih =>
    intro p h c hc
    rcases List.mem_cons.mp hc with rfl | hc
    · exact h p (Nat.le_refl _) (by omega)
    · exact ih (p + 1) (fun j a b => h j (by omega) (by omega)) c hc
theorem wds_let : ∀ w ∈ wds, w.length ≤ 8 ∧ ∀ c ∈ w, 97 ≤ c ∧ c ≤ 122 := by decide +kernel
theorem lettersM {τ : Sg} {k : Nat} (h : k < 19) : f_X11_letters (nI k) τ = some (zL (enL (wds.getD k []) 0), τ) := by
  rcases (by omega : k = 0 ∨ k = 1 ∨ k = 2 ∨ k = 3 ∨ k = 4 ∨ k = 5 ∨ k = 6 ∨ k = 7 ∨ k = 8 ∨ k = 9 ∨ k = 10 ∨ k = 11 ∨ k = 12 ∨ k = 13 ∨ k = 14 ∨ k = 15 ∨ k = 16 ∨ k = 17 ∨ k = 18) with rfl | rfl | rfl | rfl | rfl | rfl | rfl | rfl | rfl | rfl | rfl | rfl | rfl | rfl | rfl | rfl | rfl | rfl | rfl <;> rfl
theorem enL_lt : ∀ (l : List Nat) (a m : Nat), (∀ c ∈ l, c ≤ 122) → a < m → enL l a < m * 32 ^ l.length
  | [], _, _, _, h => by rw [List.length_nil, Nat.pow_zero, Nat.mul_one]; exact h
  | c :: r, a, m, hc, h => by
    have := hc c (List.mem_cons_self)
    rw [enL, List.length_cons, Nat.pow_succ, Nat.mul_comm (32 ^ r.length), ← Nat.mul_assoc]
    exact enL_lt r _ _ (fun x hx => hc x (List.mem_cons_of_mem _ hx)) (by omega)
theorem wds_at {k : Nat} (h : k < 19) : wds[k]? = some (wds.getD k []) := by
  rw [List.getD_eq_getElem?_getD, List.getElem?_eq_getElem (show k < wds.length from h)]; rfl
theorem knownM {B : Nat → Nat} {n p : Nat} {τ : Sg} (hn : n ≤ 600) (hp : p ≤ n) (K : TkM B n p τ) : f_X11_knownWord τ = some (if tK B n p = 256 ∧ tW B n p < 19 then nI (tW B n p) else -1, τ) := by
  obtain ⟨T, m20, m22, m21, m23, m25, m24, m26⟩ := K
  have kl := tK_lt (B := B) (n := n) (p := p)
  have tk := tok_at (B := B) hp
  rw [f_X11_knownWord, ex_dI, m21]
  by_cases z : tK B n p = 256
  · rw [ex_bt (by rw [z]; rfl), ex_dI, m23]
    have lr := rng_mem (B := B) (lo := 97) (hi := 122) (tE B n p - tS B n p) (tS B n p) (fun j a b => tok_let z j a (by omega))
    by_cases y : tE B n p - tS B n p ≤ 8
    · have h26 := m26 z y
      have lp : ∀ d k fu, k + d = 19 → (∀ j, j < k → ¬ tW B n p = j) → f_X11_knownWord_b21 (fu + d + 1) (nI k) τ = some (if tW B n p < 19 then nI (tW B n p) else -1, τ) := by
        intro d
        induction d with
        | zero =>
          intro k fu hk hj
          have : k = 19 := by omega
          subst this
          rw [f_X11_knownWord_b21, ex_bt (by decide), ex_rt, if_neg (fun q => hj _ q rfl)]
        | succ d ih =>
          intro k fu hk hj
          have nle : ¬ (19 : Int32) ≤ nI k := fun q => by have := (nI_leL (x := 19) (k := 19) rfl (by omega) (by omega)).mp q; omega
          have wl := wds_let _ (List.mem_of_getElem? (wds_at (show k < 19 by omega)))
          rw [show fu + (d + 1) + 1 = (fu + d + 1) + 1 by omega, f_X11_knownWord_b21, ex_bf nle, ex_cl (lettersM (show k < 19 by omega)), ex_dL, h26]
          have tw := tW_iff (B := B) (n := n) (p := p) (wds_at (show k < 19 by omega))
          by_cases x : tW B n p = k
          · rw [ex_bt ((lg_cmp_eq _ _).mpr (by rw [tw.mp x])), ex_rt, if_pos (by omega), x]
          · have ne : ¬ lg_cmp (zL (enL (wds.getD k []) 0)) (zL (enL (rng B (tE B n p - tS B n p) (tS B n p)) 0)) = 0 := fun q => by
              have q := (lg_cmp_eq _ _).mp q
              have b1 := enL_lt (wds.getD k []) 0 1 (fun c hc => (wl.2 c hc).2) (by omega)
              have b2 := enL_lt (rng B (tE B n p - tS B n p) (tS B n p)) 0 1 (fun c hc => (lr c hc).2) (by omega)
              rw [rng_len, Nat.one_mul] at b2
              rw [Nat.one_mul] at b1
              have p1 : 32 ^ (wds.getD k []).length ≤ 32 ^ 8 := Nat.pow_le_pow_right (by omega) wl.1
              have p2 : 32 ^ (tE B n p - tS B n p) ≤ 32 ^ 8 := Nat.pow_le_pow_right (by omega) y
              have := zL_inj (by omega) (by omega) q
              exact x (tw.mpr (enL_inj _ _ _ (Nat.le_refl _) lr wl.2 this.symm))
            rw [ex_bf ne, nI_1]
            exact ih (k + 1) fu (by omega) (fun j hj' => by
              by_cases v : j = k
              · rw [v]; exact x
              · exact hj j (by omega))
      have := lp 19 0 (8191 - 19) rfl (fun j hj => absurd hj (by omega))
      rw [ex_bt ((nI_leR (x := 8) (k := 8) rfl (by omega) (by omega)).mpr y)]
      refine Eq.trans this ?_
      by_cases x : tW B n p < 19
      · rw [if_pos x, if_pos ⟨z, x⟩]
      · rw [if_neg x, if_neg (fun q => x q.2)]
    · rw [ex_bf (fun q => y ((nI_leR (x := 8) (k := 8) rfl (by omega) (by omega)).mp q)), ex_rt, if_neg (fun q => ?_)]
      have wl := wds_let _ (List.mem_of_getElem? (wds_at q.2))
      have := (tW_iff (B := B) (n := n) (p := p) (wds_at q.2)).mp rfl
      have e := congrArg List.length this
      rw [rng_len] at e
      omega
  · have s1 : ¬ nI (srt (tK B n p)) = 1 := fun q => by
      have : srt (tK B n p) = 1 := (nI_eqL (x := 1) (k := 1) rfl (by omega) (by unfold srt; split <;> (try split) <;> (try split) <;> (try split) <;> omega)).mp q
      unfold srt at this
      by_cases a : tK B n p = 258
      · rw [if_pos a] at this; omega
      · rw [if_neg a, if_neg z] at this
        by_cases b : tK B n p = 257
        · rw [if_pos b] at this; omega
        · rw [if_neg b] at this
          by_cases c : tK B n p = 259
          · rw [if_pos c] at this; omega
          · rw [if_neg c] at this; omega
    rw [ex_bf s1, ex_rt, if_neg (fun q => z q.1)]
