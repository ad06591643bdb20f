-- ===== the class's reader goes on =====
theorem Oc.sI {c : Nat} {σ σ' : Sg} (h : Oc c σ σ') (k : Nat) (v : Int32) : Oc c σ (sI σ' c k v) := ⟨h.1, fun a b q => (sI_ne q).trans (h.2 a b q)⟩
theorem TxC.of {B : Nat → Nat} {n : Nat} {σ σ' : Sg} (T : TxC B n σ) (h1 : σ'.1 15 1 = σ.1 15 1) (h2 : σ'.2.2 15 0 = σ.2.2 15 0) (h3 : ∀ b, σ'.1 1 b = σ.1 1 b) : TxC B n σ' := ⟨h1.trans T.1, h2.trans T.2.1, fun i hi => (h3 i).trans (T.2.2 i hi)⟩
theorem nextC {B : Nat → Nat} {n p : Nat} {σ : Sg} (hn : n ≤ 600) (hB : ∀ i, i < n → B i < 256) (hp : p ≤ n) (T : TxC B n σ) (h2 : σ.1 15 2 = nI p) : ∃ σ', f_X5_next σ = some ((), σ') ∧ TkC B n p σ' ∧ Oc 15 σ σ' := by
  have bb : f_X5_behindBlanks σ = some (nI (tS B n p), σ) := by
    rw [f_X5_behindBlanks, ex_dI, h2]
    have := blanksC hn hB T (n - p) p (8191 - (n - p)) (by omega)
    rw [show 8191 - (n - p) + (n - p) + 1 = FU by rw [Nat.sub_add_cancel (by omega)]; rfl] at this
    exact this
  have tk := tok_at (B := B) hp
  obtain ⟨σ1, hσ1⟩ : ∃ σ1, σ1 = sI (sI σ 15 4 (nI (tS B n p))) 15 2 (nI (tS B n p)) := ⟨_, rfl⟩
  have a4 : σ1.1 15 4 = nI (tS B n p) := by rw [hσ1, sI_nf (by omega), sI_eq]
  have a1 : σ1.1 15 1 = σ.1 15 1 := by rw [hσ1, sI_nf (by omega), sI_nf (by omega)]
  have ao : Oc 15 σ σ1 := ⟨by rw [hσ1]; rfl, fun a b q => by rw [hσ1, sI_ne q, sI_ne q]⟩
  have T1 : TxC B n σ1 := T.of a1 (by rw [ao.1]) (fun b => ao.2 1 b (by omega))
  rw [f_X5_next, ex_cl bb, ex_pI, ex_dI, sI_eq, ex_pI, ← hσ1, ex_dI, a4, ex_bf (nI_pos (by omega)), ex_dI, a4, ex_dI, T1.1]
  have op : ∀ k v, Oc 15 σ (sI σ1 15 k v) := fun k v => ao.tr ⟨rfl, fun a b q => sI_ne q⟩
  by_cases z : n ≤ tS B n p
  · have eK : tK B n p = 258 := if_pos z
    have eE : tE B n p = n := if_pos z
    rw [ex_bt (nI_le z (by omega)), f_X5_next_b46, ex_pI, ex_rt]
    refine ⟨_, rfl, ⟨T1.of (sI_nf (by omega)) rfl (fun b => sI_ne (by omega)), by rw [sI_nf (by omega)]; exact a4, ?_, by rw [sI_eq, eK]; rfl, fun q => absurd q (by omega)⟩, op _ _⟩
    rw [sI_nf (by omega), hσ1, sI_eq, eE, show tS B n p = n by omega]
  · have i6 := inb_nI (show tS B n p < 600 by omega) (by omega)
    have l6 : nI (tS B n p) < 600 := (nI_ltR (x := 600) (k := 600) rfl (by omega) (by omega)).mpr (by omega)
    have hb := hB (tS B n p) (by omega)
    rw [ex_bf (nI_ge (by omega) (by omega)), ex_dI, a4, ex_dR, T1.2.1, ex_gd rfl, ex_bt l6, ex_dR, T1.2.1, ex_gd rfl, ex_dI, a4, ex_gd i6, ex_dI, nI_clamp (show tS B n p < 2 ^ 31 by omega), T1.2.2 _ (by omega), b_chr _ hb, ex_lt]
    have rown : ∀ (k : Int32) (lo hi : Nat) (x1 x2 : Int32), (∀ v, v < 256 → (byt v < x1 → ¬ (lo ≤ v ∧ v ≤ hi)) ∧ (¬ byt v < x1 → (byt v ≤ x2 ↔ (lo ≤ v ∧ v ≤ hi)))) → f_X5_behindRow x1 x2 (sI σ1 15 3 k) = some (nI (ro B lo hi (n - tS B n p) (tS B n p)), sI σ1 15 3 k) := fun k lo hi x1 x2 H => by
      rw [f_X5_behindRow, ex_dI, sI_nf (by omega), a4]
      have := rowC (σ := sI σ1 15 3 k) hn hB (T1.of (sI_nf (by omega)) rfl (fun b => sI_ne (by omega))) H (n - tS B n p) (tS B n p) (8191 - (n - tS B n p)) (by omega)
      rw [show 8191 - (n - tS B n p) + (n - tS B n p) + 1 = FU by rw [Nat.sub_add_cancel (by omega)]; rfl] at this
      exact this
    have oth : (¬ (97 ≤ B (tS B n p) ∧ B (tS B n p) ≤ 122)) → ∃ σ', f_X5_next_b103 (nI (B (tS B n p))) σ1 = some ((), σ') ∧ TkC B n p σ' ∧ Oc 15 σ σ' := by
      intro y
      have oth2 : (¬ (48 ≤ B (tS B n p) ∧ B (tS B n p) ≤ 57)) → ∃ σ', f_X5_next_b145 (nI (B (tS B n p))) σ1 = some ((), σ') ∧ TkC B n p σ' ∧ Oc 15 σ σ' := by
        intro w
        have eE : tE B n p = tS B n p + 1 := by unfold tE; rw [if_neg z, if_neg y, if_neg w]
        have eK : tK B n p = if sgn (B (tS B n p)) = true then B (tS B n p) else 259 := by unfold tK; rw [if_neg z, if_neg y, if_neg w]
        have sx : f_Sidx 1 (nI (B (tS B n p))) σ1 = some (ixF (nI (B (tS B n p))) (bytJS.getD 1 []) 0, σ1) := by rw [f_Sidx, ex_gd (by decide), ex_rt]
        have fin : ∀ kd : Nat, tK B n p = kd → ¬ kd = 257 → ∃ σ', f_X5_next_b162 (nI kd) σ1 = some ((), σ') ∧ TkC B n p σ' ∧ Oc 15 σ σ' := by
          intro kd hk h7
          rw [f_X5_next_b162, ex_pI, ex_dI, sI_nf (by omega), a4, ex_pI, nI_1, ex_rt]
          refine ⟨_, rfl, ⟨T1.of (by rw [sI_nf (by omega), sI_nf (by omega)]) rfl (fun b => by rw [sI_ne (by omega), sI_ne (by omega)]), by rw [sI_nf (by omega), sI_nf (by omega)]; exact a4, by rw [sI_eq, eE], by rw [sI_nf (by omega), sI_eq, hk], fun q => absurd q (by omega)⟩, (ao.sI _ _).sI _ _⟩
        rw [f_X5_next_b145, ex_cl sx]
        by_cases u : sgn (B (tS B n p)) = true
        · rw [ex_bf (fun q => (b_idx _ hb).mp q u)]
          rw [if_pos u] at eK
          exact fin _ eK (fun q => by omega)
        · rw [ex_bt ((b_idx _ hb).mpr u)]
          rw [if_neg u] at eK
          exact fin 259 eK (by omega)
      rw [f_X5_next_b103]
      by_cases w1 : B (tS B n p) < 48
      · rw [ex_bt ((nI_ltR (x := 48) (k := 48) rfl (by omega) (by omega)).mpr w1)]
        exact oth2 (by omega)
      · rw [ex_bf (fun q => w1 ((nI_ltR (x := 48) (k := 48) rfl (by omega) (by omega)).mp q))]
        by_cases w2 : 57 < B (tS B n p)
        · rw [ex_bt ((nI_ltL (x := 57) (k := 57) rfl (by omega) (by omega)).mpr w2)]
          exact oth2 (by omega)
        · have w : 48 ≤ B (tS B n p) ∧ B (tS B n p) ≤ 57 := ⟨by omega, by omega⟩
          have eE : tE B n p = ro B 48 57 (n - tS B n p) (tS B n p) := by unfold tE; rw [if_neg z, if_neg y, if_pos w]
          have eK : tK B n p = 257 := by unfold tK; rw [if_neg z, if_neg y, if_pos w]
          rw [ex_bf (fun q => w2 ((nI_ltL (x := 57) (k := 57) rfl (by omega) (by omega)).mp q)), ex_pI, ex_cl (rown 257 48 57 48 57 b_dig), ← eE, ex_pI]
          obtain ⟨σ2, hσ2⟩ : ∃ σ2, σ2 = sI (sI σ1 15 3 257) 15 2 (nI (tE B n p)) := ⟨_, rfl⟩
          have c4 : σ2.1 15 4 = nI (tS B n p) := by rw [hσ2, sI_nf (by omega), sI_nf (by omega)]; exact a4
          have c2 : σ2.1 15 2 = nI (tE B n p) := by rw [hσ2, sI_eq]
          have c3 : σ2.1 15 3 = 257 := by rw [hσ2, sI_nf (by omega), sI_eq]
          have co : Oc 15 σ σ2 := by rw [hσ2]; exact (ao.sI _ _).sI _ _
          have T2 : TxC B n σ2 := T1.of (by rw [hσ2, sI_nf (by omega), sI_nf (by omega)]) (by rw [hσ2]; rfl) (fun b => by rw [hσ2, sI_ne (by omega), sI_ne (by omega)])
          have vr : f_X5_valueOfRow σ2 = some (nI (tV B n p), σ2) := by
            rw [f_X5_valueOfRow, ex_dI, c2, ex_dI, c4, nI_sub tk.2.2.1]
            unfold tV
            by_cases u : 4 < tE B n p - tS B n p
            · rw [if_pos u, ex_bf (fun q => by have := (nI_leR (x := 4) (k := 4) rfl (by omega) (by omega)).mp q; omega), ex_rt]; rfl
            · rw [if_neg u, ex_bt ((nI_leR (x := 4) (k := 4) rfl (by omega) (by omega)).mpr (by omega)), ex_dI, c4]
              have := valC hn T2 tk.2.2.2.1 c2 (tE B n p - tS B n p) (tS B n p) (8191 - (tE B n p - tS B n p)) 0 (by omega) (tok_dig eK)
              rw [show 8191 - (tE B n p - tS B n p) + (tE B n p - tS B n p) + 1 = FU by rw [Nat.sub_add_cancel (by omega)]; rfl] at this
              exact this
          rw [← hσ2, ex_cl vr, ex_pI, ex_rt]
          refine ⟨_, rfl, ⟨T2.of (sI_nf (by omega)) rfl (fun b => sI_ne (by omega)), by rw [sI_nf (by omega)]; exact c4, by rw [sI_nf (by omega)]; exact c2, by rw [sI_nf (by omega), c3, eK]; rfl, fun _ => sI_eq⟩, co.sI _ _⟩
    by_cases w1 : B (tS B n p) < 97
    · rw [ex_bt ((nI_ltR (x := 97) (k := 97) rfl (by omega) (by omega)).mpr w1)]
      exact oth (by omega)
    · rw [ex_bf (fun q => w1 ((nI_ltR (x := 97) (k := 97) rfl (by omega) (by omega)).mp q))]
      by_cases w2 : 122 < B (tS B n p)
      · rw [ex_bt ((nI_ltL (x := 122) (k := 122) rfl (by omega) (by omega)).mpr w2)]
        exact oth (by omega)
      · have w : 97 ≤ B (tS B n p) ∧ B (tS B n p) ≤ 122 := ⟨by omega, by omega⟩
        have eE : tE B n p = ro B 97 122 (n - tS B n p) (tS B n p) := by unfold tE; rw [if_neg z, if_pos w]
        have eK : tK B n p = 256 := by unfold tK; rw [if_neg z, if_pos w]
        rw [ex_bf (fun q => w2 ((nI_ltL (x := 122) (k := 122) rfl (by omega) (by omega)).mp q)), ex_pI, ex_cl (rown 256 97 122 97 122 b_let), ← eE, ex_pI, ex_rt]
        refine ⟨_, rfl, ⟨T1.of (by rw [sI_nf (by omega), sI_nf (by omega)]) rfl (fun b => by rw [sI_ne (by omega), sI_ne (by omega)]), by rw [sI_nf (by omega), sI_nf (by omega)]; exact a4, sI_eq, by rw [sI_nf (by omega), sI_eq, eK]; rfl, fun q => absurd q (by omega)⟩, (ao.sI _ _).sI _ _⟩
theorem tK_lt {B : Nat → Nat} {n p : Nat} : tK B n p < 260 := by
  by_cases z : tK B n p < 260
  · exact z
  · exfalso
    unfold tK at z
    split at z
    · omega
    · split at z
      · omega
      · split at z
        · omega
        · split at z
          · rename_i u
            simp only [sgn, Bool.or_eq_true, beq_iff_eq] at u
            omega
          · omega
theorem rng_len {B : Nat → Nat} : ∀ d p, (rng B d p).length = d := by
  intro d
  induction d with
  | zero => intro p; rfl
  | succ d ih => intro p; rw [rng, List.length_cons, ih]
/-- a word, sign by sign -/
theorem wordC_loop {B : Nat → Nat} {n q s e : Nat} {w : List Nat} {σ : Sg} (hn : n ≤ 600) (T : TxC B n σ) (h4 : σ.1 15 4 = nI s) (he : e ≤ n) (hl : ∀ j, s ≤ j → j < e → 97 ≤ B j ∧ B j ≤ 122) (hq : q < 22) (hL : lenJS.getD q 0 = w.length) (hw : ∀ i, i < w.length → (bytJS.getD q []).getD i 0 &&& 255 = nI (w.getD i 0) ∧ w.getD i 0 < 128) (hs : s + w.length = e) : ∀ (d i fu : Nat), i + d = w.length → f_X5_isWord_b30 (fu + d + 1) q (nI i) σ = some (if rng B d (s + i) = w.drop i then 1 else 0, σ) := by
  obtain ⟨t1, t2, t3⟩ := T
  have sl : f_Slen q σ = some (nI w.length, σ) := by rw [f_Slen, ex_gd hq, hL, ex_rt]; rfl
  intro d
  induction d with
  | zero =>
    intro i fu hi
    have : i = w.length := by omega
    subst this
    rw [f_X5_isWord_b30, ex_gd hq, ex_cl sl, ex_bt (Int32.le_refl _), ex_rt, List.drop_length, rng, if_pos rfl]
  | succ d ih =>
    intro i fu hi
    obtain ⟨w1, w2⟩ := hw i (by omega)
    have hb := hl (s + i) (by omega) (by omega)
    have ge : ¬ nI w.length ≤ nI i := nI_ge (by omega) (by omega)
    have ci : f_SchAt q (nI i) σ = some (nI (w.getD i 0), σ) := by
      rw [f_SchAt, ex_gd hq, hL, ex_gd (inb_nI (by omega) (by omega)), nI_clamp (show i < 2 ^ 31 by omega), w1, ex_rt]
    have dr : w.drop i = w.getD i 0 :: w.drop (i + 1) := by
      rw [List.drop_eq_getElem_cons (by omega), List.getD_eq_getElem?_getD, List.getElem?_eq_getElem (by omega)]; rfl
    rw [show fu + (d + 1) + 1 = (fu + d + 1) + 1 by omega, f_X5_isWord_b30, ex_gd hq, ex_cl sl, ex_bf ge, ex_dI, h4, nI_add, ex_bf (nI_pos (by omega)), ex_dR, t2, ex_gd rfl, ex_bf (le600 (show s + i < n by omega) hn), ex_dR, t2, ex_gd rfl, ex_gd (inb_nI (show s + i < 600 by omega) (by omega)), ex_dI, nI_clamp (show s + i < 2 ^ 31 by omega), t3 (s + i) (by omega), byt_lo (by omega), ex_gd hq, ex_cl ci, dr, rng]
    by_cases z : B (s + i) = w.getD i 0
    · rw [ex_bt (by rw [z]), nI_1, ih (i + 1) fu (by omega), z, Nat.add_assoc]
      by_cases y : rng B d (s + (i + 1)) = w.drop (i + 1)
      · rw [if_pos y, if_pos (by rw [y])]
      · rw [if_neg y, if_neg (fun q => y (List.cons.inj q).2)]
    · rw [ex_bf (fun q => z (nI_inj (by omega) (by omega) q)), ex_rt, if_neg (fun q => z (List.cons.inj q).1)]
theorem isWordC {B : Nat → Nat} {n p q k : Nat} {w : List Nat} {σ : Sg} (hn : n ≤ 600) (hp : p ≤ n) (K : TkC B n p σ) (hk : wds[k]? = some w) (hq : q < 22) (hL : lenJS.getD q 0 = w.length) (hw : ∀ i, i < w.length → (bytJS.getD q []).getD i 0 &&& 255 = nI (w.getD i 0) ∧ w.getD i 0 < 128) (h8 : w.length ≤ 8) : f_X5_isWord q σ = some (if tK B n p = 256 ∧ tW B n p = k then 1 else 0, σ) := by
  obtain ⟨T, k4, k2, k3, k5⟩ := K
  obtain ⟨b1, b2, b3, b4, b5, b6⟩ := tok_at (B := B) hp
  have kb := tK_lt (B := B) (n := n) (p := p)
  rw [f_X5_isWord, ex_dI, k3]
  by_cases z : tK B n p = 256
  · have sl : f_Slen q σ = some (nI w.length, σ) := by rw [f_Slen, ex_gd hq, hL, ex_rt]; rfl
    rw [ex_bt (by rw [z]; rfl), ex_dI, k2, ex_dI, k4, ex_gd hq, ex_cl sl, nI_sub b3]
    have tw := tW_iff (B := B) (n := n) (p := p) hk
    by_cases y : tE B n p - tS B n p = w.length
    · have lp := wordC_loop (σ := σ) hn T k4 b4 (tok_let z) hq hL hw (by omega) w.length 0 (8191 - w.length) (by omega)
      rw [show 8191 - w.length + w.length + 1 = FU by rw [Nat.sub_add_cancel (by omega)]; rfl, Nat.add_zero, List.drop_zero] at lp
      rw [y] at tw
      rw [ex_bt (by rw [y])]
      refine Eq.trans lp ?_
      by_cases x : tW B n p = k
      · rw [if_pos (tw.mp x), if_pos ⟨z, x⟩]
      · rw [if_neg (fun q => x (tw.mpr q)), if_neg (fun q => x q.2)]
    · rw [ex_bf (fun q => y (nI_inj (by omega) (by omega) q)), ex_rt, if_neg (fun q => y (by have := congrArg List.length (tw.mp q.2); rw [rng_len] at this; exact this))]
  · rw [ex_bf (show ¬ nI (tK B n p) = 256 from fun q => z (nI_inj (by omega) (by omega) q)), ex_rt, if_neg (fun q => z q.1)]
