-- ===== the line of a rule =====
theorem GN.of2 {g nj e z : Nat} {σ σ' τ τ' : Sg} (G : GN g nj e z σ τ) (hc : ∀ d b, d ≤ 2 → σ'.1 (g + d) b = σ.1 (g + d) b) (ht : ∀ b, 27 ≤ b → b ≤ 34 → ¬ b = 33 → τ'.1 56 b = τ.1 56 b) (h4 : ∀ b, τ'.1 64 b = τ.1 64 b) (h5 : ∀ b, τ'.1 65 b = τ.1 65 b) (h7 : ∀ b, τ'.1 67 b = τ.1 67 b) : GN g nj e z σ' τ' := by
  have c0 : ∀ b, σ'.1 g b = σ.1 g b := fun b => hc 0 b (by omega)
  have c1 : σ'.1 (g + 1) = σ.1 (g + 1) := funext (fun b => hc 1 b (by omega))
  have c2 : σ'.1 (g + 2) = σ.1 (g + 2) := funext (fun b => hc 2 b (by omega))
  have t5 : τ'.1 65 = τ.1 65 := funext h5
  have t7 : τ'.1 67 = τ.1 67 := funext h7
  unfold GN
  rw [c0, c0, c0, c0, c0, c0, c0, c0, c0, c0, c1, c2, t5, t7, h4, h4, h4, ht 27 (by omega) (by omega) (by omega), ht 28 (by omega) (by omega) (by omega), ht 29 (by omega) (by omega) (by omega), ht 30 (by omega) (by omega) (by omega), ht 31 (by omega) (by omega) (by omega), ht 32 (by omega) (by omega) (by omega), ht 34 (by omega) (by omega) (by omega)]
  exact G
theorem rule_rel {B : Nat → Nat} {n g nj e m a0 k0 u p : Nat} {σ τ : Sg} (hn : n ≤ 600) (hB : ∀ i, i < n → B i < 256) (hg : isGd g = true) (hp : p ≤ n) (N : LN B n g nj e 1 m a0 k0 u p σ τ) (ha : a0 ≤ p) (hk : k0 ≤ 2 * p + 8) (h : tK B n p = 256 ∧ tW B n p = 15) : LR B n g p (f_X8_tellRule σ) (f_X11_line τ) := by
  have kn := knownM hn hp N.1.2.1
  rw [if_pos ⟨h.1, by omega⟩, h.2] at kn
  have tk := tok_at (B := B) hp
  have t5 := tk.2.2.2.2.1 (by omega)
  obtain ⟨r1, r2, r3, r4, r5, r6, r7⟩ := N.2.2.1
  have l0 : f_X11_line τ = (br (nI m = 4) (cl (f_X11_wrong 2) (fun _ => f_X11_line_b232)) (f_X11_line_b232)) τ := by
    rw [f_X11_line, ex_cl kn, ex_bf (by decide), ex_bf (by decide), ex_bf (by decide), ex_bf (by decide), ex_bf (by decide), ex_bt (by decide), ex_dI, r3]
  rw [l0, f_X8_tellRule, ex_dR, N.1.2.2.1, ex_gd hg, ex_dI, r2]
  by_cases m4 : m < 4
  · rw [ex_bt ((nI_ltR (x := 4) (k := 4) rfl (by omega) (by omega)).mpr m4), ex_bf (fun q => by have := (nI_eqL (x := 4) (k := 4) rfl (by omega) (by omega)).mp q; omega), f_X11_line_b232, ex_cl (good1 N.1.2.2.2), ex_bf l1_0]
    obtain ⟨σ1, τ1, e1, e2, L1, o1, o2⟩ := next_rel hn hB hp N.1
    have t33 : τ1.1 56 33 = nI m := by rw [o2.2.2 _ _ (by omega)]; exact r3
    have t36 : τ1.1 56 36 = nI k0 := by rw [o2.2.2 _ _ (by omega)]; exact r5
    rw [ex_cl e1, ex_cl e2, ex_dI, t33, ex_dI, t36, ex_gd (inb_nI (show m < 4 by omega) (by omega)), ex_pI, nI_clamp (show m < 2 ^ 31 by omega), ex_dI, sI_ne (by omega), t33, ex_pI, nI_1]
    have cs : ∀ d b, d ≤ 6 → σ1.1 (g + d) b = σ.1 (g + d) b := fun d b hd => o1.2 _ _ (gd_ne hg hd (by omega))
    -- where the expression begins
    generalize hτ2 : sI (sI (sI (sI τ1 66 m (nI k0)) 56 33 (nI (m + 1))) 56 37 0) 56 38 0 = τ2
    have q2 : ∀ {a b : Nat}, ¬ (a = 66 ∧ b = m) → ¬ (a = 56 ∧ (b = 33 ∨ b = 37 ∨ b = 38)) → τ2.1 a b = τ1.1 a b := fun h1 h2 => by
      rw [← hτ2, sI_gt, if_neg (by omega), sI_gt, if_neg (by omega), sI_gt, if_neg (by omega), sI_gt, if_neg h1]
    have X1 : ExC B n g a0 σ1 (tE B n p) [] σ1 := ⟨L1.1, (cs 3 3 (by omega)).trans r4, trivial, FrC.rf⟩
    have Y2 : ExM B n k0 τ2 (tE B n p) [] [] [] τ2 := ⟨L1.2.1.of (fun b _ _ => q2 (by omega) (by omega)) (fun b => q2 (by omega) (by omega)) (by rw [← hτ2]; rfl), (q2 (by omega) (by omega)).trans L1.2.2.2, (q2 (by omega) (by omega)).trans t36, trivial, by rw [← hτ2, sI_nf (by omega), sI_eq]; rfl, trivial, by rw [← hτ2, sI_eq]; rfl, trivial, FrM.rf⟩
    obtain ⟨τ3, e3, Y3⟩ := Y2.deep (by decide)
    have hE := either_ok (a0 := a0) (k0 := k0) (σ0 := σ1) (τ0 := τ2) hn hB hg L1.2.2.1 5 0 rfl
    have ex : f_X11_expression (sI (sI τ1 66 m (nI k0)) 56 33 (nI (m + 1))) = stQ 8191 FU τ3 := by
      have gg : (sI (sI τ1 66 m (nI k0)) 56 33 (nI (m + 1))).1 56 16 = 0 := by rw [sI_nf (by omega), sI_ne (by omega)]; exact L1.2.2.2
      rw [f_X11_expression, ex_cl (good1 gg), ex_bf l1_0, ex_pI, ex_pI, hτ2, ex_cl e3]
      exact st_op1
    rcases hE σ1 τ3 (tE B n p) [] [] false [] 8191 FU tk.2.2.2.1 rfl ⟨by rw [List.length_nil]; omega, by rw [List.length_nil]; omega⟩ (Or.inl rfl) (fun _ => rfl) (by omega) (by show _ < 8192; omega) X1 Y3 with ⟨σ4, τ4, p2, E, Cm, P, b2, fe2, c1, c2, c3, c4, c5, X4, Y4, c6, c7, W4, c8, -, c9⟩ | ⟨σ4, τ4, c1, c2, c3⟩
    · rw [List.nil_append] at X4 c6
      rw [List.append_nil] at Y4 W4
      have c1' : f_X8_either 8 0 σ1 = some (1, σ4) := c1
      have w4 := W4.sum c4 hn
      have lE : E.length = Cm.length + P.length := by rw [← c6, List.length_append]
      have hP4 : ∀ q ∈ P, 1 ≤ q ∧ q ≤ 9 := fun q hq => ⟨(c7 q hq).1, (c7 q hq).2.1⟩
      have ho : f_X11_isOpened τ4 = some (0, τ4) := (opened_eq (P := P) (S := []) (by rw [List.append_nil]; exact Y4.nums.1) (by rw [List.append_nil]; exact Y4.2.2.2.2.2.1) hP4 (by rw [List.append_nil]; omega)).1 rfl
      obtain ⟨fe2, rfl⟩ : ∃ k, fe2 = k + 2 := ⟨fe2 - 2, by omega⟩
      have dp := Y4.2.2.2.2.2.2.1
      obtain ⟨τ5, e5, Y5⟩ := ExM.drops (lv := 0) (x := 0) (S := []) (by omega) rfl (Or.inl rfl) P Cm (8191 - P.length) τ4 (by rw [List.append_nil]; exact Y4) (fun q hq => ⟨(hP4 q hq).1, (hP4 q hq).2, Nat.zero_le _⟩) (by omega) (by rw [List.append_nil]; omega)
      rw [show 8191 - P.length + P.length + 1 = FU by rw [Nat.sub_add_cancel (by omega)]; rfl] at e5
      have e5 : f_X11_drops 0 τ4 = some ((), τ5) := e5
      rw [c6] at Y5
      have ml := mlen_le E
      obtain ⟨w1, w2⟩ := W4
      have pz := putsM (v := 0) Y5.2.2.1 (show k0 + mlen E < 1600 by omega)
      have em : f_X11_expression (sI (sI τ1 66 m (nI k0)) 56 33 (nI (m + 1))) = some ((), sI (sI τ5 68 (k0 + mlen E) 0) 56 36 (nI (k0 + mlen E + 1))) := by
        rw [ex, c2, ra_stop hn c4 (by decide) Y4 c9 (fun _ => ho), f_X11_expression_b325, ex_cl (good1 Y4.2.1), ex_bf l1_0, ex_dI, dp, ex_bt (show nI [b2].length ≤ 1 from (by decide : nI 1 ≤ 1)), f_X11_expression_b345, ex_cl e5, ex_cl pz, ex_rt]
      -- what the class has
      have fC := X4.2.2.2
      have hgr : σ4.2.2 14 1 = g := by rw [fC.1]; exact L1.2.2.1
      have s34 : σ4.1 (g + 3) 4 = nI m := by rw [fC.2 _ _ (gd_ne hg (by omega) (by omega)) (fun q => gd_ne hg (by omega) (by omega) q.1) (by omega) (by omega), cs 3 4 (by omega)]; exact r2
      have er : f_X6_endRule (g + 3) σ4 = some ((), sI (sI σ4 (g + 5) m (nI (a0 + E.length))) (g + 3) 4 (nI (m + 1))) := by
        rw [f_X6_endRule, ex_gd (isRu_g hg), ex_dI, s34, ex_bf (nI_pos (by omega)), ex_dI, s34, ex_bf (fun q => by have := (nI_leL (x := 4) (k := 4) rfl (by omega) (by omega)).mp q; omega), ex_dI, s34, ex_dI, X4.2.1, ex_gd (inb_nI (show m < 4 by omega) (by omega)), ex_pI, nI_clamp (show m < 2 ^ 31 by omega), ex_dI, sI_ne (by omega), s34, ex_pI, nI_1, ex_rt]
      rw [ex_cl c1', ex_bf l1_0, ex_dR, hgr, ex_gd hg, ex_cl er, ex_rt, ex_cl em]
      -- all of it
      generalize hσ5 : sI (sI σ4 (g + 5) m (nI (a0 + E.length))) (g + 3) 4 (nI (m + 1)) = σ5
      generalize hτ6 : sI (sI τ5 68 (k0 + mlen E) 0) 56 36 (nI (k0 + mlen E + 1)) = τ6
      have cc : ∀ {a b : Nat}, ¬ (a = g + 5 ∧ b = m) → ¬ (a = g + 3 ∧ b = 4) → σ5.1 a b = σ4.1 a b := fun h1 h2 => by rw [← hσ5, sI_gt, if_neg h2, sI_gt, if_neg h1]
      have ct : ∀ {a b : Nat}, ¬ (a = 68 ∧ b = k0 + mlen E) → ¬ (a = 56 ∧ b = 36) → τ6.1 a b = τ5.1 a b := fun h1 h2 => by rw [← hτ6, sI_gt, if_neg h2, sI_gt, if_neg h1]
      have g35 : ∀ d k, d ≤ 6 → k < 35 → ¬ k = g + d := fun d k h1 h2 q => gd_ne hg h1 h2 q.symm
      -- back to the line's beginning
      have bc : ∀ {a b : Nat}, ¬ a = 15 → ¬ a = 14 → ¬ (a = g + 5 ∧ b = m) → ¬ (a = g + 3 ∧ (b = 3 ∨ b = 4)) → ¬ (a = g + 4 ∧ a0 ≤ b) → σ5.1 a b = σ.1 a b := fun h1 h2 h3 h4 h5 => by
        rw [cc h3 (by omega), fC.2 _ _ h1 (by omega) (by omega) h5, o1.2 _ _ h1]
      have bt : ∀ {a b : Nat}, ¬ (a = 56 ∧ ((16 ≤ b ∧ b ≤ 26) ∨ b = 33 ∨ (36 ≤ b ∧ b ≤ 38))) → ¬ (a = 68 ∧ k0 ≤ b) → ¬ a = 69 → ¬ a = 70 → ¬ (a = 66 ∧ b = m) → τ6.1 a b = τ.1 a b := fun h1 h2 h3 h4 h5 => by
        rw [ct (by omega) (by omega), Y5.2.2.2.2.2.2.2.2 _ _ (by omega) h2 h3 h4, q2 h5 (by omega), o2.2.2 _ _ (by omega)]
      have g0 : ∀ d, d ≤ 6 → ¬ g + d = 15 ∧ ¬ g + d = 14 := fun d hd => ⟨gd_ne hg hd (by omega), gd_ne hg hd (by omega)⟩
      refine Or.inl ⟨σ5, τ6, nj, e, m + 1, a0 + E.length, k0 + mlen E + 1, u, p2, rfl, rfl, ⟨⟨?_, ?_, ?_, ?_⟩, ?_, ?_, ?_⟩, by omega, c4, by omega, by omega⟩
      · exact X4.1.of (fun b => cc (fun q => g35 5 15 (by omega) (by omega) q.1) (fun q => g35 3 15 (by omega) (by omega) q.1)) (by rw [← hσ5]; rfl) (fun b => cc (fun q => g35 5 1 (by omega) (by omega) q.1) (fun q => g35 3 1 (by omega) (by omega) q.1))
      · exact Y5.1.of (fun b _ _ => ct (by omega) (by omega)) (fun b => ct (by omega) (by omega)) (by rw [← hτ6]; rfl)
      · rw [← hσ5]; exact hgr
      · exact (ct (by omega) (by omega)).trans Y5.2.1
      · exact N.2.1.of2 (fun d b hd => bc (g0 d (by omega)).1 (g0 d (by omega)).2 (by omega) (by omega) (by omega)) (fun b b1 b2 b3 => bt (by omega) (by omega) (by omega) (by omega) (by omega)) (fun b => bt (by omega) (by omega) (by omega) (by omega) (by omega)) (fun b => bt (by omega) (by omega) (by omega) (by omega) (by omega)) (fun b => bt (by omega) (by omega) (by omega) (by omega) (by omega))
      · have s5m : σ5.1 (g + 5) m = nI (a0 + E.length) := by rw [← hσ5, sI_ne (by omega), sI_eq]
        refine ⟨by omega, by rw [← hσ5, sI_eq], ?_, ?_, by rw [← hτ6, sI_eq], by rw [if_neg (by omega), Nat.add_sub_cancel]; exact s5m, fun r hr => ?_⟩
        · rw [ct (by omega) (by omega), Y5.2.2.2.2.2.2.2.2 _ _ (by omega) (by omega) (by omega) (by omega), ← hτ2, sI_nf (by omega), sI_nf (by omega), sI_eq]
        · exact (cc (by omega) (by omega)).trans X4.2.1
        · by_cases y : r = m
          · subst y
            refine ⟨a0, k0, E, ?_, s5m, Nat.le_refl _, ?_, ?_, by omega, by omega, ?_, ?_⟩
            · by_cases z : r = 0
              · rw [if_pos z] at r6 ⊢; exact r6
              · rw [if_neg z] at r6 ⊢
                rw [bc (g0 5 (by omega)).1 (g0 5 (by omega)).2 (by omega) (by omega) (by omega)]; exact r6
            · exact CC.lt E a0 (fun b _ _ => cc (by omega) (by omega)) X4.2.2.1
            · rw [ct (by omega) (by omega), Y5.2.2.2.2.2.2.2.2 _ _ (by omega) (by omega) (by omega) (by omega), ← hτ2, sI_ne (by omega), sI_ne (by omega), sI_ne (by omega), sI_eq]
            · exact MP.stop E k0 (MP.lt E k0 (fun b _ _ => ct (by omega) (by omega)) Y5.2.2.2.1) (by rw [← hτ6, sI_ne (by omega), sI_eq])
            · have := c8 0 [] (by omega) rfl
              rw [List.append_nil] at this
              exact this
          · obtain ⟨a, k, ts, b1, b2, b3, b4, b5, b6, b7, b8, b9⟩ := r7 r (by omega)
            refine ⟨a, k, ts, ?_, ?_, by omega, ?_, ?_, b6, by omega, ?_, b9⟩
            · by_cases z : r = 0
              · rw [if_pos z] at b1 ⊢; exact b1
              · rw [if_neg z] at b1 ⊢
                rw [bc (g0 5 (by omega)).1 (g0 5 (by omega)).2 (by omega) (by omega) (by omega)]; exact b1
            · rw [bc (g0 5 (by omega)).1 (g0 5 (by omega)).2 (by omega) (by omega) (by omega)]; exact b2
            · exact CC.lt ts a (fun b _ _ => bc (g0 4 (by omega)).1 (g0 4 (by omega)).2 (by omega) (by omega) (by omega)) b4
            · rw [bt (by omega) (by omega) (by omega) (by omega) (by omega)]; exact b5
            · exact MC.lt ts k (fun b _ _ => bt (by omega) (by omega) (by omega) (by omega) (by omega)) b8
      · obtain ⟨s0, s1, s2⟩ := N.2.2.2
        refine ⟨s0, ?_, ?_⟩
        · rw [cc (fun q => g35 5 14 (by omega) (by omega) q.1) (fun q => g35 3 14 (by omega) (by omega) q.1), fC.2 _ _ (by omega) (by omega) (fun q => g35 3 14 (by omega) (by omega) q.1) (fun q => g35 4 14 (by omega) (by omega) q.1), o1.2 _ _ (by omega)]; exact s1
        · rw [bt (by omega) (by omega) (by omega) (by omega) (by omega)]; exact s2
    · have c1' : f_X8_either 8 0 σ1 = some (0, σ4) := c1
      rw [ex_cl c1', ex_bt rfl, ex_rt, ex_cl (ex.trans c2)]
      exact Or.inr ⟨_, _, rfl, b292_bad c3.bad, c3⟩
  · have e4 : m = 4 := by omega
    subst e4
    have bd := Bd.fw N.1.1 N.1.2.1 l2_0
    rw [ex_bf (by decide), faC, ex_bt (by decide), ex_cl (wrong1 N.1.2.2.2), ← wrS, f_X11_line_b232, ex_cl (good0 bd.bad), ex_bt rfl, ex_rt]
    exact Or.inr ⟨_, _, rfl, rfl, bd⟩
