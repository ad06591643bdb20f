-- ===== a part: number, value, parenthesis =====
theorem cls_val : ∀ w, w < 8 → (-10 : Int32) - nI w = clsT (10 + w) := by decide +kernel
theorem cls_num (v : Nat) : clsT (20 + v) = nI v := by
  rw [clsT, if_neg (by omega)]
  congr 1; omega
theorem Wt.sum {a0 k0 p : Nat} {C S : List Nat} {n : Nat} (h : Wt a0 k0 p C S) (hp : p ≤ n) (hn : n ≤ 600) : S.length ≤ 600 ∧ k0 + mlen C + S.length ≤ 1208 ∧ a0 + C.length ≤ p ∧ k0 + mlen C ≤ 1208 := by
  have := mlen_le C
  obtain ⟨h1, h2⟩ := h
  omega
theorem fa_end {B : Nat → Nat} {n g a0 k0 p fe : Nat} {x : Int32} {σ0 τ0 σ τ : Sg} {C C' S : List Nat} {D : List Bool} (hn : n ≤ 600) (hp : p ≤ n) (W : Wt a0 k0 p C S) (hx : ¬ x = 0) (hf : 0 < fe) (X : ExC B n g a0 σ0 p C' σ) (Y : ExM B n k0 τ0 p C S D τ) : ∃ τ', f_X11_expression_b29 fe 1 (wrS x τ) = some ((), τ') ∧ Bd (faS x σ) τ' := by
  obtain ⟨k, rfl⟩ : ∃ k, fe = k + 1 := ⟨fe - 1, by omega⟩
  have w := W.sum hp hn
  exact wr_end hx Y.nums.1 Y.nums.2 (by omega) (by omega) (Bd.fw X.1 Y.1 hx)
/-- puts behind a fault -/
theorem bad_puts {x y : Int32} {t w fe : Nat} {σ τ : Sg} (hb : Bd σ τ) (h37 : τ.1 56 37 = nI w) (h36 : τ.1 56 36 = nI t) (hw : w ≤ 800) (ht : t + w < 1597) (hf : 0 < fe) : ∃ τ1 τ2 τ', f_X11_puts x τ = some ((), τ1) ∧ f_X11_puts y τ1 = some ((), τ2) ∧ f_X11_part_b91 τ2 = some ((), τ2) ∧ τ1.1 56 24 = τ.1 56 24 ∧ f_X11_expression_b29 fe 1 τ2 = some ((), τ') ∧ Bd σ τ' := by
  obtain ⟨k, rfl⟩ : ∃ k, fe = k + 1 := ⟨fe - 1, by omega⟩
  have e1 := putsM (v := x) h36 (show t < 1600 by omega)
  have e2 := putsM (v := y) (τ := sI (sI τ 68 t x) 56 36 (nI (t + 1))) (t := t + 1) sI_eq (by omega)
  generalize hτ2 : sI (sI (sI (sI τ 68 t x) 56 36 (nI (t + 1))) 68 (t + 1) y) 56 36 (nI (t + 1 + 1)) = τ2 at e2
  have h16 : τ2.1 56 16 = τ.1 56 16 := by rw [← hτ2, sI_nf (by omega), sI_ne (by omega), sI_nf (by omega), sI_ne (by omega)]
  have h17 : τ2.1 56 17 = τ.1 56 17 := by rw [← hτ2, sI_nf (by omega), sI_ne (by omega), sI_nf (by omega), sI_ne (by omega)]
  have h37' : τ2.1 56 37 = nI w := by rw [← hτ2, sI_nf (by omega), sI_ne (by omega), sI_nf (by omega), sI_ne (by omega)]; exact h37
  have h36' : τ2.1 56 36 = nI (t + 1 + 1) := by rw [← hτ2, sI_eq]
  have hb2 := hb.of h16 h17
  obtain ⟨τ', c1, c2, c3⟩ := bad_end (fe := k) hb2.bad h37' h36' hw (by omega)
  exact ⟨_, τ2, τ', e1, e2, by rw [f_X11_part_b91, ex_cl (good0 hb2.bad), ex_bt rfl, ex_rt], by rw [sI_nf (by omega), sI_ne (by omega)], c1, hb2.of c2 c3⟩
theorem part_ok {B : Nat → Nat} {n g a0 k0 a : Nat} {x2 : Int32} {σ0 τ0 : Sg} {kE kE' : Int32 → Sg → Option (Int32 × Sg)} (hn : n ≤ 600) (hB : ∀ i, i < n → B i < 256) (hg : isGd g = true) (hr : σ0.2.2 14 1 = g) (ha : a ≤ 5) (hE : a ≤ 4 → Cn B n g a0 k0 σ0 τ0 (a + 1) 1 (5 * (a + 1)) true stQ (kE (nI (a + 1)))) (h6 : a = 5 → ∀ σ, kE (nI 6) σ = (cl (f_X8_mayBeginPart) (fun r4 => br (r4 = 0) (f_X8_eitherB_b19 kE' 1) (f_X8_eitherB_b19 kE' 2))) σ) : Cn B n g a0 k0 σ0 τ0 a 7 (5 * a + 5) false (stP x2) (f_X8_part kE (nI a)) := by
  intro σ τ p C S b D fo fe hp hD W T _ hfo hfe X Y
  have K := X.1
  have L := Y.1
  have h0 := Y.2.1
  have tk := tok_at (B := B) hp
  have w := W.sum hp hn
  have gr : ∀ {p : Nat} {C : List Nat} {σ : Sg}, ExC B n g a0 σ0 p C σ → σ.2.2 14 1 = g := fun h => by rw [h.2.2.2.1]; exact hr
  obtain ⟨fo, rfl⟩ : ∃ k, fo = k + 1 := ⟨fo - 1, by omega⟩
  have fw7 : ∀ p' b', Fw B n 7 p' b' := fun p' b' => ⟨fun q => absurd q (by omega), fun q => absurd q (by omega), fun q => absurd q (by omega), fun q => absurd q (by omega), fun q => absurd q (by omega)⟩
  rw [f_X8_part, ex_dI]
  by_cases k7 : tK B n p = 257
  · -- a number
    have t5 := tk.2.2.2.2.1 (by omega)
    have v10 := tV_le k7
    rw [ex_bt ((K.kind (k := 257) (x := 257) rfl (by omega)).mpr k7)]
    by_cases v : tV B n p ≤ 9999
    · obtain ⟨σ1, e1, K1, h3, o1, o2⟩ := numC_ok (lo := 0) (hi := 9999) (x1 := 0) (x2 := 9999) hn hB hp K k7 rfl rfl (by omega) (by omega) v
      have X1 : ExC B n g a0 σ0 (tE B n p) C σ1 := by
        obtain ⟨_, c3, cC, cF⟩ := X
        have g3 := gd_ne (d := 3) (k := 15) hg (by omega) (by omega)
        have g4 := gd_ne (d := 4) (k := 15) hg (by omega) (by omega)
        have g3' := gd_ne (d := 3) (k := 14) hg (by omega) (by omega)
        have g4' := gd_ne (d := 4) (k := 14) hg (by omega) (by omega)
        exact ⟨K1, (o2 _ _ g3 (fun q => g3' q.1)).trans c3, CC.lt C a0 (fun b _ _ => o2 _ _ g4 (fun q => g4' q.1)) cC, cF.tr ⟨o1, fun c d q1 q2 q3 q4 => o2 c d q1 (fun q => q2 ⟨q.1, by omega, by omega⟩)⟩⟩
      obtain ⟨σ2, e2, X2⟩ := X1.add (q := 20 + tV B n p) hg (by omega)
      rw [cls_num] at e2
      obtain ⟨τ1, τ2, m1, m2, Y2⟩ := Y.put2 (q := 20 + tV B n p) (x := 1) (y := nI (tV B n p)) (by omega) (by omega) (fun q => absurd q (by omega)) (fun _ => ⟨rfl, by congr 1; omega⟩)
      obtain ⟨τ3, m3, Y3⟩ := Y2.goes hn hB hp
      have s4 : ¬ 4 < tE B n p - tS B n p := fun q => by have : tV B n p = 10000 := if_pos q; omega
      have v4 := L.2.2.2.2.2.2.1 k7 s4
      have v4' : τ1.1 56 24 = nI (tV B n p) := by
        have := putsM (v := 1) Y.2.2.1 (show k0 + mlen C < 1600 by omega)
        rw [m1] at this
        cases this
        rw [sI_nf (by omega), sI_ne (by omega)]; exact v4
      have pm : f_X11_part τ = some ((), τ3) := by
        rw [f_X11_part, ex_cl (good1 h0), ex_bf l1_0, ex_dI, ex_bt (L.sort.1.mpr k7), ex_dI, L.2.2.2.2.1, ex_bt ((nI_leR (x := 4) (k := 4) rfl (by omega) (by omega)).mpr (by omega)), f_X11_part_b29, ex_cl m1, ex_dI, v4', ex_cl m2, f_X11_part_b91, ex_cl (good1 Y2.2.1), ex_bf l1_0, ex_cl m3, ex_rt]
      refine Or.inl ⟨σ2, τ3, tE B n p, [20 + tV B n p], C ++ [20 + tV B n p], [], b, fe, ?_, stP_part L h0 (by omega) pm, by omega, by omega, by omega, X2, Y3, by rw [List.append_nil], fun q hq => absurd hq (List.not_mem_nil), ?_, Wf_one (by omega) (Or.inr ⟨by omega, by omega⟩), fun _ => rfl, fw7 _ _⟩
      · rw [ex_cl e1, ex_bf l1_0, ex_dR, gr X1, ex_gd hg, ex_dI, h3, ex_cl e2, ex_rt]
      · obtain ⟨w1, w2⟩ := W
        unfold Wt
        rw [List.nil_append, List.length_append, List.length_singleton]
        omega
    · have e1 := numC_2 (lo := 0) (hi := 9999) (x1 := 0) (x2 := 9999) K k7 rfl rfl (by omega) (by omega) (Or.inr (by omega))
      have s4 : 4 < tE B n p - tS B n p := by
        by_cases q : 4 < tE B n p - tS B n p
        · exact q
        · have := v10.2 q; omega
      have bd := Bd.fw K L l2_0
      obtain ⟨τ1, τ2, τ', m1, m2, m3, m4, m5, m6⟩ := bad_puts (x := 1) (y := (wrS 2 τ).1 56 24) (fe := fe) bd (w := S.length) (t := k0 + mlen C) (by rw [wrS, sI_nf (by omega), sI_nf (by omega)]; exact Y.nums.1) (by rw [wrS, sI_nf (by omega), sI_nf (by omega)]; exact Y.nums.2) (by omega) (by omega) (by omega)
      have pm : f_X11_part τ = some ((), τ2) := by
        rw [f_X11_part, ex_cl (good1 h0), ex_bf l1_0, ex_dI, ex_bt (L.sort.1.mpr k7), ex_dI, L.2.2.2.2.1, ex_bf (fun q => by have := (nI_leR (x := 4) (k := 4) rfl (by omega) (by omega)).mp q; omega), ex_cl (wrong1 h0), ← wrS, f_X11_part_b29, ex_cl m1, ex_dI, m4, ex_cl m2, m3]
      exact Or.inr ⟨_, τ', by rw [ex_cl e1, ex_bt rfl, ex_rt], (stP_part L h0 (by omega) pm).trans m5, m6⟩
  · rw [ex_bf (fun q => k7 ((K.kind (k := 257) (x := 257) rfl (by omega)).mp q)), ex_dI]
    by_cases k6 : tK B n p = 256
    · -- a word
      have t5 := tk.2.2.2.2.1 (by omega)
      rw [ex_bt ((K.kind (k := 256) (x := 256) rfl (by omega)).mpr k6), ex_cl (valTold hn hp K k6)]
      have kn := knownM hn hp L
      by_cases v : tW B n p ≤ 7
      · rw [if_pos v, ex_bf (fun q => neg1_ne (by omega) q), ex_dR, gr X, ex_gd hg, cls_val _ (by omega)]
        rw [if_pos ⟨k6, by omega⟩] at kn
        obtain ⟨σ1, e1, X1⟩ := X.add (q := 10 + tW B n p) hg (by omega)
        obtain ⟨σ2, e2, X2, -⟩ := X1.next hn hB hg hp
        obtain ⟨τ1, τ2, m1, m2, Y2⟩ := Y.put2 (q := 10 + tW B n p) (x := 2) (y := nI (tW B n p)) (by omega) (by omega) (fun _ => ⟨rfl, by congr 1; omega⟩) (fun q => absurd q (by omega))
        obtain ⟨τ3, m3, Y3⟩ := Y2.goes hn hB hp
        have pm : f_X11_part τ = some ((), τ3) := by
          rw [f_X11_part, ex_cl (good1 h0), ex_bf l1_0, ex_dI, ex_bf (fun q => k7 (L.sort.1.mp q)), ex_dI, ex_bt (L.sort.2.1.mpr k6), ex_cl kn, ex_bf (nI_pos (by omega)), ex_bt ((nI_leR (x := 7) (k := 7) rfl (by omega) (by omega)).mpr v), f_X11_part_b73, ex_cl m1, ex_cl m2, f_X11_part_b91, ex_cl (good1 Y2.2.1), ex_bf l1_0, ex_cl m3, ex_rt]
        refine Or.inl ⟨σ2, τ3, tE B n p, [10 + tW B n p], C ++ [10 + tW B n p], [], b, fe, ?_, stP_part L h0 (by omega) pm, by omega, by omega, by omega, X2, Y3, by rw [List.append_nil], fun q hq => absurd hq (List.not_mem_nil), ?_, Wf_one (by omega) (Or.inl ⟨by omega, by omega⟩), fun _ => rfl, fw7 _ _⟩
        · rw [ex_cl e1, ex_cl e2, ex_rt]
        · obtain ⟨w1, w2⟩ := W
          unfold Wt
          rw [List.nil_append, List.length_append, List.length_singleton]
          omega
      · rw [if_neg v, ex_bt rfl, faC]
        have bd := Bd.fw K L l3_0
        have fin : ∀ y : Int32, f_X11_part τ = f_X11_part_b68 y τ → CnG B n g a0 k0 σ0 τ0 7 (5 * a + 5) false p C S b D (some (0, faS 3 σ)) (stP x2 (fo + 1) fe τ) := by
          intro y hy
          obtain ⟨τ1, τ2, τ', m1, m2, m3, m4, m5, m6⟩ := bad_puts (x := 2) (y := y) (fe := fe) bd (w := S.length) (t := k0 + mlen C) (by rw [wrS, sI_nf (by omega), sI_nf (by omega)]; exact Y.nums.1) (by rw [wrS, sI_nf (by omega), sI_nf (by omega)]; exact Y.nums.2) (by omega) (by omega) (by omega)
          have pm : f_X11_part τ = some ((), τ2) := by
            rw [hy, f_X11_part_b68, ex_cl (wrong1 h0), ← wrS, f_X11_part_b73, ex_cl m1, ex_cl m2, m3]
          exact Or.inr ⟨_, τ', rfl, (stP_part L h0 (by omega) pm).trans m5, m6⟩
        by_cases u : tW B n p < 19
        · rw [if_pos ⟨k6, u⟩] at kn
          exact fin (nI (tW B n p)) (by rw [f_X11_part, ex_cl (good1 h0), ex_bf l1_0, ex_dI, ex_bf (fun q => k7 (L.sort.1.mp q)), ex_dI, ex_bt (L.sort.2.1.mpr k6), ex_cl kn, ex_bf (nI_pos (by omega)), ex_bf (fun q => v ((nI_leR (x := 7) (k := 7) rfl (by omega) (by omega)).mp q))])
        · rw [if_neg (fun q => u q.2)] at kn
          exact fin (-1) (by rw [f_X11_part, ex_cl (good1 h0), ex_bf l1_0, ex_dI, ex_bf (fun q => k7 (L.sort.1.mp q)), ex_dI, ex_bt (L.sort.2.1.mpr k6), ex_cl kn, ex_bt (by decide)])
    · rw [ex_bf (fun q => k6 ((K.kind (k := 256) (x := 256) rfl (by omega)).mp q))]
      by_cases k4 : tK B n p = 40
      · -- a parenthesis
        have t5 := tk.2.2.2.2.1 (by omega)
        obtain ⟨σ1, e1, X1, -⟩ := X.next hn hB hg hp
        obtain ⟨τ1, m1, Y1⟩ := Y.wait (q := 0) (x := 14) (by omega) rfl
        obtain ⟨τ2, m2, Y2⟩ := Y1.goes hn hB hp
        have pc : f_X8_pass 40 σ = some (1, σ1) := by rw [f_X8_pass, ex_dI, ex_bt ((K.kind (k := 40) (x := 40) rfl (by omega)).mpr k4), ex_cl e1, ex_rt]
        rw [ex_cl pc, ex_bf l1_0, nI_1]
        have W2 : Wt a0 k0 (tE B n p) C (0 :: S) := by
          obtain ⟨w1, w2⟩ := W
          unfold Wt
          rw [List.length_cons]
          omega
        by_cases a5 : a ≤ 4
        · obtain ⟨τ3, m3, Y3⟩ := Y2.deep (by rw [List.length_cons]; omega)
          have st : stP x2 (fo + 1) fe τ = stQ fo fe τ3 := by
            rw [stP, stQ, cl, cl]
            rw [f_X11_operand_b75, ex_cl (good1 h0), ex_bf l1_0, ex_cl (sgn_t (c := 40) (x := 40) L rfl (by omega) k4), ex_bf l1_0, f_X11_operand_b96, ex_bf l1_0, ex_cl m1, ex_cl m2, ex_cl m3]
          rw [st]
          rcases hE a5 σ1 τ3 (tE B n p) C (0 :: S) false (b :: D) fo fe (by omega) (by rw [List.length_cons, hD]) W2 (Or.inr (Or.inl ⟨S, rfl⟩)) (fun _ => rfl) (by omega) (by omega) X1 Y3 with ⟨σ4, τ4, p', E, Cm, P, b', fe', c1, c2, c3, c4, c5, X4, Y4, c6, c7, W4, c8, -, c9⟩ | ⟨σ4, τ4, c1, c2, c3⟩
          · rw [ex_cl c1, ex_bf l1_0, c2]
            have w4 := W4.sum c4 hn
            have hP4 : ∀ q ∈ P, 1 ≤ q ∧ q ≤ 9 := fun q hq => ⟨(c7 q hq).1, (c7 q hq).2.1⟩
            have l4 : (P ++ 0 :: S).length ≤ 800 := by omega
            have lP : P.length ≤ (P ++ 0 :: S).length := by rw [List.length_append]; omega
            by_cases z : tK B n p' = 41
            · have t4 := tok_at (B := B) c4
              have t5' := t4.2.2.2.2.1 (by omega)
              obtain ⟨σ5, e5, X5, -⟩ := X4.next hn hB hg c4
              obtain ⟨fe', rfl⟩ : ∃ k, fe' = k + 1 := ⟨fe' - 1, by omega⟩
              obtain ⟨τ5, m5, Y5⟩ := ra_close (fe := fe') hn hB c4 (by omega) Y4 z hP4 l4 (by omega)
              have pc' : f_X8_pass 41 σ4 = some (1, σ5) := by rw [f_X8_pass, ex_dI, ex_bt ((X4.1.kind (k := 41) (x := 41) rfl (by omega)).mpr z), ex_cl e5, ex_rt]
              rw [ex_cl pc', ex_bf l1_0, ex_rt, m5]
              refine Or.inl ⟨σ5, τ5, tE B n p', E, Cm ++ P, [], b, fe', rfl, rfl, by omega, by omega, by omega, X5, Y5, by rw [List.append_nil]; exact c6, fun q hq => absurd hq (List.not_mem_nil), ?_, fun d R hd h => c8 d R (by omega) h, fun _ => rfl, fw7 _ _⟩
              obtain ⟨w1, w2⟩ := W4
              rw [List.length_append, List.length_cons] at w1 w2
              unfold Wt
              rw [List.nil_append, List.length_append]
              omega
            · have pc' : f_X8_pass 41 σ4 = some (0, faS 1 σ4) := by rw [f_X8_pass, ex_dI, ex_bf (fun q => z ((X4.1.kind (k := 41) (x := 41) rfl (by omega)).mp q)), faC]
              rw [ex_cl pc', ex_bt rfl, ex_rt]
              obtain ⟨fe', rfl⟩ : ∃ k, fe' = k + 2 := ⟨fe' - 2, by omega⟩
              have dp := Y4.2.2.2.2.2.2.1
              rw [List.length_cons, List.length_cons] at dp
              have bd := Bd.fw X4.1 Y4.1 l1_0
              have n1 : (wrS 1 τ4).1 56 37 = nI (P ++ 0 :: S).length := by rw [wrS, sI_nf (by omega), sI_nf (by omega)]; exact Y4.nums.1
              have n2 : (wrS 1 τ4).1 56 36 = nI (k0 + mlen Cm) := by rw [wrS, sI_nf (by omega), sI_nf (by omega)]; exact Y4.nums.2
              obtain ⟨τ', d1, d2, d3⟩ := end_any n1 n2 l4 (by omega)
              refine Or.inr ⟨_, τ', rfl, ?_, bd.of d2 d3⟩
              rw [ra_stop hn c4 (by rw [List.length_cons]; omega) Y4 c9 (fun q => absurd q z), f_X11_expression_b325, ex_cl (good1 Y4.2.1), ex_bf l1_0, ex_dI, dp, ex_bf (fun q => by have := (nI_leR (x := 1) (k := 1) rfl (by omega) (by omega)).mp q; omega), ex_cl (wrong1 Y4.2.1), ← wrS]
              exact d1
          · rw [ex_cl c1, ex_bt rfl, ex_rt, c2]
            exact Or.inr ⟨_, _, rfl, rfl, c3⟩
        · have a5 : a = 5 := by omega
          subst a5
          have dp := Y2.2.2.2.2.2.2.1
          rw [List.length_cons, hD] at dp
          have e6 : f_X8_mayBeginPart σ1 = some (if tK B n (tE B n p) = 257 ∨ tK B n (tE B n p) = 256 ∨ tK B n (tE B n p) = 40 then 1 else 0, σ1) := by
            rw [f_X8_mayBeginPart, ex_dI]
            by_cases a1 : tK B n (tE B n p) = 257
            · rw [ex_bt ((X1.1.kind (k := 257) (x := 257) rfl (by omega)).mpr a1), f_X8_mayBeginPart_b38, ex_rt, if_pos (Or.inl a1)]
            rw [ex_bf (fun q => a1 ((X1.1.kind (k := 257) (x := 257) rfl (by omega)).mp q)), ex_dI]
            by_cases a2 : tK B n (tE B n p) = 256
            · rw [ex_bt ((X1.1.kind (k := 256) (x := 256) rfl (by omega)).mpr a2), f_X8_mayBeginPart_b38, ex_rt, if_pos (Or.inr (Or.inl a2))]
            rw [ex_bf (fun q => a2 ((X1.1.kind (k := 256) (x := 256) rfl (by omega)).mp q)), ex_dI]
            by_cases a3 : tK B n (tE B n p) = 40
            · rw [ex_bt ((X1.1.kind (k := 40) (x := 40) rfl (by omega)).mpr a3), f_X8_mayBeginPart_b38, ex_rt, if_pos (Or.inr (Or.inr a3))]
            rw [ex_bf (fun q => a3 ((X1.1.kind (k := 40) (x := 40) rfl (by omega)).mp q)), ex_rt, if_neg (fun q => q.elim a1 (fun q => q.elim a2 a3))]
          have w2 := W2.sum tk.2.2.2.1 hn
          have fin : ∀ x : Int32, ¬ x = 0 → f_X11_deeper τ2 = some ((), wrS x τ2) → CnG B n g a0 k0 σ0 τ0 7 (5 * 5 + 5) false p C S b D (some (0, faS x σ1)) (stP x2 (fo + 1) fe τ) := by
            intro x hx hd
            obtain ⟨τ', d1, d2⟩ := fa_end (fe := fe) hn tk.2.2.2.1 W2 hx (by omega) X1 Y2
            refine Or.inr ⟨_, τ', rfl, ?_, d2⟩
            have bb := good0 (wrS_bad (τ := τ2) hx)
            have e : f_X11_operand_b75 (f_X11_operand_b4 (fo + 1)) x2 τ = some ((), wrS x τ2) := by
              rw [f_X11_operand_b75, ex_cl (good1 h0), ex_bf l1_0, ex_cl (sgn_t (c := 40) (x := 40) L rfl (by omega) k4), ex_bf l1_0, f_X11_operand_b96, ex_bf l1_0, ex_cl m1, ex_cl m2, ex_cl hd, f_X11_operand_b4, ex_bf l1_0, ex_cl bb, ex_bt rfl, f_X11_operand_b120]
              have pp : f_X11_part (wrS x τ2) = some ((), wrS x τ2) := by rw [f_X11_part, ex_cl bb, ex_bt rfl, ex_rt]
              rw [ex_cl pp, ex_rt]
            rw [stP, ex_cl e]
            exact d1
          have dm : f_X11_deeper τ2 = (dI 56 21 (fun v3 => br (v3 = 2) (f_X11_deeper_b56) (dI 56 21 (fun v5 => br (v5 = 1) (f_X11_deeper_b56) (cl (f_X11_isSign 40) (fun r7 => br (r7 = 0) (f_X11_deeper_b61 1) (f_X11_deeper_b56))))))) τ2 := by
            rw [f_X11_deeper, ex_dI, dp, ex_bt (by decide)]
          have db : ∀ x : Int32, f_X11_deeper_b61 x τ2 = some ((), wrS x τ2) := fun x => by rw [f_X11_deeper_b61, ex_cl (wrong1 Y2.2.1), ← wrS, ex_rt]
          have db2 : f_X11_deeper_b56 τ2 = some ((), wrS 2 τ2) := db 2
          have k6' : kE (nI (5 + 1)) σ1 = (cl (f_X8_mayBeginPart) (fun r4 => br (r4 = 0) (f_X8_eitherB_b19 kE' 1) (f_X8_eitherB_b19 kE' 2))) σ1 := h6 rfl σ1
          by_cases a1 : tK B n (tE B n p) = 257
          · have kr : kE (nI (5 + 1)) σ1 = some (0, faS 2 σ1) := by rw [k6', ex_cl e6, if_pos (Or.inl a1), ex_bf l1_0, f_X8_eitherB_b19, faC]
            rw [ex_cl kr, ex_bt rfl, ex_rt]
            exact fin 2 l2_0 (by rw [dm, ex_dI, ex_bt (Y2.1.sort.1.mpr a1), db2])
          by_cases a2 : tK B n (tE B n p) = 256
          · have kr : kE (nI (5 + 1)) σ1 = some (0, faS 2 σ1) := by rw [k6', ex_cl e6, if_pos (Or.inr (Or.inl a2)), ex_bf l1_0, f_X8_eitherB_b19, faC]
            rw [ex_cl kr, ex_bt rfl, ex_rt]
            exact fin 2 l2_0 (by rw [dm, ex_dI, ex_bf (fun q => a1 (Y2.1.sort.1.mp q)), ex_dI, ex_bt (Y2.1.sort.2.1.mpr a2), db2])
          by_cases a3 : tK B n (tE B n p) = 40
          · have kr : kE (nI (5 + 1)) σ1 = some (0, faS 2 σ1) := by rw [k6', ex_cl e6, if_pos (Or.inr (Or.inr a3)), ex_bf l1_0, f_X8_eitherB_b19, faC]
            rw [ex_cl kr, ex_bt rfl, ex_rt]
            exact fin 2 l2_0 (by rw [dm, ex_dI, ex_bf (fun q => a1 (Y2.1.sort.1.mp q)), ex_dI, ex_bf (fun q => a2 (Y2.1.sort.2.1.mp q)), ex_cl (sgn_t (c := 40) (x := 40) Y2.1 rfl (by omega) a3), ex_bf l1_0, db2])
          · have kr : kE (nI (5 + 1)) σ1 = some (0, faS 1 σ1) := by rw [k6', ex_cl e6, if_neg (fun q => q.elim a1 (fun q => q.elim a2 a3)), ex_bt rfl, f_X8_eitherB_b19, faC]
            rw [ex_cl kr, ex_bt rfl, ex_rt]
            exact fin 1 l1_0 (by rw [dm, ex_dI, ex_bf (fun q => a1 (Y2.1.sort.1.mp q)), ex_dI, ex_bf (fun q => a2 (Y2.1.sort.2.1.mp q)), ex_cl (sgn_f (c := 40) (x := 40) Y2.1 rfl (by omega) a3), ex_bt rfl, db])
      · -- neither
        have pc : f_X8_pass 40 σ = some (0, faS 1 σ) := by rw [f_X8_pass, ex_dI, ex_bf (fun q => k4 ((K.kind (k := 40) (x := 40) rfl (by omega)).mp q)), faC]
        rw [ex_cl pc, ex_bt rfl, ex_rt]
        obtain ⟨τ', d1, d2⟩ := fa_end (fe := fe) hn hp W l1_0 (by omega) X Y
        have pm : f_X11_part τ = some ((), wrS 1 τ) := by
          rw [f_X11_part, ex_cl (good1 h0), ex_bf l1_0, ex_dI, ex_bf (fun q => k7 (L.sort.1.mp q)), ex_dI, ex_bf (fun q => k6 (L.sort.2.1.mp q)), ex_cl (wrong1 h0), ← wrS, f_X11_part_b91, ex_cl (good0 (wrS_bad l1_0)), ex_bt rfl, ex_rt]
        exact Or.inr ⟨_, τ', rfl, (stP_part L h0 k4 pm).trans d1, d2⟩
