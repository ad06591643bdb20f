-- ===== the law: its script, its helpers =====
def SX (Γ : Cx) (L : Nat) (xs : Nat → Int32) : Prop := va_X ((cE Γ).1 999) L xs (cS Γ) (cS Γ).heap ∧ (cE Γ).1 999 < (cS Γ).heap.size ∧ ¬ cA Γ ((cE Γ).1 999)
def LkW (own : String) (idx : Nat) (y : MethodName) (cc : ByteArray) (nL : Nat) (ret : Option FieldType) (hh : List (Nat × Nat × Nat × Nat)) (np : Nat) : Prop := (Cond.methodLink own idx y ∈ gT ∧ Cond.static y ∈ gT ∧ Cond.initialized y.cls ∈ gT ∧ Cond.codeWith y cc nL ret hh ∈ gT) ∧ (y.cls ≠ "java/lang/invoke/MethodHandle" ∧ y.cls ≠ "java/lang/invoke/VarHandle" ∧ (parseMethodDescriptor y.desc).map (fun d => d.parameters.length) = some np) ∧ nL ≤ 21
abbrev lvL (i : Nat) : List (Nat × Value) := [(4, .int (nI i)), (3, .ref 95), (2, .ref 56), (1, .ref 0), (0, .ref 999)]
section LawRules
variable {ρ α : Type} {Γ : Cx} {own : String} {cc cc' : ByteArray} {nL nL' : Nat} {ret ret' : Option FieldType} {h h' k n k' n' pc idx np mc ms L i : Nat} {Q : ρ → State → Prop} {lv : List (Nat × Value)} {st As stk : List Value} {y : MethodName} {enc : α → Option Value} {f : Sg → Option (α × Sg)} {d : α → Sg → Option ρ} {d0 : Sg → Option ρ} {xs : Nat → Int32}
theorem GG.upL (G : GG Γ own cc nL ret h k n) (h1 : k' ≤ (cR Γ).cells) (h2 : n' ≤ (cR Γ).slots) : GG Γ own cc nL ret h k' n' := by
  obtain ⟨g1, g2, g3, g4, g5, g6, g7, g8, g9, g10, g11, g12, g13, g14⟩ := G
  exact ⟨g1, g2, g3, g4, g5, g6, g7, g8, g9, g10, g11, g12, h1, h2⟩
theorem rz_ranW (G : GG Γ own cc nL ret h k n) {σ : Sg} {H : Heap} {locs : List Loc} {ls : Array Slot} {r : ρ} {r0 : α × Sg} {st0 : List Value} {a9 : Array Value} (hS : va_S (cA Γ) (cS Γ).heap H locs) (hl : lv_has ls nL (lvc (cE Γ) lv)) (hr : d r0.1 r0.2 = some r)
    (run : va_Run (cP Γ) (cLn Γ) (cEv Γ) (cR Γ) (cS Γ) (cM Γ) (cAr Γ) (cBe Γ) (cMe Γ) (cC Γ) H locs k n mc ms (F0 (cM Γ) pc ls st0) (st.map (cv (cE Γ))) (QcR (cE Γ) (A0 (cE Γ)) enc r0 a9) (A0 (cE Γ)))
    (K : ∀ v, Rz Γ nL Q (k + mc) (n + ms) (pc + 3) lv ((enc v).toList ++ st) (d v)) : WX Γ H locs k n (Q r) (F0 (cM Γ) pc ls st0) := by
  intro T hT X
  obtain ⟨v, st₀, t, T', L, h0, X', hL, e1, e2, ⟨ev, hP1, hF⟩, go⟩ := run T hT X
  have hA : ∀ q, A0 (cE Γ) q → cA Γ q := A0_sub σ G.2.2.2.2.2.2.1
  obtain ⟨k1, k2, k3⟩ := vx_keep h0 e1 hS (fun q _ => hA q) hA hL hF
  obtain ⟨t2, a1, b1⟩ := K r0.1 r0.2 T'.heap (locs ++ L) ls r hr (by rw [e1]; exact hP1) k3 hl T' rfl X'
  refine ⟨t2, go t2 ?_, b1⟩
  cases ev
  have e9 : ((enc r0.1).toList ++ st).map (cv (cE Γ)) = ((enc r0.1).map (cv (cE Γ))).toList ++ st.map (cv (cE Γ)) := by
    cases enc r0.1 <;> rfl
  rw [e9] at a1
  exact a1
theorem rz_callSW {hh : List (Nat × Nat × Nat × Nat)} (G : GG Γ own cc nL ret h k n) (C : CtW (cLn Γ) y cc' nL' ret' hh h' mc ms enc As f) (L : LkW own idx y cc' nL' ret' hh np) (hn : As.length = np) (hf : h' + 1 ≤ h) (hs : (st.map (fun v => v.category)).sum ≤ 8) (hd : decode cc pc = .ok (.invokestatic idx, 3))
    (hst : stk = As.reverse ++ st) (hk : k + mc = k' ∧ n + ms = n') (hR : k' ≤ (cR Γ).cells ∧ n' ≤ (cR Γ).slots) (K : ∀ v, Rz Γ nL Q k' n' (pc + 3) lv ((enc v).toList ++ st) (d v)) : Rz Γ nL Q k n pc lv stk (cl f d) := by
  obtain ⟨rfl, rfl⟩ := hk
  intro σ H locs ls r hr hP hS hl
  subst hst
  cases hfs : f σ with
  | none => rw [cl, hfs] at hr; cases hr
  | some r0 =>
    rw [cl, hfs] at hr
    obtain ⟨g1, g2, g3, g4, g5, g6, g7, g8, g9, g10, g11, g12, g13, g14⟩ := id G
    obtain ⟨⟨l1, l2, l4, l5⟩, l6, l7⟩ := L
    have hw : GoodIn gT (va_wsS own idx y (.codeWith y cc' nL' ret' hh :: gT)) := gT_in (fun w hw => by
      unfold va_wsS at hw
      rcases List.mem_append.mp hw with q | q
      · simp only [List.mem_cons, List.not_mem_nil, or_false] at q
        rcases q with rfl | rfl | rfl
        · exact l1
        · exact l2
        · exact l4
      · rcases List.mem_cons.mp q with rfl | q
        · exact l5
        · exact q)
    refine rz_ranW G (a9 := (As.map (cv (cE Γ))).toArray) (σ := σ) hS hl hr ?_ K
    refine vx_runSW (Ts := gT) (own := own) (cc := cc) (nL := nL) (As := As.map (cv (cE Γ))) (n := np) (index := idx) (bytes := cc') (maxL := nL') (ret := ret') (hh := hh) ⟨g1, g2, g3, g4, g5⟩ (C (cE Γ) σ r0 hfs) (vx_cwSW np g5 hw rfl rfl rfl l6 ⟨?_, ?_⟩) ⟨blind_W, fun U hU hW => ⟨rfl, WdE_at G hP hS hU hW⟩⟩ rfl ?_ hl.1 ?_ ?_ hd hR
    · show h' + 1 ≤ _; omega
    · show 8 + (nL' + 11) + 40 * h' ≤ _; omega
    · rw [List.length_map]; exact hn
    · show (As.reverse ++ st).map (cv (cE Γ)) = _
      rw [List.map_append, List.map_reverse]
    · exact lv_room (by rw [cat_map]; exact hs)
theorem rz_sld (G : GG Γ own cc nL ret h k n) (X : SX Γ L xs) {j : Int32} (hin : vp_in j L) (hd : decode cc pc = .ok (.iaload, 1)) (K : Rz Γ nL Q k n (pc + 1) lv (.int (xs j.toNatClampNeg) :: st) d0) : Rz Γ nL Q k n pc lv (.int j :: .ref 999 :: st) d0 := by
  intro σ H locs ls r hr hP hS hl
  exact va_sld G.1 G.2.1 X.1 X.2.1 X.2.2 hS hin hd (K σ H locs ls r hr hP hS hl)
theorem rz_sclen (G : GG Γ own cc nL ret h k n) (X : SX Γ L xs) (hd : decode cc pc = .ok (.arraylength, 1)) (K : Rz Γ nL Q k n (pc + 1) lv (.int (nI L) :: st) d0) : Rz Γ nL Q k n pc lv (.ref 999 :: st) d0 := by
  intro σ H locs ls r hr hP hS hl
  exact va_slen G.1 G.2.1 X.1 X.2.1 X.2.2 hS hd (K σ H locs ls r hr hP hS hl)
theorem vp_nI {j L : Nat} (h : j < L) (hL : L < 2 ^ 31) : vp_in (nI j) L := inb_vp (inb_nI h hL)
/-- script[i + c] -/
theorem rz_arg (G : GG Γ own cc nL ret h k n) (X : SX Γ L xs) (hL : L ≤ 3584) (c : Nat) {z : Int} (hc : i + c < L) (hz : Int32.ofInt z = nI c) (j0 j4 : Nat) (h0 : lv[j0]? = some (0, .ref 999)) (h4 : lv[j4]? = some (4, .int (nI i))) (e1 : decode cc pc = .ok (.aload_n 0, 1)) (e2 : decode cc (pc + 1) = .ok (.iload 4, 2)) (e3 : decode cc (pc + 3) = .ok (.iconst z, 1)) (e4 : decode cc (pc + 4) = .ok (.iadd, 1)) (e5 : decode cc (pc + 5) = .ok (.iaload, 1)) (K : Rz Γ nL Q k n (pc + 6) lv (.int (xs (i + c)) :: st) d0) : Rz Γ nL Q k n pc lv st d0 := by
  refine rz_aload_n G j0 h0 rfl e1 ?_
  refine rz_iload G j4 h4 e2 ?_
  refine rz_iconst G (v := nI c) e3 hz ?_
  refine rz_iadd G e4 ?_
  rw [nI_add]
  refine rz_sld G X (vp_nI hc (by omega)) e5 ?_
  rw [nI_clamp (by omega)]
  exact K
theorem rz_argB (G : GG Γ own cc nL ret h k n) (X : SX Γ L xs) (hL : L ≤ 3584) (c : Nat) {z : Int} (hc : i + c < L) (hz : (Int8.ofInt z).toInt32 = nI c) (j0 j4 : Nat) (h0 : lv[j0]? = some (0, .ref 999)) (h4 : lv[j4]? = some (4, .int (nI i))) (e1 : decode cc pc = .ok (.aload_n 0, 1)) (e2 : decode cc (pc + 1) = .ok (.iload 4, 2)) (e3 : decode cc (pc + 3) = .ok (.bipush z, 2)) (e4 : decode cc (pc + 5) = .ok (.iadd, 1)) (e5 : decode cc (pc + 6) = .ok (.iaload, 1)) (K : Rz Γ nL Q k n (pc + 7) lv (.int (xs (i + c)) :: st) d0) : Rz Γ nL Q k n pc lv st d0 := by
  refine rz_aload_n G j0 h0 rfl e1 ?_
  refine rz_iload G j4 h4 e2 ?_
  refine rz_bipush G (v := nI c) e3 hz ?_
  refine rz_iadd G e4 ?_
  rw [nI_add]
  refine rz_sld G X (vp_nI hc (by omega)) e5 ?_
  rw [nI_clamp (by omega)]
  exact K
theorem rz_sub {d1 : Sg → Option ρ} (hd : ∀ σ r, d1 σ = some r → d0 σ = some r) (K : Rz Γ nL Q k n pc lv st d0) : Rz Γ nL Q k n pc lv st d1 := fun σ H locs ls r hr hP hS hl => K σ H locs ls r (hd σ r hr) hP hS hl
theorem rz_wid (h1 : k ≤ k') (h2 : n ≤ n') (K : Rz Γ nL Q k' n' pc lv st d0) : Rz Γ nL Q k n pc lv st d0 := fun σ H locs ls r hr hP hS hl => W.widen h1 h2 (K σ H locs ls r hr hP hS hl)
end LawRules
