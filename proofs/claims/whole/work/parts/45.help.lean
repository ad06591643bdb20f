-- ===== the law's helpers: a call that may throw, caught =====
def clH {α β : Type} (f : Sg → Option ((α ⊕ Bool) × Sg)) (d : α → Sg → Option β) (dx : Bool → Sg → Option β) : Sg → Option β := fun σ => (f σ).bind (fun r => match r.1 with
  | .inl v => d v r.2
  | .inr b => dx b r.2)
def CtW {α : Type} (l : Launch) (y : MethodName) (cc : ByteArray) (nL : Nat) (ret : Option FieldType) (hh : List (Nat × Nat × Nat × Nat)) (h mc ms : Nat) (enc : α → Option Value) (vs : List Value) (f : Sg → Option (α × Sg)) : Prop := ∀ (E : En) (σ : Sg) (r : α × Sg), f σ = some r → Met l y (.codeWith y cc nL ret hh :: gT) (rmx h mc ms) (va_Pc (vs.map (cv E)) (WdE E σ)) (QcR E (A0 E) enc r) mc ms (A0 E)
theorem met_of_vx {l : Launch} {y : MethodName} {ws : List Cond} {rm : Room} {Pc : Array Value → State → Prop} {Qc : Array Value → State → Outcome → State → Prop} {mc ms : Nat} {free : Addr → Prop} (h : vx_Met l y ws rm Pc Qc (fun _ _ _ => False) mc ms free) : Met l y ws rm Pc Qc mc ms free := by
  intro p e ha hc hk s m args below hf happ hP hK
  obtain ⟨n, o, h1, h2, h3, h4⟩ := h p e ha hc hk s m args below hf happ hP hK
  refine ⟨n, o, h1, h2, h3, ?_⟩
  rcases h4 with h4 | ⟨q, -, E, ce, L, hx, -⟩
  · exact h4
  · exact hx.elim
theorem ctW_of {α : Type} {l : Launch} {y : MethodName} {own : String} {cc : ByteArray} {nL : Nat} {ret : Option FieldType} {hh : List (Nat × Nat × Nat × Nat)} {h mc ms : Nat} {enc : α → Option Value} {vs : List Value} {f : Sg → Option (α × Sg)} (hy : plainName y.cls = true) (ho : y.cls = own) (hn : (lg_sl vs).length ≤ nL) (body : ∀ Γ : Cx, cLn Γ = l → GG Γ own cc nL ret h 0 0 → (cC Γ).exceptionTable.toList = tableOf hh → (cR Γ).cells = mc ∧ (cR Γ).slots = ms → Rz Γ nL (Qm Γ enc mc ms) 0 0 0 (lv_args 0 vs) [] f) : CtW l y cc nL ret hh h mc ms enc vs f := by
  intro E σ r hf
  refine met_of_vx (vx_ofWH (hh := hh) (cc := cc) (maxL := nL) (ret := ret) hy rfl ?_)
  intro p e s m args below meth c s₁ B hml hv
  obtain ⟨rfl, hP, hK, hD, hSx⟩ := hv
  have hts := atoms_spec (ws := .codeWith y cc nL ret hh :: gT) B.pre
  have htb := vx_table (x := y) B (hts _ List.mem_cons_self)
  have G : GG (p, l, e, rmx h mc ms, s, m, (vs.map (cv E)).toArray, below, meth, c, E, A0 E) own cc nL ret h 0 0 := ⟨B.exec, B.bytes, hml, by rw [← ho]; exact findClass_of_methodNamed B.named, fun w hw => hts w (List.mem_cons_of_mem _ hw), hK, hD, hSx, B.notSynchronized, B.returns, Nat.le_refl _, Nat.le_refl _, Nat.zero_le _, Nat.zero_le _⟩
  have hl := lv_entry (vs.map (cv E)) (n := nL) (by rw [sl_len]; exact hn)
  rw [lg_entry_eq]
  generalize (lg_sl (vs.map (cv E)) ++ List.replicate (nL - (lg_sl (vs.map (cv E))).length) Slot.unset).toArray = ls at hl ⊢
  exact vx_ret (body _ rfl G htb ⟨rfl, rfl⟩ σ s.heap [] ls r hf hP va_S.rf (by rw [lvc_args]; exact hl))
/-- what a caught exception of kind b does: the row of the table that takes it, the rows ahead that don't, the store of it -/
def CAt (Γ : Cx) (own : String) (cc : ByteArray) (nL pc : Nat) (b : Bool) (lv lv' : List (Nat × Value)) (pcN : Nat) : Prop :=
  ∃ (pre : List ExceptionTableEntry) (x : ExceptionTableEntry) (suf : List ExceptionTableEntry) (j : Nat), (cC Γ).exceptionTable.toList = pre ++ x :: suf ∧ (∀ z ∈ pre, covers z pc = false ∨ (z.catchType ≠ 0 ∧ ∃ nm : String, Cond.classLink own z.catchType nm ∈ gT ∧ va_Nc (exN b) nm (cS Γ))) ∧ covers x pc = true ∧ x.catchType ≠ 0 ∧ Cond.classLink own x.catchType (exN b) ∈ gT ∧ j < nL ∧ (decode cc x.handlerPc = .ok (.astore j, 2) ∧ pcN = x.handlerPc + 2 ∨ ∃ z : Fin 4, (z : Nat) = j ∧ decode cc x.handlerPc = .ok (.astore_n z, 1) ∧ pcN = x.handlerPc + 1) ∧ lv.filter (fun q => !(q.1 == j) && !(q.1 + 1 == j && q.2.category == 2)) = lv'
section HelpRules
variable {ρ α : Type} {Γ : Cx} {own : String} {cc cc' : ByteArray} {nL nL' : Nat} {ret ret' : Option FieldType} {h h' k n k' n' pc idx i ci np mc ms : Nat} {Q : ρ → State → Prop} {lv : List (Nat × Value)} {st As stk : List Value} {y : MethodName} {enc : α → Option Value} {f : Sg → Option ((α ⊕ Bool) × Sg)} {d : α → Sg → Option ρ} {dx : Bool → Sg → Option ρ} {ks : List Nat}
theorem exN_cast {U : State} {A : Array Value} (h : Xw U) (b : Bool) : (Cond.castable (exN b) (exN b)).before A U = true := by
  cases b
  · exact va_any rfl (h.1 _ (List.mem_of_getElem? (l := xW) (i := 0) rfl))
  · exact va_any rfl (h.1 _ (List.mem_of_getElem? (l := xW) (i := 1) rfl))
theorem rz_callH (G : GG Γ own cc nL ret h k n) (C : CtX (cLn Γ) y cc' nL' ret' h' mc ms enc (.ref i :: As) f) (L : LkV own idx y cc' nL' ret' np) {C9 : String × u_T × Nat} (hq : shp[i]? = some (.inr (ci, ks))) (hc : vwCl[ci]? = some C9) (hC : C9.1 = y.cls) (hn : As.length = np) (hh : h' + 1 ≤ h) (hs : (st.map (fun v => v.category)).sum ≤ 8) (hd : decode cc pc = .ok (.invokevirtual idx, 3))
    (hst : stk = As.reverse ++ .ref i :: st) (hkn : k + mc = k' ∧ n + ms = n') (hR : k' ≤ (cR Γ).cells ∧ n' ≤ (cR Γ).slots) (K : ∀ v, Rz Γ nL Q k' n' (pc + 3) lv ((enc v).toList ++ st) (d v))
    (KX : ∀ b, (∀ σ, dx b σ = none) ∨ ∃ lv' pcN, CAt Γ own cc nL pc b lv lv' pcN ∧ Rz Γ nL Q k' n' pcN lv' [] (dx b)) : Rz Γ nL Q k n pc lv stk (clH f d dx) := by
  obtain ⟨rfl, rfl⟩ := hkn
  intro σ H locs ls r hr hP hS hl
  subst hst
  cases hf : f σ with
  | none => rw [clH, hf] at hr; cases hr
  | some r0 =>
    rw [clH, hf] at hr
    obtain ⟨g1, g2, g3, g4, g5, g6, g7, g8, g9, g10, g11, g12, g13, g14⟩ := id G
    obtain ⟨⟨l1, l2, l3, l4, l5⟩, l6, l7⟩ := L
    have hrecv := va_recv g6 hP hc (wd_at hq)
    rw [hC] at hrecv
    have run := vx_runV (e := cEv Γ) (below := cBe Γ) (meth := cMe Γ) (R := cR Γ) (H := H) (locs := locs) (cells := k) (slots := n) (rest := st.map (cv (cE Γ))) (g := F0 (cM Γ) pc ls ((As.reverse ++ .ref i :: st).map (cv (cE Γ)))) (Ts := gT) (own := own) (cc := cc) (nL := nL) (C := y.cls) (b := (cE Γ).1 i) (As := As.map (cv (cE Γ))) (n := np) (index := idx) (bytes := cc') (maxL := nL') (ret := ret') ⟨g1, g2, g3, g4, g5⟩ (C (cE Γ) σ r0 hf)
      ⟨callB_of np g5 (code_in l5) rfl rfl rfl (g5 _ l4) (g5 _ l1) l6 ⟨by show h' + 1 ≤ _; omega, by show 8 + (nL' + 11) + 40 * h' ≤ _; omega⟩, g5 _ l2, g5 _ l3⟩ ⟨blind_W, hrecv, fun U hU hW => ⟨rfl, WdE_at G hP hS hU hW⟩⟩ rfl (by rw [List.length_map]; exact hn) hl.1 (by show (As.reverse ++ .ref i :: st).map (cv (cE Γ)) = _; rw [List.map_append, List.map_reverse]; rfl) (lv_room (by rw [cat_map]; exact hs)) hd hR
    have hA : ∀ q, A0 (cE Γ) q → cA Γ q := A0_sub σ g7
    intro T hT X
    rcases run T hT X with ⟨v, st₀, t, T', L, h0, X', hL, e1, e2, ⟨v0, ev0, ev, hP1, hF⟩, go⟩ | ⟨q, st₀, t, T', L, Ex, ce, h0, X', hL, e1, e2, ⟨b, eb, eE, hP1, hF⟩, hce, hcv, hcl, go⟩
    · obtain ⟨k1, k2, k3⟩ := vx_keep h0 e1 hS (fun q _ => hA q) hA hL hF
      obtain ⟨a1, a2⟩ := r0
      dsimp only at ev0 hP1 hr ev
      subst ev0
      obtain ⟨t2, b1, b2⟩ := K v0 a2 T'.heap (locs ++ L) ls r hr (by rw [e1]; exact hP1) k3 hl T' rfl X'
      refine ⟨t2, go t2 ?_, b2⟩
      cases ev
      have e9 : ((enc v0).toList ++ st).map (cv (cE Γ)) = ((enc v0).map (cv (cE Γ))).toList ++ st.map (cv (cE Γ)) := by
        cases enc v0 <;> rfl
      rw [e9] at b1
      exact b1
    · obtain ⟨k1, k2, k3⟩ := vx_keep h0 e1 hS (fun q _ => hA q) hA hL hF
      obtain ⟨a1, a2⟩ := r0
      dsimp only at eb hP1 hr
      subst eb
      subst eE
      rcases KX b with hno | ⟨lv', pcN, ⟨pre, x, suf, j, c1, c2, c3, c4, c5, c6, c7, c8⟩, KB⟩
      · exact absurd (hr.symm.trans (hno a2)) (fun h => by cases h)
      · have kk : WX Γ T'.heap (locs ++ L) (k + mc) (n + ms) (Q r) (F0 (cM Γ) x.handlerPc ls [.ref q]) := by
          have fin : ∀ (lw : List (Nat × Value)) (ls' : Array Slot), lv_has ls' nL ((j, .ref q) :: lw) → lw = lvc (cE Γ) lv' → WX Γ T'.heap (locs ++ L) (k + mc) (n + ms) (Q r) (F0 (cM Γ) pcN ls' []) := by
            intro lw ls' hl' e
            subst e
            exact KB a2 T'.heap (locs ++ L) ls' r hr (by rw [e1]; exact hP1) k3 ⟨hl'.1, hl'.2.1, fun z hz => hl'.2.2 z (List.mem_cons_of_mem _ hz)⟩
          have hfl : (lvc (cE Γ) lv).filter (fun q => !(q.1 == j) && !(q.1 + 1 == j && q.2.category == 2)) = lvc (cE Γ) lv' := by
            rw [← c8]; exact lvc_filter lv (fun a b => !(a == j) && !(a + 1 == j && b == 2))
          rcases c7 with ⟨c7, e⟩ | ⟨z, ez, c7, e⟩
          · subst e
            exact lv_astore (lv' := (j, .ref q) :: lvc (cE Γ) lv') g1 g2 c7 hl c6 (by rw [hfl]) (fun ls' hl' => fin _ ls' hl' rfl)
          · subst e
            exact lv_astore_n (lv' := (j, .ref q) :: lvc (cE Γ) lv') g1 g2 c7 ez hl c6 (by rw [hfl]) (fun ls' hl' => fin _ ls' hl' rfl)
        have hw := vx_catch (p := cP Γ) (l := cLn Γ) (e := cEv Γ) (R := cR Γ) (below := cBe Γ) (meth := cMe Γ) (ls := ls) (rest := st.map (cv (cE Γ))) (pc := pc) (args := cAr Γ) g4 pre x suf c1 (fun z hz => by
          rcases c2 z hz with h9 | ⟨h9, nm, h10, h11⟩
          · exact Or.inl h9
          · exact Or.inr ⟨h9, nm, g5 _ h10, h11⟩) c3 c4 (g5 _ c5) (exN_cast g8.2.2.2.2.2.2 b) (by rw [e1]; exact hce) hcv hcl kk
        obtain ⟨t2, b1, b2⟩ := hw T' rfl X'
        exact ⟨t2, go.trans b1, b2⟩
theorem rz_iretH (G : GG Γ own cc nL (some .int) h k n) {v : Int32} (hk : k ≤ mc ∧ n ≤ ms) (hd : decode cc pc = .ok (.ireturn, 1)) : Rz Γ nL (Qm Γ encI mc ms) k n pc lv [.int v] (rt v) := by
  intro σ H locs ls r hr hP hS hl
  cases hr
  refine W.widen hk.1 hk.2 ?_
  exact W.iret G.1 G.2.1 G.2.2.2.2.2.2.2.2.2.1 (fun t ht hW => ⟨rfl, by rw [ht]; exact hP, hS.F ht⟩) hS.2.2 hd G.2.2.2.2.2.2.2.2.1
end HelpRules
