-- ===== contracts, calls, ends =====
def rmh (h : Nat) : Room := { frames := h, cells := 0, slots := 0, locals := 40 * h }
def A0 (E : En) : Nat → Prop := fun q => ∃ i, i < shp.length ∧ q = E.1 i
def WdE (E : En) (σ : Sg) (U : State) : Prop := va_P E.2.1 vwCl (wd E σ) U.heap ∧ va_K E.2.1 vwCl (tyE E) U ∧ (∀ σ, va_D (A0 E) (wd E σ)) ∧ Sx E (A0 E) U U.heap
def QcR {α : Type} (E : En) (A : Nat → Prop) (enc : α → Option Value) (r : α × Sg) : Array Value → State → Outcome → State → Prop := fun _ st oc t => oc = .returned ((enc r.1).map (cv E)) ∧ va_P E.2.1 vwCl (wd E r.2) t.heap ∧ va_F A st t
def Qm {α : Type} (Γ : Cx) (enc : α → Option Value) (k n : Nat) (r : α × Sg) : State → Prop := MQ (cBe Γ) (QcR (cE Γ) (cA Γ) enc r) (cAr Γ) (cS Γ) k n (cA Γ)
/-- a method's contract: where its denotation answers, the method does the same -/
def Ct {α : Type} (l : Launch) (y : MethodName) (cc : ByteArray) (nL : Nat) (ret : Option FieldType) (h : Nat) (enc : α → Option Value) (vs : List Value) (f : Sg → Option (α × Sg)) : Prop := ∀ (E : En) (σ : Sg) (r : α × Sg), f σ = some r → Met l y (.code y cc nL ret :: gT) (rmh h) (va_Pc (vs.map (cv E)) (WdE E σ)) (QcR E (A0 E) enc r) 0 0 (A0 E)
def encI (v : Int32) : Option Value := some (.int v)
def encL (v : Int64) : Option Value := some (.long v)
def encR (v : Nat) : Option Value := some (.ref v)
def encV (_ : Unit) : Option Value := none
theorem lvc_args (E : En) : ∀ (vs : List Value) (i : Nat), lvc E (lv_args i vs) = lv_args i (vs.map (cv E))
  | [], _ => rfl
  | v :: vs, i => by
    show (i, cv E v) :: lvc E (lv_args (if v.category = 2 then i + 2 else i + 1) vs) = (i, cv E v) :: lv_args (if (cv E v).category = 2 then i + 2 else i + 1) (vs.map (cv E))
    rw [cv_cat, lvc_args E vs]
theorem sl_len (E : En) : ∀ (vs : List Value), (lg_sl (vs.map (cv E))).length = (lg_sl vs).length
  | [] => rfl
  | v :: vs => by
    have h := sl_len E vs
    have h1 : ∀ (w : Value) (ws : List Value), (lg_sl (w :: ws)).length = (if w.category = 2 then 2 else 1) + (lg_sl ws).length := by
      intro w ws
      show ((if w.category = 2 then [Slot.val w, .second] else [Slot.val w]) ++ lg_sl ws).length = _
      by_cases e : w.category = 2
      · rw [if_pos e, if_pos e, List.length_append]; rfl
      · rw [if_neg e, if_neg e, List.length_append]; rfl
    rw [List.map_cons, h1, h1, h, cv_cat]
theorem wd_addr {E : En} {σ : Sg} {j : Nat} {q : Nat × va_E} (h : (wd E σ)[j]? = some q) : j < shp.length ∧ q.1 = E.1 j := by
  have hl : j < shp.length := by
    have := (List.getElem?_eq_some_iff.mp h).1
    rw [wd, List.length_mapIdx] at this
    exact this
  refine ⟨hl, ?_⟩
  rw [wd_at (List.getElem?_eq_getElem hl)] at h
  cases h
  rfl
theorem wd_A0 {E : En} {A : Nat → Prop} (h : ∀ σ, va_D A (wd E σ)) : ∀ σ, va_D (A0 E) (wd E σ) := fun σ => (h σ).weaken (fun k q hk _ => ⟨k, (wd_addr hk).1, (wd_addr hk).2⟩)
theorem A0_sub {E : En} {A : Nat → Prop} (σ : Sg) (h : ∀ σ, va_D A (wd E σ)) : ∀ q, A0 E q → A q := by
  rintro q ⟨i, hi, rfl⟩
  exact (h σ).2 i _ (wd_at (List.getElem?_eq_getElem hi))
theorem blind_W {E : En} {σ : Sg} {av : List Value} : FrameBlind (va_Pc av (WdE E σ)) := by
  rintro a U g mk ⟨h0, h1, h2, h3, h4⟩
  exact ⟨h0, h1, va_K.moved (u := U) (U := U.calling g mk a) (Vm.Alike.refl U.vm) h2, h3, h4.same rfl rfl⟩
theorem WdE_at {Γ : Cx} {own : String} {cc : ByteArray} {nL : Nat} {ret : Option FieldType} {h k n : Nat} (G : GG Γ own cc nL ret h k n) {σ : Sg} {H : Heap} {locs : List Loc} (hP : va_P (cE Γ).2.1 vwCl (wd (cE Γ) σ) H) (hS : va_S (cA Γ) (cS Γ).heap H locs) {U : State} (hU : U.heap = H) (hW : (cS Γ).WarmedH U.vm) : WdE (cE Γ) σ U := by
  obtain ⟨g1, g2, g3, g4, g5, g6, g7, g8, -⟩ := G
  refine ⟨by rw [hU]; exact hP, va_K.moved hW.alike g6, wd_A0 g7, ?_⟩
  rw [hU]
  exact g8.go hW hS.2.1 (A0_sub σ g7)
theorem ct_of {α : Type} {l : Launch} {y : MethodName} {own : String} {cc : ByteArray} {nL : Nat} {ret : Option FieldType} {h : Nat} {enc : α → Option Value} {vs : List Value} {f : Sg → Option (α × Sg)} (hy : plainName y.cls = true) (ho : y.cls = own) (hn : (lg_sl vs).length ≤ nL) (body : ∀ Γ : Cx, cLn Γ = l → GG Γ own cc nL ret h 0 0 → Rz Γ nL (Qm Γ enc 0 0) 0 0 0 (lv_args 0 vs) [] f) : Ct l y cc nL ret h enc vs f := by
  intro E σ r hf
  refine Met.ofW (cc := cc) (maxL := nL) (ret := ret) hy rfl ?_
  intro p e s m args below meth c s₁ B hml hv
  obtain ⟨rfl, hP, hK, hD, hSx⟩ := hv
  have hts := atoms_spec (ws := .code y cc nL ret :: gT) B.pre
  have G : GG (p, l, e, rmh h, s, m, (vs.map (cv E)).toArray, below, meth, c, E, A0 E) own cc nL ret h 0 0 := ⟨B.exec, B.bytes, hml, by rw [← ho]; exact findClass_of_methodNamed B.named, fun w hw => hts w (List.mem_cons_of_mem _ hw), hK, hD, hSx, B.notSynchronized, B.returns, Nat.le_refl _, Nat.le_refl _, Nat.le_refl _, Nat.le_refl _⟩
  have hl := lv_entry (vs.map (cv E)) (n := nL) (by rw [sl_len]; exact hn)
  rw [lg_entry_eq]
  generalize (lg_sl (vs.map (cv E)) ++ List.replicate (nL - (lg_sl (vs.map (cv E))).length) Slot.unset).toArray = ls at hl ⊢
  exact body _ rfl G σ s.heap [] ls r hf hP va_S.rf (by rw [lvc_args]; exact hl)
def LkV (own : String) (idx : Nat) (y : MethodName) (cc : ByteArray) (nL : Nat) (ret : Option FieldType) (np : Nat) : Prop := (Cond.methodLink own idx y ∈ gT ∧ Cond.instanceMethod y ∈ gT ∧ Cond.selects y.cls y y ∈ gT ∧ Cond.initialized y.cls ∈ gT ∧ Cond.code y cc nL ret ∈ gT) ∧ (y.cls ≠ "java/lang/invoke/MethodHandle" ∧ y.cls ≠ "java/lang/invoke/VarHandle" ∧ (parseMethodDescriptor y.desc).map (fun d => d.parameters.length) = some np) ∧ nL ≤ 21
def LkS (own : String) (idx : Nat) (y : MethodName) (cc : ByteArray) (nL : Nat) (ret : Option FieldType) (np : Nat) : Prop := (Cond.methodLink own idx y ∈ gT ∧ Cond.static y ∈ gT ∧ Cond.initialized y.cls ∈ gT ∧ Cond.code y cc nL ret ∈ gT) ∧ (y.cls ≠ "java/lang/invoke/MethodHandle" ∧ y.cls ≠ "java/lang/invoke/VarHandle" ∧ (parseMethodDescriptor y.desc).map (fun d => d.parameters.length) = some np) ∧ nL ≤ 21
theorem code_in {y : MethodName} {cc : ByteArray} {nL : Nat} {ret : Option FieldType} (h : Cond.code y cc nL ret ∈ gT) : GoodIn gT (.code y cc nL ret :: gT) := gT_in (fun w hw => by
  rcases List.mem_cons.mp hw with e | e
  · rw [e]; exact h
  · exact e)
section Calls9
variable {ρ α : Type} {Γ : Cx} {own : String} {cc cc' : ByteArray} {nL nL' : Nat} {ret ret' : Option FieldType} {h h' k n pc idx i ci np : Nat} {Q : ρ → State → Prop} {lv : List (Nat × Value)} {st As stk : List Value} {y : MethodName} {enc : α → Option Value} {f : Sg → Option (α × Sg)} {d : α → Sg → Option ρ} {ks : List Nat}
theorem cat_map (E : En) (st : List Value) : ((st.map (cv E)).map (fun v => v.category)).sum = (st.map (fun v => v.category)).sum := by
  rw [List.map_map, show ((fun v => v.category) ∘ cv E) = (fun v => v.category) from funext (fun v => cv_cat _ v)]
/-- behind a call -/
theorem rz_ran (G : GG Γ own cc nL ret h k n) {σ : Sg} {H : Heap} {locs : List Loc} {ls : Array Slot} {r : ρ} {r0 : α × Sg} {st0 : List Value} {a9 : Array Value} (hS : va_S (cA Γ) (cS Γ).heap H locs) (hl : lv_has ls nL (lvc (cE Γ) lv)) (hr : d r0.1 r0.2 = some r)
    (run : va_Run (cP Γ) (cLn Γ) (cEv Γ) (cR Γ) (cS Γ) (cM Γ) (cAr Γ) (cBe Γ) (cMe Γ) (cC Γ) H locs k n 0 0 (F0 (cM Γ) pc ls st0) (st.map (cv (cE Γ))) (QcR (cE Γ) (A0 (cE Γ)) enc r0 a9) (A0 (cE Γ)))
    (K : ∀ v, Rz Γ nL Q k n (pc + 3) lv ((enc v).toList ++ st) (d v)) : WX Γ H locs k n (Q r) (F0 (cM Γ) pc ls st0) := by
  intro T hT X
  obtain ⟨v, st₀, t, T', L, h0, X', hL, e1, e2, ⟨ev, hP1, hF⟩, go⟩ := run T hT X
  have hA : ∀ q, A0 (cE Γ) q → cA Γ q := A0_sub σ G.2.2.2.2.2.2.1
  obtain ⟨k1, k2, k3⟩ := vx_keep h0 e1 hS (fun q _ => hA q) hA hL hF
  obtain ⟨t2, a1, b1⟩ := K r0.1 r0.2 T'.heap (locs ++ L) ls r hr (by rw [e1]; exact hP1) k3 hl T' rfl X'
  refine ⟨t2, go t2 ?_, b1⟩
  cases ev
  have e9 : ((enc r0.1).toList ++ st).map (cv (cE Γ)) = ((enc r0.1).map (cv (cE Γ))).toList ++ st.map (cv (cE Γ)) := by
    cases enc r0.1 <;> rfl
  rw [e9] at a1
  exact a1
theorem rz_callV0 (G : GG Γ own cc nL ret h k n) (C : Ct (cLn Γ) y cc' nL' ret' h' enc (.ref i :: As) f) (L : LkV own idx y cc' nL' ret' np) {C9 : String × u_T × Nat} (hq : shp[i]? = some (.inr (ci, ks))) (hc : vwCl[ci]? = some C9) (hC : C9.1 = y.cls) (hn : As.length = np) (hh : h' + 1 ≤ h) (hs : (st.map (fun v => v.category)).sum ≤ 8) (hd : decode cc pc = .ok (.invokevirtual idx, 3))
    (hst : stk = As.reverse ++ .ref i :: st) (K : ∀ v, Rz Γ nL Q k n (pc + 3) lv ((enc v).toList ++ st) (d v)) : Rz Γ nL Q k n pc lv stk (cl f d) := by
  intro σ H locs ls r hr hP hS hl
  subst hst
  cases hf : f σ with
  | none => rw [cl, hf] at hr; cases hr
  | some r0 =>
    rw [cl, hf] at hr
    obtain ⟨g1, g2, g3, g4, g5, g6, g7, g8, g9, g10, g11, g12, g13, g14⟩ := id G
    obtain ⟨⟨l1, l2, l3, l4, l5⟩, l6, l7⟩ := L
    refine rz_ran G (a9 := (Value.ref ((cE Γ).1 i) :: As.map (cv (cE Γ))).toArray) (σ := σ) hS hl hr ?_ K
    refine va_runV (Ts := gT) (own := own) (cc := cc) (nL := nL) (C := y.cls) (b := (cE Γ).1 i) (As := As.map (cv (cE Γ))) (n := np) (index := idx) (bytes := cc') (maxL := nL') (ret := ret') ⟨g1, g2, g3, g4, g5⟩ (C (cE Γ) σ r0 hf) ⟨callB_of np g5 (code_in l5) rfl rfl rfl (g5 _ l4) (g5 _ l1) l6 ⟨?_, ?_⟩, g5 _ l2, g5 _ l3⟩ ⟨blind_W, ?_, fun U hU hW => ⟨rfl, WdE_at G hP hS hU hW⟩⟩ rfl ?_ hl.1 ?_ ?_ hd ⟨g13, g14⟩
    · show h' + 1 ≤ _; omega
    · show 8 + (nL' + 11) + 40 * h' ≤ _; omega
    · have h9 := va_recv g6 hP hc (wd_at hq)
      rw [hC] at h9
      exact h9
    · rw [List.length_map]; exact hn
    · show (As.reverse ++ .ref i :: st).map (cv (cE Γ)) = _
      rw [List.map_append, List.map_reverse]; rfl
    · exact lv_room (by rw [cat_map]; exact hs)
theorem rz_callS0 (G : GG Γ own cc nL ret h k n) (C : Ct (cLn Γ) y cc' nL' ret' h' enc As f) (L : LkS own idx y cc' nL' ret' np) (hn : As.length = np) (hh : h' + 1 ≤ h) (hs : (st.map (fun v => v.category)).sum ≤ 8) (hd : decode cc pc = .ok (.invokestatic idx, 3))
    (hst : stk = As.reverse ++ st) (K : ∀ v, Rz Γ nL Q k n (pc + 3) lv ((enc v).toList ++ st) (d v)) : Rz Γ nL Q k n pc lv stk (cl f d) := by
  intro σ H locs ls r hr hP hS hl
  subst hst
  cases hf : f σ with
  | none => rw [cl, hf] at hr; cases hr
  | some r0 =>
    rw [cl, hf] at hr
    obtain ⟨g1, g2, g3, g4, g5, g6, g7, g8, g9, g10, g11, g12, g13, g14⟩ := id G
    obtain ⟨⟨l1, l2, l4, l5⟩, l6, l7⟩ := L
    refine rz_ran G (a9 := (As.map (cv (cE Γ))).toArray) (σ := σ) hS hl hr ?_ K
    refine va_runS (Ts := gT) (own := own) (cc := cc) (nL := nL) (As := As.map (cv (cE Γ))) (n := np) (index := idx) (bytes := cc') (maxL := nL') (ret := ret') ⟨g1, g2, g3, g4, g5⟩ (C (cE Γ) σ r0 hf) ⟨callB_of np g5 (code_in l5) rfl rfl rfl (g5 _ l4) (g5 _ l1) l6 ⟨?_, ?_⟩, g5 _ l2⟩ ⟨blind_W, fun U hU hW => ⟨rfl, WdE_at G hP hS hU hW⟩⟩ rfl ?_ hl.1 ?_ ?_ hd ⟨g13, g14⟩
    · show h' + 1 ≤ _; omega
    · show 8 + (nL' + 11) + 40 * h' ≤ _; omega
    · rw [List.length_map]; exact hn
    · show (As.reverse ++ st).map (cv (cE Γ)) = _
      rw [List.map_append, List.map_reverse]
    · exact lv_room (by rw [cat_map]; exact hs)
theorem rz_callVS0 (G : GG Γ own cc nL ret h k n) {q : Nat} (C : Ct (cLn Γ) y cc' nL' ret' h' enc (.ref (1000 + 2 * q) :: As) f) (L : LkV own idx y cc' nL' ret' np) (hq : q < 22) (hC : y.cls = "java/lang/String") (hn : As.length = np) (hh : h' + 1 ≤ h) (hs : (st.map (fun v => v.category)).sum ≤ 8) (hd : decode cc pc = .ok (.invokevirtual idx, 3))
    (hst : stk = As.reverse ++ .ref (1000 + 2 * q) :: st) (K : ∀ v, Rz Γ nL Q k n (pc + 3) lv ((enc v).toList ++ st) (d v)) : Rz Γ nL Q k n pc lv stk (cl f d) := by
  intro σ H locs ls r hr hP hS hl
  subst hst
  cases hf : f σ with
  | none => rw [cl, hf] at hr; cases hr
  | some r0 =>
    rw [cl, hf] at hr
    obtain ⟨g1, g2, g3, g4, g5, g6, g7, g8, g9, g10, g11, g12, g13, g14⟩ := id G
    obtain ⟨⟨l1, l2, l3, l4, l5⟩, l6, l7⟩ := L
    refine rz_ran G (a9 := (Value.ref ((cE Γ).1 (1000 + 2 * q)) :: As.map (cv (cE Γ))).toArray) (σ := σ) hS hl hr ?_ K
    refine va_runV (Ts := gT) (own := own) (cc := cc) (nL := nL) (C := y.cls) (b := (cE Γ).1 (1000 + 2 * q)) (As := As.map (cv (cE Γ))) (n := np) (index := idx) (bytes := cc') (maxL := nL') (ret := ret') ⟨g1, g2, g3, g4, g5⟩ (C (cE Γ) σ r0 hf) ⟨callB_of np g5 (code_in l5) rfl rfl rfl (g5 _ l4) (g5 _ l1) l6 ⟨?_, ?_⟩, g5 _ l2, g5 _ l3⟩ ⟨blind_W, ?_, fun U hU hW => ⟨rfl, WdE_at G hP hS hU hW⟩⟩ rfl ?_ hl.1 ?_ ?_ hd ⟨g13, g14⟩
    · show h' + 1 ≤ _; omega
    · show 8 + (nL' + 11) + 40 * h' ≤ _; omega
    · rw [hC]
      exact vk_recv (N := nJS) (len := lenJS) (byt := bytJS) (adK := fun i => (cE Γ).1 (1000 + 2 * i)) (adV := fun i => (cE Γ).1 (1001 + 2 * i)) (i := q) g8.1 hq hS
    · rw [List.length_map]; exact hn
    · show (As.reverse ++ .ref (1000 + 2 * q) :: st).map (cv (cE Γ)) = _
      rw [List.map_append, List.map_reverse]; rfl
    · exact lv_room (by rw [cat_map]; exact hs)
end Calls9
section Calls8
variable {ρ : Type} {Γ : Cx} {own : String} {cc cc' : ByteArray} {nL nL' : Nat} {ret ret' : Option FieldType} {h h' k n pc idx i ci np : Nat} {Q : ρ → State → Prop} {lv : List (Nat × Value)} {st As stk : List Value} {y : MethodName} {ks : List Nat}
theorem rz_callVi (G : GG Γ own cc nL ret h k n) {f : Sg → Option (Int32 × Sg)} {d : Int32 → Sg → Option ρ} (C : Ct (cLn Γ) y cc' nL' ret' h' encI (.ref i :: As) f) (L : LkV own idx y cc' nL' ret' np) {C9 : String × u_T × Nat} (hq : shp[i]? = some (.inr (ci, ks))) (hc : vwCl[ci]? = some C9) (hC : C9.1 = y.cls) (hn : As.length = np) (hh : h' + 1 ≤ h) (hs : (st.map (fun v => v.category)).sum ≤ 8) (hd : decode cc pc = .ok (.invokevirtual idx, 3))
    (hst : stk = As.reverse ++ .ref i :: st) (K : ∀ v, Rz Γ nL Q k n (pc + 3) lv (.int v :: st) (d v)) : Rz Γ nL Q k n pc lv stk (cl f d) := rz_callV0 G C L hq hc hC hn hh hs hd hst K
theorem rz_callSi (G : GG Γ own cc nL ret h k n) {f : Sg → Option (Int32 × Sg)} {d : Int32 → Sg → Option ρ} (C : Ct (cLn Γ) y cc' nL' ret' h' encI As f) (L : LkS own idx y cc' nL' ret' np) (hn : As.length = np) (hh : h' + 1 ≤ h) (hs : (st.map (fun v => v.category)).sum ≤ 8) (hd : decode cc pc = .ok (.invokestatic idx, 3))
    (hst : stk = As.reverse ++ st) (K : ∀ v, Rz Γ nL Q k n (pc + 3) lv (.int v :: st) (d v)) : Rz Γ nL Q k n pc lv stk (cl f d) := rz_callS0 G C L hn hh hs hd hst K
theorem rz_callVl (G : GG Γ own cc nL ret h k n) {f : Sg → Option (Int64 × Sg)} {d : Int64 → Sg → Option ρ} (C : Ct (cLn Γ) y cc' nL' ret' h' encL (.ref i :: As) f) (L : LkV own idx y cc' nL' ret' np) {C9 : String × u_T × Nat} (hq : shp[i]? = some (.inr (ci, ks))) (hc : vwCl[ci]? = some C9) (hC : C9.1 = y.cls) (hn : As.length = np) (hh : h' + 1 ≤ h) (hs : (st.map (fun v => v.category)).sum ≤ 8) (hd : decode cc pc = .ok (.invokevirtual idx, 3))
    (hst : stk = As.reverse ++ .ref i :: st) (K : ∀ v, Rz Γ nL Q k n (pc + 3) lv (.long v :: st) (d v)) : Rz Γ nL Q k n pc lv stk (cl f d) := rz_callV0 G C L hq hc hC hn hh hs hd hst K
theorem rz_callSl (G : GG Γ own cc nL ret h k n) {f : Sg → Option (Int64 × Sg)} {d : Int64 → Sg → Option ρ} (C : Ct (cLn Γ) y cc' nL' ret' h' encL As f) (L : LkS own idx y cc' nL' ret' np) (hn : As.length = np) (hh : h' + 1 ≤ h) (hs : (st.map (fun v => v.category)).sum ≤ 8) (hd : decode cc pc = .ok (.invokestatic idx, 3))
    (hst : stk = As.reverse ++ st) (K : ∀ v, Rz Γ nL Q k n (pc + 3) lv (.long v :: st) (d v)) : Rz Γ nL Q k n pc lv stk (cl f d) := rz_callS0 G C L hn hh hs hd hst K
theorem rz_callVr (G : GG Γ own cc nL ret h k n) {f : Sg → Option (Nat × Sg)} {d : Nat → Sg → Option ρ} (C : Ct (cLn Γ) y cc' nL' ret' h' encR (.ref i :: As) f) (L : LkV own idx y cc' nL' ret' np) {C9 : String × u_T × Nat} (hq : shp[i]? = some (.inr (ci, ks))) (hc : vwCl[ci]? = some C9) (hC : C9.1 = y.cls) (hn : As.length = np) (hh : h' + 1 ≤ h) (hs : (st.map (fun v => v.category)).sum ≤ 8) (hd : decode cc pc = .ok (.invokevirtual idx, 3))
    (hst : stk = As.reverse ++ .ref i :: st) (K : ∀ v, Rz Γ nL Q k n (pc + 3) lv (.ref v :: st) (d v)) : Rz Γ nL Q k n pc lv stk (cl f d) := rz_callV0 G C L hq hc hC hn hh hs hd hst K
theorem rz_callSr (G : GG Γ own cc nL ret h k n) {f : Sg → Option (Nat × Sg)} {d : Nat → Sg → Option ρ} (C : Ct (cLn Γ) y cc' nL' ret' h' encR As f) (L : LkS own idx y cc' nL' ret' np) (hn : As.length = np) (hh : h' + 1 ≤ h) (hs : (st.map (fun v => v.category)).sum ≤ 8) (hd : decode cc pc = .ok (.invokestatic idx, 3))
    (hst : stk = As.reverse ++ st) (K : ∀ v, Rz Γ nL Q k n (pc + 3) lv (.ref v :: st) (d v)) : Rz Γ nL Q k n pc lv stk (cl f d) := rz_callS0 G C L hn hh hs hd hst K
theorem rz_callVv (G : GG Γ own cc nL ret h k n) {f : Sg → Option (Unit × Sg)} {d : Unit → Sg → Option ρ} (C : Ct (cLn Γ) y cc' nL' ret' h' encV (.ref i :: As) f) (L : LkV own idx y cc' nL' ret' np) {C9 : String × u_T × Nat} (hq : shp[i]? = some (.inr (ci, ks))) (hc : vwCl[ci]? = some C9) (hC : C9.1 = y.cls) (hn : As.length = np) (hh : h' + 1 ≤ h) (hs : (st.map (fun v => v.category)).sum ≤ 8) (hd : decode cc pc = .ok (.invokevirtual idx, 3))
    (hst : stk = As.reverse ++ .ref i :: st) (K : ∀ v, Rz Γ nL Q k n (pc + 3) lv (st) (d v)) : Rz Γ nL Q k n pc lv stk (cl f d) := rz_callV0 G C L hq hc hC hn hh hs hd hst K
theorem rz_callSv (G : GG Γ own cc nL ret h k n) {f : Sg → Option (Unit × Sg)} {d : Unit → Sg → Option ρ} (C : Ct (cLn Γ) y cc' nL' ret' h' encV As f) (L : LkS own idx y cc' nL' ret' np) (hn : As.length = np) (hh : h' + 1 ≤ h) (hs : (st.map (fun v => v.category)).sum ≤ 8) (hd : decode cc pc = .ok (.invokestatic idx, 3))
    (hst : stk = As.reverse ++ st) (K : ∀ v, Rz Γ nL Q k n (pc + 3) lv (st) (d v)) : Rz Γ nL Q k n pc lv stk (cl f d) := rz_callS0 G C L hn hh hs hd hst K
theorem rz_callVSi (G : GG Γ own cc nL ret h k n) {f : Sg → Option (Int32 × Sg)} {d : Int32 → Sg → Option ρ} {q : Nat} (C : Ct (cLn Γ) y cc' nL' ret' h' encI (.ref (1000 + 2 * q) :: As) f) (L : LkV own idx y cc' nL' ret' np) (hq : q < 22) (hC : y.cls = "java/lang/String") (hn : As.length = np) (hh : h' + 1 ≤ h) (hs : (st.map (fun v => v.category)).sum ≤ 8) (hd : decode cc pc = .ok (.invokevirtual idx, 3))
    (hst : stk = As.reverse ++ .ref (1000 + 2 * q) :: st) (K : ∀ v, Rz Γ nL Q k n (pc + 3) lv (.int v :: st) (d v)) : Rz Γ nL Q k n pc lv stk (cl f d) := rz_callVS0 G C L hq hC hn hh hs hd hst K
theorem rz_lti {v : Int32} {d : Int32 → Sg → Option ρ} (K : ∀ x, x = v → Rz Γ nL Q k n pc lv (.int x :: st) (d x)) : Rz Γ nL Q k n pc lv (.int v :: st) (lt v d) := K v rfl
theorem rz_ltl {v : Int64} {d : Int64 → Sg → Option ρ} (K : ∀ x, x = v → Rz Γ nL Q k n pc lv (.long x :: st) (d x)) : Rz Γ nL Q k n pc lv (.long v :: st) (lt v d) := K v rfl
theorem rz_ltr {v : Nat} {d : Nat → Sg → Option ρ} (K : ∀ x, x = v → Rz Γ nL Q k n pc lv (.ref x :: st) (d x)) : Rz Γ nL Q k n pc lv (.ref v :: st) (lt v d) := K v rfl
theorem rz_iret (G : GG Γ own cc nL (some .int) h k n) {v : Int32} (hd : decode cc pc = .ok (.ireturn, 1)) : Rz Γ nL (Qm Γ encI k n) k n pc lv [.int v] (rt v) := by
  intro σ H locs ls r hr hP hS hl
  cases hr
  exact W.iret G.1 G.2.1 G.2.2.2.2.2.2.2.2.2.1 (fun t ht hW => ⟨rfl, by rw [ht]; exact hP, hS.F ht⟩) hS.2.2 hd G.2.2.2.2.2.2.2.2.1
theorem rz_zret0 (G : GG Γ own cc nL (some .boolean) h k n) {v : Int32} (hv : v = 0 ∨ v = 1) (hd : decode cc pc = .ok (.ireturn, 1)) : Rz Γ nL (Qm Γ encI k n) k n pc lv [.int v] (rt v) := by
  intro σ H locs ls r hr hP hS hl
  cases hr
  exact W.zret G.1 G.2.1 G.2.2.2.2.2.2.2.2.2.1 (by rcases hv with rfl | rfl <;> rfl) (fun t ht hW => ⟨rfl, by rw [ht]; exact hP, hS.F ht⟩) hS.2.2 hd G.2.2.2.2.2.2.2.2.1
theorem rz_zret (G : GG Γ own cc nL (some .boolean) h k n) {v : Int32} (hd : decode cc pc = .ok (.ireturn, 1)) : Rz Γ nL (Qm Γ encI k n) k n pc lv [.int v] (gd (v = 0 ∨ v = 1) (rt v)) := rz_gd fun hv => rz_zret0 G hv hd
theorem rz_lret (G : GG Γ own cc nL (some .long) h k n) {v : Int64} (hd : decode cc pc = .ok (.lreturn, 1)) : Rz Γ nL (Qm Γ encL k n) k n pc lv [.long v] (rt v) := by
  intro σ H locs ls r hr hP hS hl
  cases hr
  exact W.lret G.1 G.2.1 G.2.2.2.2.2.2.2.2.2.1 (fun t ht hW => ⟨rfl, by rw [ht]; exact hP, hS.F ht⟩) hS.2.2 hd G.2.2.2.2.2.2.2.2.1
theorem rz_aret {cn : String} (G : GG Γ own cc nL (some (.object cn)) h k n) {v : Nat} (hd : decode cc pc = .ok (.areturn, 1)) : Rz Γ nL (Qm Γ encR k n) k n pc lv [.ref v] (rt v) := by
  intro σ H locs ls r hr hP hS hl
  cases hr
  exact W.aret G.1 G.2.1 G.2.2.2.2.2.2.2.2.2.1 (Or.inl ⟨_, rfl⟩) (Or.inr ⟨_, rfl⟩) (fun t ht hW => ⟨rfl, by rw [ht]; exact hP, hS.F ht⟩) hS.2.2 hd G.2.2.2.2.2.2.2.2.1
theorem rz_vret (G : GG Γ own cc nL none h k n) (hd : decode cc pc = .ok (.return_, 1)) : Rz Γ nL (Qm Γ encV k n) k n pc lv [] (rt ()) := by
  intro σ H locs ls r hr hP hS hl
  cases hr
  exact W.vret G.1 G.2.1 G.2.2.2.2.2.2.2.2.2.1 (fun t ht hW => ⟨rfl, by rw [ht]; exact hP, hS.F ht⟩) hS.2.2 hd G.2.2.2.2.2.2.2.2.1
end Calls8
