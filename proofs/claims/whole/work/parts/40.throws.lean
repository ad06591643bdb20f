-- ===== methods that may throw =====
def exN (b : Bool) : String := if b then "java/lang/IllegalArgumentException" else "java/util/NoSuchElementException"
def rmx (h mc ms : Nat) : Room := { frames := h, cells := mc, slots := ms, locals := 40 * h }
def QxR {α : Type} (E : En) (A : Nat → Prop) (enc : α → Option Value) (r : (α ⊕ Bool) × Sg) : Array Value → State → Outcome → State → Prop := fun a st oc t => ∃ v, r.1 = .inl v ∧ QcR E A enc (v, r.2) a st oc t
def XxR {α : Type} (E : En) (A : Nat → Prop) (r : (α ⊕ Bool) × Sg) : String → State → State → Prop := fun X st t => ∃ b, r.1 = .inr b ∧ X = exN b ∧ va_P E.2.1 vwCl (wd E r.2) t.heap ∧ va_F A st t
def QmX {α : Type} (Γ : Cx) (enc : α → Option Value) (mc ms : Nat) (r : (α ⊕ Bool) × Sg) : State → Prop := vx_MQ (cBe Γ) (QxR (cE Γ) (cA Γ) enc r) (XxR (cE Γ) (cA Γ) r) (cAr Γ) (cS Γ) mc ms (cA Γ)
def CtX {α : Type} (l : Launch) (y : MethodName) (cc : ByteArray) (nL : Nat) (ret : Option FieldType) (h mc ms : Nat) (enc : α → Option Value) (vs : List Value) (f : Sg → Option ((α ⊕ Bool) × Sg)) : Prop := ∀ (E : En) (σ : Sg) (r : (α ⊕ Bool) × Sg), f σ = some r → vx_Met l y (.code y cc nL ret :: gT) (rmx h mc ms) (va_Pc (vs.map (cv E)) (WdE E σ)) (QxR E (A0 E) enc r) (XxR E (A0 E) r) mc ms (A0 E)
def clX {α β : Type} (f : Sg → Option ((α ⊕ Bool) × Sg)) (d : α → Sg → Option ((β ⊕ Bool) × Sg)) : Sg → Option ((β ⊕ Bool) × Sg) := fun σ => (f σ).bind (fun r => match r.1 with
  | .inl v => d v r.2
  | .inr b => some (.inr b, r.2))
def rtX {α : Type} (v : α) : Sg → Option ((α ⊕ Bool) × Sg) := fun σ => some (.inl v, σ)
/-- no row of its table, and its room -/
def NX (Γ : Cx) (mc ms : Nat) : Prop := (∀ x ∈ (cC Γ).exceptionTable.toList, False) ∧ (cR Γ).cells = mc ∧ (cR Γ).slots = ms
theorem GG.up {Γ : Cx} {own : String} {cc : ByteArray} {nL : Nat} {ret : Option FieldType} {h k n k' n' : Nat} (G : GG Γ own cc nL ret h k n) {mc ms : Nat} (hN : NX Γ mc ms) (h1 : k' ≤ mc) (h2 : n' ≤ ms) : GG Γ own cc nL ret h k' n' := by
  obtain ⟨g1, g2, g3, g4, g5, g6, g7, g8, g9, g10, g11, g12, g13, g14⟩ := G
  exact ⟨g1, g2, g3, g4, g5, g6, g7, g8, g9, g10, g11, g12, by rw [hN.2.1]; exact h1, by rw [hN.2.2]; exact h2⟩
theorem ctX_of {α : Type} {l : Launch} {y : MethodName} {own : String} {cc : ByteArray} {nL : Nat} {ret : Option FieldType} {h mc ms : Nat} {enc : α → Option Value} {vs : List Value} {f : Sg → Option ((α ⊕ Bool) × Sg)} (hy : plainName y.cls = true) (ho : y.cls = own) (hn : (lg_sl vs).length ≤ nL) (body : ∀ Γ : Cx, cLn Γ = l → GG Γ own cc nL ret h 0 0 → NX Γ mc ms → Rz Γ nL (QmX Γ enc mc ms) 0 0 0 (lv_args 0 vs) [] f) : CtX l y cc nL ret h mc ms enc vs f := by
  intro E σ r hf
  refine vx_ofW (cc := cc) (maxL := nL) (ret := ret) hy rfl ?_
  intro p e s m args below meth c s₁ B hml htab hv
  obtain ⟨rfl, hP, hK, hD, hSx⟩ := hv
  have hts := atoms_spec (ws := .code y cc nL ret :: gT) B.pre
  have G : GG (p, l, e, rmx h mc ms, s, m, (vs.map (cv E)).toArray, below, meth, c, E, A0 E) own cc nL ret h 0 0 := ⟨B.exec, B.bytes, hml, by rw [← ho]; exact findClass_of_methodNamed B.named, fun w hw => hts w (List.mem_cons_of_mem _ hw), hK, hD, hSx, B.notSynchronized, B.returns, Nat.le_refl _, Nat.le_refl _, Nat.zero_le _, Nat.zero_le _⟩
  have hl := lv_entry (vs.map (cv E)) (n := nL) (by rw [sl_len]; exact hn)
  rw [lg_entry_eq]
  generalize (lg_sl (vs.map (cv E)) ++ List.replicate (nL - (lg_sl (vs.map (cv E))).length) Slot.unset).toArray = ls at hl ⊢
  exact body _ rfl G ⟨htab, rfl, rfl⟩ σ s.heap [] ls r hf hP va_S.rf (by rw [lvc_args]; exact hl)
section ThrowRules
variable {β : Type} {Γ : Cx} {own : String} {cc cc' : ByteArray} {nL nL' : Nat} {ret ret' : Option FieldType} {h h' k n pc idx mc ms : Nat} {encB : β → Option Value} {lv : List (Nat × Value)} {st As stk : List Value} {y : MethodName}
theorem rz_callX {np : Nat} {d : Unit → Sg → Option ((β ⊕ Bool) × Sg)} {f : Sg → Option ((Unit ⊕ Bool) × Sg)} (G : GG Γ own cc nL ret h k n) (N : NX Γ mc ms) (C : CtX (cLn Γ) y cc' nL' ret' h' 1 6 encV As f) (L : LkS own idx y cc' nL' ret' np) (hk : k + 1 ≤ mc ∧ n + 6 ≤ ms) (hn : As.length = np) (hh : h' + 1 ≤ h) (hs : (st.map (fun v => v.category)).sum ≤ 8) (hd : decode cc pc = .ok (.invokestatic idx, 3))
    (hst : stk = As.reverse ++ st) (K : ∀ v, Rz Γ nL (QmX Γ encB mc ms) (k + 1) (n + 6) (pc + 3) lv st (d v)) : Rz Γ nL (QmX Γ encB mc ms) k n pc lv stk (clX f d) := by
  intro σ H locs ls r hr hP hS hl
  subst hst
  cases hf : f σ with
  | none => rw [clX, hf] at hr; cases hr
  | some r0 =>
    rw [clX, hf] at hr
    obtain ⟨g1, g2, g3, g4, g5, g6, g7, g8, g9, g10, g11, g12, g13, g14⟩ := id G
    obtain ⟨⟨l1, l2, l4, l5⟩, l6, l7⟩ := L
    have run := vx_runS (e := cEv Γ) (below := cBe Γ) (meth := cMe Γ) (R := cR Γ) (H := H) (locs := locs) (cells := k) (slots := n) (rest := st.map (cv (cE Γ))) (g := F0 (cM Γ) pc ls ((As.reverse ++ st).map (cv (cE Γ)))) (Ts := gT) (own := own) (cc := cc) (nL := nL) (As := As.map (cv (cE Γ))) (n := np) (index := idx) (bytes := cc') (maxL := nL') (ret := ret') ⟨g1, g2, g3, g4, g5⟩ (C (cE Γ) σ r0 hf)
      ⟨callB_of np g5 (code_in l5) rfl rfl rfl (g5 _ l4) (g5 _ l1) l6 ⟨by show h' + 1 ≤ _; omega, by show 8 + (nL' + 11) + 40 * h' ≤ _; omega⟩, g5 _ l2⟩ ⟨blind_W, fun U hU hW => ⟨rfl, WdE_at G hP hS hU hW⟩⟩ rfl (by rw [List.length_map]; exact hn) hl.1 (by show (As.reverse ++ st).map (cv (cE Γ)) = _; rw [List.map_append, List.map_reverse]) (lv_room (by rw [cat_map]; exact hs)) hd ⟨by rw [N.2.1]; exact hk.1, by rw [N.2.2]; exact hk.2⟩
    have hA : ∀ q, A0 (cE Γ) q → cA Γ q := A0_sub σ g7
    intro T hT X
    rcases run T hT X with ⟨v, st₀, t, T', L, h0, X', hL, e1, e2, ⟨v0, ev0, ev, hP1, hF⟩, go⟩ | ⟨q, st₀, t, T', L, Ex, ce, h0, X', hL, e1, e2, ⟨b, eb, eE, hP1, hF⟩, hce, hcv, hcl, go⟩
    · obtain ⟨k1, k2, k3⟩ := vx_keep h0 e1 hS (fun q _ => hA q) hA hL hF
      obtain ⟨a1, a2⟩ := r0
      dsimp only at ev0 hP1 hr
      subst ev0
      obtain ⟨t2, b1, b2⟩ := K v0 a2 T'.heap (locs ++ L) ls r hr (by rw [e1]; exact hP1) k3 hl T' rfl X'
      refine ⟨t2, go t2 ?_, b2⟩
      cases ev
      exact b1
    · obtain ⟨k1, k2, k3⟩ := vx_keep h0 e1 hS (fun q _ => hA q) hA hL hF
      obtain ⟨a1, a2⟩ := r0
      dsimp only at eb hP1 hr
      subst eb
      cases hr
      have hw := vx_out (p := cP Γ) (l := cLn Γ) (e := cEv Γ) (R := cR Γ) (s := cS Γ) (m := cM Γ) (args := cAr Γ) (below := cBe Γ) (meth := cMe Γ) (c := cC Γ) (H := T'.heap) (locs := locs ++ L) (cells := k + 1) (slots := n + 6) (ls := ls) (rest := st.map (cv (cE Γ))) (free := cA Γ) (Qc := QxR (cE Γ) (cA Γ) encB (.inr b, a2)) (XC := XxR (cE Γ) (cA Γ) (α := β) (.inr b, a2)) (pc := pc) (E := Ex) (ce := ce) (q := q) (mc := mc) (ms := ms) (fun x hx => (N.1 x hx).elim) g9 (by rw [e1]; exact hce) hcv hcl (fun t9 ht9 _ => ⟨b, rfl, eE, by rw [ht9, e1]; exact hP1, k3.F ht9⟩) k3.2.2 hk.1 hk.2
      obtain ⟨t2, b1, b2⟩ := hw T' rfl X'
      exact ⟨t2, go.trans b1, b2⟩
theorem rz_iretX (G : GG Γ own cc nL (some .int) h k n) {v : Int32} (hk : k ≤ mc ∧ n ≤ ms) (hd : decode cc pc = .ok (.ireturn, 1)) : Rz Γ nL (QmX Γ encI mc ms) k n pc lv [.int v] (rtX v) := by
  intro σ H locs ls r hr hP hS hl
  cases hr
  refine W.widen hk.1 hk.2 (vx_ret ?_)
  exact W.iret G.1 G.2.1 G.2.2.2.2.2.2.2.2.2.1 (fun t ht hW => ⟨v, rfl, rfl, by rw [ht]; exact hP, hS.F ht⟩) hS.2.2 hd G.2.2.2.2.2.2.2.2.1
theorem rz_lretX (G : GG Γ own cc nL (some .long) h k n) {v : Int64} (hk : k ≤ mc ∧ n ≤ ms) (hd : decode cc pc = .ok (.lreturn, 1)) : Rz Γ nL (QmX Γ encL mc ms) k n pc lv [.long v] (rtX v) := by
  intro σ H locs ls r hr hP hS hl
  cases hr
  refine W.widen hk.1 hk.2 (vx_ret ?_)
  exact W.lret G.1 G.2.1 G.2.2.2.2.2.2.2.2.2.1 (fun t ht hW => ⟨v, rfl, rfl, by rw [ht]; exact hP, hS.F ht⟩) hS.2.2 hd G.2.2.2.2.2.2.2.2.1
theorem rz_vretX (G : GG Γ own cc nL none h k n) (hk : k ≤ mc ∧ n ≤ ms) (hd : decode cc pc = .ok (.return_, 1)) : Rz Γ nL (QmX Γ encV mc ms) k n pc lv [] (rtX ()) := by
  intro σ H locs ls r hr hP hS hl
  cases hr
  refine W.widen hk.1 hk.2 (vx_ret ?_)
  exact W.vret G.1 G.2.1 G.2.2.2.2.2.2.2.2.2.1 (fun t ht hW => ⟨(), rfl, rfl, by rw [ht]; exact hP, hS.F ht⟩) hS.2.2 hd G.2.2.2.2.2.2.2.2.1
end ThrowRules
-- need, demand
def f_X10_need (x0 : Int32) : Sg → Option ((Unit ⊕ Bool) × Sg) := br (x0 = 0) (fun σ => some (.inr false, σ)) (rtX ())
def f_X10_demand (x0 : Int32) : Sg → Option ((Unit ⊕ Bool) × Sg) := br (x0 = 0) (fun σ => some (.inr true, σ)) (rtX ())
theorem xat_need : (∀ w ∈ (vx_atS RX10 389 "java/util/NoSuchElementException" ["java/lang/RuntimeException", "java/lang/Exception"]).filter goodWord, w ∈ gT) := sorry
theorem xbt_need : ∀ w ∈ (vx_atS RX10 389 "java/util/NoSuchElementException" ["java/lang/RuntimeException", "java/lang/Exception"]).filter (fun w => !goodWord w), w ∈ xW := by decide +kernel
theorem xgd_need : ∀ w ∈ Cond.classLink RX10 385 "java/util/NoSuchElementException" :: Cond.initialized "java/util/NoSuchElementException" :: vx_atS RX10 389 "java/util/NoSuchElementException" ["java/lang/RuntimeException", "java/lang/Exception"], vx_ot w = true := by decide +kernel
theorem xkl_need : Cond.classLink RX10 385 "java/util/NoSuchElementException" ∈ gT := gT_tab 1118 (by decide +kernel) rfl
theorem xki_need : Cond.initialized "java/util/NoSuchElementException" ∈ gT := gT_tab 24 (by decide +kernel) rfl
theorem c_X10_need (l : Launch) (hlt : l.stackTraces = false) (x0 : Int32) : CtX l yX10_need cX10_need 1 none 8 1 6 encV [.int x0] (f_X10_need x0) := by
  refine ctX_of (own := RX10) (by decide) rfl (Nat.le_of_ble_eq_true rfl) (fun Γ hl0 G N => ?_)
  subst hl0
  show Rz Γ 1 (QmX Γ encV 1 6) 0 0 0 [(0, .int x0)] [] _
  unfold f_X10_need
  refine rz_iload_n G 0 rfl rfl (dq jX10_need 0 rfl) ?_
  refine rz_if_ne G (tgt := 15) rfl (dq jX10_need 1 rfl) (fun c1 => ?_) (fun c1 => ?_)
  · intro σ H locs ls r hr hP hS hl
    cases hr
    obtain ⟨g1, g2, g3, g4, g5, g6, g7, g8, g9, g10, g11, g12, g13, g14⟩ := id G
    obtain ⟨s1, s2, s3, s4, s5, s6, s7⟩ := g8
    have hstr : vk_R RX10 387 _ _ (cS Γ) := s2 _ (List.mem_of_getElem? (l := ldcL) (i := 21) rfl)
    refine vx_throwSW (names := ["java/lang/RuntimeException", "java/lang/Exception"]) (ik := 385) (ic := 389) (own := RX10) (cls := "java/util/NoSuchElementException") (A := cA Γ) g1 g2 hlt g4 (by decide) (by decide) (g5 _ xkl_need) (g5 _ xki_need) hstr (vx_hat (fun w hw => g5 w (xat_need w hw)) xbt_need (fun w hw => va_any (by simp only [xW, List.mem_cons, List.not_mem_nil, or_false] at hw; rcases hw with rfl | rfl | rfl | rfl | rfl <;> rfl) (s7.1 w hw))) xgd_need s5 s6 hS (hl.1.trans g3.symm) (dq jX10_need 2 rfl) (dq jX10_need 3 rfl) (dq jX10_need 4 rfl) (dq jX10_need 5 rfl) (dq jX10_need 6 rfl) (fun x hx => (N.1 x hx).elim) ?_ ?_ ?_ ?_ g9 ?_ hS.2.2 (Nat.le_refl _) (Nat.le_refl _)
    · exact Nat.lt_of_lt_of_le (by decide : 5 < 8) g11
    · exact Nat.le_trans (by decide) g12
    · rw [N.2.1]; exact Nat.le_refl _
    · rw [N.2.2]; exact Nat.le_refl _
    · intro t _ hz hk
      refine ⟨false, rfl, rfl, ?_, Nat.le_trans hS.1 hz, fun q h1 h2 => by rw [hk q (Nat.lt_of_lt_of_le h1 hS.1)]; exact hS.2.1 q h1 h2⟩
      exact va_P.kept hP (fun j q hj => hk q.1 (hP j q hj).lt)
  · exact rz_vretX G (by decide) (dq jX10_need 7 rfl)
theorem xat_demand : (∀ w ∈ (vx_atS RX10 396 "java/lang/IllegalArgumentException" ["java/lang/RuntimeException", "java/lang/Exception"]).filter goodWord, w ∈ gT) := sorry
theorem xbt_demand : ∀ w ∈ (vx_atS RX10 396 "java/lang/IllegalArgumentException" ["java/lang/RuntimeException", "java/lang/Exception"]).filter (fun w => !goodWord w), w ∈ xW := by decide +kernel
theorem xgd_demand : ∀ w ∈ Cond.classLink RX10 392 "java/lang/IllegalArgumentException" :: Cond.initialized "java/lang/IllegalArgumentException" :: vx_atS RX10 396 "java/lang/IllegalArgumentException" ["java/lang/RuntimeException", "java/lang/Exception"], vx_ot w = true := by decide +kernel
theorem xkl_demand : Cond.classLink RX10 392 "java/lang/IllegalArgumentException" ∈ gT := gT_tab 775 (by decide +kernel) rfl
theorem xki_demand : Cond.initialized "java/lang/IllegalArgumentException" ∈ gT := gT_tab 16 (by decide +kernel) rfl
theorem c_X10_demand (l : Launch) (hlt : l.stackTraces = false) (x0 : Int32) : CtX l yX10_demand cX10_demand 1 none 8 1 6 encV [.int x0] (f_X10_demand x0) := by
  refine ctX_of (own := RX10) (by decide) rfl (Nat.le_of_ble_eq_true rfl) (fun Γ hl0 G N => ?_)
  subst hl0
  show Rz Γ 1 (QmX Γ encV 1 6) 0 0 0 [(0, .int x0)] [] _
  unfold f_X10_demand
  refine rz_iload_n G 0 rfl rfl (dq jX10_demand 0 rfl) ?_
  refine rz_if_ne G (tgt := 15) rfl (dq jX10_demand 1 rfl) (fun c1 => ?_) (fun c1 => ?_)
  · intro σ H locs ls r hr hP hS hl
    cases hr
    obtain ⟨g1, g2, g3, g4, g5, g6, g7, g8, g9, g10, g11, g12, g13, g14⟩ := id G
    obtain ⟨s1, s2, s3, s4, s5, s6, s7⟩ := g8
    have hstr : vk_R RX10 394 _ _ (cS Γ) := s2 _ (List.mem_of_getElem? (l := ldcL) (i := 0) rfl)
    refine vx_throwSW (names := ["java/lang/RuntimeException", "java/lang/Exception"]) (ik := 392) (ic := 396) (own := RX10) (cls := "java/lang/IllegalArgumentException") (A := cA Γ) g1 g2 hlt g4 (by decide) (by decide) (g5 _ xkl_demand) (g5 _ xki_demand) hstr (vx_hat (fun w hw => g5 w (xat_demand w hw)) xbt_demand (fun w hw => va_any (by simp only [xW, List.mem_cons, List.not_mem_nil, or_false] at hw; rcases hw with rfl | rfl | rfl | rfl | rfl <;> rfl) (s7.1 w hw))) xgd_demand s5 s6 hS (hl.1.trans g3.symm) (dq jX10_demand 2 rfl) (dq jX10_demand 3 rfl) (dq jX10_demand 4 rfl) (dq jX10_demand 5 rfl) (dq jX10_demand 6 rfl) (fun x hx => (N.1 x hx).elim) ?_ ?_ ?_ ?_ g9 ?_ hS.2.2 (Nat.le_refl _) (Nat.le_refl _)
    · exact Nat.lt_of_lt_of_le (by decide : 5 < 8) g11
    · exact Nat.le_trans (by decide) g12
    · rw [N.2.1]; exact Nat.le_refl _
    · rw [N.2.2]; exact Nat.le_refl _
    · intro t _ hz hk
      refine ⟨true, rfl, rfl, ?_, Nat.le_trans hS.1 hz, fun q h1 h2 => by rw [hk q (Nat.lt_of_lt_of_le h1 hS.1)]; exact hS.2.1 q h1 h2⟩
      exact va_P.kept hP (fun j q hj => hk q.1 (hP j q hj).lt)
  · exact rz_vretX G (by decide) (dq jX10_demand 7 rfl)
