-- ===== methods that may throw =====
def exN (b : Bool) : String := if b then "java/lang/IllegalArgumentException" else "java/util/NoSuchElementException"
def rmx (h mc ms : Nat) : Room := { frames := h, cells := mc, slots := ms, locals := 40 * h }
def QxR {α : Type} (E : En) (A : Nat → Prop) (enc : α → Option Value) (r : (α ⊕ Bool) × Sg) : Array Value → State → Outcome → State → Prop := fun a st oc t => ∃ v, r.1 = .inl v ∧ QcR E A enc (v, r.2) a st oc t
def XxR {α : Type} (E : En) (A : Nat → Prop) (r : (α ⊕ Bool) × Sg) : String → State → State → Prop := fun X st t => ∃ b, r.1 = .inr b ∧ X = exN b ∧ va_P E.2.1 vwCl (wd E r.2) t.heap ∧ va_F A st t
def QmX {α : Type} (Γ : Cx) (enc : α → Option Value) (mc ms : Nat) (r : (α ⊕ Bool) × Sg) : State → Prop := vx_MQ (cBe Γ) (QxR (cE Γ) (cA Γ) enc r) (XxR (cE Γ) (cA Γ) r) (cAr Γ) (cS Γ) mc ms (cA Γ)
def CtX {α : Type} (l : Launch) (y : MethodName) (cc : ByteArray) (nL : Nat) (ret : Option FieldType) (h mc ms : Nat) (enc : α → Option Value) (vs : List Value) (f : Sg → Option ((α ⊕ Bool) × Sg)) : Prop := ∀ (E : En) (σ : Sg) (r : (α ⊕ Bool) × Sg), f σ = some r → vx_Met l y (.code y cc nL ret :: gT) (rmx h mc ms) (va_Pc (vs.map (cv E)) (WdE E σ)) (QxR E (A0 E) enc r) (XxR E (A0 E) r) mc ms (A0 E)
def clX {α β : Type} (f : Sg → Option ((α ⊕ Bool) × Sg)) (d : α → Sg → Option ((β ⊕ Bool) × Sg)) : Sg → Option ((β ⊕ Bool) × Sg) := fun σ => (f σ).bind (fun r => match r.1 with
  | .inl v => d v r.2
  | .inr b => some (.inr b, r.2))
def rtX {α : Type} (v : α) : Sg → Option ((α ⊕ Bool) × Sg) := fun σ => some (.inl v, σ)
/-- no row of its table, and its room -/
def NX (Γ : Cx) (mc ms : Nat) : Prop := (∀ x ∈ (cC Γ).exceptionTable.toList, False) ∧ (cR Γ).cells = mc ∧ (cR Γ).slots = ms
theorem GG.up {Γ : Cx} {own : String} {cc : ByteArray} {nL : Nat} {ret : Option FieldType} {h k n k' n' : Nat} (G : GG Γ own cc nL ret h k n) {mc ms : Nat} (hN : NX Γ mc ms) (h1 : k' ≤ mc) (h2 : n' ≤ ms) : GG Γ own cc nL ret h k' n' := by
  obtain ⟨g1, g2, g3, g4, g5, g6, g7, g8, g9, g10, g11, g12, g13, g14⟩ := G
  exact ⟨g1, g2, g3, g4, g5, g6, g7, g8, g9, g10, g11, g12, by rw [hN.2.1]; exact h1, by rw [hN.2.2]; exact h2⟩
theorem ctX_of {α : Type} {l : Launch} {y : MethodName} {own : String} {cc : ByteArray} {nL : Nat} {ret : Option FieldType} {h mc ms : Nat} {enc : α → Option Value} {vs : List Value} {f : Sg → Option ((α ⊕ Bool) × Sg)} (hy : plainName y.cls = true) (ho : y.cls = own) (hn : (lg_sl vs).length ≤ nL) (body : ∀ Γ : Cx, cLn Γ = l → GG Γ own cc nL ret h 0 0 → NX Γ mc ms → Rz Γ nL (QmX Γ enc mc ms) 0 0 0 (lv_args 0 vs) [] f) : CtX l y cc nL ret h mc ms enc vs f := by
  intro E σ r hf
  refine vx_ofW (cc := cc) (maxL := nL) (ret := ret) hy rfl ?_
  intro p e s m args below meth c s₁ B hml htab hv
  obtain ⟨rfl, hP, hK, hD, hSx⟩ := hv
  have hts := atoms_spec (ws := .code y cc nL ret :: gT) B.pre
  have G : GG (p, l, e, rmx h mc ms, s, m, (vs.map (cv E)).toArray, below, meth, c, E, A0 E) own cc nL ret h 0 0 := ⟨B.exec, B.bytes, hml, by rw [← ho]; exact findClass_of_methodNamed B.named, fun w hw => hts w (List.mem_cons_of_mem _ hw), hK, hD, hSx, B.notSynchronized, B.returns, Nat.le_refl _, Nat.le_refl _, Nat.zero_le _, Nat.zero_le _⟩
  have hl := lv_entry (vs.map (cv E)) (n := nL) (by rw [sl_len]; exact hn)
  rw [lg_entry_eq]
  generalize (lg_sl (vs.map (cv E)) ++ List.replicate (nL - (lg_sl (vs.map (cv E))).length) Slot.unset).toArray = ls at hl ⊢
  exact body _ rfl G ⟨htab, rfl, rfl⟩ σ s.heap [] ls r hf hP va_S.rf (by rw [lvc_args]; exact hl)
section ThrowRules
variable {β : Type} {Γ : Cx} {own : String} {cc cc' : ByteArray} {nL nL' : Nat} {ret ret' : Option FieldType} {h h' k n pc idx mc ms : Nat} {encB : β → Option Value} {lv : List (Nat × Value)} {st As stk : List Value} {y : MethodName}
theorem rz_callX {np : Nat} {d : Unit → Sg → Option ((β ⊕ Bool) × Sg)} {f : Sg → Option ((Unit ⊕ Bool) × Sg)} (G : GG Γ own cc nL ret h k n) (N : NX Γ mc ms) (C : CtX (cLn Γ) y cc' nL' ret' h' 1 6 encV As f) (L : LkS own idx y cc' nL' ret' np) {k' n' : Nat} (hkn : k + 1 = k' ∧ n + 6 = n') (hk : k' ≤ mc ∧ n' ≤ ms) (hn : As.length = np) (hh : h' + 1 ≤ h) (hs : (st.map (fun v => v.category)).sum ≤ 8) (hd : decode cc pc = .ok (.invokestatic idx, 3))
    (hst : stk = As.reverse ++ st) (K : ∀ v, Rz Γ nL (QmX Γ encB mc ms) k' n' (pc + 3) lv st (d v)) : Rz Γ nL (QmX Γ encB mc ms) k n pc lv stk (clX f d) := by
  obtain ⟨rfl, rfl⟩ := hkn
  intro σ H locs ls r hr hP hS hl
  subst hst
  cases hf : f σ with
  | none => rw [clX, hf] at hr; cases hr
  | some r0 =>
    rw [clX, hf] at hr
    obtain ⟨g1, g2, g3, g4, g5, g6, g7, g8, g9, g10, g11, g12, g13, g14⟩ := id G
    obtain ⟨⟨l1, l2, l4, l5⟩, l6, l7⟩ := L
    have run := vx_runS (e := cEv Γ) (below := cBe Γ) (meth := cMe Γ) (R := cR Γ) (H := H) (locs := locs) (cells := k) (slots := n) (rest := st.map (cv (cE Γ))) (g := F0 (cM Γ) pc ls ((As.reverse ++ st).map (cv (cE Γ)))) (Ts := gT) (own := own) (cc := cc) (nL := nL) (As := As.map (cv (cE Γ))) (n := np) (index := idx) (bytes := cc') (maxL := nL') (ret := ret') ⟨g1, g2, g3, g4, g5⟩ (C (cE Γ) σ r0 hf)
      ⟨callB_of np g5 (code_in l5) rfl rfl rfl (g5 _ l4) (g5 _ l1) l6 ⟨by show h' + 1 ≤ _; omega, by show 8 + (nL' + 11) + 40 * h' ≤ _; omega⟩, g5 _ l2⟩ ⟨blind_W, fun U hU hW => ⟨rfl, WdE_at G hP hS hU hW⟩⟩ rfl (by rw [List.length_map]; exact hn) hl.1 (by show (As.reverse ++ st).map (cv (cE Γ)) = _; rw [List.map_append, List.map_reverse]) (lv_room (by rw [cat_map]; exact hs)) hd ⟨by rw [N.2.1]; exact hk.1, by rw [N.2.2]; exact hk.2⟩
    have hA : ∀ q, A0 (cE Γ) q → cA Γ q := A0_sub σ g7
    intro T hT X
    rcases run T hT X with ⟨v, st₀, t, T', L, h0, X', hL, e1, e2, ⟨v0, ev0, ev, hP1, hF⟩, go⟩ | ⟨q, st₀, t, T', L, Ex, ce, h0, X', hL, e1, e2, ⟨b, eb, eE, hP1, hF⟩, hce, hcv, hcl, go⟩
    · obtain ⟨k1, k2, k3⟩ := vx_keep h0 e1 hS (fun q _ => hA q) hA hL hF
      obtain ⟨a1, a2⟩ := r0
      dsimp only at ev0 hP1 hr
      subst ev0
      obtain ⟨t2, b1, b2⟩ := K v0 a2 T'.heap (locs ++ L) ls r hr (by rw [e1]; exact hP1) k3 hl T' rfl X'
      refine ⟨t2, go t2 ?_, b2⟩
      cases ev
      exact b1
    · obtain ⟨k1, k2, k3⟩ := vx_keep h0 e1 hS (fun q _ => hA q) hA hL hF
      obtain ⟨a1, a2⟩ := r0
      dsimp only at eb hP1 hr
      subst eb
      cases hr
      have hw := vx_out (p := cP Γ) (l := cLn Γ) (e := cEv Γ) (R := cR Γ) (s := cS Γ) (m := cM Γ) (args := cAr Γ) (below := cBe Γ) (meth := cMe Γ) (c := cC Γ) (H := T'.heap) (locs := locs ++ L) (cells := k + 1) (slots := n + 6) (ls := ls) (rest := st.map (cv (cE Γ))) (free := cA Γ) (Qc := QxR (cE Γ) (cA Γ) encB (.inr b, a2)) (XC := XxR (cE Γ) (cA Γ) (α := β) (.inr b, a2)) (pc := pc) (E := Ex) (ce := ce) (q := q) (mc := mc) (ms := ms) (fun x hx => (N.1 x hx).elim) g9 (by rw [e1]; exact hce) hcv hcl (fun t9 ht9 _ => ⟨b, rfl, eE, by rw [ht9, e1]; exact hP1, k3.F ht9⟩) k3.2.2 hk.1 hk.2
      obtain ⟨t2, b1, b2⟩ := hw T' rfl X'
      exact ⟨t2, go.trans b1, b2⟩
theorem rz_iretX (G : GG Γ own cc nL (some .int) h k n) {v : Int32} (hk : k ≤ mc ∧ n ≤ ms) (hd : decode cc pc = .ok (.ireturn, 1)) : Rz Γ nL (QmX Γ encI mc ms) k n pc lv [.int v] (rtX v) := by
  intro σ H locs ls r hr hP hS hl
  cases hr
  refine W.widen hk.1 hk.2 (vx_ret ?_)
  exact W.iret G.1 G.2.1 G.2.2.2.2.2.2.2.2.2.1 (fun t ht hW => ⟨v, rfl, rfl, by rw [ht]; exact hP, hS.F ht⟩) hS.2.2 hd G.2.2.2.2.2.2.2.2.1
theorem rz_lretX (G : GG Γ own cc nL (some .long) h k n) {v : Int64} (hk : k ≤ mc ∧ n ≤ ms) (hd : decode cc pc = .ok (.lreturn, 1)) : Rz Γ nL (QmX Γ encL mc ms) k n pc lv [.long v] (rtX v) := by
  intro σ H locs ls r hr hP hS hl
  cases hr
  refine W.widen hk.1 hk.2 (vx_ret ?_)
  exact W.lret G.1 G.2.1 G.2.2.2.2.2.2.2.2.2.1 (fun t ht hW => ⟨v, rfl, rfl, by rw [ht]; exact hP, hS.F ht⟩) hS.2.2 hd G.2.2.2.2.2.2.2.2.1
theorem rz_vretX (G : GG Γ own cc nL none h k n) (hk : k ≤ mc ∧ n ≤ ms) (hd : decode cc pc = .ok (.return_, 1)) : Rz Γ nL (QmX Γ encV mc ms) k n pc lv [] (rtX ()) := by
  intro σ H locs ls r hr hP hS hl
  cases hr
  refine W.widen hk.1 hk.2 (vx_ret ?_)
  exact W.vret G.1 G.2.1 G.2.2.2.2.2.2.2.2.2.1 (fun t ht hW => ⟨(), rfl, rfl, by rw [ht]; exact hP, hS.F ht⟩) hS.2.2 hd G.2.2.2.2.2.2.2.2.1
end ThrowRules
-- need, demand
def f_X10_need (x0 : Int32) : Sg → Option ((Unit ⊕ Bool) × Sg) := br (x0 = 0) (fun σ => some (.inr false, σ)) (rtX ())
def f_X10_demand (x0 : Int32) : Sg → Option ((Unit ⊕ Bool) × Sg) := br (x0 = 0) (fun σ => some (.inr true, σ)) (rtX ())
theorem xat_demand : (∀ w ∈ (vx_atS RX10 396 "java/lang/IllegalArgumentException" ["java/lang/RuntimeException", "java/lang/Exception"]).filter goodWord, w ∈ gT) := by decide +kernel
theorem xbt_demand : ∀ w ∈ (vx_atS RX10 396 "java/lang/IllegalArgumentException" ["java/lang/RuntimeException", "java/lang/Exception"]).filter (fun w => !goodWord w), w ∈ xW := by decide +kernel
theorem xgd_demand : ∀ w ∈ Cond.classLink RX10 392 "java/lang/IllegalArgumentException" :: Cond.initialized "java/lang/IllegalArgumentException" :: vx_atS RX10 396 "java/lang/IllegalArgumentException" ["java/lang/RuntimeException", "java/lang/Exception"], vx_ot w = true := by decide +kernel
theorem xkl_demand : Cond.classLink RX10 392 "java/lang/IllegalArgumentException" ∈ gT := gT_tab 775 (by decide +kernel) rfl
theorem xki_demand : Cond.initialized "java/lang/IllegalArgumentException" ∈ gT := gT_tab 16 (by decide +kernel) rfl
theorem c_X10_demand (l : Launch) (hlt : l.stackTraces = false) (x0 : Int32) : CtX l yX10_demand cX10_demand 1 none 8 1 6 encV [.int x0] (f_X10_demand x0) := by
  refine ctX_of (own := RX10) (by decide) rfl (Nat.le_of_ble_eq_true rfl) (fun Γ hl0 G N => ?_)
  subst hl0
  show Rz Γ 1 (QmX Γ encV 1 6) 0 0 0 [(0, .int x0)] [] _
  unfold f_X10_demand
  refine rz_iload_n G 0 rfl rfl (dq jX10_demand 0 rfl) ?_
  refine rz_if_ne G (tgt := 15) rfl (dq jX10_demand 1 rfl) (fun c1 => ?_) (fun c1 => ?_)
  · intro σ H locs ls r hr hP hS hl
    cases hr
    obtain ⟨g1, g2, g3, g4, g5, g6, g7, g8, g9, g10, g11, g12, g13, g14⟩ := id G
    obtain ⟨s1, s2, s3, s4, s5, s6, s7⟩ := g8
    have hstr : vk_R RX10 394 _ _ (cS Γ) := s2 _ (List.mem_of_getElem? (l := ldcL) (i := 0) rfl)
    refine vx_throwSW (names := ["java/lang/RuntimeException", "java/lang/Exception"]) (ik := 392) (ic := 396) (own := RX10) (cls := "java/lang/IllegalArgumentException") (A := cA Γ) g1 g2 hlt g4 (by decide) (by decide) (g5 _ xkl_demand) (g5 _ xki_demand) hstr (vx_hat (fun w hw => g5 w (xat_demand w hw)) xbt_demand (fun w hw => va_any (by simp only [xW, List.mem_cons, List.not_mem_nil, or_false] at hw; rcases hw with rfl | rfl | rfl | rfl | rfl <;> rfl) (s7.1 w hw))) xgd_demand s5 s6 hS (hl.1.trans g3.symm) (dq jX10_demand 2 rfl) (dq jX10_demand 3 rfl) (dq jX10_demand 4 rfl) (dq jX10_demand 5 rfl) (dq jX10_demand 6 rfl) (fun x hx => (N.1 x hx).elim) ?_ ?_ ?_ ?_ g9 ?_ hS.2.2 (Nat.le_refl _) (Nat.le_refl _)
    · exact Nat.lt_of_lt_of_le (by decide : 5 < 8) g11
    · exact Nat.le_trans (Nat.le_of_ble_eq_true rfl) g12
    · rw [N.2.1]; exact Nat.le_refl _
    · rw [N.2.2]; exact Nat.le_refl _
    · intro t _ hz hk
      refine ⟨true, rfl, rfl, ?_, Nat.le_trans hS.1 hz, fun q h1 h2 => by rw [hk q (Nat.lt_of_lt_of_le h1 hS.1)]; exact hS.2.1 q h1 h2⟩
      exact va_P.kept hP (fun j q hj => hk q.1 (hP j q hj).lt)
  · exact rz_vretX G (by decide) (dq jX10_demand 7 rfl)
-- need: NoSuchElementException's constructor has a link of its own
abbrev bN13 : ByteArray := prog_31_method_4_code
abbrev aN13 : List Cond := n13 RX10 389 "java/util/NoSuchElementException" "java/lang/RuntimeException" 13 bN13 ["java/lang/Exception"]
theorem xat_need : (∀ w ∈ (aN13.filter vx_no).filter goodWord, w ∈ gT) := by decide +kernel
theorem xbt_need : ∀ w ∈ (aN13.filter vx_no).filter (fun w => !goodWord w), w ∈ xW := by decide +kernel
theorem xgd_need : ∀ w ∈ Cond.classLink RX10 385 "java/util/NoSuchElementException" :: Cond.initialized "java/util/NoSuchElementException" :: aN13.filter vx_no, vx_ot w = true := by decide +kernel
theorem xkl_need : Cond.classLink RX10 385 "java/util/NoSuchElementException" ∈ gT := gT_tab 1118 (by decide +kernel) rfl
theorem xki_need : Cond.initialized "java/util/NoSuchElementException" ∈ gT := gT_tab 24 (by decide +kernel) rfl
theorem bN_0 : decode bN13 0 = .ok (.aload_n 0, 1) := by decide +kernel
theorem bN_1 : decode bN13 1 = .ok (.aload_n 1, 1) := by decide +kernel
theorem bN_2 : decode bN13 2 = .ok (.invokespecial 13, 3) := by decide +kernel
theorem bN_5 : decode bN13 5 = .ok (.return_, 1) := by decide +kernel
set_option maxHeartbeats 4000000 in
theorem thrown13 {Γ : Cx} {cc : ByteArray} {k n mc ms : Nat} {Qc : Array Value → State → Outcome → State → Prop} {XC : String → State → State → Prop} {pc : Nat} {H : Heap} {locs : List Loc} {ls : Array Slot} {rest : List Value} {sa : Nat} {text : String} (G : GG Γ RX10 cc 1 none 8 k n) (hl : (cLn Γ).stackTraces = false) (hstr : vk_R RX10 387 text sa (cS Γ))
    (hS : va_S (cA Γ) (cS Γ).heap H locs) (hsize : ls.size = (cC Γ).maxLocals)
    (d0 : decode cc pc = .ok (.new 385, 3)) (d3 : decode cc (pc + 3) = .ok (.dup, 1)) (d4 : decode cc (pc + 4) = .ok (.ldc_w 387, 3)) (d7 : decode cc (pc + 7) = .ok (.invokespecial 389, 3)) (d10 : decode cc (pc + 10) = .ok (.athrow, 1))
    (hout : ∀ x ∈ (cC Γ).exceptionTable.toList, covers x (pc + 10) = false)
    (hRlocals : (rest.map fun v => v.category).sum + 82 ≤ (cR Γ).locals) (hRcells : k + 1 ≤ (cR Γ).cells) (hRslots : n + 6 ≤ (cR Γ).slots)
    (hx : ∀ t : State, (cS Γ).vm.Alike t.vm → H.size ≤ t.heap.size → (∀ q : Nat, q < H.size → t.heap[q]? = H[q]?) → XC "java/util/NoSuchElementException" (cS Γ) t)
    (hf : ∀ z ∈ locs, cA Γ z.base) (hc : k + 1 ≤ mc) (hs : n + 6 ≤ ms) : WX Γ H locs k n (vx_MQ (cBe Γ) Qc XC (cAr Γ) (cS Γ) mc ms (cA Γ)) (F0 (cM Γ) pc ls rest) := by
  obtain ⟨hexec, hb, g3, hown, g5, g6, g7, g8, hlocks, g10, g11, g12, g13, g14⟩ := G
  obtain ⟨s1, s2, s3, s4, hU, hN, s7⟩ := g8
  intro T hT X
  have htr : (cEv Γ).platform.stackTraces = false := (show (cEv Γ).platform.stackTraces = (cLn Γ).stackTraces by rw [X.admits.platform]).trans hl
  have Y := vx_rebase X (R' := { frames := (cR Γ).frames, locals := (cR Γ).locals, cells := 1, slots := 6 }) (Nat.le_refl _) (Nat.le_refl _) hRcells hRslots
  obtain ⟨s', hA⟩ : ∃ z, z = (T.setVm (cS Γ).vm).setFrames (.invoking (cM Γ) (cAr Γ) :: (cBe Γ)) := ⟨_, rfl⟩
  rw [← hA] at Y
  have hvm : s'.vm = (cS Γ).vm := by rw [hA]; rfl
  have hhp : s'.heap = H := by rw [hA]; exact hT
  have hW0 : (cS Γ).WarmedH s'.vm := by rw [hvm]; exact State.WarmedH.refl (cS Γ)
  have hat0 : ∀ w ∈ aN13.filter vx_no, w.before (cAr Γ) (cS Γ) = true := vx_hat (fun w hw => g5 w (xat_need w hw)) xbt_need (fun w hw => va_any (by simp only [xW, List.mem_cons, List.not_mem_nil, or_false] at hw; rcases hw with rfl | rfl | rfl | rfl | rfl <;> rfl) (s7.1 w hw))
  have hat' : ∀ w ∈ aN13.filter vx_no, w.before (cAr Γ) s' = true := fun w hw => vx_ot_at hW0 hvm.symm (xgd_need w (List.mem_cons_of_mem _ (List.mem_cons_of_mem _ hw))) (hat0 w hw)
  have hk' : (Cond.classLink RX10 385 "java/util/NoSuchElementException").before (cAr Γ) s' = true := vx_ot_at hW0 hvm.symm (xgd_need _ List.mem_cons_self) (g5 _ xkl_need)
  have hini' : (Cond.initialized "java/util/NoSuchElementException").before (cAr Γ) s' = true := vx_ot_at hW0 hvm.symm (xgd_need _ (List.mem_cons_of_mem _ List.mem_cons_self)) (g5 _ xki_need)
  have hU' : vx_Zq Bundle.tN "UNASSIGNED_STACK" Bundle.steD (cA Γ) s' s'.heap := by rw [hhp]; exact vx_Zq.moved hW0.alike (hU.kept hS.2.1)
  have hN' : vx_Zq Bundle.tN "SUPPRESSED_SENTINEL" Bundle.listD (cA Γ) s' s'.heap := by rw [hhp]; exact vx_Zq.moved hW0.alike (hN.kept hS.2.1)
  have h : ∀ w ∈ aN13, w.before (cAr Γ) s' = true := vx_own hat' (vx_isRefq hU'.1) (vx_isRefq hN'.1) hU'.2.word hN'.2.word
  have hown' : s'.vm.findClass RX10 = some (cM Γ).cls := by rw [hvm]; exact hown
  have hins : (Cond.instantiable "java/util/NoSuchElementException" 6).before (cAr Γ) s' = true := h _ (by simp [n13])
  obtain ⟨vm₁, cX, kX, hfX, hkX, -, -, X₁, st1⟩ := Y.newCold hexec (own := RX10) (C := "java/util/NoSuchElementException") (index := 385) (n := 6) hown' hk' hins hini'
    (g := F0 (cM Γ) pc ls rest) rfl (by rw [hb]; exact d0) (Nat.le_refl _) (Nat.le_refl _)
  generalize hT1 : (T.setVm vm₁).pushCell { cls := cX, slots := kX.instanceTypes.map defaultValue, vm := .none } = T1 at X₁ st1
  have hcat : (Value.ref T.heap.size).category = 1 := rfl
  have hcellA : T1.heap[T.heap.size]? = some (freshCell cX kX) := by rw [← hT1]; exact State.heap_pushCell_size _ _
  have d3' : decode (cC Γ).code (pc + 3) = .ok (.dup, 1) := by rw [hb]; exact d3
  have d4' : decode (cC Γ).code (pc + 4) = .ok (.ldc_w 387, 3) := by rw [hb]; exact d4
  have hstr' : vk_R RX10 387 text sa s' := vk_R.warm hW0 hstr
  obtain ⟨U, hsteps, hrun, hend, hW, hsame, ce, hce, hcl0, hcv⟩ := ctor13 X₁ hexec htr (own := RX10) (cls := "java/util/NoSuchElementException") (Y0 := "java/lang/RuntimeException") (r := ["java/lang/Exception"]) (ic := 389) (ix := 13) (bs := bN13) hown' (by decide) (by decide) (by decide) bN_0 bN_1 bN_2 bN_5 h (fun x hx => nomatch hx) hfX hkX hcellA (by rw [hhp, hT]; exact Nat.le_refl _) (msg := .ref sa) rfl
    (g := { method := cM Γ, pc := pc + 7, locals := ls, stack := .ref sa :: .ref T.heap.size :: .ref T.heap.size :: rest, locked := none }) rfl hsize rfl rfl (rest := rest) rfl
    (by rw [hb]; exact d7) (by rw [hb]; exact d10) hout (Nat.lt_of_lt_of_le (by decide : 5 < 8) g11) (by simp only [List.map_cons, List.sum_cons, hcat]; show 2 * 0 + _ + _ ≤ (cR Γ).locals; simp only [List.length_cons, List.length_nil]; omega) hlocks
  obtain ⟨f1, f2⟩ := vx_frame hsame
  rw [hhp] at f1 f2
  have hWs : (cS Γ).WarmedH U.vm := State.WarmedH.trans hW0 hW
  have hcl : (cS Γ).vm.findClass "java/util/NoSuchElementException" = some ce.cls := by
    have h9 := hcl0
    rw [hvm] at h9
    exact h9
  have hall : (cS Γ).sameButNew ({ U with vm := (cS Γ).vm } : State) locs mc ms := by
    subst hA
    obtain ⟨e1, e2⟩ := hsame
    rw [State.setFrames_setFrames] at e1
    have h2 : (T.setVm (cS Γ).vm).sameButNew ({ U with vm := (cS Γ).vm } : State) [] (0 + 1) (0 + 6) := ⟨e1, e2⟩
    have h3 := X.same.trans h2
    rw [List.append_nil] at h3
    exact h3.mono hc hs
  refine ⟨U, ?_, .threw T.heap.size, hrun, hend, Or.inr ⟨T.heap.size, rfl, "java/util/NoSuchElementException", ce, locs, hx U hWs.alike f1 (fun q hq => f2 q hq (fun z hz => nomatch hz)), hce, hcv, hcl, hWs, hall, hf⟩⟩
  refine st1 _ ?_
  show Steps (cP Γ).tables (cEv Γ) (cBe Γ) (T1.setTop { method := cM Γ, pc := pc + 3, locals := ls, stack := .ref T.heap.size :: rest, locked := none }) _
  jvm_step X₁.here [X₁.here.top, hexec, d3', Value.category]
  exact X₁.ldcStringW hexec (own := RX10) (text := text) (index := 387) (a := sa) hown' hstr'.1 hstr'.2
    (g := { method := cM Γ, pc := pc + 4, locals := ls, stack := .ref T.heap.size :: .ref T.heap.size :: rest, locked := none }) rfl d4' _ hsteps
theorem c_X10_need (l : Launch) (hlt : l.stackTraces = false) (x0 : Int32) : CtX l yX10_need cX10_need 1 none 8 1 6 encV [.int x0] (f_X10_need x0) := by
  refine ctX_of (own := RX10) (by decide) rfl (Nat.le_of_ble_eq_true rfl) (fun Γ hl0 G N => ?_)
  subst hl0
  show Rz Γ 1 (QmX Γ encV 1 6) 0 0 0 [(0, .int x0)] [] _
  unfold f_X10_need
  refine rz_iload_n G 0 rfl rfl (dq jX10_need 0 rfl) ?_
  refine rz_if_ne G (tgt := 15) rfl (dq jX10_need 1 rfl) (fun c1 => ?_) (fun c1 => ?_)
  · intro σ H locs ls r hr hP hS hl
    cases hr
    have hstr : vk_R RX10 387 _ _ (cS Γ) := G.2.2.2.2.2.2.2.1.2.1 _ (List.mem_of_getElem? (l := ldcL) (i := 21) rfl)
    refine thrown13 G hlt hstr hS (hl.1.trans G.2.2.1.symm) (dq jX10_need 2 rfl) (dq jX10_need 3 rfl) (dq jX10_need 4 rfl) (dq jX10_need 5 rfl) (dq jX10_need 6 rfl) (fun x hx => (N.1 x hx).elim) ?_ ?_ ?_ ?_ hS.2.2 (Nat.le_refl _) (Nat.le_refl _)
    · exact Nat.le_trans (Nat.le_of_ble_eq_true rfl) G.2.2.2.2.2.2.2.2.2.2.2.1
    · rw [N.2.1]; exact Nat.le_refl _
    · rw [N.2.2]; exact Nat.le_refl _
    · intro t _ hz hk
      refine ⟨false, rfl, rfl, ?_, Nat.le_trans hS.1 hz, fun q h1 h2 => by rw [hk q (Nat.lt_of_lt_of_le h1 hS.1)]; exact hS.2.1 q h1 h2⟩
      exact va_P.kept hP (fun j q hj => hk q.1 (hP j q hj).lt)
  · exact rz_vretX G (by decide) (dq jX10_need 7 rfl)
