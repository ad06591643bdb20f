-- ===== constructors: worlds that grow, cell behind cell =====
/-- the cells es, from the address h0 on -/
def wl (h0 : Nat) (es : List va_E) : va_W := es.mapIdx (fun j e => (h0 + j, e))
theorem wl_at {h0 j : Nat} {es : List va_E} {e : va_E} (h : es[j]? = some e) : (wl h0 es)[j]? = some (h0 + j, e) := by
  simp only [wl, List.getElem?_mapIdx, h, Option.map_some]
theorem wl_inv {h0 j : Nat} {es : List va_E} {q : Nat × va_E} (h : (wl h0 es)[j]? = some q) : q.1 = h0 + j ∧ es[j]? = some q.2 := by
  simp only [wl, List.getElem?_mapIdx] at h
  cases hs : es[j]? with
  | none => rw [hs] at h; cases h
  | some e => rw [hs] at h; cases h; exact ⟨rfl, rfl⟩
theorem wl_D {h0 : Nat} {es : List va_E} : va_D (fun q => h0 ≤ q) (wl h0 es) := ⟨fun i j p q hi hj e => by
  have a := (wl_inv hi).1
  have b := (wl_inv hj).1
  omega, fun k q hk => by
  have a := (wl_inv hk).1
  show h0 ≤ q.1
  omega⟩
theorem wl_set {h0 j : Nat} {es : List va_E} {e : va_E} : (wl h0 es).set j (h0 + j, e) = wl h0 (es.set j e) := by
  apply List.ext_getElem?
  intro i
  by_cases hij : j = i
  · subst hij
    by_cases hl : j < es.length
    · rw [List.getElem?_set_self (by simp only [wl, List.length_mapIdx]; exact hl), wl_at (List.getElem?_set_self hl)]
    · rw [List.set_eq_of_length_le (by simp only [wl, List.length_mapIdx]; omega), List.set_eq_of_length_le (by omega)]
  · rw [List.getElem?_set_ne hij]
    simp only [wl, List.getElem?_mapIdx, List.getElem?_set_ne hij]
/-- what a constructor finds, what it leaves -/
def NPre (E : En) (h0 : Nat) (es : List va_E) (U : State) : Prop := U.heap.size = h0 + es.length ∧ va_P E.2.1 vwCl (wl h0 es) U.heap ∧ va_K E.2.1 vwCl (tyE E) U ∧ va_AO "TrampolineMat$Flyer" U
def NPost (E : En) (h0 : Nat) (es : List va_E) : Array Value → State → Outcome → State → Prop := va_Qv (fun _ : Unit => True) (fun _ t => t.heap.size = h0 + es.length ∧ va_P E.2.1 vwCl (wl h0 es) t.heap) (fun q => h0 ≤ q)
def CtN (l : Launch) (y : MethodName) (cc : ByteArray) (nL h mc ms : Nat) (E : En) (h0 : Nat) (vs : List Value) (es es' : List va_E) : Prop := Met l y (.code y cc nL none :: gT) (rmx h mc ms) (va_Pc vs (NPre E h0 es)) (NPost E h0 es') mc ms (fun q => h0 ≤ q)
/-- from the place pc with locals lv, stack st and the cells es -/
def Nz (Γ : Cx) (nL : Nat) (Q : State → Prop) (h0 k n pc : Nat) (lv : List (Nat × Value)) (st : List Value) (es : List va_E) : Prop :=
  ∀ (H : Heap) (locs : List Loc) (ls : Array Slot), H.size = h0 + es.length → va_P (cE Γ).2.1 vwCl (wl h0 es) H → va_S (fun q => h0 ≤ q) (cS Γ).heap H locs → lv_has ls nL lv → WX Γ H locs k n Q (F0 (cM Γ) pc ls st)
/-- what holds of the method -/
def NG (Γ : Cx) (own : String) (cc : ByteArray) (nL h h0 mc ms : Nat) : Prop :=
  (cP Γ).tables.exec = Jvm.exec ∧ (cC Γ).code = cc ∧ (cC Γ).maxLocals = nL ∧ (cS Γ).vm.findClass own = some (cM Γ).cls ∧ (∀ w ∈ gT, w.before (cAr Γ) (cS Γ) = true) ∧ va_K (cE Γ).2.1 vwCl (tyE (cE Γ)) (cS Γ) ∧ va_AO "TrampolineMat$Flyer" (cS Γ) ∧ (cMe Γ).locks = false ∧ h ≤ (cR Γ).frames ∧ 40 * h ≤ (cR Γ).locals ∧ mc ≤ (cR Γ).cells ∧ ms ≤ (cR Γ).slots ∧ h0 ≤ (cS Γ).heap.size
theorem blind_N {E : En} {h0 : Nat} {es : List va_E} {av : List Value} : FrameBlind (va_Pc av (NPre E h0 es)) := by
  rintro a U g mk ⟨e0, e1, e2, e3, e4⟩
  exact ⟨e0, e1, e2, va_K.moved (u := U) (U := U.calling g mk a) (Vm.Alike.refl U.vm) e3, va_AO.moved (u := U) (U := U.calling g mk a) (Vm.Alike.refl U.vm) e4⟩
theorem ctN_of {l : Launch} {y : MethodName} {own : String} {cc : ByteArray} {nL h mc ms : Nat} {E : En} {h0 : Nat} {vs : List Value} {es es' : List va_E} (hy : plainName y.cls = true) (ho : y.cls = own) (hn : (lg_sl vs).length ≤ nL) (body : ∀ Γ : Cx, cLn Γ = l → cE Γ = E → NG Γ own cc nL h h0 mc ms → (cMe Γ).sig.returnType = none → (cMe Γ).name = y.name → Nz Γ nL (MQ (cBe Γ) (NPost E h0 es') (cAr Γ) (cS Γ) mc ms (fun q => h0 ≤ q)) h0 0 0 0 (lv_args 0 vs) [] es) : CtN l y cc nL h mc ms E h0 vs es es' := by
  refine Met.ofW (cc := cc) (maxL := nL) (ret := none) hy rfl ?_
  intro p e s m args below meth c s₁ B hml hv
  obtain ⟨rfl, hz, hP, hK, hO⟩ := hv
  have hts := atoms_spec (ws := .code y cc nL none :: gT) B.pre
  have G : NG (p, l, e, rmx h mc ms, s, m, vs.toArray, below, meth, c, E, (fun q => h0 ≤ q)) own cc nL h h0 mc ms := ⟨B.exec, B.bytes, hml, by rw [← ho]; exact findClass_of_methodNamed B.named, fun w hw => hts w (List.mem_cons_of_mem _ hw), hK, hO, B.notSynchronized, Nat.le_refl _, Nat.le_refl _, Nat.le_refl _, Nat.le_refl _, by show h0 ≤ s.heap.size; omega⟩
  have hl := lv_entry vs (n := nL) hn
  rw [lg_entry_eq]
  generalize (lg_sl vs ++ List.replicate (nL - (lg_sl vs).length) Slot.unset).toArray = ls at hl ⊢
  exact body _ rfl rfl G B.returns (name_of_methodNamed B.named B.method).1 s.heap [] ls hz hP va_S.rf hl
section NzRules
variable {Γ : Cx} {own : String} {cc : ByteArray} {nL h h0 mc ms k n pc : Nat} {Q : State → Prop} {lv lv' : List (Nat × Value)} {st : List Value} {es es' : List va_E}
theorem nz_aload_n (G : NG Γ own cc nL h h0 mc ms) (j : Nat) {z : Fin 4} {i : Nat} {v : Nat} (hj : lv[j]? = some (i, .ref v)) (hi : (z : Nat) = i) (hd : decode cc pc = .ok (.aload_n z, 1)) (K : Nz Γ nL Q h0 k n (pc + 1) lv (.ref v :: st) es) : Nz Γ nL Q h0 k n pc lv st es := by
  intro H locs ls hz hP hS hl
  exact lv_aload_n G.1 G.2.1 hd hi (lv_at hl j hj) (K H locs ls hz hP hS hl)
theorem nz_iload_n (G : NG Γ own cc nL h h0 mc ms) (j : Nat) {z : Fin 4} {i : Nat} {v : Int32} (hj : lv[j]? = some (i, .int v)) (hi : (z : Nat) = i) (hd : decode cc pc = .ok (.iload_n z, 1)) (K : Nz Γ nL Q h0 k n (pc + 1) lv (.int v :: st) es) : Nz Γ nL Q h0 k n pc lv st es := by
  intro H locs ls hz hP hS hl
  exact lv_iload_n G.1 G.2.1 hd hi (lv_at hl j hj) (K H locs ls hz hP hS hl)
theorem nz_iconst (G : NG Γ own cc nL h h0 mc ms) {z : Int} {v : Int32} (hd : decode cc pc = .ok (.iconst z, 1)) (hv : Int32.ofInt z = v) (K : Nz Γ nL Q h0 k n (pc + 1) lv (.int v :: st) es) : Nz Γ nL Q h0 k n pc lv st es := by
  intro H locs ls hz hP hS hl
  exact lv_iconst G.1 G.2.1 hd hv (K H locs ls hz hP hS hl)
theorem nz_bipush (G : NG Γ own cc nL h h0 mc ms) {z : Int} {v : Int32} (hd : decode cc pc = .ok (.bipush z, 2)) (hv : (Int8.ofInt z).toInt32 = v) (K : Nz Γ nL Q h0 k n (pc + 2) lv (.int v :: st) es) : Nz Γ nL Q h0 k n pc lv st es := by
  intro H locs ls hz hP hS hl
  exact lv_bipush G.1 G.2.1 hd hv (K H locs ls hz hP hS hl)
theorem nz_sipush (G : NG Γ own cc nL h h0 mc ms) {z : Int} {v : Int32} (hd : decode cc pc = .ok (.sipush z, 3)) (hv : (Int16.ofInt z).toInt32 = v) (K : Nz Γ nL Q h0 k n (pc + 3) lv (.int v :: st) es) : Nz Γ nL Q h0 k n pc lv st es := by
  intro H locs ls hz hP hS hl
  exact lv_sipush G.1 G.2.1 hd hv (K H locs ls hz hP hS hl)
theorem nz_dup (G : NG Γ own cc nL h h0 mc ms) {a : Value} (ha : a.category = 1) (hd : decode cc pc = .ok (.dup, 1)) (K : Nz Γ nL Q h0 k n (pc + 1) lv (a :: a :: st) es) : Nz Γ nL Q h0 k n pc lv (a :: st) es := by
  intro H locs ls hz hP hS hl
  exact lv_dup G.1 G.2.1 hd ha (K H locs ls hz hP hS hl)
theorem nz_istore_n (G : NG Γ own cc nL h h0 mc ms) {i : Nat} {x : Int32} {z : Fin 4} (hi : (z : Nat) = i) (hn : i < nL) (hl0 : (i, Value.int x) :: lv.filter (fun q => !(q.1 == i) && !(q.1 + 1 == i && q.2.category == 2)) = lv') (hd : decode cc pc = .ok (.istore_n z, 1)) (K : Nz Γ nL Q h0 k n (pc + 1) lv' st es) : Nz Γ nL Q h0 k n pc lv (.int x :: st) es := by
  intro H locs ls hz hP hS hl
  exact lv_istore_n (lv' := lv') G.1 G.2.1 hd hi hl hn hl0 (fun ls hl => K H locs ls hz hP hS hl)
theorem nz_istore (G : NG Γ own cc nL h h0 mc ms) {i : Nat} {x : Int32} (hn : i < nL) (hl0 : (i, Value.int x) :: lv.filter (fun q => !(q.1 == i) && !(q.1 + 1 == i && q.2.category == 2)) = lv') (hd : decode cc pc = .ok (.istore i, 2)) (K : Nz Γ nL Q h0 k n (pc + 2) lv' st es) : Nz Γ nL Q h0 k n pc lv (.int x :: st) es := by
  intro H locs ls hz hP hS hl
  exact lv_istore (lv' := lv') G.1 G.2.1 hd hl hn hl0 (fun ls hl => K H locs ls hz hP hS hl)
theorem nz_astore_n (G : NG Γ own cc nL h h0 mc ms) {i : Nat} {x : Nat} {z : Fin 4} (hi : (z : Nat) = i) (hn : i < nL) (hl0 : (i, Value.ref x) :: lv.filter (fun q => !(q.1 == i) && !(q.1 + 1 == i && q.2.category == 2)) = lv') (hd : decode cc pc = .ok (.astore_n z, 1)) (K : Nz Γ nL Q h0 k n (pc + 1) lv' st es) : Nz Γ nL Q h0 k n pc lv (.ref x :: st) es := by
  intro H locs ls hz hP hS hl
  exact lv_astore_n (lv' := lv') G.1 G.2.1 hd hi hl hn hl0 (fun ls hl => K H locs ls hz hP hS hl)
theorem nz_iinc (G : NG Γ own cc nL h h0 mc ms) (j : Nat) {i : Nat} {z : Int} {x v : Int32} (hj : lv[j]? = some (i, .int x)) (hv : x + Int32.ofInt z = v) (hn : i < nL) (hl0 : (i, Value.int v) :: lv.filter (fun q => !(q.1 == i) && !(q.1 + 1 == i && q.2.category == 2)) = lv') (hd : decode cc pc = .ok (.iinc i z, 3)) (K : Nz Γ nL Q h0 k n (pc + 3) lv' st es) : Nz Γ nL Q h0 k n pc lv st es := by
  intro H locs ls hz hP hS hl
  exact lv_iinc (v := v) (lv' := lv') G.1 G.2.1 hd hl (k := j) hj hv hn hl0 (fun ls hl => K H locs ls hz hP hS hl)
theorem nz_goto (G : NG Γ own cc nL h h0 mc ms) {off : Int} {tgt : Nat} (ht : (pc : Int) + off = (tgt : Int)) (hd : decode cc pc = .ok (.goto off, 3)) (K : Nz Γ nL Q h0 k n tgt lv st es) : Nz Γ nL Q h0 k n pc lv st es := by
  intro H locs ls hz hP hS hl
  exact lv_goto (tgt := tgt) G.1 G.2.1 hd ht (K H locs ls hz hP hS hl)
theorem nz_ge_t (G : NG Γ own cc nL h h0 mc ms) {x y : Int32} {off : Int} {tgt : Nat} (hc : y ≤ x) (ht : (pc : Int) + off = (tgt : Int)) (hd : decode cc pc = .ok (.if_icmp .ge off, 3)) (K : Nz Γ nL Q h0 k n tgt lv st es) : Nz Γ nL Q h0 k n pc lv (.int y :: .int x :: st) es := by
  intro H locs ls hz hP hS hl
  exact lv_icmp_ge (tgt := tgt) G.1 G.2.1 hd ht (fun _ => K H locs ls hz hP hS hl) (fun h => absurd hc h)
theorem nz_ge_f (G : NG Γ own cc nL h h0 mc ms) {x y : Int32} {off : Int} {tgt : Nat} (hc : ¬ y ≤ x) (ht : (pc : Int) + off = (tgt : Int)) (hd : decode cc pc = .ok (.if_icmp .ge off, 3)) (K : Nz Γ nL Q h0 k n (pc + 3) lv st es) : Nz Γ nL Q h0 k n pc lv (.int y :: .int x :: st) es := by
  intro H locs ls hz hP hS hl
  exact lv_icmp_ge (tgt := tgt) G.1 G.2.1 hd ht (fun h => absurd h hc) (fun _ => K H locs ls hz hP hS hl)
theorem nz_obj (G : NG Γ own cc nL h h0 mc ms) {idx : Nat} {a : Nat} (hlk : Cond.methodLink own idx objectInit ∈ gT) (h1 : 1 ≤ h) (hs : (st.map (fun v => v.category)).sum ≤ 8) (hi : Cond.instanceMethod objectInit ∈ gT) (hcd : Cond.code objectInit ⟨#[0xb1]⟩ 1 none ∈ gT) (hd : decode cc pc = .ok (.invokespecial idx, 3)) (K : Nz Γ nL Q h0 k n (pc + 3) lv st es) : Nz Γ nL Q h0 k n pc lv (.ref a :: st) es := by
  intro H locs ls hz hP hS hl
  obtain ⟨g1, g2, g3, g4, g5, g6, g7, g8, g9, g10, g11, g12, g13⟩ := G
  refine W.objInit g1 g2 g4 (g5 _ hlk) (g5 _ hi) (g5 _ hcd) rfl (by rw [g3]; exact hl.1) rfl hd (by omega) ?_ (K H locs ls hz hP hS hl)
  have := lv_room (m := cM Γ) (pc := pc) (ls := ls) (rest := .ref a :: st) hs
  omega
theorem nz_get (G : NG Γ own cc nL h h0 mc ms) {idx ci kf j : Nat} {ty : FieldType} {fin : Bool} {fs : List Value} {v : Value} (F : FL own idx ci kf ty fin) (hj : es[j]? = some (.inr (ci, fs))) (hv : fs[kf]? = some v) (hd : decode cc pc = .ok (.getfield idx, 3)) (K : Nz Γ nL Q h0 k n (pc + 3) lv (v :: st) es) : Nz Γ nL Q h0 k n pc lv (.ref (h0 + j) :: st) es := by
  intro H locs ls hz hP hS hl
  obtain ⟨C, T, N, ty0, hc, hkN, hin, hlink, -⟩ := F
  exact va_get (D := (cE Γ).2.1) (ci := ci) (v := v) (C := C) (T := T) (N := N) (fs := fs) G.1 G.2.1 G.2.2.2.2.1 hin G.2.2.2.1 G.2.2.2.2.2.1 hP j (wl_at hj) hc kf hkN (G.2.2.2.2.1 _ hlink) (fun _ h => h) hv hd (K H locs ls hz hP hS hl)
theorem nz_put (G : NG Γ own cc nL h h0 mc ms) {idx ci kf j : Nat} {ty : FieldType} {fs : List Value} {v : Value} (F : FL own idx ci kf ty false) (hj : es[j]? = some (.inr (ci, fs))) (hl0 : kf < fs.length) (hnr : narrow ty v = v) (hft : fits ty v = true) (he : es.set j (.inr (ci, fs.set kf v)) = es') (hd : decode cc pc = .ok (.putfield idx, 3)) (K : Nz Γ nL Q h0 k n (pc + 3) lv st es') : Nz Γ nL Q h0 k n pc lv (v :: .ref (h0 + j) :: st) es := by
  intro H locs ls hz hP hS hl
  obtain ⟨C, T, N, ty0, hc, hkN, hin, hlink, hty, hnm, het, hfin⟩ := F
  obtain ⟨g1, g2, g3, g4, g5, g6, g7, g8, g9, g10, g11, g12, g13⟩ := G
  have hpd : parseFieldDescriptor (T kf).2.2.1 = some ty := by rw [hty kf hkN, het]
  have hap := va_apart (own := own) g5 hin ty0 hty hnm g6 hc
  obtain ⟨r, h1, cell, q1, q2, q3, q4⟩ := hP j _ (wl_at hj)
  have hr : r = (C, T, N) := Option.some.inj (h1.symm.trans hc)
  subst hr
  obtain ⟨hSl, hfc, kC, hkC, hkind⟩ := g6.1 ci _ hc
  obtain ⟨cf, kf', fi, f, hi, hsl⟩ := hSl kf hkN
  have hlay := g5 _ (hin _ (u_in_lay hkN))
  unfold u_lay at hlay
  rw [if_neg (by rw [hfin]; decide)] at hlay
  have hst := (u_facts hfc hkC (u_lays g5 hin hkN) hi).1
  have h6 := u_store hfc hkC hkind hlay hi hpd hnr hft
  refine W.putK g1 g2 (f := f) ⟨g4, g5 _ hlink, ⟨_, _, _, hi⟩, hst⟩ (by rw [q2]; exact h6) q1 q3 (by rw [hsl]; exact k2_hasslot (q4 kf hkN)) rfl rfl hd fun H' e1 e2 e3 => ?_
  rw [hsl] at e1 ⊢
  have hP' := hP.set wl_D (wl_at hj) (e := .inr (ci, fs.set kf v)) ⟨_, hc, t_OB.to (V := updV (vp_V fs) kf v) ⟨_, e1, q2, q3, t_set q4 hap hkN v⟩ (fun j _ => vp_updV_set hl0 v j)⟩ e3
  rw [wl_set, he] at hP'
  exact K H' _ ls (by rw [e2, hz, ← he, List.length_set]) hP' (hS.put e2 e3 (by show h0 ≤ h0 + j; omega)) hl
theorem nz_putF (G : NG Γ own cc nL h h0 mc ms) (hin2 : (cMe Γ).name = "<init>") {idx ci kf j : Nat} {ty : FieldType} {fs : List Value} {v : Value} (F : FL own idx ci kf ty true) (hdc : ∀ q, vwCl[ci]? = some q → (q.2.1 kf).1 = own) (hj : es[j]? = some (.inr (ci, fs))) (hl0 : kf < fs.length) (hnr : narrow ty v = v) (hft : fits ty v = true) (he : es.set j (.inr (ci, fs.set kf v)) = es') (hd : decode cc pc = .ok (.putfield idx, 3)) (K : Nz Γ nL Q h0 k n (pc + 3) lv st es') : Nz Γ nL Q h0 k n pc lv (v :: .ref (h0 + j) :: st) es := by
  intro H locs ls hz hP hS hl
  obtain ⟨C, T, N, ty0, hc, hkN, hin, hlink, hty, hnm, het, hfin⟩ := F
  obtain ⟨g1, g2, g3, g4, g5, g6, g7, g8, g9, g10, g11, g12, g13⟩ := G
  have hdecl : (T kf).1 = own := hdc _ hc
  have hpd : parseFieldDescriptor (T kf).2.2.1 = some ty := by rw [hty kf hkN, het]
  have hap := va_apart (own := own) g5 hin ty0 hty hnm g6 hc
  obtain ⟨r, h1, cell, q1, q2, q3, q4⟩ := hP j _ (wl_at hj)
  have hr : r = (C, T, N) := Option.some.inj (h1.symm.trans hc)
  subst hr
  obtain ⟨hSl, hfc, kC, hkC, hkind⟩ := g6.1 ci _ hc
  obtain ⟨cf, kf', fi, f, hi, hsl⟩ := hSl kf hkN
  have hlay := g5 _ (hin _ (u_in_lay hkN))
  unfold u_lay at hlay
  rw [if_pos hfin] at hlay
  have hst := (u_facts hfc hkC (u_lays g5 hin hkN) hi).1
  have hcf : (cM Γ).cls = cf := by
    obtain ⟨_, _, c', _, _, _, -, -, hf', -, -, -, hown2, -⟩ := Cond.laysFinal_spec hlay
    have e1 : c' = cf := by have := hi.symm.trans hf'; simp at this; exact this.1.symm
    rw [hdecl] at hown2
    rw [← e1]; exact Option.some.inj (g4.symm.trans hown2)
  have h6 := u_fits hfc hkC hkind (Or.inr hlay) hi hpd hnr hft
  refine W.putFinK g1 g2 g4 (g5 _ hlink) hi hst hcf hin2 (by rw [q2]; exact h6) q1 q3 (by rw [hsl]; exact k2_hasslot (q4 kf hkN)) rfl rfl hd fun H' e1 e2 e3 => ?_
  rw [hsl] at e1 ⊢
  have hP' := hP.set wl_D (wl_at hj) (e := .inr (ci, fs.set kf v)) ⟨_, hc, t_OB.to (V := updV (vp_V fs) kf v) ⟨_, e1, q2, q3, t_set q4 hap hkN v⟩ (fun j _ => vp_updV_set hl0 v j)⟩ e3
  rw [wl_set, he] at hP'
  exact K H' _ ls (by rw [e2, hz, ← he, List.length_set]) hP' (hS.put e2 e3 (by show h0 ≤ h0 + j; omega)) hl
/-- one more cell -/
theorem wl_push {D : va_G} {h0 : Nat} {es : List va_E} {e : va_E} {H H' : Heap} (hz : H.size = h0 + es.length) (hP : va_P D vwCl (wl h0 es) H) (hn : va_at D vwCl (h0 + es.length, e) H') (ho : ∀ q, q < H.size → H'[q]? = H[q]?) : va_P D vwCl (wl h0 (es ++ [e])) H' := by
  intro j q hq
  obtain ⟨a1, a2⟩ := wl_inv hq
  by_cases hj : j < es.length
  · rw [List.getElem?_append_left hj] at a2
    have := hP j _ (wl_at a2)
    obtain ⟨q1, q2⟩ := q
    dsimp only at a1 a2
    subst a1
    exact this.kept (ho _ (by show h0 + j < H.size; omega))
  · rw [List.getElem?_append_right (by omega)] at a2
    have hl : j - es.length < 1 := (List.getElem?_eq_some_iff.mp a2).1
    rw [show j - es.length = 0 by omega] at a2
    obtain ⟨q1, q2⟩ := q
    dsimp only at a1 a2
    cases a2
    subst a1
    rw [show h0 + j = h0 + es.length by omega]
    exact hn
theorem va_S.grow {A : Nat → Prop} {H0 H H' : Heap} {locs : List Loc} (hS : va_S A H0 H locs) (hz : H'.size = H.size + 1) (ho : ∀ q, q < H.size → H'[q]? = H[q]?) : va_S A H0 H' locs := ⟨Nat.le_trans hS.1 (by omega), fun x h1 h2 => (ho x (Nat.lt_of_lt_of_le h1 hS.1)).trans (hS.2.1 x h1 h2), hS.2.2⟩
theorem nz_new (G : NG Γ own cc nL h h0 mc ms) {idx ci k' n' : Nat} {C : String} {T : u_T} {N : Nat} {fs : List Value} (hc : vwCl[ci]? = some (C, T, N)) (hin : ∀ w ∈ u_ws C T N, w ∈ gT) (ty : Nat → FieldType) (hty : ∀ k, k < N → parseFieldDescriptor (T k).2.2.1 = some (ty k)) (hlk : Cond.classLink own idx C ∈ gT) (hinst : Cond.instantiable C N ∈ gT) (hini : Cond.initialized C ∈ gT) (hfs : ∀ j, j < N → defaultValue (ty j) = vp_V fs j) (hk : k + 1 = k' ∧ n + N = n') (hR : k' ≤ mc ∧ n' ≤ ms) (hd : decode cc pc = .ok (.new idx, 3)) (K : Nz Γ nL Q h0 k' n' (pc + 3) lv (.ref (h0 + es.length) :: st) (es ++ [.inr (ci, fs)])) : Nz Γ nL Q h0 k n pc lv st es := by
  obtain ⟨rfl, rfl⟩ := hk
  intro H locs ls hz hP hS hl
  obtain ⟨g1, g2, g3, g4, g5, g6, g7, g8, g9, g10, g11, g12, g13⟩ := G
  have hKn := g6.1 ci _ hc
  refine W.newcK g1 g2 g4 (g5 _ hlk) (g5 _ hinst) (g5 _ hini) rfl hd (by omega) (by omega) hKn.2.1 hz fun H1 kC hkC e1 z1 o1 => ?_
  have o2 : ∀ q, q < H.size → H1[q]? = H[q]? := fun q hq => o1 q (by omega)
  exact K H1 locs ls (by rw [z1, List.length_append]; rfl) (wl_push hz hP ⟨_, hc, (u_born ty g5 hin hKn hkC e1 hty).to hfs⟩ o2) (hS.grow (by omega) o2) hl
theorem nz_newa (G : NG Γ own cc nL h h0 mc ms) {atype : ArrayType} {x : Int32} {t0 N k' n' : Nat} {ty : FieldType} {cA : ClassId} {a0 : vp_A} (hty : newarray.typeOf atype = ty) (harr : Cond.arrayClass ty ∈ gT) (ht0 : (tyE (cE Γ))[t0]? = some (cA, ty)) (hra : ∀ U : State, va_RA U cA ty → U.vm.findClass ("[" ++ ty.toString) = some cA) (ha : ∀ cA : ClassId, vp_cell cA a0 = arrV cA N (fun _ => defaultValue ty)) (hx : ¬ x < 0) (hN : x.toNatClampNeg = N) (hby : N * componentBytes ty ≤ 536870912) (hk : k + 1 = k' ∧ n + N = n') (hR : k' ≤ mc ∧ n' ≤ ms) (hd : decode cc pc = .ok (.newarray atype, 2)) (K : Nz Γ nL Q h0 k' n' (pc + 2) lv (.ref (h0 + es.length) :: st) (es ++ [.inl (cA, a0)])) : Nz Γ nL Q h0 k n pc lv (.int x :: st) es := by
  obtain ⟨rfl, rfl⟩ := hk
  intro H locs ls hz hP hS hl
  subst hty
  obtain ⟨g1, g2, g3, g4, g5, g6, g7, g8, g9, g10, g11, g12, g13⟩ := G
  refine va_newaK g1 g2 (g5 _ harr) rfl hd rfl hx hN hby (by omega) (by omega) hz fun H1 cB e1 z1 o1 hAr hNm => ?_
  have o2 : ∀ q, q < H.size → H1[q]? = H[q]? := fun q hq => o1 q (by omega)
  have hcB : cB = cA := Option.some.inj (hNm.symm.trans (hra _ (g6.2 t0 _ ht0).2))
  subst hcB
  refine K H1 locs ls (by rw [z1, List.length_append]; rfl) (wl_push hz hP ?_ o2) (hS.grow (by omega) o2) hl
  show H1[h0 + es.length]? = some (vp_cell _ _)
  rw [ha]
  exact e1
theorem nz_anew (G : NG Γ own cc nL h h0 mc ms) {idx N k' n' : Nat} {x : Int32} (hlk : Cond.classLink own idx "TrampolineMat$Flyer" ∈ gT) (hx : ¬ x < 0) (hN : x.toNatClampNeg = N) (hby : N * 4 ≤ 536870912) (hk : k + 1 = k' ∧ n + N = n') (hR : k' ≤ mc ∧ n' ≤ ms) (hd : decode cc pc = .ok (.anewarray idx, 3)) (K : Nz Γ nL Q h0 k' n' (pc + 3) lv (.ref (h0 + es.length) :: st) (es ++ [.inl ((cE Γ).2.2 4, N, .inr (.inr (.inr (.inr (fun _ => none)))))])) : Nz Γ nL Q h0 k n pc lv (.int x :: st) es := by
  obtain ⟨rfl, rfl⟩ := hk
  intro H locs ls hz hP hS hl
  subst hN
  obtain ⟨g1, g2, g3, g4, g5, g6, g7, g8, g9, g10, g11, g12, g13⟩ := G
  refine W.anew g1 g2 g4 (g5 _ hlk) (va_AO.use g7) rfl hd rfl hx hby (by omega) (by omega) fun cB kA comp f1 f2 f3 f4 => ?_
  obtain ⟨kA', comp', -, -, -, hcA⟩ := (g6.2 4 _ (show (tyE (cE Γ))[4]? = some ((cE Γ).2.2 4, .object "TrampolineMat$Flyer") from rfl)).2
  have hcB : cB = (cE Γ).2.2 4 := Option.some.inj (f1.symm.trans hcA)
  subst hcB
  generalize hH1 : H.push ({ cls := (cE Γ).2.2 4, slots := Array.replicate x.toNatClampNeg .null, vm := .none } : Cell) = H1
  have z1 : H1.size = H.size + 1 := by rw [← hH1, Array.size_push]
  have e1 : H1[H.size]? = some (arrV ((cE Γ).2.2 4) x.toNatClampNeg (fun _ => .null)) := by rw [← hH1, Array.getElem?_push_size, ← arrV_new]
  have o1 : ∀ q : Nat, q < H.size → H1[q]? = H[q]? := fun q hq => by rw [← hH1, Array.getElem?_push, if_neg (Nat.ne_of_lt hq)]
  rw [hz]
  refine K H1 locs ls (by rw [z1, hz, List.length_append]; rfl) (wl_push hz hP ?_ o1) (hS.grow z1 o1) hl
  show H1[h0 + es.length]? = some (vp_cell _ _)
  rw [vp_cell_q, ← hz, e1]
  rfl
theorem nz_iast (G : NG Γ own cc nL h h0 mc ms) {j N : Nat} {f : Nat → Int32} {i x : Int32} (hj : es[j]? = some (.inl ((cE Γ).2.2 0, N, .inl f))) (hin : vp_in i N) (he : es.set j (.inl ((cE Γ).2.2 0, N, .inl (upd f i.toNatClampNeg x))) = es') (hd : decode cc pc = .ok (.iastore, 1)) (K : Nz Γ nL Q h0 k n (pc + 1) lv st es') : Nz Γ nL Q h0 k n pc lv (.int x :: .int i :: .ref (h0 + j) :: st) es := by
  intro H locs ls hz hP hS hl
  obtain ⟨g1, g2, g3, g4, g5, g6, g7, g8, g9, g10, g11, g12, g13⟩ := G
  have ht : (tyE (cE Γ))[0]? = some ((cE Γ).2.2 0, .int) := rfl
  refine W.iast g1 g2 (hP j _ (wl_at hj)) ((g6.2 0 _ ht).1 N (fun j => .int (f j))) (fun q => by cases q) (by show ¬ (i < 0 ∨ (arrV _ _ _).slots.size ≤ _); rw [arrV_size]; exact hin) rfl rfl hd fun H1 e z oq => ?_
  have hP' := hP.set wl_D (wl_at hj) (e := .inl ((cE Γ).2.2 0, N, .inl (upd f i.toNatClampNeg x))) (H1 := H1) (by
    show H1[h0 + j]? = some (vp_cell _ _)
    rw [e]
    rw [vp_cell_i, vp_cell_i, arrV_store]
    congr 2
    funext q
    by_cases hq : q = i.toNatClampNeg
    · subst hq
      simp [updV, upd]
    · simp [updV, upd, hq]) oq
  rw [wl_set, he] at hP'
  exact K H1 _ ls (by rw [z, hz, ← he, List.length_set]) hP' (hS.put z oq (by show h0 ≤ h0 + j; omega)) hl
theorem nz_aast (G : NG Γ own cc nL h h0 mc ms) {j jv N ci : Nat} {f : Nat → Option Nat} {i : Int32} {vs : List Value} {r : vw_C} (hj : es[j]? = some (.inl ((cE Γ).2.2 4, N, .inr (.inr (.inr (.inr f)))))) (hr : r.1 = "TrampolineMat$Flyer") (hv : es[jv]? = some (.inr (ci, vs))) (hc : vwCl[ci]? = some r) (hin : vp_in i N) (he : es.set j (.inl ((cE Γ).2.2 4, N, .inr (.inr (.inr (.inr (va_up f i.toNatClampNeg (some (h0 + jv)))))))) = es') (hd : decode cc pc = .ok (.aastore, 1)) (K : Nz Γ nL Q h0 k n (pc + 1) lv st es') : Nz Γ nL Q h0 k n pc lv (.ref (h0 + jv) :: .int i :: .ref (h0 + j) :: st) es := by
  intro H locs ls hz hP hS hl
  obtain ⟨g1, g2, g3, g4, g5, g6, g7, g8, g9, g10, g11, g12, g13⟩ := G
  have hlt : i.toNatClampNeg < N := Nat.not_le.mp fun q => hin (Or.inr q)
  have hi0 : ¬ i < 0 := fun q => hin (Or.inl q)
  obtain ⟨r', hr', cellV, q1, q2, q3, -⟩ := hP jv _ (wl_at hv)
  have hcls := (g6.1 ci r hc).2
  obtain ⟨kA, comp, k1, k2, k3, -⟩ := (g6.2 4 _ (show (tyE (cE Γ))[4]? = some ((cE Γ).2.2 4, .object "TrampolineMat$Flyer") from rfl)).2
  rw [← hr] at k3
  have hcomp : comp = (cE Γ).2.1.1 ci := Option.some.inj (k3.symm.trans hcls.1)
  subst hcomp
  obtain ⟨kC, hkC, -⟩ := id hcls.2
  refine W.aast g1 g2 (hP j _ (wl_at hj)) (fun q h => by cases h) (fun h => by cases h) k1 k2 rfl hkC ⟨hi0, by show _ < (arrV _ _ _).slots.size; rw [arrV_size]; exact hlt⟩ q1 (fun q h => by rw [q3] at h; cases h) (by rw [q2]; exact hkC) (by rw [q2]; exact va_assign hcls) rfl rfl hd fun H1 e z oq => ?_
  have hP' := hP.set wl_D (wl_at hj) (e := .inl ((cE Γ).2.2 4, N, .inr (.inr (.inr (.inr (va_up f i.toNatClampNeg (some (h0 + jv)))))))) (H1 := H1) (by
    show H1[h0 + j]? = some (vp_cell _ _)
    rw [e]
    rw [vp_cell_q, vp_cell_q, arrV_store]
    congr 2
    funext q
    by_cases hq : q = i.toNatClampNeg
    · subst hq
      simp [updV, va_up, va_rf]
    · simp [updV, va_up, hq]) oq
  rw [wl_set, he] at hP'
  exact K H1 _ ls (by rw [z, hz, ← he, List.length_set]) hP' (hS.put z oq (by show h0 ≤ h0 + j; omega)) hl
theorem nz_alen (G : NG Γ own cc nL h h0 mc ms) {j t0 : Nat} {ty : FieldType} {cA : ClassId} {x : vp_A} {v : Int32} (hj : es[j]? = some (.inl (cA, x))) (ht : (tyE (cE Γ))[t0]? = some (cA, ty)) (hv : Int32.ofNat x.1 = v) (hd : decode cc pc = .ok (.arraylength, 1)) (K : Nz Γ nL Q h0 k n (pc + 1) lv (.int v :: st) es) : Nz Γ nL Q h0 k n pc lv (.ref (h0 + j) :: st) es := by
  intro H locs ls hz hP hS hl
  exact va_alen G.1 G.2.1 G.2.2.2.2.2.1 hP j t0 (wl_at hj) ht hv hd (K H locs ls hz hP hS hl)
theorem nz_aald (G : NG Γ own cc nL h h0 mc ms) {j N : Nat} {f : Nat → Option Nat} {i : Int32} {v : Value} (hj : es[j]? = some (.inl ((cE Γ).2.2 4, N, .inr (.inr (.inr (.inr f)))))) (hin : vp_in i N) (hv : va_rf (f i.toNatClampNeg) = v) (hd : decode cc pc = .ok (.aaload, 1)) (K : Nz Γ nL Q h0 k n (pc + 1) lv (v :: st) es) : Nz Γ nL Q h0 k n pc lv (.int i :: .ref (h0 + j) :: st) es := by
  intro H locs ls hz hP hS hl
  refine va_aldq G.1 G.2.1 G.2.2.2.2.2.1 hP j 4 (wl_at hj) (show (tyE (cE Γ))[4]? = some ((cE Γ).2.2 4, .object "TrampolineMat$Flyer") from rfl) hin hd ?_
  rw [hv]
  exact K H locs ls hz hP hS hl
/-- behind a call: the caller's other cells, the callee's -/
theorem wl_join {D : va_G} {h0 : Nat} {ea e0 e1 : List va_E} {H H1 : Heap} (hz : H.size = h0 + (ea ++ e0).length) (hP : va_P D vwCl (wl h0 (ea ++ e0)) H) (hP1 : va_P D vwCl (wl (h0 + ea.length) e1) H1) (hk : ∀ q : Nat, q < H.size → ¬ h0 + ea.length ≤ q → H1[q]? = H[q]?) : va_P D vwCl (wl h0 (ea ++ e1)) H1 := by
  intro j q hq
  obtain ⟨a1, a2⟩ := wl_inv hq
  obtain ⟨q1, q2⟩ := q
  dsimp only at a1 a2
  subst a1
  rw [List.length_append] at hz
  by_cases hj : j < ea.length
  · rw [List.getElem?_append_left hj] at a2
    exact (hP j _ (wl_at (by rw [List.getElem?_append_left hj]; exact a2))).kept (hk _ (by show h0 + j < _; omega) (by show ¬ _ ≤ h0 + j; omega))
  · rw [List.getElem?_append_right (by omega)] at a2
    have := hP1 (j - ea.length) _ (wl_at a2)
    rw [show h0 + ea.length + (j - ea.length) = h0 + j by omega] at this
    exact this
def LkI (own : String) (idx : Nat) (y : MethodName) (cc : ByteArray) (nL np : Nat) : Prop := (Cond.methodLink own idx y ∈ gT ∧ Cond.instanceMethod y ∈ gT ∧ Cond.initialized y.cls ∈ gT ∧ Cond.code y cc nL none ∈ gT) ∧ (y.cls ≠ "java/lang/invoke/MethodHandle" ∧ y.cls ≠ "java/lang/invoke/VarHandle" ∧ (parseMethodDescriptor y.desc).map (fun d => d.parameters.length) = some np) ∧ nL ≤ 21 ∧ y.name = "<init>"
theorem nz_callI (G : NG Γ own cc nL h h0 mc ms) {y : MethodName} {cc' : ByteArray} {nL' h' mc' ms' np idx k' n' : Nat} {As stk : List Value} {ea e0 e1 : List va_E} {h1 : Nat} (C : CtN (cLn Γ) y cc' nL' h' mc' ms' (cE Γ) h1 (.ref h1 :: As) e0 e1) (L : LkI own idx y cc' nL' np) (hh1 : h1 = h0 + ea.length) (hes : es = ea ++ e0) (hn : As.length = np) (hh : h' + 1 ≤ h) (hs : (st.map (fun v => v.category)).sum ≤ 8) (hd : decode cc pc = .ok (.invokespecial idx, 3)) (hst : stk = As.reverse ++ .ref h1 :: st) (hk : k + mc' = k' ∧ n + ms' = n') (hR : k' ≤ mc ∧ n' ≤ ms) (K : Nz Γ nL Q h0 k' n' (pc + 3) lv st (ea ++ e1)) : Nz Γ nL Q h0 k n pc lv stk es := by
  obtain ⟨rfl, rfl⟩ := hk
  subst hh1
  subst hes
  subst hst
  intro H locs ls hz hP hS hl
  obtain ⟨g1, g2, g3, g4, g5, g6, g7, g8, g9, g10, g11, g12, g13⟩ := G
  obtain ⟨⟨l1, l2, l3, l4⟩, l6, l7, l8⟩ := L
  have hPc : va_P (cE Γ).2.1 vwCl (wl (h0 + ea.length) e0) H := by
    intro j q hq
    have := hP (ea.length + j) (h0 + (ea.length + j), q.2) (wl_at (by rw [List.getElem?_append_right (by omega), show ea.length + j - ea.length = j by omega]; exact (wl_inv hq).2))
    rw [show h0 + (ea.length + j) = q.1 by rw [(wl_inv hq).1]; omega] at this
    exact this
  refine va_callv (va_runI (As := As) (rest := st) ⟨g1, g2, g3, g4, g5⟩ C ⟨callB_of np g5 (code_in l4) rfl rfl rfl (g5 _ l3) (g5 _ l1) l6 ⟨by show h' + 1 ≤ _; omega, by show 8 + (nL' + 11) + 40 * h' ≤ _; omega⟩, l8, g5 _ l2⟩ ⟨blind_N, fun U hU hW => ⟨rfl, by rw [hU, hz, List.length_append]; omega, by rw [hU]; exact hPc, va_K.moved hW.alike g6, va_AO.moved hW.alike g7⟩⟩ rfl hn hl.1 rfl (lv_room hs) hd ⟨by show k + mc' ≤ _; omega, by show n + ms' ≤ _; omega⟩) hS (fun q _ (hq : h0 + ea.length ≤ q) => by show h0 ≤ q; omega) (fun q (hq : h0 + ea.length ≤ q) => by show h0 ≤ q; omega) (fun u t H1 locs1 ht hvm _ hB hz1 hk1 hS1 => ?_)
  obtain ⟨b1, b2⟩ := hB
  rw [ht] at b1 b2
  exact K H1 locs1 ls (by rw [b1, List.length_append]; omega) (wl_join hz hP b2 hk1) hS1 hl
theorem nz_callV (G : NG Γ own cc nL h h0 mc ms) {y : MethodName} {cc' : ByteArray} {nL' h' mc' ms' np idx k' n' ci : Nat} {As stk : List Value} {ea e0 e1 : List va_E} {h1 : Nat} {fs : List Value} {C9 : String × u_T × Nat} (C : CtN (cLn Γ) y cc' nL' h' mc' ms' (cE Γ) h1 (.ref h1 :: As) e0 e1) (L : LkV own idx y cc' nL' none np) (hq : e0[0]? = some (.inr (ci, fs))) (hc : vwCl[ci]? = some C9) (hC : C9.1 = y.cls) (hh1 : h1 = h0 + ea.length) (hes : es = ea ++ e0) (hn : As.length = np) (hh : h' + 1 ≤ h) (hs : (st.map (fun v => v.category)).sum ≤ 8) (hd : decode cc pc = .ok (.invokevirtual idx, 3)) (hst : stk = As.reverse ++ .ref h1 :: st) (hk : k + mc' = k' ∧ n + ms' = n') (hR : k' ≤ mc ∧ n' ≤ ms) (K : Nz Γ nL Q h0 k' n' (pc + 3) lv st (ea ++ e1)) : Nz Γ nL Q h0 k n pc lv stk es := by
  obtain ⟨rfl, rfl⟩ := hk
  subst hh1
  subst hes
  subst hst
  intro H locs ls hz hP hS hl
  obtain ⟨g1, g2, g3, g4, g5, g6, g7, g8, g9, g10, g11, g12, g13⟩ := G
  obtain ⟨⟨l1, l2, l3, l4, l5⟩, l6, l7⟩ := L
  have hPc : va_P (cE Γ).2.1 vwCl (wl (h0 + ea.length) e0) H := by
    intro j q hq
    have := hP (ea.length + j) (h0 + (ea.length + j), q.2) (wl_at (by rw [List.getElem?_append_right (by omega), show ea.length + j - ea.length = j by omega]; exact (wl_inv hq).2))
    rw [show h0 + (ea.length + j) = q.1 by rw [(wl_inv hq).1]; omega] at this
    exact this
  have hrecv := va_recv g6 hPc hc (wl_at hq)
  rw [hC] at hrecv
  refine va_callv (va_runV (As := As) (rest := st) ⟨g1, g2, g3, g4, g5⟩ C ⟨callB_of np g5 (code_in l5) rfl rfl rfl (g5 _ l4) (g5 _ l1) l6 ⟨by show h' + 1 ≤ _; omega, by show 8 + (nL' + 11) + 40 * h' ≤ _; omega⟩, g5 _ l2, g5 _ l3⟩ ⟨blind_N, hrecv, fun U hU hW => ⟨rfl, by rw [hU, hz, List.length_append]; omega, by rw [hU]; exact hPc, va_K.moved hW.alike g6, va_AO.moved hW.alike g7⟩⟩ rfl hn hl.1 rfl (lv_room hs) hd ⟨by show k + mc' ≤ _; omega, by show n + ms' ≤ _; omega⟩) hS (fun q _ (hq : h0 + ea.length ≤ q) => by show h0 ≤ q; omega) (fun q (hq : h0 + ea.length ≤ q) => by show h0 ≤ q; omega) (fun u t H1 locs1 ht hvm _ hB hz1 hk1 hS1 => ?_)
  obtain ⟨b1, b2⟩ := hB
  rw [ht] at b1 b2
  exact K H1 locs1 ls (by rw [b1, List.length_append]; omega) (wl_join hz hP b2 hk1) hS1 hl
theorem nz_vret (G : NG Γ own cc nL h h0 mc ms) (hr : (cMe Γ).sig.returnType = none) (hk : k = mc ∧ n = ms) (hd : decode cc pc = .ok (.return_, 1)) : Nz Γ nL (MQ (cBe Γ) (NPost (cE Γ) h0 es) (cAr Γ) (cS Γ) mc ms (fun q => h0 ≤ q)) h0 k n pc lv [] es := by
  obtain ⟨rfl, rfl⟩ := hk
  intro H locs ls hz hP hS hl
  obtain ⟨g1, g2, g3, g4, g5, g6, g7, g8, g9, g10, g11, g12, g13⟩ := G
  exact W.vret g1 g2 hr (fun t ht hW => ⟨⟨(), rfl, trivial, by rw [ht]; exact hz, by rw [ht]; exact hP⟩, hS.F ht⟩) hS.2.2 hd g8
end NzRules
