-- ===== a method's run over the abstract state =====
abbrev Cx := Program × Launch × Env × Room × State × MethodId × Array Value × List Frame × Method × Code × En × (Nat → Prop)
abbrev cP (Γ : Cx) := Γ.1
abbrev cLn (Γ : Cx) := Γ.2.1
abbrev cEv (Γ : Cx) := Γ.2.2.1
abbrev cR (Γ : Cx) := Γ.2.2.2.1
abbrev cS (Γ : Cx) := Γ.2.2.2.2.1
abbrev cM (Γ : Cx) := Γ.2.2.2.2.2.1
abbrev cAr (Γ : Cx) := Γ.2.2.2.2.2.2.1
abbrev cBe (Γ : Cx) := Γ.2.2.2.2.2.2.2.1
abbrev cMe (Γ : Cx) := Γ.2.2.2.2.2.2.2.2.1
abbrev cC (Γ : Cx) := Γ.2.2.2.2.2.2.2.2.2.1
abbrev cE (Γ : Cx) := Γ.2.2.2.2.2.2.2.2.2.2.1
abbrev cA (Γ : Cx) := Γ.2.2.2.2.2.2.2.2.2.2.2
def lvc (E : En) (lv : List (Nat × Value)) : List (Nat × Value) := lv.map (fun q => (q.1, cv E q.2))
abbrev WX (Γ : Cx) (H : Heap) (locs : List Loc) (k n : Nat) (Q : State → Prop) (g : JFrame) : Prop := W (cP Γ) (cLn Γ) (cEv Γ) (cR Γ) (cS Γ) (cM Γ) (cAr Γ) (cBe Γ) (cMe Γ) (cC Γ) H locs k n Q g
/-- from the place pc with locals lv and stack st: where the denotation d answers r, the machine comes to Q r -/
def Rz {ρ : Type} (Γ : Cx) (nL : Nat) (Q : ρ → State → Prop) (k n pc : Nat) (lv : List (Nat × Value)) (st : List Value) (d : Sg → Option ρ) : Prop :=
  ∀ (σ : Sg) (H : Heap) (locs : List Loc) (ls : Array Slot) (r : ρ), d σ = some r → va_P (cE Γ).2.1 vwCl (wd (cE Γ) σ) H → va_S (cA Γ) (cS Γ).heap H locs → lv_has ls nL (lvc (cE Γ) lv) → WX Γ H locs k n (Q r) (F0 (cM Γ) pc ls (st.map (cv (cE Γ))))
/-- what holds of the method -/
def GG (Γ : Cx) (own : String) (cc : ByteArray) (nL : Nat) (ret : Option FieldType) (h k n : Nat) : Prop :=
  (cP Γ).tables.exec = Jvm.exec ∧ (cC Γ).code = cc ∧ (cC Γ).maxLocals = nL ∧ (cS Γ).vm.findClass own = some (cM Γ).cls ∧ (∀ w ∈ gT, w.before (cAr Γ) (cS Γ) = true) ∧ va_K (cE Γ).2.1 vwCl (tyE (cE Γ)) (cS Γ) ∧ (∀ σ, va_D (cA Γ) (wd (cE Γ) σ)) ∧ Sx (cE Γ) (cA Γ) (cS Γ) (cS Γ).heap ∧ (cMe Γ).locks = false ∧ (cMe Γ).sig.returnType = ret ∧ h ≤ (cR Γ).frames ∧ 40 * h ≤ (cR Γ).locals ∧ k ≤ (cR Γ).cells ∧ n ≤ (cR Γ).slots
theorem lvc_at {E : En} {lv : List (Nat × Value)} {j i : Nat} {v : Value} (h : lv[j]? = some (i, v)) : (lvc E lv)[j]? = some (i, cv E v) := by
  simp only [lvc, List.getElem?_map, h, Option.map_some]
theorem lvc_filter {E : En} (lv : List (Nat × Value)) (P : Nat → Nat → Bool) : (lvc E lv).filter (fun q => P q.1 q.2.category) = lvc E (lv.filter (fun q => P q.1 q.2.category)) := by
  simp only [lvc, List.filter_map, Function.comp_def, cv_cat]
-- denotations
def dI {ρ : Type} (i k : Nat) (d : Int32 → Sg → Option ρ) : Sg → Option ρ := fun σ => d (σ.1 i k) σ
def dL {ρ : Type} (i k : Nat) (d : Int64 → Sg → Option ρ) : Sg → Option ρ := fun σ => d (σ.2.1 i k) σ
def dR {ρ : Type} (i k : Nat) (d : Nat → Sg → Option ρ) : Sg → Option ρ := fun σ => d (σ.2.2 i k) σ
def pI {ρ : Type} (i k : Nat) (v : Int32) (d : Sg → Option ρ) : Sg → Option ρ := fun σ => d (sI σ i k v)
def pL {ρ : Type} (i k : Nat) (v : Int64) (d : Sg → Option ρ) : Sg → Option ρ := fun σ => d (sL σ i k v)
def pR {ρ : Type} (i k v : Nat) (d : Sg → Option ρ) : Sg → Option ρ := fun σ => d (sR σ i k v)
/-- an index is in a row of n -/
def inb (x : Int32) (n : Nat) : Bool := decide (0 ≤ x.toInt) && decide (x.toInt < n)
theorem inb_vp {x : Int32} {n : Nat} (h : inb x n = true) : vp_in x n := by
  simp only [inb, Bool.and_eq_true, decide_eq_true_eq] at h
  exact vp_in_iff.mpr h
def gd {ρ : Type} (c : Prop) [Decidable c] (d : Sg → Option ρ) : Sg → Option ρ := fun σ => if c then d σ else none
def br {ρ : Type} (c : Prop) [Decidable c] (d1 d2 : Sg → Option ρ) : Sg → Option ρ := fun σ => if c then d1 σ else d2 σ
def cl {α ρ : Type} (f : Sg → Option (α × Sg)) (d : α → Sg → Option ρ) : Sg → Option ρ := fun σ => (f σ).bind (fun r => d r.1 r.2)
def rt {α : Type} (v : α) : Sg → Option (α × Sg) := fun σ => some (v, σ)
def lt {α ρ : Type} (v : α) (d : α → Sg → Option ρ) : Sg → Option ρ := d v
/-- a whole row is put -/
def wI {ρ : Type} (i : Nat) (f : Sg → Nat → Int32) (d : Sg → Option ρ) : Sg → Option ρ := fun σ => d (rI σ i (f σ))
def wL {ρ : Type} (i : Nat) (f : Sg → Nat → Int64) (d : Sg → Option ρ) : Sg → Option ρ := fun σ => d (rL σ i (f σ))
section Rules
variable {ρ : Type} {Γ : Cx} {own : String} {cc : ByteArray} {nL : Nat} {ret : Option FieldType} {h k n pc : Nat} {Q : ρ → State → Prop} {lv lv' : List (Nat × Value)} {st : List Value} {d d1 d2 : Sg → Option ρ}
theorem rz_none : Rz Γ nL Q k n pc lv st (fun _ => none) := fun _ _ _ _ _ hr => nomatch hr
theorem rz_gd {c : Prop} [Decidable c] (K : c → Rz Γ nL Q k n pc lv st d) : Rz Γ nL Q k n pc lv st (gd c d) := by
  intro σ H locs ls r hr hP hS hl
  by_cases hc : c
  · exact K hc σ H locs ls r (by rw [gd, if_pos hc] at hr; exact hr) hP hS hl
  · rw [gd, if_neg hc] at hr; cases hr
theorem rz_lt {α : Type} {v : α} {d : α → Sg → Option ρ} (K : Rz Γ nL Q k n pc lv st (d v)) : Rz Γ nL Q k n pc lv st (lt v d) := K
theorem rz_lv (ks : List Nat) (hl0 : lv_pick lv ks = lv') (K : Rz Γ nL Q k n pc lv' st d) : Rz Γ nL Q k n pc lv st d := by
  intro σ H locs ls r hr hP hS hl
  refine K σ H locs ls r hr hP hS (lv_sub hl ks ?_)
  rw [← hl0]
  simp only [lv_pick, lvc, List.map_filterMap, List.getElem?_map]
theorem rz_iadd (G : GG Γ own cc nL ret h k n) {x : Int32} {y : Int32} (hd : decode cc pc = .ok (.iadd, 1)) (K : Rz Γ nL Q k n (pc + 1) lv (.int (x + y) :: st) d) : Rz Γ nL Q k n pc lv (.int y :: .int x :: st) d := by
  intro σ H locs ls r hr hP hS hl
  exact lv_iadd G.1 G.2.1 hd (K σ H locs ls r hr hP hS hl)
theorem rz_isub (G : GG Γ own cc nL ret h k n) {x : Int32} {y : Int32} (hd : decode cc pc = .ok (.isub, 1)) (K : Rz Γ nL Q k n (pc + 1) lv (.int (x - y) :: st) d) : Rz Γ nL Q k n pc lv (.int y :: .int x :: st) d := by
  intro σ H locs ls r hr hP hS hl
  exact lv_isub G.1 G.2.1 hd (K σ H locs ls r hr hP hS hl)
theorem rz_imul (G : GG Γ own cc nL ret h k n) {x : Int32} {y : Int32} (hd : decode cc pc = .ok (.imul, 1)) (K : Rz Γ nL Q k n (pc + 1) lv (.int (x * y) :: st) d) : Rz Γ nL Q k n pc lv (.int y :: .int x :: st) d := by
  intro σ H locs ls r hr hP hS hl
  exact lv_imul G.1 G.2.1 hd (K σ H locs ls r hr hP hS hl)
theorem rz_iand (G : GG Γ own cc nL ret h k n) {x : Int32} {y : Int32} (hd : decode cc pc = .ok (.iand, 1)) (K : Rz Γ nL Q k n (pc + 1) lv (.int (x &&& y) :: st) d) : Rz Γ nL Q k n pc lv (.int y :: .int x :: st) d := by
  intro σ H locs ls r hr hP hS hl
  exact lv_iand G.1 G.2.1 hd (K σ H locs ls r hr hP hS hl)
theorem rz_ior (G : GG Γ own cc nL ret h k n) {x : Int32} {y : Int32} (hd : decode cc pc = .ok (.ior, 1)) (K : Rz Γ nL Q k n (pc + 1) lv (.int (x ||| y) :: st) d) : Rz Γ nL Q k n pc lv (.int y :: .int x :: st) d := by
  intro σ H locs ls r hr hP hS hl
  exact lv_ior G.1 G.2.1 hd (K σ H locs ls r hr hP hS hl)
theorem rz_ixor (G : GG Γ own cc nL ret h k n) {x : Int32} {y : Int32} (hd : decode cc pc = .ok (.ixor, 1)) (K : Rz Γ nL Q k n (pc + 1) lv (.int (x ^^^ y) :: st) d) : Rz Γ nL Q k n pc lv (.int y :: .int x :: st) d := by
  intro σ H locs ls r hr hP hS hl
  exact lv_ixor G.1 G.2.1 hd (K σ H locs ls r hr hP hS hl)
theorem rz_ladd (G : GG Γ own cc nL ret h k n) {x : Int64} {y : Int64} (hd : decode cc pc = .ok (.ladd, 1)) (K : Rz Γ nL Q k n (pc + 1) lv (.long (x + y) :: st) d) : Rz Γ nL Q k n pc lv (.long y :: .long x :: st) d := by
  intro σ H locs ls r hr hP hS hl
  exact lv_ladd G.1 G.2.1 hd (K σ H locs ls r hr hP hS hl)
theorem rz_lsub (G : GG Γ own cc nL ret h k n) {x : Int64} {y : Int64} (hd : decode cc pc = .ok (.lsub, 1)) (K : Rz Γ nL Q k n (pc + 1) lv (.long (x - y) :: st) d) : Rz Γ nL Q k n pc lv (.long y :: .long x :: st) d := by
  intro σ H locs ls r hr hP hS hl
  exact lv_lsub G.1 G.2.1 hd (K σ H locs ls r hr hP hS hl)
theorem rz_lmul (G : GG Γ own cc nL ret h k n) {x : Int64} {y : Int64} (hd : decode cc pc = .ok (.lmul, 1)) (K : Rz Γ nL Q k n (pc + 1) lv (.long (x * y) :: st) d) : Rz Γ nL Q k n pc lv (.long y :: .long x :: st) d := by
  intro σ H locs ls r hr hP hS hl
  exact lv_lmul G.1 G.2.1 hd (K σ H locs ls r hr hP hS hl)
theorem rz_lor (G : GG Γ own cc nL ret h k n) {x : Int64} {y : Int64} (hd : decode cc pc = .ok (.lor, 1)) (K : Rz Γ nL Q k n (pc + 1) lv (.long (x ||| y) :: st) d) : Rz Γ nL Q k n pc lv (.long y :: .long x :: st) d := by
  intro σ H locs ls r hr hP hS hl
  exact lv_lor G.1 G.2.1 hd (K σ H locs ls r hr hP hS hl)
theorem rz_ishl (G : GG Γ own cc nL ret h k n) {x : Int32} {y : Int32} (hd : decode cc pc = .ok (.ishl, 1)) (K : Rz Γ nL Q k n (pc + 1) lv (.int (x <<< (y &&& 31)) :: st) d) : Rz Γ nL Q k n pc lv (.int y :: .int x :: st) d := by
  intro σ H locs ls r hr hP hS hl
  exact lv_ishl G.1 G.2.1 hd (K σ H locs ls r hr hP hS hl)
theorem rz_ishr (G : GG Γ own cc nL ret h k n) {x : Int32} {y : Int32} (hd : decode cc pc = .ok (.ishr, 1)) (K : Rz Γ nL Q k n (pc + 1) lv (.int (x >>> (y &&& 31)) :: st) d) : Rz Γ nL Q k n pc lv (.int y :: .int x :: st) d := by
  intro σ H locs ls r hr hP hS hl
  exact lv_ishr G.1 G.2.1 hd (K σ H locs ls r hr hP hS hl)
theorem rz_iushr (G : GG Γ own cc nL ret h k n) {x : Int32} {y : Int32} (hd : decode cc pc = .ok (.iushr, 1)) (K : Rz Γ nL Q k n (pc + 1) lv (.int ((x.toUInt32 >>> (y.toUInt32 &&& Int32.toUInt32 31)).toInt32) :: st) d) : Rz Γ nL Q k n pc lv (.int y :: .int x :: st) d := by
  intro σ H locs ls r hr hP hS hl
  exact lv_iushr G.1 G.2.1 hd rfl (K σ H locs ls r hr hP hS hl)
theorem rz_lshl (G : GG Γ own cc nL ret h k n) {x : Int64} {y : Int32} (hd : decode cc pc = .ok (.lshl, 1)) (K : Rz Γ nL Q k n (pc + 1) lv (.long (x <<< (y.toInt64 &&& 63)) :: st) d) : Rz Γ nL Q k n pc lv (.int y :: .long x :: st) d := by
  intro σ H locs ls r hr hP hS hl
  exact lv_lshl G.1 G.2.1 hd rfl (K σ H locs ls r hr hP hS hl)
theorem rz_ineg (G : GG Γ own cc nL ret h k n) {x : Int32} (hd : decode cc pc = .ok (.ineg, 1)) (K : Rz Γ nL Q k n (pc + 1) lv (.int (-x) :: st) d) : Rz Γ nL Q k n pc lv (.int x :: st) d := by
  intro σ H locs ls r hr hP hS hl
  exact lv_ineg G.1 G.2.1 hd (K σ H locs ls r hr hP hS hl)
theorem rz_i2l (G : GG Γ own cc nL ret h k n) {x : Int32} (hd : decode cc pc = .ok (.i2l, 1)) (K : Rz Γ nL Q k n (pc + 1) lv (.long (x.toInt64) :: st) d) : Rz Γ nL Q k n pc lv (.int x :: st) d := by
  intro σ H locs ls r hr hP hS hl
  exact lv_i2l G.1 G.2.1 hd rfl (K σ H locs ls r hr hP hS hl)
theorem rz_i2c (G : GG Γ own cc nL ret h k n) {x : Int32} (hd : decode cc pc = .ok (.i2c, 1)) (K : Rz Γ nL Q k n (pc + 1) lv (.int ((x.toUInt32 % 65536).toInt32) :: st) d) : Rz Γ nL Q k n pc lv (.int x :: st) d := by
  intro σ H locs ls r hr hP hS hl
  exact lv_i2c G.1 G.2.1 hd rfl (K σ H locs ls r hr hP hS hl)
theorem rz_i2b (G : GG Γ own cc nL ret h k n) {x : Int32} (hd : decode cc pc = .ok (.i2b, 1)) (K : Rz Γ nL Q k n (pc + 1) lv (.int (x.toInt8.toInt32) :: st) d) : Rz Γ nL Q k n pc lv (.int x :: st) d := by
  intro σ H locs ls r hr hP hS hl
  exact lv_i2b G.1 G.2.1 hd rfl (K σ H locs ls r hr hP hS hl)
theorem rz_lcmp (G : GG Γ own cc nL ret h k n) {x y : Int64} (hd : decode cc pc = .ok (.lcmp, 1)) (K : Rz Γ nL Q k n (pc + 1) lv (.int (lg_cmp x y) :: st) d) : Rz Γ nL Q k n pc lv (.long y :: .long x :: st) d := by
  intro σ H locs ls r hr hP hS hl
  exact W.lcmp G.1 G.2.1 hd (K σ H locs ls r hr hP hS hl)
theorem rz_idiv (G : GG Γ own cc nL ret h k n) {x y : Int32} (hd : decode cc pc = .ok (.idiv, 1)) (K : Rz Γ nL Q k n (pc + 1) lv (.int (x / y) :: st) d) : Rz Γ nL Q k n pc lv (.int y :: .int x :: st) (gd (¬ y = 0) d) := by
  refine rz_gd fun hne => ?_
  intro σ H locs ls r hr hP hS hl
  exact lv_idiv G.1 G.2.1 hd hne (K σ H locs ls r hr hP hS hl)
theorem rz_idivN (G : GG Γ own cc nL ret h k n) {x y : Int32} (hne : ¬ y = 0) (hd : decode cc pc = .ok (.idiv, 1)) (K : Rz Γ nL Q k n (pc + 1) lv (.int (x / y) :: st) d) : Rz Γ nL Q k n pc lv (.int y :: .int x :: st) d := by
  intro σ H locs ls r hr hP hS hl
  exact lv_idiv G.1 G.2.1 hd hne (K σ H locs ls r hr hP hS hl)
theorem rz_irem (G : GG Γ own cc nL ret h k n) {x y : Int32} (hd : decode cc pc = .ok (.irem, 1)) (K : Rz Γ nL Q k n (pc + 1) lv (.int (x - x / y * y) :: st) d) : Rz Γ nL Q k n pc lv (.int y :: .int x :: st) (gd (¬ y = 0) d) := by
  refine rz_gd fun hne => ?_
  intro σ H locs ls r hr hP hS hl
  exact lv_irem G.1 G.2.1 hd hne (K σ H locs ls r hr hP hS hl)
theorem rz_iremN (G : GG Γ own cc nL ret h k n) {x y : Int32} (hne : ¬ y = 0) (hd : decode cc pc = .ok (.irem, 1)) (K : Rz Γ nL Q k n (pc + 1) lv (.int (x - x / y * y) :: st) d) : Rz Γ nL Q k n pc lv (.int y :: .int x :: st) d := by
  intro σ H locs ls r hr hP hS hl
  exact lv_irem G.1 G.2.1 hd hne (K σ H locs ls r hr hP hS hl)
theorem rz_ldiv (G : GG Γ own cc nL ret h k n) {x y : Int64} (hd : decode cc pc = .ok (.ldiv, 1)) (K : Rz Γ nL Q k n (pc + 1) lv (.long (x / y) :: st) d) : Rz Γ nL Q k n pc lv (.long y :: .long x :: st) (gd (¬ y = 0) d) := by
  refine rz_gd fun hne => ?_
  intro σ H locs ls r hr hP hS hl
  exact lv_ldiv G.1 G.2.1 hd hne (K σ H locs ls r hr hP hS hl)
theorem rz_ldivN (G : GG Γ own cc nL ret h k n) {x y : Int64} (hne : ¬ y = 0) (hd : decode cc pc = .ok (.ldiv, 1)) (K : Rz Γ nL Q k n (pc + 1) lv (.long (x / y) :: st) d) : Rz Γ nL Q k n pc lv (.long y :: .long x :: st) d := by
  intro σ H locs ls r hr hP hS hl
  exact lv_ldiv G.1 G.2.1 hd hne (K σ H locs ls r hr hP hS hl)
theorem rz_lrem (G : GG Γ own cc nL ret h k n) {x y : Int64} (hd : decode cc pc = .ok (.lrem, 1)) (K : Rz Γ nL Q k n (pc + 1) lv (.long (x - x / y * y) :: st) d) : Rz Γ nL Q k n pc lv (.long y :: .long x :: st) (gd (¬ y = 0) d) := by
  refine rz_gd fun hne => ?_
  intro σ H locs ls r hr hP hS hl
  exact lv_lrem G.1 G.2.1 hd hne (K σ H locs ls r hr hP hS hl)
theorem rz_lremN (G : GG Γ own cc nL ret h k n) {x y : Int64} (hne : ¬ y = 0) (hd : decode cc pc = .ok (.lrem, 1)) (K : Rz Γ nL Q k n (pc + 1) lv (.long (x - x / y * y) :: st) d) : Rz Γ nL Q k n pc lv (.long y :: .long x :: st) d := by
  intro σ H locs ls r hr hP hS hl
  exact lv_lrem G.1 G.2.1 hd hne (K σ H locs ls r hr hP hS hl)
theorem rz_iconst (G : GG Γ own cc nL ret h k n) {z : Int} {v : Int32} (hd : decode cc pc = .ok (.iconst z, 1)) (hv : Int32.ofInt z = v) (K : Rz Γ nL Q k n (pc + 1) lv (.int v :: st) d) : Rz Γ nL Q k n pc lv st d := by
  intro σ H locs ls r hr hP hS hl
  exact lv_iconst G.1 G.2.1 hd hv (K σ H locs ls r hr hP hS hl)
theorem rz_bipush (G : GG Γ own cc nL ret h k n) {z : Int} {v : Int32} (hd : decode cc pc = .ok (.bipush z, 2)) (hv : (Int8.ofInt z).toInt32 = v) (K : Rz Γ nL Q k n (pc + 2) lv (.int v :: st) d) : Rz Γ nL Q k n pc lv st d := by
  intro σ H locs ls r hr hP hS hl
  exact lv_bipush G.1 G.2.1 hd hv (K σ H locs ls r hr hP hS hl)
theorem rz_sipush (G : GG Γ own cc nL ret h k n) {z : Int} {v : Int32} (hd : decode cc pc = .ok (.sipush z, 3)) (hv : (Int16.ofInt z).toInt32 = v) (K : Rz Γ nL Q k n (pc + 3) lv (.int v :: st) d) : Rz Γ nL Q k n pc lv st d := by
  intro σ H locs ls r hr hP hS hl
  exact lv_sipush G.1 G.2.1 hd hv (K σ H locs ls r hr hP hS hl)
theorem rz_lconst (G : GG Γ own cc nL ret h k n) {z : Fin 2} {v : Int64} (hd : decode cc pc = .ok (.lconst z, 1)) (hv : Int64.ofNat (z : Nat) = v) (K : Rz Γ nL Q k n (pc + 1) lv (.long v :: st) d) : Rz Γ nL Q k n pc lv st d := by
  intro σ H locs ls r hr hP hS hl
  exact lv_lconst G.1 G.2.1 hd hv (K σ H locs ls r hr hP hS hl)
theorem rz_ldc (G : GG Γ own cc nL ret h k n) {i : Nat} {v : Int32} (hc : Cond.constant own i v ∈ gT) (hd : decode cc pc = .ok (.ldc i, 2)) (K : Rz Γ nL Q k n (pc + 2) lv (.int v :: st) d) : Rz Γ nL Q k n pc lv st d := by
  intro σ H locs ls r hr hP hS hl
  exact lv_ldc G.1 G.2.1 G.2.2.2.1 (G.2.2.2.2.1 _ hc) hd (K σ H locs ls r hr hP hS hl)
theorem rz_ldcw (G : GG Γ own cc nL ret h k n) {i : Nat} {v : Int32} (hc : Cond.constant own i v ∈ gT) (hd : decode cc pc = .ok (.ldc_w i, 3)) (K : Rz Γ nL Q k n (pc + 3) lv (.int v :: st) d) : Rz Γ nL Q k n pc lv st d := by
  intro σ H locs ls r hr hP hS hl
  exact lv_ldcw G.1 G.2.1 G.2.2.2.1 (G.2.2.2.2.1 _ hc) hd (K σ H locs ls r hr hP hS hl)
theorem rz_ldc2 (G : GG Γ own cc nL ret h k n) {i : Nat} {v : Int64} (hc : Cond.constantLong own i v ∈ gT) (hd : decode cc pc = .ok (.ldc2_w i, 3)) (K : Rz Γ nL Q k n (pc + 3) lv (.long v :: st) d) : Rz Γ nL Q k n pc lv st d := by
  intro σ H locs ls r hr hP hS hl
  exact lv_ldc2 G.1 G.2.1 G.2.2.2.1 (G.2.2.2.2.1 _ hc) hd (K σ H locs ls r hr hP hS hl)
theorem rz_ldcS (G : GG Γ own cc nL ret h k n) {i : Nat} {tx : String} {q : Nat} (hc : (own, i, tx, q) ∈ ldcL) (hd : decode cc pc = .ok (.ldc i, 2)) (K : Rz Γ nL Q k n (pc + 2) lv (.ref (1000 + 2 * q) :: st) d) : Rz Γ nL Q k n pc lv st d := by
  intro σ H locs ls r hr hP hS hl
  exact va_ldcS G.1 G.2.1 G.2.2.2.1 (G.2.2.2.2.2.2.2.1.2.1 _ hc) hd (K σ H locs ls r hr hP hS hl)
theorem rz_iload (G : GG Γ own cc nL ret h k n) (j : Nat) {i : Nat} {x : Int32} (hj : lv[j]? = some (i, .int x)) (hd : decode cc pc = .ok (.iload i, 2)) (K : Rz Γ nL Q k n (pc + 2) lv (.int x :: st) d) : Rz Γ nL Q k n pc lv st d := by
  intro σ H locs ls r hr hP hS hl
  exact lv_iload G.1 G.2.1 hd (lv_at hl j (lvc_at hj)) (K σ H locs ls r hr hP hS hl)
theorem rz_iload_n (G : GG Γ own cc nL ret h k n) (j : Nat) {z : Fin 4} {i : Nat} {x : Int32} (hj : lv[j]? = some (i, .int x)) (hi : (z : Nat) = i) (hd : decode cc pc = .ok (.iload_n z, 1)) (K : Rz Γ nL Q k n (pc + 1) lv (.int x :: st) d) : Rz Γ nL Q k n pc lv st d := by
  intro σ H locs ls r hr hP hS hl
  exact lv_iload_n G.1 G.2.1 hd hi (lv_at hl j (lvc_at hj)) (K σ H locs ls r hr hP hS hl)
theorem rz_lload (G : GG Γ own cc nL ret h k n) (j : Nat) {i : Nat} {x : Int64} (hj : lv[j]? = some (i, .long x)) (hd : decode cc pc = .ok (.lload i, 2)) (K : Rz Γ nL Q k n (pc + 2) lv (.long x :: st) d) : Rz Γ nL Q k n pc lv st d := by
  intro σ H locs ls r hr hP hS hl
  exact lv_lload G.1 G.2.1 hd (lv_at hl j (lvc_at hj)) (K σ H locs ls r hr hP hS hl)
theorem rz_lload_n (G : GG Γ own cc nL ret h k n) (j : Nat) {z : Fin 4} {i : Nat} {x : Int64} (hj : lv[j]? = some (i, .long x)) (hi : (z : Nat) = i) (hd : decode cc pc = .ok (.lload_n z, 1)) (K : Rz Γ nL Q k n (pc + 1) lv (.long x :: st) d) : Rz Γ nL Q k n pc lv st d := by
  intro σ H locs ls r hr hP hS hl
  exact lv_lload_n G.1 G.2.1 hd hi (lv_at hl j (lvc_at hj)) (K σ H locs ls r hr hP hS hl)
theorem rz_aload (G : GG Γ own cc nL ret h k n) (j : Nat) {i : Nat} {x : Nat} (hj : lv[j]? = some (i, .ref x)) (hd : decode cc pc = .ok (.aload i, 2)) (K : Rz Γ nL Q k n (pc + 2) lv (.ref x :: st) d) : Rz Γ nL Q k n pc lv st d := by
  intro σ H locs ls r hr hP hS hl
  exact lv_aload G.1 G.2.1 hd (lv_at hl j (lvc_at hj)) (K σ H locs ls r hr hP hS hl)
theorem rz_aload_n (G : GG Γ own cc nL ret h k n) (j : Nat) {z : Fin 4} {i : Nat} {x : Nat} (hj : lv[j]? = some (i, .ref x)) (hi : (z : Nat) = i) (hd : decode cc pc = .ok (.aload_n z, 1)) (K : Rz Γ nL Q k n (pc + 1) lv (.ref x :: st) d) : Rz Γ nL Q k n pc lv st d := by
  intro σ H locs ls r hr hP hS hl
  exact lv_aload_n G.1 G.2.1 hd hi (lv_at hl j (lvc_at hj)) (K σ H locs ls r hr hP hS hl)
theorem rz_istore (G : GG Γ own cc nL ret h k n) {i : Nat} {x : Int32} (hn : i < nL) (hl0 : (i, Value.int x) :: lv.filter (fun q => !(q.1 == i) && !(q.1 + 1 == i && q.2.category == 2)) = lv') (hd : decode cc pc = .ok (.istore i, 2)) (K : Rz Γ nL Q k n (pc + 2) lv' st d) : Rz Γ nL Q k n pc lv (.int x :: st) d := by
  intro σ H locs ls r hr hP hS hl
  exact lv_istore (lv' := lvc (cE Γ) lv') G.1 G.2.1 hd hl hn (by rw [← hl0]; exact congrArg (List.cons _) (lvc_filter lv (fun a b => !(a == i) && !(a + 1 == i && b == 2)))) (fun ls hl => K σ H locs ls r hr hP hS hl)
theorem rz_istore_n (G : GG Γ own cc nL ret h k n) {i : Nat} {x : Int32} {z : Fin 4} (hi : (z : Nat) = i) (hn : i < nL) (hl0 : (i, Value.int x) :: lv.filter (fun q => !(q.1 == i) && !(q.1 + 1 == i && q.2.category == 2)) = lv') (hd : decode cc pc = .ok (.istore_n z, 1)) (K : Rz Γ nL Q k n (pc + 1) lv' st d) : Rz Γ nL Q k n pc lv (.int x :: st) d := by
  intro σ H locs ls r hr hP hS hl
  exact lv_istore_n (lv' := lvc (cE Γ) lv') G.1 G.2.1 hd hi hl hn (by rw [← hl0]; exact congrArg (List.cons _) (lvc_filter lv (fun a b => !(a == i) && !(a + 1 == i && b == 2)))) (fun ls hl => K σ H locs ls r hr hP hS hl)
theorem rz_lstore (G : GG Γ own cc nL ret h k n) {i : Nat} {x : Int64} (hn : i + 1 < nL) (hl0 : (i, Value.long x) :: lv.filter (fun q => !(q.1 == i) && (!(q.1 == i + 1) && !(q.1 + 1 == i && q.2.category == 2))) = lv') (hd : decode cc pc = .ok (.lstore i, 2)) (K : Rz Γ nL Q k n (pc + 2) lv' st d) : Rz Γ nL Q k n pc lv (.long x :: st) d := by
  intro σ H locs ls r hr hP hS hl
  exact lv_lstore (lv' := lvc (cE Γ) lv') G.1 G.2.1 hd hl hn (by rw [← hl0]; exact congrArg (List.cons _) (lvc_filter lv (fun a b => !(a == i) && (!(a == i + 1) && !(a + 1 == i && b == 2))))) (fun ls hl => K σ H locs ls r hr hP hS hl)
theorem rz_lstore_n (G : GG Γ own cc nL ret h k n) {i : Nat} {x : Int64} {z : Fin 4} (hi : (z : Nat) = i) (hn : i + 1 < nL) (hl0 : (i, Value.long x) :: lv.filter (fun q => !(q.1 == i) && (!(q.1 == i + 1) && !(q.1 + 1 == i && q.2.category == 2))) = lv') (hd : decode cc pc = .ok (.lstore_n z, 1)) (K : Rz Γ nL Q k n (pc + 1) lv' st d) : Rz Γ nL Q k n pc lv (.long x :: st) d := by
  intro σ H locs ls r hr hP hS hl
  exact lv_lstore_n (lv' := lvc (cE Γ) lv') G.1 G.2.1 hd hi hl hn (by rw [← hl0]; exact congrArg (List.cons _) (lvc_filter lv (fun a b => !(a == i) && (!(a == i + 1) && !(a + 1 == i && b == 2))))) (fun ls hl => K σ H locs ls r hr hP hS hl)
theorem rz_astore (G : GG Γ own cc nL ret h k n) {i : Nat} {x : Nat} (hn : i < nL) (hl0 : (i, Value.ref x) :: lv.filter (fun q => !(q.1 == i) && !(q.1 + 1 == i && q.2.category == 2)) = lv') (hd : decode cc pc = .ok (.astore i, 2)) (K : Rz Γ nL Q k n (pc + 2) lv' st d) : Rz Γ nL Q k n pc lv (.ref x :: st) d := by
  intro σ H locs ls r hr hP hS hl
  exact lv_astore (lv' := lvc (cE Γ) lv') G.1 G.2.1 hd hl hn (by rw [← hl0]; exact congrArg (List.cons _) (lvc_filter lv (fun a b => !(a == i) && !(a + 1 == i && b == 2)))) (fun ls hl => K σ H locs ls r hr hP hS hl)
theorem rz_astore_n (G : GG Γ own cc nL ret h k n) {i : Nat} {x : Nat} {z : Fin 4} (hi : (z : Nat) = i) (hn : i < nL) (hl0 : (i, Value.ref x) :: lv.filter (fun q => !(q.1 == i) && !(q.1 + 1 == i && q.2.category == 2)) = lv') (hd : decode cc pc = .ok (.astore_n z, 1)) (K : Rz Γ nL Q k n (pc + 1) lv' st d) : Rz Γ nL Q k n pc lv (.ref x :: st) d := by
  intro σ H locs ls r hr hP hS hl
  exact lv_astore_n (lv' := lvc (cE Γ) lv') G.1 G.2.1 hd hi hl hn (by rw [← hl0]; exact congrArg (List.cons _) (lvc_filter lv (fun a b => !(a == i) && !(a + 1 == i && b == 2)))) (fun ls hl => K σ H locs ls r hr hP hS hl)
theorem rz_iinc (G : GG Γ own cc nL ret h k n) (j : Nat) {i : Nat} {z : Int} {x v : Int32} (hj : lv[j]? = some (i, .int x)) (hv : x + Int32.ofInt z = v) (hn : i < nL) (hl0 : (i, Value.int v) :: lv.filter (fun q => !(q.1 == i) && !(q.1 + 1 == i && q.2.category == 2)) = lv') (hd : decode cc pc = .ok (.iinc i z, 3)) (K : Rz Γ nL Q k n (pc + 3) lv' st d) : Rz Γ nL Q k n pc lv st d := by
  intro σ H locs ls r hr hP hS hl
  exact lv_iinc (v := v) (lv' := lvc (cE Γ) lv') G.1 G.2.1 hd hl (k := j) (lvc_at hj) hv hn (by rw [← hl0]; exact congrArg (List.cons _) (lvc_filter lv (fun a b => !(a == i) && !(a + 1 == i && b == 2)))) (fun ls hl => K σ H locs ls r hr hP hS hl)
theorem rz_dup (G : GG Γ own cc nL ret h k n) {a : Value} (ha : a.category = 1) (hd : decode cc pc = .ok (.dup, 1)) (K : Rz Γ nL Q k n (pc + 1) lv (a :: a :: st) d) : Rz Γ nL Q k n pc lv (a :: st) d := by
  intro σ H locs ls r hr hP hS hl
  exact lv_dup G.1 G.2.1 hd ((cv_cat _ _).trans ha) (K σ H locs ls r hr hP hS hl)
theorem rz_pop (G : GG Γ own cc nL ret h k n) {a : Value} (ha : a.category = 1) (hd : decode cc pc = .ok (.pop, 1)) (K : Rz Γ nL Q k n (pc + 1) lv st d) : Rz Γ nL Q k n pc lv (a :: st) d := by
  intro σ H locs ls r hr hP hS hl
  exact lv_pop G.1 G.2.1 hd ((cv_cat _ _).trans ha) (K σ H locs ls r hr hP hS hl)
theorem rz_dup2 (G : GG Γ own cc nL ret h k n) {a b : Value} (ha : a.category = 1) (hb : b.category = 1) (hd : decode cc pc = .ok (.dup2, 1)) (K : Rz Γ nL Q k n (pc + 1) lv (a :: b :: a :: b :: st) d) : Rz Γ nL Q k n pc lv (a :: b :: st) d := by
  intro σ H locs ls r hr hP hS hl
  exact lv_dup2_11 G.1 G.2.1 hd ((cv_cat _ _).trans ha) ((cv_cat _ _).trans hb) (K σ H locs ls r hr hP hS hl)
theorem rz_if_eq (G : GG Γ own cc nL ret h k n) {x : Int32} {off : Int} {tgt : Nat} (ht : (pc : Int) + off = (tgt : Int)) (hd : decode cc pc = .ok (.ifCond .eq off, 3)) (K1 : x = 0 → Rz Γ nL Q k n (tgt) lv st d1) (K2 : ¬ (x = 0) → Rz Γ nL Q k n (pc + 3) lv st d2) : Rz Γ nL Q k n pc lv (.int x :: st) (br (x = 0) d1 d2) := by
  intro σ H locs ls r hr hP hS hl
  exact lv_if_eq (tgt := tgt) G.1 G.2.1 hd ht (fun hc => K1 hc σ H locs ls r (by rw [br, if_pos hc] at hr; exact hr) hP hS hl) (fun hc => K2 hc σ H locs ls r (by rw [br, if_neg hc] at hr; exact hr) hP hS hl)
theorem rz_icmp_eq (G : GG Γ own cc nL ret h k n) {x y : Int32} {off : Int} {tgt : Nat} (ht : (pc : Int) + off = (tgt : Int)) (hd : decode cc pc = .ok (.if_icmp .eq off, 3)) (K1 : x = y → Rz Γ nL Q k n (tgt) lv st d1) (K2 : ¬ (x = y) → Rz Γ nL Q k n (pc + 3) lv st d2) : Rz Γ nL Q k n pc lv (.int y :: .int x :: st) (br (x = y) d1 d2) := by
  intro σ H locs ls r hr hP hS hl
  exact lv_icmp_eq (tgt := tgt) G.1 G.2.1 hd ht (fun hc => K1 hc σ H locs ls r (by rw [br, if_pos hc] at hr; exact hr) hP hS hl) (fun hc => K2 hc σ H locs ls r (by rw [br, if_neg hc] at hr; exact hr) hP hS hl)
theorem rz_if_ne (G : GG Γ own cc nL ret h k n) {x : Int32} {off : Int} {tgt : Nat} (ht : (pc : Int) + off = (tgt : Int)) (hd : decode cc pc = .ok (.ifCond .ne off, 3)) (K1 : x = 0 → Rz Γ nL Q k n (pc + 3) lv st d1) (K2 : ¬ (x = 0) → Rz Γ nL Q k n (tgt) lv st d2) : Rz Γ nL Q k n pc lv (.int x :: st) (br (x = 0) d1 d2) := by
  intro σ H locs ls r hr hP hS hl
  exact lv_if_ne (tgt := tgt) G.1 G.2.1 hd ht (fun hc => K2 hc σ H locs ls r (by rw [br, if_neg hc] at hr; exact hr) hP hS hl) (fun hc => K1 hc σ H locs ls r (by rw [br, if_pos hc] at hr; exact hr) hP hS hl)
theorem rz_icmp_ne (G : GG Γ own cc nL ret h k n) {x y : Int32} {off : Int} {tgt : Nat} (ht : (pc : Int) + off = (tgt : Int)) (hd : decode cc pc = .ok (.if_icmp .ne off, 3)) (K1 : x = y → Rz Γ nL Q k n (pc + 3) lv st d1) (K2 : ¬ (x = y) → Rz Γ nL Q k n (tgt) lv st d2) : Rz Γ nL Q k n pc lv (.int y :: .int x :: st) (br (x = y) d1 d2) := by
  intro σ H locs ls r hr hP hS hl
  exact lv_icmp_ne (tgt := tgt) G.1 G.2.1 hd ht (fun hc => K2 hc σ H locs ls r (by rw [br, if_neg hc] at hr; exact hr) hP hS hl) (fun hc => K1 hc σ H locs ls r (by rw [br, if_pos hc] at hr; exact hr) hP hS hl)
theorem rz_if_lt (G : GG Γ own cc nL ret h k n) {x : Int32} {off : Int} {tgt : Nat} (ht : (pc : Int) + off = (tgt : Int)) (hd : decode cc pc = .ok (.ifCond .lt off, 3)) (K1 : x < 0 → Rz Γ nL Q k n (tgt) lv st d1) (K2 : ¬ (x < 0) → Rz Γ nL Q k n (pc + 3) lv st d2) : Rz Γ nL Q k n pc lv (.int x :: st) (br (x < 0) d1 d2) := by
  intro σ H locs ls r hr hP hS hl
  exact lv_if_lt (tgt := tgt) G.1 G.2.1 hd ht (fun hc => K1 hc σ H locs ls r (by rw [br, if_pos hc] at hr; exact hr) hP hS hl) (fun hc => K2 hc σ H locs ls r (by rw [br, if_neg hc] at hr; exact hr) hP hS hl)
theorem rz_icmp_lt (G : GG Γ own cc nL ret h k n) {x y : Int32} {off : Int} {tgt : Nat} (ht : (pc : Int) + off = (tgt : Int)) (hd : decode cc pc = .ok (.if_icmp .lt off, 3)) (K1 : x < y → Rz Γ nL Q k n (tgt) lv st d1) (K2 : ¬ (x < y) → Rz Γ nL Q k n (pc + 3) lv st d2) : Rz Γ nL Q k n pc lv (.int y :: .int x :: st) (br (x < y) d1 d2) := by
  intro σ H locs ls r hr hP hS hl
  exact lv_icmp_lt (tgt := tgt) G.1 G.2.1 hd ht (fun hc => K1 hc σ H locs ls r (by rw [br, if_pos hc] at hr; exact hr) hP hS hl) (fun hc => K2 hc σ H locs ls r (by rw [br, if_neg hc] at hr; exact hr) hP hS hl)
theorem rz_if_ge (G : GG Γ own cc nL ret h k n) {x : Int32} {off : Int} {tgt : Nat} (ht : (pc : Int) + off = (tgt : Int)) (hd : decode cc pc = .ok (.ifCond .ge off, 3)) (K1 : 0 ≤ x → Rz Γ nL Q k n (tgt) lv st d1) (K2 : ¬ (0 ≤ x) → Rz Γ nL Q k n (pc + 3) lv st d2) : Rz Γ nL Q k n pc lv (.int x :: st) (br (0 ≤ x) d1 d2) := by
  intro σ H locs ls r hr hP hS hl
  exact lv_if_ge (tgt := tgt) G.1 G.2.1 hd ht (fun hc => K1 hc σ H locs ls r (by rw [br, if_pos hc] at hr; exact hr) hP hS hl) (fun hc => K2 hc σ H locs ls r (by rw [br, if_neg hc] at hr; exact hr) hP hS hl)
theorem rz_icmp_ge (G : GG Γ own cc nL ret h k n) {x y : Int32} {off : Int} {tgt : Nat} (ht : (pc : Int) + off = (tgt : Int)) (hd : decode cc pc = .ok (.if_icmp .ge off, 3)) (K1 : y ≤ x → Rz Γ nL Q k n (tgt) lv st d1) (K2 : ¬ (y ≤ x) → Rz Γ nL Q k n (pc + 3) lv st d2) : Rz Γ nL Q k n pc lv (.int y :: .int x :: st) (br (y ≤ x) d1 d2) := by
  intro σ H locs ls r hr hP hS hl
  exact lv_icmp_ge (tgt := tgt) G.1 G.2.1 hd ht (fun hc => K1 hc σ H locs ls r (by rw [br, if_pos hc] at hr; exact hr) hP hS hl) (fun hc => K2 hc σ H locs ls r (by rw [br, if_neg hc] at hr; exact hr) hP hS hl)
theorem rz_if_gt (G : GG Γ own cc nL ret h k n) {x : Int32} {off : Int} {tgt : Nat} (ht : (pc : Int) + off = (tgt : Int)) (hd : decode cc pc = .ok (.ifCond .gt off, 3)) (K1 : 0 < x → Rz Γ nL Q k n (tgt) lv st d1) (K2 : ¬ (0 < x) → Rz Γ nL Q k n (pc + 3) lv st d2) : Rz Γ nL Q k n pc lv (.int x :: st) (br (0 < x) d1 d2) := by
  intro σ H locs ls r hr hP hS hl
  exact lv_if_gt (tgt := tgt) G.1 G.2.1 hd ht (fun hc => K1 hc σ H locs ls r (by rw [br, if_pos hc] at hr; exact hr) hP hS hl) (fun hc => K2 hc σ H locs ls r (by rw [br, if_neg hc] at hr; exact hr) hP hS hl)
theorem rz_icmp_gt (G : GG Γ own cc nL ret h k n) {x y : Int32} {off : Int} {tgt : Nat} (ht : (pc : Int) + off = (tgt : Int)) (hd : decode cc pc = .ok (.if_icmp .gt off, 3)) (K1 : y < x → Rz Γ nL Q k n (tgt) lv st d1) (K2 : ¬ (y < x) → Rz Γ nL Q k n (pc + 3) lv st d2) : Rz Γ nL Q k n pc lv (.int y :: .int x :: st) (br (y < x) d1 d2) := by
  intro σ H locs ls r hr hP hS hl
  exact lv_icmp_gt (tgt := tgt) G.1 G.2.1 hd ht (fun hc => K1 hc σ H locs ls r (by rw [br, if_pos hc] at hr; exact hr) hP hS hl) (fun hc => K2 hc σ H locs ls r (by rw [br, if_neg hc] at hr; exact hr) hP hS hl)
theorem rz_if_le (G : GG Γ own cc nL ret h k n) {x : Int32} {off : Int} {tgt : Nat} (ht : (pc : Int) + off = (tgt : Int)) (hd : decode cc pc = .ok (.ifCond .le off, 3)) (K1 : x ≤ 0 → Rz Γ nL Q k n (tgt) lv st d1) (K2 : ¬ (x ≤ 0) → Rz Γ nL Q k n (pc + 3) lv st d2) : Rz Γ nL Q k n pc lv (.int x :: st) (br (x ≤ 0) d1 d2) := by
  intro σ H locs ls r hr hP hS hl
  exact lv_if_le (tgt := tgt) G.1 G.2.1 hd ht (fun hc => K1 hc σ H locs ls r (by rw [br, if_pos hc] at hr; exact hr) hP hS hl) (fun hc => K2 hc σ H locs ls r (by rw [br, if_neg hc] at hr; exact hr) hP hS hl)
theorem rz_icmp_le (G : GG Γ own cc nL ret h k n) {x y : Int32} {off : Int} {tgt : Nat} (ht : (pc : Int) + off = (tgt : Int)) (hd : decode cc pc = .ok (.if_icmp .le off, 3)) (K1 : x ≤ y → Rz Γ nL Q k n (tgt) lv st d1) (K2 : ¬ (x ≤ y) → Rz Γ nL Q k n (pc + 3) lv st d2) : Rz Γ nL Q k n pc lv (.int y :: .int x :: st) (br (x ≤ y) d1 d2) := by
  intro σ H locs ls r hr hP hS hl
  exact lv_icmp_le (tgt := tgt) G.1 G.2.1 hd ht (fun hc => K1 hc σ H locs ls r (by rw [br, if_pos hc] at hr; exact hr) hP hS hl) (fun hc => K2 hc σ H locs ls r (by rw [br, if_neg hc] at hr; exact hr) hP hS hl)
theorem rz_goto (G : GG Γ own cc nL ret h k n) {off : Int} {tgt : Nat} (ht : (pc : Int) + off = (tgt : Int)) (hd : decode cc pc = .ok (.goto off, 3)) (K : Rz Γ nL Q k n tgt lv st d) : Rz Γ nL Q k n pc lv st d := by
  intro σ H locs ls r hr hP hS hl
  exact lv_goto (tgt := tgt) G.1 G.2.1 hd ht (K σ H locs ls r hr hP hS hl)
/-- a switch: one of its targets -/
theorem rz_tableIn (G : GG Γ own cc nL ret h k n) {x : Int32} {dflt lo hi : Int} {offs : Array Int} {len : Nat} (i : Nat) {off : Int} {tgt : Nat} (hd : decode cc pc = .ok (.tableswitch dflt lo hi offs, len)) (hx : x.toInt = lo + i) (hh : lo + i ≤ hi) (ho : offs[i]? = some off) (ht : (pc : Int) + off = (tgt : Int)) (K : Rz Γ nL Q k n tgt lv st d) : Rz Γ nL Q k n pc lv (.int x :: st) d := by
  intro σ H locs ls r hr hP hS hl
  exact lv_tableIn (off := off) (tgt := tgt) G.1 G.2.1 hd (by omega) (by omega) (by rw [hx, show (lo + (i : Int) - lo).toNat = i by omega]; exact ho) ht (K σ H locs ls r hr hP hS hl)
theorem rz_tableOut (G : GG Γ own cc nL ret h k n) {x : Int32} {dflt lo hi : Int} {offs : Array Int} {len tgt : Nat} (hd : decode cc pc = .ok (.tableswitch dflt lo hi offs, len)) (hx : x.toInt < lo ∨ hi < x.toInt) (ht : (pc : Int) + dflt = (tgt : Int)) (K : Rz Γ nL Q k n tgt lv st d) : Rz Γ nL Q k n pc lv (.int x :: st) d := by
  intro σ H locs ls r hr hP hS hl
  exact lv_tableOut (tgt := tgt) G.1 G.2.1 hd hx ht (K σ H locs ls r hr hP hS hl)
theorem rz_lookup (G : GG Γ own cc nL ret h k n) {x : Int32} {dflt : Int} {ps : Array (Int × Int)} {len : Nat} {off : Int} {tgt : Nat} (hd : decode cc pc = .ok (.lookupswitch dflt ps, len)) (hp : (ps.toList.zip (ps.toList.drop 1)).all (fun (a, next) => a.1 < next.1) = true) (ho : Op.lookupswitch.offset ps.toList dflt x.toInt = off) (ht : (pc : Int) + off = (tgt : Int)) (K : Rz Γ nL Q k n tgt lv st d) : Rz Γ nL Q k n pc lv (.int x :: st) d := by
  intro σ H locs ls r hr hP hS hl
  exact lv_lookup (off := off) (tgt := tgt) G.1 G.2.1 hd hp ho ht (K σ H locs ls r hr hP hS hl)
theorem rz_br {c : Prop} [Decidable c] (K1 : c → Rz Γ nL Q k n pc lv st d1) (K2 : ¬ c → Rz Γ nL Q k n pc lv st d2) : Rz Γ nL Q k n pc lv st (br c d1 d2) := by
  intro σ H locs ls r hr hP hS hl
  by_cases hc : c
  · exact K1 hc σ H locs ls r (by rw [br, if_pos hc] at hr; exact hr) hP hS hl
  · exact K2 hc σ H locs ls r (by rw [br, if_neg hc] at hr; exact hr) hP hS hl
end Rules
